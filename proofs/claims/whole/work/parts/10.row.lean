abbrev rmX7_first : Room := { frames := 10, cells := 0, slots := 0, locals := 300 }
abbrev qX7_first (G : Gy) (F : Fr) (g : Bd) (w : Wd) : Int32 → State → Prop := fun r => QM G F g 0 0 ((fun (r : Int32) => some (.int r)) r) ((fun _ => w) r)
set_option maxRecDepth 20000 in
set_option maxHeartbeats 4000000 in
theorem mX7_first {l : Launch} (hf9 : l.stackTraces = false) {G : Gy} {F : Fr} (N : Nat) {w : Wd} {l0 : Nat} {l1 : Int32} {r : Int32} (ol0 : okF F l0 7) (e9 : fX7_first F N w l0 l1 = some r) : Met l yX7_first [.code yX7_first cX7_first 2 (some .int)] rmX7_first (PcB G F w [.ref l0, .int l1]) (QB G F ((fun (r : Int32) => some (.int r)) r) ((fun _ => w) r)) 0 0 (AF F) := by
  refine bd_met (vs := fun (r : Int32) => some (.int r)) (wf := fun _ => w) hf9 (by decide) (Nat.le_of_ble_eq_true rfl) e9 (fun g C hret hini => ?_)
  clear e9 r
  unfold fX7_first
  refine bd_sub (lv' := [(0, .ref l0), (1, .int l1)]) ?_ [0, 1] rfl
  refine bd_iload_n C 1 dX7_first_0 rfl rfl ?_
  refine bd_if_lt C 19 dX7_first_1 (by decide) (fun c1 => ?_) (fun c1 => ?_)
  · refine bd_iconst C (v := 0) dX7_first_19 (by decide) ?_
    exact bd_iret C hret rfl _ _ rfl rfl dX7_first_20 (Nat.le_refl _) (Nat.le_refl _)
  · refine bd_iload_n C 1 dX7_first_4 rfl rfl ?_
    refine bd_bipush C (v := 31) dX7_first_5 (by decide) ?_
    refine bd_icmp_ge C 19 dX7_first_7 (by decide) (fun c2 => ?_) (fun c2 => ?_)
    · refine bd_iconst C (v := 0) dX7_first_19 (by decide) ?_
      exact bd_iret C hret rfl _ _ rfl rfl dX7_first_20 (Nat.le_refl _) (Nat.le_refl _)
    · refine bd_aload_n C 0 dX7_first_10 rfl rfl ?_
      refine bd_gR C fi700 fv700 wd_129 dX7_first_11 ol0 (fun r3 gr3 hr3 => ?_)
      refine bd_iload_n C 1 dX7_first_14 rfl rfl ?_
      refine bd_iald C dX7_first_15 hr3 (fun x4 => ?_)
      refine bd_goto C 20 dX7_first_16 (by decide) ?_
      exact bd_iret C hret rfl _ _ rfl rfl dX7_first_20 (Nat.le_refl _) (Nat.le_refl _)
abbrev rmX7_end : Room := { frames := 10, cells := 0, slots := 0, locals := 300 }
abbrev qX7_end (G : Gy) (F : Fr) (g : Bd) (w : Wd) : Int32 → State → Prop := fun r => QM G F g 0 0 ((fun (r : Int32) => some (.int r)) r) ((fun _ => w) r)
set_option maxRecDepth 20000 in
set_option maxHeartbeats 4000000 in
theorem mX7_end {l : Launch} (hf9 : l.stackTraces = false) {G : Gy} {F : Fr} (N : Nat) {w : Wd} {l0 : Nat} {l1 : Int32} {r : Int32} (ol0 : okF F l0 7) (e9 : fX7_end F N w l0 l1 = some r) : Met l yX7_end [.code yX7_end cX7_end 2 (some .int)] rmX7_end (PcB G F w [.ref l0, .int l1]) (QB G F ((fun (r : Int32) => some (.int r)) r) ((fun _ => w) r)) 0 0 (AF F) := by
  refine bd_met (vs := fun (r : Int32) => some (.int r)) (wf := fun _ => w) hf9 (by decide) (Nat.le_of_ble_eq_true rfl) e9 (fun g C hret hini => ?_)
  clear e9 r
  unfold fX7_end
  refine bd_sub (lv' := [(0, .ref l0), (1, .int l1)]) ?_ [0, 1] rfl
  refine bd_iload_n C 1 dX7_end_0 rfl rfl ?_
  refine bd_if_lt C 19 dX7_end_1 (by decide) (fun c1 => ?_) (fun c1 => ?_)
  · refine bd_iconst C (v := 0) dX7_end_19 (by decide) ?_
    exact bd_iret C hret rfl _ _ rfl rfl dX7_end_20 (Nat.le_refl _) (Nat.le_refl _)
  · refine bd_iload_n C 1 dX7_end_4 rfl rfl ?_
    refine bd_bipush C (v := 31) dX7_end_5 (by decide) ?_
    refine bd_icmp_ge C 19 dX7_end_7 (by decide) (fun c2 => ?_) (fun c2 => ?_)
    · refine bd_iconst C (v := 0) dX7_end_19 (by decide) ?_
      exact bd_iret C hret rfl _ _ rfl rfl dX7_end_20 (Nat.le_refl _) (Nat.le_refl _)
    · refine bd_aload_n C 0 dX7_end_10 rfl rfl ?_
      refine bd_gR C fi701 fv701 wd_130 dX7_end_11 ol0 (fun r3 gr3 hr3 => ?_)
      refine bd_iload_n C 1 dX7_end_14 rfl rfl ?_
      refine bd_iald C dX7_end_15 hr3 (fun x4 => ?_)
      refine bd_goto C 20 dX7_end_16 (by decide) ?_
      exact bd_iret C hret rfl _ _ rfl rfl dX7_end_20 (Nat.le_refl _) (Nat.le_refl _)
abbrev rmX7_copyFrom : Room := { frames := 10, cells := 0, slots := 0, locals := 300 }
abbrev qX7_copyFrom (G : Gy) (F : Fr) (g : Bd) : Wd → State → Prop := fun r => QM G F g 0 0 ((fun _ => none) r) ((fun (r : Wd) => r) r)
set_option maxRecDepth 20000 in
set_option maxHeartbeats 4000000 in
theorem mX7_copyFrom {l : Launch} (hf9 : l.stackTraces = false) {G : Gy} {F : Fr} (N : Nat) {w : Wd} {l0 : Nat} {l1 : Nat} {r : Wd} (ol0 : okF F l0 7) (ol1 : okF F l1 7) (e9 : fX7_copyFrom F N w l0 l1 = some r) : Met l yX7_copyFrom [.code yX7_copyFrom cX7_copyFrom 3 none] rmX7_copyFrom (PcB G F w [.ref l0, .ref l1]) (QB G F ((fun _ => none) r) ((fun (r : Wd) => r) r)) 0 0 (AF F) := by
  refine bd_met (vs := fun _ => none) (wf := fun (r : Wd) => r) hf9 (by decide) (Nat.le_of_ble_eq_true rfl) e9 (fun g C hret hini => ?_)
  clear e9 r
  unfold fX7_copyFrom
  refine bd_sub (lv' := [(0, .ref l0), (1, .ref l1)]) ?_ [0, 1] rfl
  refine bd_aload_n C 1 dX7_copyFrom_0 rfl rfl ?_
  refine bd_gI C fi703 fv703 wd_136 dX7_copyFrom_1 ol1 ?_
  refine bd_bnd (tp := Value.int) (fun v1 ev1 => ?_)
  refine bd_istore_n C [(2, .int v1), (0, .ref l0), (1, .ref l1)] dX7_copyFrom_4 rfl (by decide) rfl ?_
  refine bd_iload_n C 0 dX7_copyFrom_5 rfl rfl ?_
  refine bd_if_lt C 62 dX7_copyFrom_6 (by decide) (fun c2 => ?_) (fun c2 => ?_)
  · exact bd_vret C hret rfl _ _ rfl rfl dX7_copyFrom_62 (Nat.le_refl _) (Nat.le_refl _)
  · refine bd_iload_n C 0 dX7_copyFrom_9 rfl rfl ?_
    refine bd_bipush C (v := 31) dX7_copyFrom_10 (by decide) ?_
    refine bd_icmp_gt C 62 dX7_copyFrom_12 (by decide) (fun c3 => ?_) (fun c3 => ?_)
    · exact bd_vret C hret rfl _ _ rfl rfl dX7_copyFrom_62 (Nat.le_refl _) (Nat.le_refl _)
    · refine bd_aload_n C 2 dX7_copyFrom_15 rfl rfl ?_
      refine bd_gR C fi700 fv700 wd_129 dX7_copyFrom_16 ol1 (fun r4 gr4 hr4 => ?_)
      refine bd_iconst C (v := 0) dX7_copyFrom_19 (by decide) ?_
      refine bd_aload_n C 1 dX7_copyFrom_20 rfl rfl ?_
      refine bd_gR C fi700 fv700 wd_129 dX7_copyFrom_21 ol0 (fun r5 gr5 hr5 => ?_)
      refine bd_iconst C (v := 0) dX7_copyFrom_24 (by decide) ?_
      refine bd_iload_n C 0 dX7_copyFrom_25 rfl rfl ?_
      refine bd_copyI C wd_472 wd_474 wd_473 wd_103 dX7_copyFrom_26 hr4 hr5 ⟨Nat.le_of_ble_eq_true rfl, Nat.le_of_ble_eq_true rfl⟩ (fun w6 => ?_)
      refine bd_aload_n C 2 dX7_copyFrom_29 rfl rfl ?_
      refine bd_gR C fi701 fv701 wd_130 dX7_copyFrom_30 ol1 (fun r7 gr7 hr7 => ?_)
      refine bd_iconst C (v := 0) dX7_copyFrom_33 (by decide) ?_
      refine bd_aload_n C 1 dX7_copyFrom_34 rfl rfl ?_
      refine bd_gR C fi701 fv701 wd_130 dX7_copyFrom_35 ol0 (fun r8 gr8 hr8 => ?_)
      refine bd_iconst C (v := 0) dX7_copyFrom_38 (by decide) ?_
      refine bd_iload_n C 0 dX7_copyFrom_39 rfl rfl ?_
      refine bd_copyI C wd_472 wd_474 wd_473 wd_103 dX7_copyFrom_40 hr7 hr8 ⟨Nat.le_of_ble_eq_true rfl, Nat.le_of_ble_eq_true rfl⟩ (fun w9 => ?_)
      refine bd_aload_n C 2 dX7_copyFrom_43 rfl rfl ?_
      refine bd_gR C fi702 fv702 wd_131 dX7_copyFrom_44 ol1 (fun r10 gr10 hr10 => ?_)
      refine bd_iconst C (v := 0) dX7_copyFrom_47 (by decide) ?_
      refine bd_aload_n C 1 dX7_copyFrom_48 rfl rfl ?_
      refine bd_gR C fi702 fv702 wd_131 dX7_copyFrom_49 ol0 (fun r11 gr11 hr11 => ?_)
      refine bd_iconst C (v := 0) dX7_copyFrom_52 (by decide) ?_
      refine bd_iload_n C 0 dX7_copyFrom_53 rfl rfl ?_
      refine bd_copyJ C wd_472 wd_474 wd_473 wd_103 dX7_copyFrom_54 hr10 hr11 ⟨Nat.le_of_ble_eq_true rfl, Nat.le_of_ble_eq_true rfl⟩ (fun w12 => ?_)
      refine bd_aload_n C 1 dX7_copyFrom_57 rfl rfl ?_
      refine bd_iload_n C 0 dX7_copyFrom_58 rfl rfl ?_
      refine bd_pI C fi703 ftX7 fu703 wd_136 rfl rfl rfl dX7_copyFrom_59 ol0 (fun w13 => ?_)
      exact bd_vret C hret rfl _ _ rfl rfl dX7_copyFrom_62 (Nat.le_refl _) (Nat.le_refl _)
abbrev rmX7_host : Room := { frames := 10, cells := 0, slots := 0, locals := 300 }
abbrev qX7_host (G : Gy) (F : Fr) (g : Bd) (w : Wd) : Int32 → State → Prop := fun r => QM G F g 0 0 ((fun (r : Int32) => some (.int r)) r) ((fun _ => w) r)
set_option maxRecDepth 20000 in
set_option maxHeartbeats 4000000 in
theorem mX7_host {l : Launch} (hf9 : l.stackTraces = false) {G : Gy} {F : Fr} (N : Nat) {w : Wd} {l0 : Nat} {l1 : Int32} {l2 : Int32} {l3 : Int32} {r : Int32} (ol0 : okF F l0 7) (e9 : fX7_host F N w l0 l1 l2 l3 = some r) : Met l yX7_host [.code yX7_host cX7_host 7 (some .int)] rmX7_host (PcB G F w [.ref l0, .int l1, .int l2, .int l3]) (QB G F ((fun (r : Int32) => some (.int r)) r) ((fun _ => w) r)) 0 0 (AF F) := by
  refine bd_met (vs := fun (r : Int32) => some (.int r)) (wf := fun _ => w) hf9 (by decide) (Nat.le_of_ble_eq_true rfl) e9 (fun g C hret hini => ?_)
  clear e9 r
  have hb110 : ∀ (k3 : Nat → Int32 → Int32 → Int32 → Int32 → Option (Int32)), (∀ (l0 : Nat) (l1 : Int32) (l2 : Int32) (l3 : Int32) (l4 : Int32) (ol0 : okF F l0 7), BD g G F 7 (qX7_host G F g w) 0 0 (k3 l0 l1 l2 l3 l4) w 3 [(0, .ref l0), (1, .int l1), (2, .int l2), (3, .int l3), (4, .int l4)] []) → ∀  (l0 : Nat) (l1 : Int32) (l2 : Int32) (l3 : Int32) (l4 : Int32) (ol0 : okF F l0 7), BD g G F 7 (qX7_host G F g w) 0 0 (fX7_host_110 F N w k3 l0 l1 l2 l3 l4) w 110 [(0, .ref l0), (1, .int l1), (2, .int l2), (3, .int l3), (4, .int l4)] [] := by
    intro k3 hk3
    intro l0 l1 l2 l3 l4 ol0
    unfold fX7_host_110
    refine bd_iinc C (v := l4 + 1) 4 [(4, .int (l4 + 1)), (0, .ref l0), (1, .int l1), (2, .int l2), (3, .int l3)] dX7_host_110 rfl rfl (by decide) rfl ?_
    refine bd_goto C 3 dX7_host_113 (by decide) ?_
    exact bd_sub (hk3 l0 l1 l2 l3 (l4 + 1) ol0) [1, 2, 3, 4, 0] rfl
  have hb97 : ∀ (k3 : Nat → Int32 → Int32 → Int32 → Int32 → Option (Int32)), (∀ (l0 : Nat) (l1 : Int32) (l2 : Int32) (l3 : Int32) (l4 : Int32) (ol0 : okF F l0 7), BD g G F 7 (qX7_host G F g w) 0 0 (k3 l0 l1 l2 l3 l4) w 3 [(0, .ref l0), (1, .int l1), (2, .int l2), (3, .int l3), (4, .int l4)] []) → ∀  (l0 : Nat) (l1 : Int32) (l2 : Int32) (l3 : Int32) (l4 : Int32) (l5 : Int32) (ol0 : okF F l0 7), BD g G F 7 (qX7_host G F g w) 0 0 (fX7_host_97 F N w k3 l0 l1 l2 l3 l4 l5) w 97 [(0, .ref l0), (1, .int l1), (2, .int l2), (3, .int l3), (4, .int l4), (5, .int l5)] [] := by
    intro k3 hk3
    intro l0 l1 l2 l3 l4 l5 ol0
    unfold fX7_host_97
    refine bd_iload_n C 1 dX7_host_97 rfl rfl ?_
    refine bd_iconst C (v := 3) dX7_host_98 (by decide) ?_
    refine bd_icmp_ne C 110 dX7_host_99 (by decide) (fun c19 => ?_) (fun c19 => ?_)
    · exact bd_sub (hb110 _ hk3 l0 l1 l2 l3 l4 ol0) [0, 1, 2, 3, 4] rfl
    · refine bd_iload C 5 dX7_host_102 rfl ?_
      refine bd_if_eq C 110 dX7_host_104 (by decide) (fun c20 => ?_) (fun c20 => ?_)
      · exact bd_sub (hb110 _ hk3 l0 l1 l2 l3 l4 ol0) [0, 1, 2, 3, 4] rfl
      · refine bd_iload C 4 dX7_host_107 rfl ?_
        exact bd_iret C hret rfl _ _ rfl rfl dX7_host_109 (Nat.le_refl _) (Nat.le_refl _)
  have hb82 : ∀ (k3 : Nat → Int32 → Int32 → Int32 → Int32 → Option (Int32)), (∀ (l0 : Nat) (l1 : Int32) (l2 : Int32) (l3 : Int32) (l4 : Int32) (ol0 : okF F l0 7), BD g G F 7 (qX7_host G F g w) 0 0 (k3 l0 l1 l2 l3 l4) w 3 [(0, .ref l0), (1, .int l1), (2, .int l2), (3, .int l3), (4, .int l4)] []) → ∀  (l0 : Nat) (l1 : Int32) (l2 : Int32) (l3 : Int32) (l4 : Int32) (l5 : Int32) (l6 : Int32) (ol0 : okF F l0 7), BD g G F 7 (qX7_host G F g w) 0 0 (fX7_host_82 F N w k3 l0 l1 l2 l3 l4 l5 l6) w 82 [(0, .ref l0), (1, .int l1), (2, .int l2), (3, .int l3), (4, .int l4), (5, .int l5), (6, .int l6)] [] := by
    intro k3 hk3
    intro l0 l1 l2 l3 l4 l5 l6 ol0
    unfold fX7_host_82
    refine bd_iload_n C 1 dX7_host_82 rfl rfl ?_
    refine bd_iconst C (v := 2) dX7_host_83 (by decide) ?_
    refine bd_icmp_ne C 97 dX7_host_84 (by decide) (fun c16 => ?_) (fun c16 => ?_)
    · exact bd_sub (hb97 _ hk3 l0 l1 l2 l3 l4 l5 ol0) [0, 1, 2, 3, 4, 5] rfl
    · refine bd_iload C 5 dX7_host_87 rfl ?_
      refine bd_if_eq C 97 dX7_host_89 (by decide) (fun c17 => ?_) (fun c17 => ?_)
      · exact bd_sub (hb97 _ hk3 l0 l1 l2 l3 l4 l5 ol0) [0, 1, 2, 3, 4, 5] rfl
      · refine bd_iload C 6 dX7_host_92 rfl ?_
        refine bd_if_ne C 107 dX7_host_94 (by decide) (fun c18 => ?_) (fun c18 => ?_)
        · refine bd_iload C 4 dX7_host_107 rfl ?_
          exact bd_iret C hret rfl _ _ rfl rfl dX7_host_109 (Nat.le_refl _) (Nat.le_refl _)
        · exact bd_sub (hb97 _ hk3 l0 l1 l2 l3 l4 l5 ol0) [0, 1, 2, 3, 4, 5] rfl
  have hb53 : ∀ (k3 : Nat → Int32 → Int32 → Int32 → Int32 → Option (Int32)), (∀ (l0 : Nat) (l1 : Int32) (l2 : Int32) (l3 : Int32) (l4 : Int32) (ol0 : okF F l0 7), BD g G F 7 (qX7_host G F g w) 0 0 (k3 l0 l1 l2 l3 l4) w 3 [(0, .ref l0), (1, .int l1), (2, .int l2), (3, .int l3), (4, .int l4)] []) → ∀  (l0 : Nat) (l1 : Int32) (l2 : Int32) (l3 : Int32) (l4 : Int32) (l5 : Int32) (s0 : Int32) (ol0 : okF F l0 7), BD g G F 7 (qX7_host G F g w) 0 0 (fX7_host_53 F N w k3 l0 l1 l2 l3 l4 l5 s0) w 53 [(0, .ref l0), (1, .int l1), (2, .int l2), (3, .int l3), (4, .int l4), (5, .int l5)] [.int s0] := by
    intro k3 hk3
    intro l0 l1 l2 l3 l4 l5 s0 ol0
    unfold fX7_host_53
    refine bd_istore C [(6, .int s0), (0, .ref l0), (1, .int l1), (2, .int l2), (3, .int l3), (4, .int l4), (5, .int l5)] dX7_host_53 (by decide) rfl ?_
    refine bd_iload_n C 2 dX7_host_55 rfl rfl ?_
    refine bd_iconst C (v := 1) dX7_host_56 (by decide) ?_
    refine bd_icmp_ne C 82 dX7_host_57 (by decide) (fun c9 => ?_) (fun c9 => ?_)
    · exact bd_sub (hb82 _ hk3 l0 l1 l2 l3 l4 l5 s0 ol0) [1, 2, 3, 4, 5, 6, 0] rfl
    · refine bd_aload_n C 1 dX7_host_60 rfl rfl ?_
      refine bd_gR C fi700 fv700 wd_129 dX7_host_61 ol0 (fun r10 gr10 hr10 => ?_)
      refine bd_iload C 5 dX7_host_64 rfl ?_
      refine bd_iald C dX7_host_66 hr10 (fun x11 => ?_)
      refine bd_iload_n C 3 dX7_host_67 rfl rfl ?_
      refine bd_icmp_gt C 82 dX7_host_68 (by decide) (fun c12 => ?_) (fun c12 => ?_)
      · exact bd_sub (hb82 _ hk3 l0 l1 l2 l3 l4 l5 s0 ol0) [1, 2, 3, 4, 5, 6, 0] rfl
      · refine bd_iload_n C 4 dX7_host_71 rfl rfl ?_
        refine bd_aload_n C 1 dX7_host_72 rfl rfl ?_
        refine bd_gR C fi701 fv701 wd_130 dX7_host_73 ol0 (fun r13 gr13 hr13 => ?_)
        refine bd_iload C 5 dX7_host_76 rfl ?_
        refine bd_iald C dX7_host_78 hr13 (fun x14 => ?_)
        refine bd_icmp_le C 107 dX7_host_79 (by decide) (fun c15 => ?_) (fun c15 => ?_)
        · refine bd_iload C 5 dX7_host_107 rfl ?_
          exact bd_iret C hret rfl _ _ rfl rfl dX7_host_109 (Nat.le_refl _) (Nat.le_refl _)
        · exact bd_sub (hb82 _ hk3 l0 l1 l2 l3 l4 l5 s0 ol0) [1, 2, 3, 4, 5, 6, 0] rfl
  have hb35 : ∀ (k3 : Nat → Int32 → Int32 → Int32 → Int32 → Option (Int32)), (∀ (l0 : Nat) (l1 : Int32) (l2 : Int32) (l3 : Int32) (l4 : Int32) (ol0 : okF F l0 7), BD g G F 7 (qX7_host G F g w) 0 0 (k3 l0 l1 l2 l3 l4) w 3 [(0, .ref l0), (1, .int l1), (2, .int l2), (3, .int l3), (4, .int l4)] []) → ∀  (l0 : Nat) (l1 : Int32) (l2 : Int32) (l3 : Int32) (l4 : Int32) (s0 : Int32) (ol0 : okF F l0 7), BD g G F 7 (qX7_host G F g w) 0 0 (fX7_host_35 F N w k3 l0 l1 l2 l3 l4 s0) w 35 [(0, .ref l0), (1, .int l1), (2, .int l2), (3, .int l3), (4, .int l4)] [.int s0] := by
    intro k3 hk3
    intro l0 l1 l2 l3 l4 s0 ol0
    unfold fX7_host_35
    refine bd_istore C [(5, .int s0), (0, .ref l0), (1, .int l1), (2, .int l2), (3, .int l3), (4, .int l4)] dX7_host_35 (by decide) rfl ?_
    refine bd_aload_n C 1 dX7_host_37 rfl rfl ?_
    refine bd_gR C fi701 fv701 wd_130 dX7_host_38 ol0 (fun r6 gr6 hr6 => ?_)
    refine bd_iload C 5 dX7_host_41 rfl ?_
    refine bd_iald C dX7_host_43 hr6 (fun x7 => ?_)
    refine bd_iload_n C 4 dX7_host_44 rfl rfl ?_
    refine bd_icmp_ne C 52 dX7_host_45 (by decide) (fun c8 => ?_) (fun c8 => ?_)
    · refine bd_iconst C (v := 0) dX7_host_52 (by decide) ?_
      exact bd_sub (hb53 _ hk3 l0 l1 l2 l3 l4 s0 0 ol0) [1, 2, 3, 4, 5, 0] rfl
    · refine bd_iconst C (v := 1) dX7_host_48 (by decide) ?_
      refine bd_goto C 53 dX7_host_49 (by decide) ?_
      exact bd_sub (hb53 _ hk3 l0 l1 l2 l3 l4 s0 1 ol0) [1, 2, 3, 4, 5, 0] rfl
  have hb3 : ∀ (n : Nat) (l0 : Nat) (l1 : Int32) (l2 : Int32) (l3 : Int32) (l4 : Int32) (ol0 : okF F l0 7), BD g G F 7 (qX7_host G F g w) 0 0 (fX7_host_3 F N w n l0 l1 l2 l3 l4) w 3 [(0, .ref l0), (1, .int l1), (2, .int l2), (3, .int l3), (4, .int l4)] [] := by
    intro n
    induction n with
    | zero =>
      intro l0 l1 l2 l3 l4 ol0
      unfold fX7_host_3
      exact bd_none
    | succ n ih =>
      intro l0 l1 l2 l3 l4 ol0
      unfold fX7_host_3
      refine bd_iload C 4 dX7_host_3 rfl ?_
      refine bd_aload_n C 0 dX7_host_5 rfl rfl ?_
      refine bd_gI C fi703 fv703 wd_136 dX7_host_6 ol0 ?_
      refine bd_icmp_ge C 116 dX7_host_9 (by decide) (fun c1 => ?_) (fun c1 => ?_)
      · refine bd_iconst C (v := (-1)) dX7_host_116 (by decide) ?_
        exact bd_iret C hret rfl _ _ rfl rfl dX7_host_117 (Nat.le_refl _) (Nat.le_refl _)
      · refine bd_iload C 4 dX7_host_12 rfl ?_
        refine bd_bipush C (v := 31) dX7_host_14 (by decide) ?_
        refine bd_icmp_ge C 116 dX7_host_16 (by decide) (fun c2 => ?_) (fun c2 => ?_)
        · refine bd_iconst C (v := (-1)) dX7_host_116 (by decide) ?_
          exact bd_iret C hret rfl _ _ rfl rfl dX7_host_117 (Nat.le_refl _) (Nat.le_refl _)
        · refine bd_aload_n C 0 dX7_host_19 rfl rfl ?_
          refine bd_gR C fi700 fv700 wd_129 dX7_host_20 ol0 (fun r3 gr3 hr3 => ?_)
          refine bd_iload C 4 dX7_host_23 rfl ?_
          refine bd_iald C dX7_host_25 hr3 (fun x4 => ?_)
          refine bd_iload_n C 2 dX7_host_26 rfl rfl ?_
          refine bd_icmp_ne C 34 dX7_host_27 (by decide) (fun c5 => ?_) (fun c5 => ?_)
          · refine bd_iconst C (v := 0) dX7_host_34 (by decide) ?_
            exact bd_sub (hb35 _ ih l0 l1 l2 l3 l4 0 ol0) [0, 1, 2, 3, 4] rfl
          · refine bd_iconst C (v := 1) dX7_host_30 (by decide) ?_
            refine bd_goto C 35 dX7_host_31 (by decide) ?_
            exact bd_sub (hb35 _ ih l0 l1 l2 l3 l4 1 ol0) [0, 1, 2, 3, 4] rfl
  unfold fX7_host
  refine bd_sub (lv' := [(0, .ref l0), (1, .int l1), (2, .int l2), (3, .int l3)]) ?_ [0, 1, 2, 3] rfl
  refine bd_iconst C (v := 0) dX7_host_0 (by decide) ?_
  refine bd_istore C [(4, .int 0), (0, .ref l0), (1, .int l1), (2, .int l2), (3, .int l3)] dX7_host_1 (by decide) rfl ?_
  exact bd_sub (hb3 N l0 l1 l2 l3 0 ol0) [1, 2, 3, 4, 0] rfl
abbrev rmX6_refuse : Room := { frames := 10, cells := 0, slots := 0, locals := 300 }
abbrev qX6_refuse (G : Gy) (F : Fr) (g : Bd) : (Int32 × Wd) → State → Prop := fun r => QM G F g 0 0 ((fun (r : Int32 × Wd) => some (.int r.1)) r) ((fun (r : Int32 × Wd) => r.2) r)
set_option maxRecDepth 20000 in
set_option maxHeartbeats 4000000 in
theorem mX6_refuse {l : Launch} (hf9 : l.stackTraces = false) {G : Gy} {F : Fr} (N : Nat) {w : Wd} {l0 : Nat} {l1 : Int32} {l2 : Int32} {r : Int32 × Wd} (ol0 : okF F l0 6) (e9 : fX6_refuse F N w l0 l1 l2 = some r) : Met l yX6_refuse [.code yX6_refuse cX6_refuse 3 (some .int)] rmX6_refuse (PcB G F w [.ref l0, .int l1, .int l2]) (QB G F ((fun (r : Int32 × Wd) => some (.int r.1)) r) ((fun (r : Int32 × Wd) => r.2) r)) 0 0 (AF F) := by
  refine bd_met (vs := fun (r : Int32 × Wd) => some (.int r.1)) (wf := fun (r : Int32 × Wd) => r.2) hf9 (by decide) (Nat.le_of_ble_eq_true rfl) e9 (fun g C hret hini => ?_)
  clear e9 r
  unfold fX6_refuse
  refine bd_sub (lv' := [(0, .ref l0), (1, .int l1), (2, .int l2)]) ?_ [0, 1, 2] rfl
  refine bd_aload_n C 0 dX6_refuse_0 rfl rfl ?_
  refine bd_iload_n C 1 dX6_refuse_1 rfl rfl ?_
  refine bd_pI C fi600 ftX6 fu600 wd_245 rfl rfl rfl dX6_refuse_2 ol0 (fun w1 => ?_)
  refine bd_aload_n C 0 dX6_refuse_5 rfl rfl ?_
  refine bd_iload_n C 2 dX6_refuse_6 rfl rfl ?_
  refine bd_pI C fi601 ftX6 fu601 wd_247 rfl rfl rfl dX6_refuse_7 ol0 (fun w2 => ?_)
  refine bd_iconst C (v := (-1)) dX6_refuse_10 (by decide) ?_
  exact bd_iret C hret rfl _ _ rfl rfl dX6_refuse_11 (Nat.le_refl _) (Nat.le_refl _)
abbrev rmX7_meeting : Room := { frames := 11, cells := 0, slots := 0, locals := 321 }
abbrev qX7_meeting (G : Gy) (F : Fr) (g : Bd) (w : Wd) : Int32 → State → Prop := fun r => QM G F g 0 0 ((fun (r : Int32) => some (.int r)) r) ((fun _ => w) r)
set_option maxRecDepth 20000 in
set_option maxHeartbeats 4000000 in
theorem mX7_meeting {l : Launch} (hf9 : l.stackTraces = false) {G : Gy} {F : Fr} (N : Nat) {w : Wd} {l0 : Nat} {l1 : Int32} {l2 : Int32} {l3 : Int32} {r : Int32} (ol0 : okF F l0 7) (e9 : fX7_meeting F N w l0 l1 l2 l3 = some r) : Met l yX7_meeting [.code yX7_meeting cX7_meeting 5 (some .int)] rmX7_meeting (PcB G F w [.ref l0, .int l1, .int l2, .int l3]) (QB G F ((fun (r : Int32) => some (.int r)) r) ((fun _ => w) r)) 0 0 (AF F) := by
  refine bd_met (vs := fun (r : Int32) => some (.int r)) (wf := fun _ => w) hf9 (by decide) (Nat.le_of_ble_eq_true rfl) e9 (fun g C hret hini => ?_)
  clear e9 r
  have hb41 : ∀ (k3 : Nat → Int32 → Int32 → Int32 → Int32 → Option (Int32)), (∀ (l0 : Nat) (l1 : Int32) (l2 : Int32) (l3 : Int32) (l4 : Int32) (ol0 : okF F l0 7), BD g G F 5 (qX7_meeting G F g w) 0 0 (k3 l0 l1 l2 l3 l4) w 3 [(0, .ref l0), (1, .int l1), (2, .int l2), (3, .int l3), (4, .int l4)] []) → ∀  (l0 : Nat) (l1 : Int32) (l2 : Int32) (l3 : Int32) (l4 : Int32) (ol0 : okF F l0 7), BD g G F 5 (qX7_meeting G F g w) 0 0 (fX7_meeting_41 F N w k3 l0 l1 l2 l3 l4) w 41 [(0, .ref l0), (1, .int l1), (2, .int l2), (3, .int l3), (4, .int l4)] [] := by
    intro k3 hk3
    intro l0 l1 l2 l3 l4 ol0
    unfold fX7_meeting_41
    refine bd_iinc C (v := l4 + 1) 4 [(4, .int (l4 + 1)), (0, .ref l0), (1, .int l1), (2, .int l2), (3, .int l3)] dX7_meeting_41 rfl rfl (by decide) rfl ?_
    refine bd_goto C 3 dX7_meeting_44 (by decide) ?_
    exact bd_sub (hk3 l0 l1 l2 l3 (l4 + 1) ol0) [1, 2, 3, 4, 0] rfl
  have hb3 : ∀ (n : Nat) (l0 : Nat) (l1 : Int32) (l2 : Int32) (l3 : Int32) (l4 : Int32) (ol0 : okF F l0 7), BD g G F 5 (qX7_meeting G F g w) 0 0 (fX7_meeting_3 F N w n l0 l1 l2 l3 l4) w 3 [(0, .ref l0), (1, .int l1), (2, .int l2), (3, .int l3), (4, .int l4)] [] := by
    intro n
    induction n with
    | zero =>
      intro l0 l1 l2 l3 l4 ol0
      unfold fX7_meeting_3
      exact bd_none
    | succ n ih =>
      intro l0 l1 l2 l3 l4 ol0
      unfold fX7_meeting_3
      refine bd_iload C 4 dX7_meeting_3 rfl ?_
      refine bd_aload_n C 0 dX7_meeting_5 rfl rfl ?_
      refine bd_gI C fi703 fv703 wd_136 dX7_meeting_6 ol0 ?_
      refine bd_icmp_ge C 47 dX7_meeting_9 (by decide) (fun c1 => ?_) (fun c1 => ?_)
      · refine bd_iconst C (v := (-1)) dX7_meeting_47 (by decide) ?_
        exact bd_iret C hret rfl _ _ rfl rfl dX7_meeting_48 (Nat.le_refl _) (Nat.le_refl _)
      · refine bd_iload C 4 dX7_meeting_12 rfl ?_
        refine bd_iload_n C 3 dX7_meeting_14 rfl rfl ?_
        refine bd_icmp_eq C 41 dX7_meeting_15 (by decide) (fun c2 => ?_) (fun c2 => ?_)
        · exact bd_sub (hb41 _ ih l0 l1 l2 l3 l4 ol0) [0, 1, 2, 3, 4] rfl
        · refine bd_aload_n C 0 dX7_meeting_18 rfl rfl ?_
          refine bd_iload C 4 dX7_meeting_19 rfl ?_
          refine bd_callV (vs := fun (r : Int32) => some (.int r)) (wf := fun _ => w) (st := []) (st1 := fun x3 => Value.int x3 :: []) C [.int l4] (fun r9 e9 => mX7_first C.flag N ol0 e9) mwX7_first miX7_first wd_402 ol0 (by decide) rfl rfl rfl (Nat.le_of_ble_eq_true rfl) dX7_meeting_21 ⟨rfl, rfl, Nat.le_of_ble_eq_true rfl, Nat.le_of_ble_eq_true rfl, Nat.le_of_ble_eq_true rfl, Nat.le_of_ble_eq_true rfl⟩ (fun _ => rfl) (fun x3 ex3 => ?_)
          refine bd_iload_n C 2 dX7_meeting_24 rfl rfl ?_
          refine bd_icmp_ge C 41 dX7_meeting_25 (by decide) (fun c4 => ?_) (fun c4 => ?_)
          · exact bd_sub (hb41 _ ih l0 l1 l2 l3 l4 ol0) [0, 1, 2, 3, 4] rfl
          · refine bd_iload_n C 1 dX7_meeting_28 rfl rfl ?_
            refine bd_aload_n C 0 dX7_meeting_29 rfl rfl ?_
            refine bd_iload C 4 dX7_meeting_30 rfl ?_
            refine bd_callV (vs := fun (r : Int32) => some (.int r)) (wf := fun _ => w) (st := [.int l1]) (st1 := fun x5 => Value.int x5 :: [.int l1]) C [.int l4] (fun r9 e9 => mX7_end C.flag N ol0 e9) mwX7_end miX7_end wd_406 ol0 (by decide) rfl rfl rfl (Nat.le_of_ble_eq_true rfl) dX7_meeting_32 ⟨rfl, rfl, Nat.le_of_ble_eq_true rfl, Nat.le_of_ble_eq_true rfl, Nat.le_of_ble_eq_true rfl, Nat.le_of_ble_eq_true rfl⟩ (fun _ => rfl) (fun x5 ex5 => ?_)
            refine bd_icmp_ge C 41 dX7_meeting_35 (by decide) (fun c6 => ?_) (fun c6 => ?_)
            · exact bd_sub (hb41 _ ih l0 l1 l2 l3 l4 ol0) [0, 1, 2, 3, 4] rfl
            · refine bd_iload C 4 dX7_meeting_38 rfl ?_
              exact bd_iret C hret rfl _ _ rfl rfl dX7_meeting_40 (Nat.le_refl _) (Nat.le_refl _)
  unfold fX7_meeting
  refine bd_sub (lv' := [(0, .ref l0), (1, .int l1), (2, .int l2), (3, .int l3)]) ?_ [0, 1, 2, 3] rfl
  refine bd_iconst C (v := 0) dX7_meeting_0 (by decide) ?_
  refine bd_istore C [(4, .int 0), (0, .ref l0), (1, .int l1), (2, .int l2), (3, .int l3)] dX7_meeting_1 (by decide) rfl ?_
  exact bd_sub (hb3 N l0 l1 l2 l3 0 ol0) [1, 2, 3, 4, 0] rfl
abbrev rmX7_setFrames : Room := { frames := 10, cells := 0, slots := 0, locals := 300 }
abbrev qX7_setFrames (G : Gy) (F : Fr) (g : Bd) : Wd → State → Prop := fun r => QM G F g 0 0 ((fun _ => none) r) ((fun (r : Wd) => r) r)
set_option maxRecDepth 20000 in
set_option maxHeartbeats 4000000 in
theorem mX7_setFrames {l : Launch} (hf9 : l.stackTraces = false) {G : Gy} {F : Fr} (N : Nat) {w : Wd} {l0 : Nat} {l1 : Int32} {l2 : Int32} {l3 : Int32} {r : Wd} (ol0 : okF F l0 7) (e9 : fX7_setFrames F N w l0 l1 l2 l3 = some r) : Met l yX7_setFrames [.code yX7_setFrames cX7_setFrames 4 none] rmX7_setFrames (PcB G F w [.ref l0, .int l1, .int l2, .int l3]) (QB G F ((fun _ => none) r) ((fun (r : Wd) => r) r)) 0 0 (AF F) := by
  refine bd_met (vs := fun _ => none) (wf := fun (r : Wd) => r) hf9 (by decide) (Nat.le_of_ble_eq_true rfl) e9 (fun g C hret hini => ?_)
  clear e9 r
  unfold fX7_setFrames
  refine bd_sub (lv' := [(0, .ref l0), (1, .int l1), (2, .int l2), (3, .int l3)]) ?_ [0, 1, 2, 3] rfl
  refine bd_iload_n C 1 dX7_setFrames_0 rfl rfl ?_
  refine bd_if_lt C 24 dX7_setFrames_1 (by decide) (fun c1 => ?_) (fun c1 => ?_)
  · exact bd_vret C hret rfl _ _ rfl rfl dX7_setFrames_24 (Nat.le_refl _) (Nat.le_refl _)
  · refine bd_iload_n C 1 dX7_setFrames_4 rfl rfl ?_
    refine bd_bipush C (v := 31) dX7_setFrames_5 (by decide) ?_
    refine bd_icmp_ge C 24 dX7_setFrames_7 (by decide) (fun c2 => ?_) (fun c2 => ?_)
    · exact bd_vret C hret rfl _ _ rfl rfl dX7_setFrames_24 (Nat.le_refl _) (Nat.le_refl _)
    · refine bd_aload_n C 0 dX7_setFrames_10 rfl rfl ?_
      refine bd_gR C fi700 fv700 wd_129 dX7_setFrames_11 ol0 (fun r3 gr3 hr3 => ?_)
      refine bd_iload_n C 1 dX7_setFrames_14 rfl rfl ?_
      refine bd_iload_n C 2 dX7_setFrames_15 rfl rfl ?_
      refine bd_iast C dX7_setFrames_16 hr3 (fun w4 => ?_)
      refine bd_aload_n C 0 dX7_setFrames_17 rfl rfl ?_
      refine bd_gR C fi701 fv701 wd_130 dX7_setFrames_18 ol0 (fun r5 gr5 hr5 => ?_)
      refine bd_iload_n C 1 dX7_setFrames_21 rfl rfl ?_
      refine bd_iload_n C 3 dX7_setFrames_22 rfl rfl ?_
      refine bd_iast C dX7_setFrames_23 hr5 (fun w6 => ?_)
      exact bd_vret C hret rfl _ _ rfl rfl dX7_setFrames_24 (Nat.le_refl _) (Nat.le_refl _)
abbrev rmX7_label : Room := { frames := 10, cells := 0, slots := 0, locals := 300 }
abbrev qX7_label (G : Gy) (F : Fr) (g : Bd) (w : Wd) : Int64 → State → Prop := fun r => QM G F g 0 0 ((fun (r : Int64) => some (.long r)) r) ((fun _ => w) r)
set_option maxRecDepth 20000 in
set_option maxHeartbeats 4000000 in
theorem mX7_label {l : Launch} (hf9 : l.stackTraces = false) {G : Gy} {F : Fr} (N : Nat) {w : Wd} {l0 : Nat} {l1 : Int32} {r : Int64} (ol0 : okF F l0 7) (e9 : fX7_label F N w l0 l1 = some r) : Met l yX7_label [.code yX7_label cX7_label 2 (some .long)] rmX7_label (PcB G F w [.ref l0, .int l1]) (QB G F ((fun (r : Int64) => some (.long r)) r) ((fun _ => w) r)) 0 0 (AF F) := by
  refine bd_met (vs := fun (r : Int64) => some (.long r)) (wf := fun _ => w) hf9 (by decide) (Nat.le_of_ble_eq_true rfl) e9 (fun g C hret hini => ?_)
  clear e9 r
  unfold fX7_label
  refine bd_sub (lv' := [(0, .ref l0), (1, .int l1)]) ?_ [0, 1] rfl
  refine bd_iload_n C 1 dX7_label_0 rfl rfl ?_
  refine bd_if_lt C 19 dX7_label_1 (by decide) (fun c1 => ?_) (fun c1 => ?_)
  · refine bd_lconst C (v := 0) dX7_label_19 (by decide) ?_
    exact bd_lret C hret rfl _ _ rfl rfl dX7_label_20 (Nat.le_refl _) (Nat.le_refl _)
  · refine bd_iload_n C 1 dX7_label_4 rfl rfl ?_
    refine bd_bipush C (v := 31) dX7_label_5 (by decide) ?_
    refine bd_icmp_ge C 19 dX7_label_7 (by decide) (fun c2 => ?_) (fun c2 => ?_)
    · refine bd_lconst C (v := 0) dX7_label_19 (by decide) ?_
      exact bd_lret C hret rfl _ _ rfl rfl dX7_label_20 (Nat.le_refl _) (Nat.le_refl _)
    · refine bd_aload_n C 0 dX7_label_10 rfl rfl ?_
      refine bd_gR C fi702 fv702 wd_131 dX7_label_11 ol0 (fun r3 gr3 hr3 => ?_)
      refine bd_iload_n C 1 dX7_label_14 rfl rfl ?_
      refine bd_lald C dX7_label_15 hr3 (fun x4 => ?_)
      refine bd_goto C 20 dX7_label_16 (by decide) ?_
      exact bd_lret C hret rfl _ _ rfl rfl dX7_label_20 (Nat.le_refl _) (Nat.le_refl _)
abbrev rmX7_setLabel : Room := { frames := 10, cells := 0, slots := 0, locals := 300 }
abbrev qX7_setLabel (G : Gy) (F : Fr) (g : Bd) : Wd → State → Prop := fun r => QM G F g 0 0 ((fun _ => none) r) ((fun (r : Wd) => r) r)
set_option maxRecDepth 20000 in
set_option maxHeartbeats 4000000 in
theorem mX7_setLabel {l : Launch} (hf9 : l.stackTraces = false) {G : Gy} {F : Fr} (N : Nat) {w : Wd} {l0 : Nat} {l1 : Int32} {l2 : Int64} {r : Wd} (ol0 : okF F l0 7) (e9 : fX7_setLabel F N w l0 l1 l2 = some r) : Met l yX7_setLabel [.code yX7_setLabel cX7_setLabel 4 none] rmX7_setLabel (PcB G F w [.ref l0, .int l1, .long l2]) (QB G F ((fun _ => none) r) ((fun (r : Wd) => r) r)) 0 0 (AF F) := by
  refine bd_met (vs := fun _ => none) (wf := fun (r : Wd) => r) hf9 (by decide) (Nat.le_of_ble_eq_true rfl) e9 (fun g C hret hini => ?_)
  clear e9 r
  unfold fX7_setLabel
  refine bd_sub (lv' := [(0, .ref l0), (1, .int l1), (2, .long l2)]) ?_ [0, 1, 2] rfl
  refine bd_iload_n C 1 dX7_setLabel_0 rfl rfl ?_
  refine bd_if_lt C 17 dX7_setLabel_1 (by decide) (fun c1 => ?_) (fun c1 => ?_)
  · exact bd_vret C hret rfl _ _ rfl rfl dX7_setLabel_17 (Nat.le_refl _) (Nat.le_refl _)
  · refine bd_iload_n C 1 dX7_setLabel_4 rfl rfl ?_
    refine bd_bipush C (v := 31) dX7_setLabel_5 (by decide) ?_
    refine bd_icmp_ge C 17 dX7_setLabel_7 (by decide) (fun c2 => ?_) (fun c2 => ?_)
    · exact bd_vret C hret rfl _ _ rfl rfl dX7_setLabel_17 (Nat.le_refl _) (Nat.le_refl _)
    · refine bd_aload_n C 0 dX7_setLabel_10 rfl rfl ?_
      refine bd_gR C fi702 fv702 wd_131 dX7_setLabel_11 ol0 (fun r3 gr3 hr3 => ?_)
      refine bd_iload_n C 1 dX7_setLabel_14 rfl rfl ?_
      refine bd_lload_n C 2 dX7_setLabel_15 rfl rfl ?_
      refine bd_last C dX7_setLabel_16 hr3 (fun w4 => ?_)
      exact bd_vret C hret rfl _ _ rfl rfl dX7_setLabel_17 (Nat.le_refl _) (Nat.le_refl _)
abbrev rmX7_shift : Room := { frames := 11, cells := 0, slots := 0, locals := 323 }
abbrev qX7_shift (G : Gy) (F : Fr) (g : Bd) : Wd → State → Prop := fun r => QM G F g 0 0 ((fun _ => none) r) ((fun (r : Wd) => r) r)
set_option maxRecDepth 20000 in
set_option maxHeartbeats 4000000 in
theorem mX7_shift {l : Launch} (hf9 : l.stackTraces = false) {G : Gy} {F : Fr} (N : Nat) {w : Wd} {l0 : Nat} {l1 : Int32} {l2 : Int32} {r : Wd} (ol0 : okF F l0 7) (e9 : fX7_shift F N w l0 l1 l2 = some r) : Met l yX7_shift [.code yX7_shift cX7_shift 3 none] rmX7_shift (PcB G F w [.ref l0, .int l1, .int l2]) (QB G F ((fun _ => none) r) ((fun (r : Wd) => r) r)) 0 0 (AF F) := by
  refine bd_met (vs := fun _ => none) (wf := fun (r : Wd) => r) hf9 (by decide) (Nat.le_of_ble_eq_true rfl) e9 (fun g C hret hini => ?_)
  clear e9 r
  unfold fX7_shift
  refine bd_sub (lv' := [(0, .ref l0), (1, .int l1), (2, .int l2)]) ?_ [0, 1, 2] rfl
  refine bd_aload_n C 0 dX7_shift_0 rfl rfl ?_
  refine bd_iload_n C 2 dX7_shift_1 rfl rfl ?_
  refine bd_aload_n C 0 dX7_shift_2 rfl rfl ?_
  refine bd_iload_n C 1 dX7_shift_3 rfl rfl ?_
  refine bd_callV (vs := fun (r : Int32) => some (.int r)) (wf := fun _ => w) (st := [.int l2, .ref l0]) (st1 := fun x1 => Value.int x1 :: [.int l2, .ref l0]) C [.int l1] (fun r9 e9 => mX7_first C.flag N ol0 e9) mwX7_first miX7_first wd_402 ol0 (by decide) rfl rfl rfl (Nat.le_of_ble_eq_true rfl) dX7_shift_4 ⟨rfl, rfl, Nat.le_of_ble_eq_true rfl, Nat.le_of_ble_eq_true rfl, Nat.le_of_ble_eq_true rfl, Nat.le_of_ble_eq_true rfl⟩ (fun _ => rfl) (fun x1 ex1 => ?_)
  refine bd_aload_n C 0 dX7_shift_7 rfl rfl ?_
  refine bd_iload_n C 1 dX7_shift_8 rfl rfl ?_
  refine bd_callV (vs := fun (r : Int32) => some (.int r)) (wf := fun _ => w) (st := [.int x1, .int l2, .ref l0]) (st1 := fun x2 => Value.int x2 :: [.int x1, .int l2, .ref l0]) C [.int l1] (fun r9 e9 => mX7_end C.flag N ol0 e9) mwX7_end miX7_end wd_406 ol0 (by decide) rfl rfl rfl (Nat.le_of_ble_eq_true rfl) dX7_shift_9 ⟨rfl, rfl, Nat.le_of_ble_eq_true rfl, Nat.le_of_ble_eq_true rfl, Nat.le_of_ble_eq_true rfl, Nat.le_of_ble_eq_true rfl⟩ (fun _ => rfl) (fun x2 ex2 => ?_)
  refine bd_callV (vs := fun _ => none) (wf := fun (r : Wd) => r) (st := []) (st1 := fun p3 => []) C [.int l2, .int x1, .int x2] (fun r9 e9 => mX7_setFrames C.flag N ol0 e9) mwX7_setFrames miX7_setFrames wd_765 ol0 (by decide) rfl rfl rfl (Nat.le_of_ble_eq_true rfl) dX7_shift_12 ⟨rfl, rfl, Nat.le_of_ble_eq_true rfl, Nat.le_of_ble_eq_true rfl, Nat.le_of_ble_eq_true rfl, Nat.le_of_ble_eq_true rfl⟩ (fun _ => rfl) (fun p3 ep3 => ?_)
  refine bd_aload_n C 0 dX7_shift_15 rfl rfl ?_
  refine bd_iload_n C 2 dX7_shift_16 rfl rfl ?_
  refine bd_aload_n C 0 dX7_shift_17 rfl rfl ?_
  refine bd_iload_n C 1 dX7_shift_18 rfl rfl ?_
  refine bd_callV (vs := fun (r : Int64) => some (.long r)) (wf := fun _ => p3) (st := [.int l2, .ref l0]) (st1 := fun x4 => Value.long x4 :: [.int l2, .ref l0]) C [.int l1] (fun r9 e9 => mX7_label C.flag N ol0 e9) mwX7_label miX7_label wd_671 ol0 (by decide) rfl rfl rfl (Nat.le_of_ble_eq_true rfl) dX7_shift_19 ⟨rfl, rfl, Nat.le_of_ble_eq_true rfl, Nat.le_of_ble_eq_true rfl, Nat.le_of_ble_eq_true rfl, Nat.le_of_ble_eq_true rfl⟩ (fun _ => rfl) (fun x4 ex4 => ?_)
  refine bd_callV (vs := fun _ => none) (wf := fun (r : Wd) => r) (st := []) (st1 := fun p5 => []) C [.int l2, .long x4] (fun r9 e9 => mX7_setLabel C.flag N ol0 e9) mwX7_setLabel miX7_setLabel wd_769 ol0 (by decide) rfl rfl rfl (Nat.le_of_ble_eq_true rfl) dX7_shift_22 ⟨rfl, rfl, Nat.le_of_ble_eq_true rfl, Nat.le_of_ble_eq_true rfl, Nat.le_of_ble_eq_true rfl, Nat.le_of_ble_eq_true rfl⟩ (fun _ => rfl) (fun p5 ep5 => ?_)
  exact bd_vret C hret rfl _ _ rfl rfl dX7_shift_25 (Nat.le_refl _) (Nat.le_refl _)
abbrev rmX7_insert : Room := { frames := 12, cells := 0, slots := 0, locals := 345 }
abbrev qX7_insert (G : Gy) (F : Fr) (g : Bd) : (Int32 × Wd) → State → Prop := fun r => QM G F g 0 0 ((fun (r : Int32 × Wd) => some (.int r.1)) r) ((fun (r : Int32 × Wd) => r.2) r)
set_option maxRecDepth 20000 in
set_option maxHeartbeats 4000000 in
theorem mX7_insert {l : Launch} (hf9 : l.stackTraces = false) {G : Gy} {F : Fr} (N : Nat) {w : Wd} {l0 : Nat} {l1 : Int32} {l2 : Int32} {l3 : Int64} {r : Int32 × Wd} (ol0 : okF F l0 7) (e9 : fX7_insert F N w l0 l1 l2 l3 = some r) : Met l yX7_insert [.code yX7_insert cX7_insert 6 (some .int)] rmX7_insert (PcB G F w [.ref l0, .int l1, .int l2, .long l3]) (QB G F ((fun (r : Int32 × Wd) => some (.int r.1)) r) ((fun (r : Int32 × Wd) => r.2) r)) 0 0 (AF F) := by
  refine bd_met (vs := fun (r : Int32 × Wd) => some (.int r.1)) (wf := fun (r : Int32 × Wd) => r.2) hf9 (by decide) (Nat.le_of_ble_eq_true rfl) e9 (fun g C hret hini => ?_)
  clear e9 r
  have hb50 : ∀  (w : Wd) (l0 : Nat) (l1 : Int32) (l2 : Int32) (l3 : Int64) (l5 : Int32) (ol0 : okF F l0 7), BD g G F 6 (qX7_insert G F g) 0 0 (fX7_insert_50 F N w l0 l1 l2 l3 l5) w 50 [(0, .ref l0), (1, .int l1), (2, .int l2), (3, .long l3), (5, .int l5)] [] := by
    intro w l0 l1 l2 l3 l5 ol0
    unfold fX7_insert_50
    refine bd_aload_n C 0 dX7_insert_50 rfl rfl ?_
    refine bd_iload C 4 dX7_insert_51 rfl ?_
    refine bd_iload_n C 1 dX7_insert_53 rfl rfl ?_
    refine bd_iload_n C 2 dX7_insert_54 rfl rfl ?_
    refine bd_callV (vs := fun _ => none) (wf := fun (r : Wd) => r) (st := []) (st1 := fun p5 => []) C [.int l5, .int l1, .int l2] (fun r9 e9 => mX7_setFrames C.flag N ol0 e9) mwX7_setFrames miX7_setFrames wd_765 ol0 (by decide) rfl rfl rfl (Nat.le_of_ble_eq_true rfl) dX7_insert_55 ⟨rfl, rfl, Nat.le_of_ble_eq_true rfl, Nat.le_of_ble_eq_true rfl, Nat.le_of_ble_eq_true rfl, Nat.le_of_ble_eq_true rfl⟩ (fun _ => rfl) (fun p5 ep5 => ?_)
    refine bd_aload_n C 0 dX7_insert_58 rfl rfl ?_
    refine bd_iload C 4 dX7_insert_59 rfl ?_
    refine bd_lload_n C 3 dX7_insert_61 rfl rfl ?_
    refine bd_callV (vs := fun _ => none) (wf := fun (r : Wd) => r) (st := []) (st1 := fun p6 => []) C [.int l5, .long l3] (fun r9 e9 => mX7_setLabel C.flag N ol0 e9) mwX7_setLabel miX7_setLabel wd_769 ol0 (by decide) rfl rfl rfl (Nat.le_of_ble_eq_true rfl) dX7_insert_62 ⟨rfl, rfl, Nat.le_of_ble_eq_true rfl, Nat.le_of_ble_eq_true rfl, Nat.le_of_ble_eq_true rfl, Nat.le_of_ble_eq_true rfl⟩ (fun _ => rfl) (fun p6 ep6 => ?_)
    refine bd_aload_n C 0 dX7_insert_65 rfl rfl ?_
    refine bd_dup C dX7_insert_66 rfl ?_
    refine bd_gI C fi703 fv703 wd_136 dX7_insert_67 ol0 ?_
    refine bd_iconst C (v := 1) dX7_insert_70 (by decide) ?_
    refine bd_iadd C dX7_insert_71 ?_
    refine bd_pI C fi703 ftX7 fu703 wd_136 rfl rfl rfl dX7_insert_72 ol0 (fun w7 => ?_)
    refine bd_iload C 4 dX7_insert_75 rfl ?_
    exact bd_iret C hret rfl _ _ rfl rfl dX7_insert_77 (Nat.le_refl _) (Nat.le_refl _)
  have hb17 : ∀ (n : Nat) (w : Wd) (l0 : Nat) (l1 : Int32) (l2 : Int32) (l3 : Int64) (l5 : Int32) (ol0 : okF F l0 7), BD g G F 6 (qX7_insert G F g) 0 0 (fX7_insert_17 F N n w l0 l1 l2 l3 l5) w 17 [(0, .ref l0), (1, .int l1), (2, .int l2), (3, .long l3), (5, .int l5)] [] := by
    intro n
    induction n with
    | zero =>
      intro w l0 l1 l2 l3 l5 ol0
      unfold fX7_insert_17
      exact bd_none
    | succ n ih =>
      intro w l0 l1 l2 l3 l5 ol0
      unfold fX7_insert_17
      refine bd_iload C 4 dX7_insert_17 rfl ?_
      refine bd_if_le C 50 dX7_insert_19 (by decide) (fun c1 => ?_) (fun c1 => ?_)
      · exact bd_sub (hb50 w l0 l1 l2 l3 l5 ol0) [0, 1, 2, 3, 4] rfl
      · refine bd_aload_n C 0 dX7_insert_22 rfl rfl ?_
        refine bd_iload C 4 dX7_insert_23 rfl ?_
        refine bd_iconst C (v := 1) dX7_insert_25 (by decide) ?_
        refine bd_isub C dX7_insert_26 ?_
        refine bd_callV (vs := fun (r : Int32) => some (.int r)) (wf := fun _ => w) (st := []) (st1 := fun x2 => Value.int x2 :: []) C [.int (l5 - 1)] (fun r9 e9 => mX7_first C.flag N ol0 e9) mwX7_first miX7_first wd_402 ol0 (by decide) rfl rfl rfl (Nat.le_of_ble_eq_true rfl) dX7_insert_27 ⟨rfl, rfl, Nat.le_of_ble_eq_true rfl, Nat.le_of_ble_eq_true rfl, Nat.le_of_ble_eq_true rfl, Nat.le_of_ble_eq_true rfl⟩ (fun _ => rfl) (fun x2 ex2 => ?_)
        refine bd_iload_n C 1 dX7_insert_30 rfl rfl ?_
        refine bd_icmp_le C 50 dX7_insert_31 (by decide) (fun c3 => ?_) (fun c3 => ?_)
        · exact bd_sub (hb50 w l0 l1 l2 l3 l5 ol0) [0, 1, 2, 3, 4] rfl
        · refine bd_aload_n C 0 dX7_insert_34 rfl rfl ?_
          refine bd_iload C 4 dX7_insert_35 rfl ?_
          refine bd_iconst C (v := 1) dX7_insert_37 (by decide) ?_
          refine bd_isub C dX7_insert_38 ?_
          refine bd_iload C 4 dX7_insert_39 rfl ?_
          refine bd_callV (vs := fun _ => none) (wf := fun (r : Wd) => r) (st := []) (st1 := fun p4 => []) C [.int (l5 - 1), .int l5] (fun r9 e9 => mX7_shift C.flag N ol0 e9) mwX7_shift miX7_shift wd_761 ol0 (by decide) rfl rfl rfl (Nat.le_of_ble_eq_true rfl) dX7_insert_41 ⟨rfl, rfl, Nat.le_of_ble_eq_true rfl, Nat.le_of_ble_eq_true rfl, Nat.le_of_ble_eq_true rfl, Nat.le_of_ble_eq_true rfl⟩ (fun _ => rfl) (fun p4 ep4 => ?_)
          refine bd_iinc C (v := l5 + (-1)) 4 [(5, .int (l5 + (-1))), (0, .ref l0), (1, .int l1), (2, .int l2), (3, .long l3)] dX7_insert_44 rfl rfl (by decide) rfl ?_
          refine bd_goto C 17 dX7_insert_47 (by decide) ?_
          exact bd_sub (ih p4 l0 l1 l2 l3 (l5 + (-1)) ol0) [1, 2, 3, 4, 0] rfl
  unfold fX7_insert
  refine bd_sub (lv' := [(0, .ref l0), (1, .int l1), (2, .int l2), (3, .long l3)]) ?_ [0, 1, 2, 3] rfl
  refine bd_aload_n C 0 dX7_insert_0 rfl rfl ?_
  refine bd_gI C fi703 fv703 wd_136 dX7_insert_1 ol0 ?_
  refine bd_bipush C (v := 31) dX7_insert_4 (by decide) ?_
  refine bd_icmp_lt C 11 dX7_insert_6 (by decide) (fun c8 => ?_) (fun c8 => ?_)
  · refine bd_aload_n C 0 dX7_insert_11 rfl rfl ?_
    refine bd_gI C fi703 fv703 wd_136 dX7_insert_12 ol0 ?_
    refine bd_bnd (tp := Value.int) (fun v9 ev9 => ?_)
    refine bd_istore C [(5, .int v9), (0, .ref l0), (1, .int l1), (2, .int l2), (3, .long l3)] dX7_insert_15 (by decide) rfl ?_
    exact bd_sub (hb17 N w l0 l1 l2 l3 v9 ol0) [1, 2, 3, 4, 0] rfl
  · refine bd_iconst C (v := (-1)) dX7_insert_9 (by decide) ?_
    exact bd_iret C hret rfl _ _ rfl rfl dX7_insert_10 (Nat.le_refl _) (Nat.le_refl _)
abbrev rmX7_delete : Room := { frames := 12, cells := 0, slots := 0, locals := 345 }
abbrev qX7_delete (G : Gy) (F : Fr) (g : Bd) : Wd → State → Prop := fun r => QM G F g 0 0 ((fun _ => none) r) ((fun (r : Wd) => r) r)
set_option maxRecDepth 20000 in
set_option maxHeartbeats 4000000 in
theorem mX7_delete {l : Launch} (hf9 : l.stackTraces = false) {G : Gy} {F : Fr} (N : Nat) {w : Wd} {l0 : Nat} {l1 : Int32} {r : Wd} (ol0 : okF F l0 7) (e9 : fX7_delete F N w l0 l1 = some r) : Met l yX7_delete [.code yX7_delete cX7_delete 3 none] rmX7_delete (PcB G F w [.ref l0, .int l1]) (QB G F ((fun _ => none) r) ((fun (r : Wd) => r) r)) 0 0 (AF F) := by
  refine bd_met (vs := fun _ => none) (wf := fun (r : Wd) => r) hf9 (by decide) (Nat.le_of_ble_eq_true rfl) e9 (fun g C hret hini => ?_)
  clear e9 r
  have hb15 : ∀ (n : Nat) (w : Wd) (l0 : Nat) (l2 : Int32) (ol0 : okF F l0 7), BD g G F 3 (qX7_delete G F g) 0 0 (fX7_delete_15 F N n w l0 l2) w 15 [(0, .ref l0), (2, .int l2)] [] := by
    intro n
    induction n with
    | zero =>
      intro w l0 l2 ol0
      unfold fX7_delete_15
      exact bd_none
    | succ n ih =>
      intro w l0 l2 ol0
      unfold fX7_delete_15
      refine bd_iload_n C 1 dX7_delete_15 rfl rfl ?_
      refine bd_aload_n C 0 dX7_delete_16 rfl rfl ?_
      refine bd_gI C fi703 fv703 wd_136 dX7_delete_17 ol0 ?_
      refine bd_iconst C (v := 1) dX7_delete_20 (by decide) ?_
      refine bd_isub C dX7_delete_21 ?_
      refine bd_icmp_ge C 39 dX7_delete_22 (by decide) (fun c1 => ?_) (fun c1 => ?_)
      · refine bd_aload_n C 0 dX7_delete_39 rfl rfl ?_
        refine bd_dup C dX7_delete_40 rfl ?_
        refine bd_gI C fi703 fv703 wd_136 dX7_delete_41 ol0 ?_
        refine bd_iconst C (v := 1) dX7_delete_44 (by decide) ?_
        refine bd_isub C dX7_delete_45 ?_
        refine bd_pI C fi703 ftX7 fu703 wd_136 rfl rfl rfl dX7_delete_46 ol0 (fun w2 => ?_)
        exact bd_vret C hret rfl _ _ rfl rfl dX7_delete_49 (Nat.le_refl _) (Nat.le_refl _)
      · refine bd_aload_n C 0 dX7_delete_25 rfl rfl ?_
        refine bd_iload_n C 1 dX7_delete_26 rfl rfl ?_
        refine bd_iconst C (v := 1) dX7_delete_27 (by decide) ?_
        refine bd_iadd C dX7_delete_28 ?_
        refine bd_iload_n C 1 dX7_delete_29 rfl rfl ?_
        refine bd_callV (vs := fun _ => none) (wf := fun (r : Wd) => r) (st := []) (st1 := fun p3 => []) C [.int (l2 + 1), .int l2] (fun r9 e9 => mX7_shift C.flag N ol0 e9) mwX7_shift miX7_shift wd_761 ol0 (by decide) rfl rfl rfl (Nat.le_of_ble_eq_true rfl) dX7_delete_30 ⟨rfl, rfl, Nat.le_of_ble_eq_true rfl, Nat.le_of_ble_eq_true rfl, Nat.le_of_ble_eq_true rfl, Nat.le_of_ble_eq_true rfl⟩ (fun _ => rfl) (fun p3 ep3 => ?_)
        refine bd_iinc C (v := l2 + 1) 1 [(2, .int (l2 + 1)), (0, .ref l0)] dX7_delete_33 rfl rfl (by decide) rfl ?_
        refine bd_goto C 15 dX7_delete_36 (by decide) ?_
        exact bd_sub (ih p3 l0 (l2 + 1) ol0) [1, 0] rfl
  unfold fX7_delete
  refine bd_sub (lv' := [(0, .ref l0), (1, .int l1)]) ?_ [0, 1] rfl
  refine bd_iload_n C 1 dX7_delete_0 rfl rfl ?_
  refine bd_if_lt C 12 dX7_delete_1 (by decide) (fun c4 => ?_) (fun c4 => ?_)
  · exact bd_vret C hret rfl _ _ rfl rfl dX7_delete_12 (Nat.le_refl _) (Nat.le_refl _)
  · refine bd_iload_n C 1 dX7_delete_4 rfl rfl ?_
    refine bd_aload_n C 0 dX7_delete_5 rfl rfl ?_
    refine bd_gI C fi703 fv703 wd_136 dX7_delete_6 ol0 ?_
    refine bd_icmp_lt C 13 dX7_delete_9 (by decide) (fun c5 => ?_) (fun c5 => ?_)
    · refine bd_iload_n C 1 dX7_delete_13 rfl rfl ?_
      refine bd_istore_n C [(2, .int l1), (0, .ref l0), (1, .int l1)] dX7_delete_14 rfl (by decide) rfl ?_
      exact bd_sub (hb15 N w l0 l1 ol0) [1, 0] rfl
    · exact bd_vret C hret rfl _ _ rfl rfl dX7_delete_12 (Nat.le_refl _) (Nat.le_refl _)
abbrev rmX7_length : Room := { frames := 11, cells := 0, slots := 0, locals := 321 }
abbrev qX7_length (G : Gy) (F : Fr) (g : Bd) (w : Wd) : Int32 → State → Prop := fun r => QM G F g 0 0 ((fun (r : Int32) => some (.int r)) r) ((fun _ => w) r)
set_option maxRecDepth 20000 in
set_option maxHeartbeats 4000000 in
theorem mX7_length {l : Launch} (hf9 : l.stackTraces = false) {G : Gy} {F : Fr} (N : Nat) {w : Wd} {l0 : Nat} {l1 : Int32} {r : Int32} (ol0 : okF F l0 7) (e9 : fX7_length F N w l0 l1 = some r) : Met l yX7_length [.code yX7_length cX7_length 2 (some .int)] rmX7_length (PcB G F w [.ref l0, .int l1]) (QB G F ((fun (r : Int32) => some (.int r)) r) ((fun _ => w) r)) 0 0 (AF F) := by
  refine bd_met (vs := fun (r : Int32) => some (.int r)) (wf := fun _ => w) hf9 (by decide) (Nat.le_of_ble_eq_true rfl) e9 (fun g C hret hini => ?_)
  clear e9 r
  unfold fX7_length
  refine bd_sub (lv' := [(0, .ref l0), (1, .int l1)]) ?_ [0, 1] rfl
  refine bd_aload_n C 0 dX7_length_0 rfl rfl ?_
  refine bd_iload_n C 1 dX7_length_1 rfl rfl ?_
  refine bd_callV (vs := fun (r : Int32) => some (.int r)) (wf := fun _ => w) (st := []) (st1 := fun x1 => Value.int x1 :: []) C [.int l1] (fun r9 e9 => mX7_end C.flag N ol0 e9) mwX7_end miX7_end wd_406 ol0 (by decide) rfl rfl rfl (Nat.le_of_ble_eq_true rfl) dX7_length_2 ⟨rfl, rfl, Nat.le_of_ble_eq_true rfl, Nat.le_of_ble_eq_true rfl, Nat.le_of_ble_eq_true rfl, Nat.le_of_ble_eq_true rfl⟩ (fun _ => rfl) (fun x1 ex1 => ?_)
  refine bd_aload_n C 0 dX7_length_5 rfl rfl ?_
  refine bd_iload_n C 1 dX7_length_6 rfl rfl ?_
  refine bd_callV (vs := fun (r : Int32) => some (.int r)) (wf := fun _ => w) (st := [.int x1]) (st1 := fun x2 => Value.int x2 :: [.int x1]) C [.int l1] (fun r9 e9 => mX7_first C.flag N ol0 e9) mwX7_first miX7_first wd_402 ol0 (by decide) rfl rfl rfl (Nat.le_of_ble_eq_true rfl) dX7_length_7 ⟨rfl, rfl, Nat.le_of_ble_eq_true rfl, Nat.le_of_ble_eq_true rfl, Nat.le_of_ble_eq_true rfl, Nat.le_of_ble_eq_true rfl⟩ (fun _ => rfl) (fun x2 ex2 => ?_)
  refine bd_isub C dX7_length_10 ?_
  exact bd_iret C hret rfl _ _ rfl rfl dX7_length_11 (Nat.le_refl _) (Nat.le_refl _)
abbrev rmX7_spanWith : Room := { frames := 11, cells := 0, slots := 0, locals := 321 }
abbrev qX7_spanWith (G : Gy) (F : Fr) (g : Bd) (w : Wd) : Int32 → State → Prop := fun r => QM G F g 0 0 ((fun (r : Int32) => some (.int r)) r) ((fun _ => w) r)
set_option maxRecDepth 20000 in
set_option maxHeartbeats 4000000 in
theorem mX7_spanWith {l : Launch} (hf9 : l.stackTraces = false) {G : Gy} {F : Fr} (N : Nat) {w : Wd} {l0 : Nat} {l1 : Int32} {r : Int32} (ol0 : okF F l0 7) (e9 : fX7_spanWith F N w l0 l1 = some r) : Met l yX7_spanWith [.code yX7_spanWith cX7_spanWith 3 (some .int)] rmX7_spanWith (PcB G F w [.ref l0, .int l1]) (QB G F ((fun (r : Int32) => some (.int r)) r) ((fun _ => w) r)) 0 0 (AF F) := by
  refine bd_met (vs := fun (r : Int32) => some (.int r)) (wf := fun _ => w) hf9 (by decide) (Nat.le_of_ble_eq_true rfl) e9 (fun g C hret hini => ?_)
  clear e9 r
  have hb30 : ∀ (k2 : Nat → Int32 → Int32 → Option (Int32)), (∀ (l0 : Nat) (l1 : Int32) (l2 : Int32) (ol0 : okF F l0 7), BD g G F 3 (qX7_spanWith G F g w) 0 0 (k2 l0 l1 l2) w 2 [(0, .ref l0), (1, .int l1), (2, .int l2)] []) → ∀  (l0 : Nat) (l1 : Int32) (l2 : Int32) (ol0 : okF F l0 7), BD g G F 3 (qX7_spanWith G F g w) 0 0 (fX7_spanWith_30 F N w k2 l0 l1 l2) w 30 [(0, .ref l0), (1, .int l1), (2, .int l2)] [] := by
    intro k2 hk2
    intro l0 l1 l2 ol0
    unfold fX7_spanWith_30
    refine bd_iinc C (v := l2 + 1) 2 [(2, .int (l2 + 1)), (0, .ref l0), (1, .int l1)] dX7_spanWith_30 rfl rfl (by decide) rfl ?_
    refine bd_goto C 2 dX7_spanWith_33 (by decide) ?_
    exact bd_sub (hk2 l0 l1 (l2 + 1) ol0) [1, 2, 0] rfl
  have hb2 : ∀ (n : Nat) (l0 : Nat) (l1 : Int32) (l2 : Int32) (ol0 : okF F l0 7), BD g G F 3 (qX7_spanWith G F g w) 0 0 (fX7_spanWith_2 F N w n l0 l1 l2) w 2 [(0, .ref l0), (1, .int l1), (2, .int l2)] [] := by
    intro n
    induction n with
    | zero =>
      intro l0 l1 l2 ol0
      unfold fX7_spanWith_2
      exact bd_none
    | succ n ih =>
      intro l0 l1 l2 ol0
      unfold fX7_spanWith_2
      refine bd_iload_n C 2 dX7_spanWith_2 rfl rfl ?_
      refine bd_aload_n C 0 dX7_spanWith_3 rfl rfl ?_
      refine bd_gI C fi703 fv703 wd_136 dX7_spanWith_4 ol0 ?_
      refine bd_icmp_ge C 36 dX7_spanWith_7 (by decide) (fun c1 => ?_) (fun c1 => ?_)
      · refine bd_iconst C (v := (-1)) dX7_spanWith_36 (by decide) ?_
        exact bd_iret C hret rfl _ _ rfl rfl dX7_spanWith_37 (Nat.le_refl _) (Nat.le_refl _)
      · refine bd_aload_n C 0 dX7_spanWith_10 rfl rfl ?_
        refine bd_iload_n C 2 dX7_spanWith_11 rfl rfl ?_
        refine bd_callV (vs := fun (r : Int32) => some (.int r)) (wf := fun _ => w) (st := []) (st1 := fun x2 => Value.int x2 :: []) C [.int l2] (fun r9 e9 => mX7_first C.flag N ol0 e9) mwX7_first miX7_first wd_402 ol0 (by decide) rfl rfl rfl (Nat.le_of_ble_eq_true rfl) dX7_spanWith_12 ⟨rfl, rfl, Nat.le_of_ble_eq_true rfl, Nat.le_of_ble_eq_true rfl, Nat.le_of_ble_eq_true rfl, Nat.le_of_ble_eq_true rfl⟩ (fun _ => rfl) (fun x2 ex2 => ?_)
        refine bd_iload_n C 1 dX7_spanWith_15 rfl rfl ?_
        refine bd_icmp_gt C 30 dX7_spanWith_16 (by decide) (fun c3 => ?_) (fun c3 => ?_)
        · exact bd_sub (hb30 _ ih l0 l1 l2 ol0) [0, 1, 2] rfl
        · refine bd_iload_n C 1 dX7_spanWith_19 rfl rfl ?_
          refine bd_aload_n C 0 dX7_spanWith_20 rfl rfl ?_
          refine bd_iload_n C 2 dX7_spanWith_21 rfl rfl ?_
          refine bd_callV (vs := fun (r : Int32) => some (.int r)) (wf := fun _ => w) (st := [.int l1]) (st1 := fun x4 => Value.int x4 :: [.int l1]) C [.int l2] (fun r9 e9 => mX7_end C.flag N ol0 e9) mwX7_end miX7_end wd_406 ol0 (by decide) rfl rfl rfl (Nat.le_of_ble_eq_true rfl) dX7_spanWith_22 ⟨rfl, rfl, Nat.le_of_ble_eq_true rfl, Nat.le_of_ble_eq_true rfl, Nat.le_of_ble_eq_true rfl, Nat.le_of_ble_eq_true rfl⟩ (fun _ => rfl) (fun x4 ex4 => ?_)
          refine bd_icmp_ge C 30 dX7_spanWith_25 (by decide) (fun c5 => ?_) (fun c5 => ?_)
          · exact bd_sub (hb30 _ ih l0 l1 l2 ol0) [0, 1, 2] rfl
          · refine bd_iload_n C 2 dX7_spanWith_28 rfl rfl ?_
            exact bd_iret C hret rfl _ _ rfl rfl dX7_spanWith_29 (Nat.le_refl _) (Nat.le_refl _)
  unfold fX7_spanWith
  refine bd_sub (lv' := [(0, .ref l0), (1, .int l1)]) ?_ [0, 1] rfl
  refine bd_iconst C (v := 0) dX7_spanWith_0 (by decide) ?_
  refine bd_istore_n C [(2, .int 0), (0, .ref l0), (1, .int l1)] dX7_spanWith_1 rfl (by decide) rfl ?_
  exact bd_sub (hb2 N l0 l1 0 ol0) [1, 2, 0] rfl
abbrev rmX7_frameSum : Room := { frames := 12, cells := 0, slots := 0, locals := 342 }
abbrev qX7_frameSum (G : Gy) (F : Fr) (g : Bd) (w : Wd) : Int32 → State → Prop := fun r => QM G F g 0 0 ((fun (r : Int32) => some (.int r)) r) ((fun _ => w) r)
set_option maxRecDepth 20000 in
set_option maxHeartbeats 4000000 in
theorem mX7_frameSum {l : Launch} (hf9 : l.stackTraces = false) {G : Gy} {F : Fr} (N : Nat) {w : Wd} {l0 : Nat} {r : Int32} (ol0 : okF F l0 7) (e9 : fX7_frameSum F N w l0 = some r) : Met l yX7_frameSum [.code yX7_frameSum cX7_frameSum 3 (some .int)] rmX7_frameSum (PcB G F w [.ref l0]) (QB G F ((fun (r : Int32) => some (.int r)) r) ((fun _ => w) r)) 0 0 (AF F) := by
  refine bd_met (vs := fun (r : Int32) => some (.int r)) (wf := fun _ => w) hf9 (by decide) (Nat.le_of_ble_eq_true rfl) e9 (fun g C hret hini => ?_)
  clear e9 r
  have hb4 : ∀ (n : Nat) (l0 : Nat) (l1 : Int32) (l2 : Int32) (ol0 : okF F l0 7), BD g G F 3 (qX7_frameSum G F g w) 0 0 (fX7_frameSum_4 F N w n l0 l1 l2) w 4 [(0, .ref l0), (1, .int l1), (2, .int l2)] [] := by
    intro n
    induction n with
    | zero =>
      intro l0 l1 l2 ol0
      unfold fX7_frameSum_4
      exact bd_none
    | succ n ih =>
      intro l0 l1 l2 ol0
      unfold fX7_frameSum_4
      refine bd_iload_n C 2 dX7_frameSum_4 rfl rfl ?_
      refine bd_aload_n C 0 dX7_frameSum_5 rfl rfl ?_
      refine bd_gI C fi703 fv703 wd_136 dX7_frameSum_6 ol0 ?_
      refine bd_icmp_ge C 26 dX7_frameSum_9 (by decide) (fun c1 => ?_) (fun c1 => ?_)
      · refine bd_iload_n C 1 dX7_frameSum_26 rfl rfl ?_
        exact bd_iret C hret rfl _ _ rfl rfl dX7_frameSum_27 (Nat.le_refl _) (Nat.le_refl _)
      · refine bd_iload_n C 1 dX7_frameSum_12 rfl rfl ?_
        refine bd_aload_n C 0 dX7_frameSum_13 rfl rfl ?_
        refine bd_iload_n C 2 dX7_frameSum_14 rfl rfl ?_
        refine bd_callV (vs := fun (r : Int32) => some (.int r)) (wf := fun _ => w) (st := [.int l1]) (st1 := fun x2 => Value.int x2 :: [.int l1]) C [.int l2] (fun r9 e9 => mX7_length C.flag N ol0 e9) mwX7_length miX7_length wd_421 ol0 (by decide) rfl rfl rfl (Nat.le_of_ble_eq_true rfl) dX7_frameSum_15 ⟨rfl, rfl, Nat.le_of_ble_eq_true rfl, Nat.le_of_ble_eq_true rfl, Nat.le_of_ble_eq_true rfl, Nat.le_of_ble_eq_true rfl⟩ (fun _ => rfl) (fun x2 ex2 => ?_)
        refine bd_iadd C dX7_frameSum_18 ?_
        refine bd_bnd (tp := Value.int) (fun v3 ev3 => ?_)
        refine bd_istore_n C [(1, .int v3), (0, .ref l0), (2, .int l2)] dX7_frameSum_19 rfl (by decide) rfl ?_
        refine bd_iinc C (v := l2 + 1) 2 [(2, .int (l2 + 1)), (1, .int v3), (0, .ref l0)] dX7_frameSum_20 rfl rfl (by decide) rfl ?_
        refine bd_goto C 4 dX7_frameSum_23 (by decide) ?_
        exact bd_sub (ih l0 v3 (l2 + 1) ol0) [2, 1, 0] rfl
  unfold fX7_frameSum
  refine bd_sub (lv' := [(0, .ref l0)]) ?_ [0] rfl
  refine bd_iconst C (v := 0) dX7_frameSum_0 (by decide) ?_
  refine bd_istore_n C [(1, .int 0), (0, .ref l0)] dX7_frameSum_1 rfl (by decide) rfl ?_
  refine bd_iconst C (v := 0) dX7_frameSum_2 (by decide) ?_
  refine bd_istore_n C [(2, .int 0), (1, .int 0), (0, .ref l0)] dX7_frameSum_3 rfl (by decide) rfl ?_
  exact bd_sub (hb4 N l0 0 0 ol0) [2, 1, 0] rfl
abbrev rmX7_isLabelNew : Room := { frames := 11, cells := 0, slots := 0, locals := 321 }
abbrev qX7_isLabelNew (G : Gy) (F : Fr) (g : Bd) (w : Wd) : Int32 → State → Prop := fun r => QM G F g 0 0 ((fun (r : Int32) => some (.int r)) r) ((fun _ => w) r)
set_option maxRecDepth 20000 in
set_option maxHeartbeats 4000000 in
theorem mX7_isLabelNew {l : Launch} (hf9 : l.stackTraces = false) {G : Gy} {F : Fr} (N : Nat) {w : Wd} {l0 : Nat} {l1 : Int32} {r : Int32} (ol0 : okF F l0 7) (e9 : fX7_isLabelNew F N w l0 l1 = some r) : Met l yX7_isLabelNew [.code yX7_isLabelNew cX7_isLabelNew 3 (some .boolean)] rmX7_isLabelNew (PcB G F w [.ref l0, .int l1]) (QB G F ((fun (r : Int32) => some (.int r)) r) ((fun _ => w) r)) 0 0 (AF F) := by
  refine bd_met (vs := fun (r : Int32) => some (.int r)) (wf := fun _ => w) hf9 (by decide) (Nat.le_of_ble_eq_true rfl) e9 (fun g C hret hini => ?_)
  clear e9 r
  have hb2 : ∀ (n : Nat) (l0 : Nat) (l1 : Int32) (l2 : Int32) (ol0 : okF F l0 7), BD g G F 3 (qX7_isLabelNew G F g w) 0 0 (fX7_isLabelNew_2 F N w n l0 l1 l2) w 2 [(0, .ref l0), (1, .int l1), (2, .int l2)] [] := by
    intro n
    induction n with
    | zero =>
      intro l0 l1 l2 ol0
      unfold fX7_isLabelNew_2
      exact bd_none
    | succ n ih =>
      intro l0 l1 l2 ol0
      unfold fX7_isLabelNew_2
      refine bd_iload_n C 2 dX7_isLabelNew_2 rfl rfl ?_
      refine bd_iload_n C 1 dX7_isLabelNew_3 rfl rfl ?_
      refine bd_icmp_ge C 29 dX7_isLabelNew_4 (by decide) (fun c1 => ?_) (fun c1 => ?_)
      · refine bd_iconst C (v := 1) dX7_isLabelNew_29 (by decide) ?_
        exact bd_zret C hret rfl _ _ rfl rfl rfl dX7_isLabelNew_30 (Nat.le_refl _) (Nat.le_refl _)
      · refine bd_aload_n C 0 dX7_isLabelNew_7 rfl rfl ?_
        refine bd_iload_n C 2 dX7_isLabelNew_8 rfl rfl ?_
        refine bd_callV (vs := fun (r : Int64) => some (.long r)) (wf := fun _ => w) (st := []) (st1 := fun x2 => Value.long x2 :: []) C [.int l2] (fun r9 e9 => mX7_label C.flag N ol0 e9) mwX7_label miX7_label wd_671 ol0 (by decide) rfl rfl rfl (Nat.le_of_ble_eq_true rfl) dX7_isLabelNew_9 ⟨rfl, rfl, Nat.le_of_ble_eq_true rfl, Nat.le_of_ble_eq_true rfl, Nat.le_of_ble_eq_true rfl, Nat.le_of_ble_eq_true rfl⟩ (fun _ => rfl) (fun x2 ex2 => ?_)
        refine bd_aload_n C 0 dX7_isLabelNew_12 rfl rfl ?_
        refine bd_iload_n C 1 dX7_isLabelNew_13 rfl rfl ?_
        refine bd_callV (vs := fun (r : Int64) => some (.long r)) (wf := fun _ => w) (st := [.long x2]) (st1 := fun x3 => Value.long x3 :: [.long x2]) C [.int l1] (fun r9 e9 => mX7_label C.flag N ol0 e9) mwX7_label miX7_label wd_671 ol0 (by decide) rfl rfl rfl (Nat.le_of_ble_eq_true rfl) dX7_isLabelNew_14 ⟨rfl, rfl, Nat.le_of_ble_eq_true rfl, Nat.le_of_ble_eq_true rfl, Nat.le_of_ble_eq_true rfl, Nat.le_of_ble_eq_true rfl⟩ (fun _ => rfl) (fun x3 ex3 => ?_)
        refine bd_lcmp C dX7_isLabelNew_17 ?_
        refine bd_if_ne C 23 dX7_isLabelNew_18 (by decide) (fun c4 => ?_) (fun c4 => ?_)
        · refine bd_iinc C (v := l2 + 1) 2 [(2, .int (l2 + 1)), (0, .ref l0), (1, .int l1)] dX7_isLabelNew_23 rfl rfl (by decide) rfl ?_
          refine bd_goto C 2 dX7_isLabelNew_26 (by decide) ?_
          exact bd_sub (ih l0 l1 (l2 + 1) ol0) [1, 2, 0] rfl
        · refine bd_iconst C (v := 0) dX7_isLabelNew_21 (by decide) ?_
          exact bd_zret C hret rfl _ _ rfl rfl rfl dX7_isLabelNew_22 (Nat.le_refl _) (Nat.le_refl _)
  unfold fX7_isLabelNew
  refine bd_sub (lv' := [(0, .ref l0), (1, .int l1)]) ?_ [0, 1] rfl
  refine bd_iconst C (v := 0) dX7_isLabelNew_0 (by decide) ?_
  refine bd_istore_n C [(2, .int 0), (0, .ref l0), (1, .int l1)] dX7_isLabelNew_1 rfl (by decide) rfl ?_
  exact bd_sub (hb2 N l0 l1 0 ol0) [1, 2, 0] rfl
abbrev rmX7_labelCount : Room := { frames := 12, cells := 0, slots := 0, locals := 343 }
abbrev qX7_labelCount (G : Gy) (F : Fr) (g : Bd) (w : Wd) : Int32 → State → Prop := fun r => QM G F g 0 0 ((fun (r : Int32) => some (.int r)) r) ((fun _ => w) r)
set_option maxRecDepth 20000 in
set_option maxHeartbeats 4000000 in
theorem mX7_labelCount {l : Launch} (hf9 : l.stackTraces = false) {G : Gy} {F : Fr} (N : Nat) {w : Wd} {l0 : Nat} {r : Int32} (ol0 : okF F l0 7) (e9 : fX7_labelCount F N w l0 = some r) : Met l yX7_labelCount [.code yX7_labelCount cX7_labelCount 3 (some .int)] rmX7_labelCount (PcB G F w [.ref l0]) (QB G F ((fun (r : Int32) => some (.int r)) r) ((fun _ => w) r)) 0 0 (AF F) := by
  refine bd_met (vs := fun (r : Int32) => some (.int r)) (wf := fun _ => w) hf9 (by decide) (Nat.le_of_ble_eq_true rfl) e9 (fun g C hret hini => ?_)
  clear e9 r
  have hb26 : ∀ (k4 : Nat → Int32 → Int32 → Option (Int32)), (∀ (l0 : Nat) (l1 : Int32) (l2 : Int32) (ol0 : okF F l0 7), BD g G F 3 (qX7_labelCount G F g w) 0 0 (k4 l0 l1 l2) w 4 [(0, .ref l0), (1, .int l1), (2, .int l2)] []) → ∀  (l0 : Nat) (l2 : Int32) (s0 : Int32) (s1 : Int32) (ol0 : okF F l0 7), BD g G F 3 (qX7_labelCount G F g w) 0 0 (fX7_labelCount_26 F N w k4 l0 l2 s0 s1) w 26 [(0, .ref l0), (2, .int l2)] [.int s1, .int s0] := by
    intro k4 hk4
    intro l0 l2 s0 s1 ol0
    unfold fX7_labelCount_26
    refine bd_iadd C dX7_labelCount_26 ?_
    refine bd_bnd (tp := Value.int) (fun v4 ev4 => ?_)
    refine bd_istore_n C [(1, .int v4), (0, .ref l0), (2, .int l2)] dX7_labelCount_27 rfl (by decide) rfl ?_
    refine bd_iinc C (v := l2 + 1) 2 [(2, .int (l2 + 1)), (1, .int v4), (0, .ref l0)] dX7_labelCount_28 rfl rfl (by decide) rfl ?_
    refine bd_goto C 4 dX7_labelCount_31 (by decide) ?_
    exact bd_sub (hk4 l0 v4 (l2 + 1) ol0) [2, 1, 0] rfl
  have hb4 : ∀ (n : Nat) (l0 : Nat) (l1 : Int32) (l2 : Int32) (ol0 : okF F l0 7), BD g G F 3 (qX7_labelCount G F g w) 0 0 (fX7_labelCount_4 F N w n l0 l1 l2) w 4 [(0, .ref l0), (1, .int l1), (2, .int l2)] [] := by
    intro n
    induction n with
    | zero =>
      intro l0 l1 l2 ol0
      unfold fX7_labelCount_4
      exact bd_none
    | succ n ih =>
      intro l0 l1 l2 ol0
      unfold fX7_labelCount_4
      refine bd_iload_n C 2 dX7_labelCount_4 rfl rfl ?_
      refine bd_aload_n C 0 dX7_labelCount_5 rfl rfl ?_
      refine bd_gI C fi703 fv703 wd_136 dX7_labelCount_6 ol0 ?_
      refine bd_icmp_ge C 34 dX7_labelCount_9 (by decide) (fun c1 => ?_) (fun c1 => ?_)
      · refine bd_iload_n C 1 dX7_labelCount_34 rfl rfl ?_
        exact bd_iret C hret rfl _ _ rfl rfl dX7_labelCount_35 (Nat.le_refl _) (Nat.le_refl _)
      · refine bd_iload_n C 1 dX7_labelCount_12 rfl rfl ?_
        refine bd_aload_n C 0 dX7_labelCount_13 rfl rfl ?_
        refine bd_iload_n C 2 dX7_labelCount_14 rfl rfl ?_
        refine bd_callV (vs := fun (r : Int32) => some (.int r)) (wf := fun _ => w) (st := [.int l1]) (st1 := fun x2 => Value.int x2 :: [.int l1]) C [.int l2] (fun r9 e9 => mX7_isLabelNew C.flag N ol0 e9) mwX7_isLabelNew miX7_isLabelNew wd_667 ol0 (by decide) rfl rfl rfl (Nat.le_of_ble_eq_true rfl) dX7_labelCount_15 ⟨rfl, rfl, Nat.le_of_ble_eq_true rfl, Nat.le_of_ble_eq_true rfl, Nat.le_of_ble_eq_true rfl, Nat.le_of_ble_eq_true rfl⟩ (fun _ => rfl) (fun x2 ex2 => ?_)
        refine bd_if_eq C 25 dX7_labelCount_18 (by decide) (fun c3 => ?_) (fun c3 => ?_)
        · refine bd_iconst C (v := 0) dX7_labelCount_25 (by decide) ?_
          exact bd_sub (hb26 _ ih l0 l2 l1 0 ol0) [0, 2] rfl
        · refine bd_iconst C (v := 1) dX7_labelCount_21 (by decide) ?_
          refine bd_goto C 26 dX7_labelCount_22 (by decide) ?_
          exact bd_sub (hb26 _ ih l0 l2 l1 1 ol0) [0, 2] rfl
  unfold fX7_labelCount
  refine bd_sub (lv' := [(0, .ref l0)]) ?_ [0] rfl
  refine bd_iconst C (v := 0) dX7_labelCount_0 (by decide) ?_
  refine bd_istore_n C [(1, .int 0), (0, .ref l0)] dX7_labelCount_1 rfl (by decide) rfl ?_
  refine bd_iconst C (v := 0) dX7_labelCount_2 (by decide) ?_
  refine bd_istore_n C [(2, .int 0), (1, .int 0), (0, .ref l0)] dX7_labelCount_3 rfl (by decide) rfl ?_
  exact bd_sub (hb4 N l0 0 0 ol0) [2, 1, 0] rfl
abbrev rmX7_isInOrder : Room := { frames := 11, cells := 0, slots := 0, locals := 321 }
abbrev qX7_isInOrder (G : Gy) (F : Fr) (g : Bd) (w : Wd) : Int32 → State → Prop := fun r => QM G F g 0 0 ((fun (r : Int32) => some (.int r)) r) ((fun _ => w) r)
set_option maxRecDepth 20000 in
set_option maxHeartbeats 4000000 in
theorem mX7_isInOrder {l : Launch} (hf9 : l.stackTraces = false) {G : Gy} {F : Fr} (N : Nat) {w : Wd} {l0 : Nat} {r : Int32} (ol0 : okF F l0 7) (e9 : fX7_isInOrder F N w l0 = some r) : Met l yX7_isInOrder [.code yX7_isInOrder cX7_isInOrder 3 (some .boolean)] rmX7_isInOrder (PcB G F w [.ref l0]) (QB G F ((fun (r : Int32) => some (.int r)) r) ((fun _ => w) r)) 0 0 (AF F) := by
  refine bd_met (vs := fun (r : Int32) => some (.int r)) (wf := fun _ => w) hf9 (by decide) (Nat.le_of_ble_eq_true rfl) e9 (fun g C hret hini => ?_)
  clear e9 r
  have hb4 : ∀ (n : Nat) (l0 : Nat) (l1 : Int32) (l2 : Int32) (ol0 : okF F l0 7), BD g G F 3 (qX7_isInOrder G F g w) 0 0 (fX7_isInOrder_4 F N w n l0 l1 l2) w 4 [(0, .ref l0), (1, .int l1), (2, .int l2)] [] := by
    intro n
    induction n with
    | zero =>
      intro l0 l1 l2 ol0
      unfold fX7_isInOrder_4
      exact bd_none
    | succ n ih =>
      intro l0 l1 l2 ol0
      unfold fX7_isInOrder_4
      refine bd_iload_n C 2 dX7_isInOrder_4 rfl rfl ?_
      refine bd_aload_n C 0 dX7_isInOrder_5 rfl rfl ?_
      refine bd_gI C fi703 fv703 wd_136 dX7_isInOrder_6 ol0 ?_
      refine bd_icmp_ge C 59 dX7_isInOrder_9 (by decide) (fun c1 => ?_) (fun c1 => ?_)
      · refine bd_iconst C (v := 1) dX7_isInOrder_59 (by decide) ?_
        exact bd_zret C hret rfl _ _ rfl rfl rfl dX7_isInOrder_60 (Nat.le_refl _) (Nat.le_refl _)
      · refine bd_aload_n C 0 dX7_isInOrder_12 rfl rfl ?_
        refine bd_iload_n C 2 dX7_isInOrder_13 rfl rfl ?_
        refine bd_callV (vs := fun (r : Int32) => some (.int r)) (wf := fun _ => w) (st := []) (st1 := fun x2 => Value.int x2 :: []) C [.int l2] (fun r9 e9 => mX7_first C.flag N ol0 e9) mwX7_first miX7_first wd_402 ol0 (by decide) rfl rfl rfl (Nat.le_of_ble_eq_true rfl) dX7_isInOrder_14 ⟨rfl, rfl, Nat.le_of_ble_eq_true rfl, Nat.le_of_ble_eq_true rfl, Nat.le_of_ble_eq_true rfl, Nat.le_of_ble_eq_true rfl⟩ (fun _ => rfl) (fun x2 ex2 => ?_)
        refine bd_iload_n C 1 dX7_isInOrder_17 rfl rfl ?_
        refine bd_icmp_lt C 45 dX7_isInOrder_18 (by decide) (fun c3 => ?_) (fun c3 => ?_)
        · refine bd_iconst C (v := 0) dX7_isInOrder_45 (by decide) ?_
          exact bd_zret C hret rfl _ _ rfl rfl rfl dX7_isInOrder_46 (Nat.le_refl _) (Nat.le_refl _)
        · refine bd_aload_n C 0 dX7_isInOrder_21 rfl rfl ?_
          refine bd_iload_n C 2 dX7_isInOrder_22 rfl rfl ?_
          refine bd_callV (vs := fun (r : Int32) => some (.int r)) (wf := fun _ => w) (st := []) (st1 := fun x4 => Value.int x4 :: []) C [.int l2] (fun r9 e9 => mX7_end C.flag N ol0 e9) mwX7_end miX7_end wd_406 ol0 (by decide) rfl rfl rfl (Nat.le_of_ble_eq_true rfl) dX7_isInOrder_23 ⟨rfl, rfl, Nat.le_of_ble_eq_true rfl, Nat.le_of_ble_eq_true rfl, Nat.le_of_ble_eq_true rfl, Nat.le_of_ble_eq_true rfl⟩ (fun _ => rfl) (fun x4 ex4 => ?_)
          refine bd_aload_n C 0 dX7_isInOrder_26 rfl rfl ?_
          refine bd_iload_n C 2 dX7_isInOrder_27 rfl rfl ?_
          refine bd_callV (vs := fun (r : Int32) => some (.int r)) (wf := fun _ => w) (st := [.int x4]) (st1 := fun x5 => Value.int x5 :: [.int x4]) C [.int l2] (fun r9 e9 => mX7_first C.flag N ol0 e9) mwX7_first miX7_first wd_402 ol0 (by decide) rfl rfl rfl (Nat.le_of_ble_eq_true rfl) dX7_isInOrder_28 ⟨rfl, rfl, Nat.le_of_ble_eq_true rfl, Nat.le_of_ble_eq_true rfl, Nat.le_of_ble_eq_true rfl, Nat.le_of_ble_eq_true rfl⟩ (fun _ => rfl) (fun x5 ex5 => ?_)
          refine bd_icmp_le C 45 dX7_isInOrder_31 (by decide) (fun c6 => ?_) (fun c6 => ?_)
          · refine bd_iconst C (v := 0) dX7_isInOrder_45 (by decide) ?_
            exact bd_zret C hret rfl _ _ rfl rfl rfl dX7_isInOrder_46 (Nat.le_refl _) (Nat.le_refl _)
          · refine bd_aload_n C 0 dX7_isInOrder_34 rfl rfl ?_
            refine bd_iload_n C 2 dX7_isInOrder_35 rfl rfl ?_
            refine bd_callV (vs := fun (r : Int32) => some (.int r)) (wf := fun _ => w) (st := []) (st1 := fun x7 => Value.int x7 :: []) C [.int l2] (fun r9 e9 => mX7_end C.flag N ol0 e9) mwX7_end miX7_end wd_406 ol0 (by decide) rfl rfl rfl (Nat.le_of_ble_eq_true rfl) dX7_isInOrder_36 ⟨rfl, rfl, Nat.le_of_ble_eq_true rfl, Nat.le_of_ble_eq_true rfl, Nat.le_of_ble_eq_true rfl, Nat.le_of_ble_eq_true rfl⟩ (fun _ => rfl) (fun x7 ex7 => ?_)
            refine bd_sipush C (v := 1000) dX7_isInOrder_39 (by decide) ?_
            refine bd_icmp_le C 47 dX7_isInOrder_42 (by decide) (fun c8 => ?_) (fun c8 => ?_)
            · refine bd_aload_n C 0 dX7_isInOrder_47 rfl rfl ?_
              refine bd_iload_n C 2 dX7_isInOrder_48 rfl rfl ?_
              refine bd_callV (vs := fun (r : Int32) => some (.int r)) (wf := fun _ => w) (st := []) (st1 := fun x9 => Value.int x9 :: []) C [.int l2] (fun r9 e9 => mX7_end C.flag N ol0 e9) mwX7_end miX7_end wd_406 ol0 (by decide) rfl rfl rfl (Nat.le_of_ble_eq_true rfl) dX7_isInOrder_49 ⟨rfl, rfl, Nat.le_of_ble_eq_true rfl, Nat.le_of_ble_eq_true rfl, Nat.le_of_ble_eq_true rfl, Nat.le_of_ble_eq_true rfl⟩ (fun _ => rfl) (fun x9 ex9 => ?_)
              refine bd_istore_n C [(1, .int x9), (0, .ref l0), (2, .int l2)] dX7_isInOrder_52 rfl (by decide) rfl ?_
              refine bd_iinc C (v := l2 + 1) 2 [(2, .int (l2 + 1)), (1, .int x9), (0, .ref l0)] dX7_isInOrder_53 rfl rfl (by decide) rfl ?_
              refine bd_goto C 4 dX7_isInOrder_56 (by decide) ?_
              exact bd_sub (ih l0 x9 (l2 + 1) ol0) [2, 1, 0] rfl
            · refine bd_iconst C (v := 0) dX7_isInOrder_45 (by decide) ?_
              exact bd_zret C hret rfl _ _ rfl rfl rfl dX7_isInOrder_46 (Nat.le_refl _) (Nat.le_refl _)
  unfold fX7_isInOrder
  refine bd_sub (lv' := [(0, .ref l0)]) ?_ [0] rfl
  refine bd_iconst C (v := 0) dX7_isInOrder_0 (by decide) ?_
  refine bd_istore_n C [(1, .int 0), (0, .ref l0)] dX7_isInOrder_1 rfl (by decide) rfl ?_
  refine bd_iconst C (v := 0) dX7_isInOrder_2 (by decide) ?_
  refine bd_istore_n C [(2, .int 0), (1, .int 0), (0, .ref l0)] dX7_isInOrder_3 rfl (by decide) rfl ?_
  exact bd_sub (hb4 N l0 0 0 ol0) [2, 1, 0] rfl
abbrev rmX7_coveredFrames : Room := { frames := 11, cells := 0, slots := 0, locals := 321 }
abbrev qX7_coveredFrames (G : Gy) (F : Fr) (g : Bd) (w : Wd) : Int32 → State → Prop := fun r => QM G F g 0 0 ((fun (r : Int32) => some (.int r)) r) ((fun _ => w) r)
set_option maxRecDepth 20000 in
set_option maxHeartbeats 4000000 in
theorem mX7_coveredFrames {l : Launch} (hf9 : l.stackTraces = false) {G : Gy} {F : Fr} (N : Nat) {w : Wd} {l0 : Nat} {r : Int32} (ol0 : okF F l0 7) (e9 : fX7_coveredFrames F N w l0 = some r) : Met l yX7_coveredFrames [.code yX7_coveredFrames cX7_coveredFrames 4 (some .int)] rmX7_coveredFrames (PcB G F w [.ref l0]) (QB G F ((fun (r : Int32) => some (.int r)) r) ((fun _ => w) r)) 0 0 (AF F) := by
  refine bd_met (vs := fun (r : Int32) => some (.int r)) (wf := fun _ => w) hf9 (by decide) (Nat.le_of_ble_eq_true rfl) e9 (fun g C hret hini => ?_)
  clear e9 r
  have hb6 : ∀ (n : Nat) (l0 : Nat) (l1 : Int32) (l2 : Int32) (l3 : Int32) (ol0 : okF F l0 7), BD g G F 4 (qX7_coveredFrames G F g w) 0 0 (fX7_coveredFrames_6 F N w n l0 l1 l2 l3) w 6 [(0, .ref l0), (1, .int l1), (2, .int l2), (3, .int l3)] [] := by
    intro n
    induction n with
    | zero =>
      intro l0 l1 l2 l3 ol0
      unfold fX7_coveredFrames_6
      exact bd_none
    | succ n ih =>
      intro l0 l1 l2 l3 ol0
      unfold fX7_coveredFrames_6
      refine bd_iload_n C 3 dX7_coveredFrames_6 rfl rfl ?_
      refine bd_aload_n C 0 dX7_coveredFrames_7 rfl rfl ?_
      refine bd_gI C fi703 fv703 wd_136 dX7_coveredFrames_8 ol0 ?_
      refine bd_icmp_ge C 52 dX7_coveredFrames_11 (by decide) (fun c1 => ?_) (fun c1 => ?_)
      · refine bd_iload_n C 1 dX7_coveredFrames_52 rfl rfl ?_
        exact bd_iret C hret rfl _ _ rfl rfl dX7_coveredFrames_53 (Nat.le_refl _) (Nat.le_refl _)
      · refine bd_iload_n C 1 dX7_coveredFrames_14 rfl rfl ?_
        refine bd_iconst C (v := 0) dX7_coveredFrames_15 (by decide) ?_
        refine bd_aload_n C 0 dX7_coveredFrames_16 rfl rfl ?_
        refine bd_iload_n C 3 dX7_coveredFrames_17 rfl rfl ?_
        refine bd_callV (vs := fun (r : Int32) => some (.int r)) (wf := fun _ => w) (st := [.int 0, .int l1]) (st1 := fun x2 => Value.int x2 :: [.int 0, .int l1]) C [.int l3] (fun r9 e9 => mX7_end C.flag N ol0 e9) mwX7_end miX7_end wd_406 ol0 (by decide) rfl rfl rfl (Nat.le_of_ble_eq_true rfl) dX7_coveredFrames_18 ⟨rfl, rfl, Nat.le_of_ble_eq_true rfl, Nat.le_of_ble_eq_true rfl, Nat.le_of_ble_eq_true rfl, Nat.le_of_ble_eq_true rfl⟩ (fun _ => rfl) (fun x2 ex2 => ?_)
        refine bd_aload_n C 0 dX7_coveredFrames_21 rfl rfl ?_
        refine bd_iload_n C 3 dX7_coveredFrames_22 rfl rfl ?_
        refine bd_callV (vs := fun (r : Int32) => some (.int r)) (wf := fun _ => w) (st := [.int x2, .int 0, .int l1]) (st1 := fun x3 => Value.int x3 :: [.int x2, .int 0, .int l1]) C [.int l3] (fun r9 e9 => mX7_first C.flag N ol0 e9) mwX7_first miX7_first wd_402 ol0 (by decide) rfl rfl rfl (Nat.le_of_ble_eq_true rfl) dX7_coveredFrames_23 ⟨rfl, rfl, Nat.le_of_ble_eq_true rfl, Nat.le_of_ble_eq_true rfl, Nat.le_of_ble_eq_true rfl, Nat.le_of_ble_eq_true rfl⟩ (fun _ => rfl) (fun x3 ex3 => ?_)
        refine bd_iload_n C 2 dX7_coveredFrames_26 rfl rfl ?_
        refine bd_mmax C wd_414 wd_415 wd_104 wd_416 dX7_coveredFrames_27 ⟨Nat.le_of_ble_eq_true rfl, Nat.le_of_ble_eq_true rfl, Nat.zero_le _, Nat.zero_le _⟩ ?_
        refine bd_isub C dX7_coveredFrames_30 ?_
        refine bd_mmax C wd_414 wd_415 wd_104 wd_416 dX7_coveredFrames_31 ⟨Nat.le_of_ble_eq_true rfl, Nat.le_of_ble_eq_true rfl, Nat.zero_le _, Nat.zero_le _⟩ ?_
        refine bd_iadd C dX7_coveredFrames_34 ?_
        refine bd_bnd (tp := Value.int) (fun v4 ev4 => ?_)
        refine bd_istore_n C [(1, .int v4), (0, .ref l0), (2, .int l2), (3, .int l3)] dX7_coveredFrames_35 rfl (by decide) rfl ?_
        refine bd_iload_n C 2 dX7_coveredFrames_36 rfl rfl ?_
        refine bd_aload_n C 1 dX7_coveredFrames_37 rfl rfl ?_
        refine bd_iload_n C 3 dX7_coveredFrames_38 rfl rfl ?_
        refine bd_callV (vs := fun (r : Int32) => some (.int r)) (wf := fun _ => w) (st := [.int l2]) (st1 := fun x5 => Value.int x5 :: [.int l2]) C [.int l3] (fun r9 e9 => mX7_end C.flag N ol0 e9) mwX7_end miX7_end wd_406 ol0 (by decide) rfl rfl rfl (Nat.le_of_ble_eq_true rfl) dX7_coveredFrames_39 ⟨rfl, rfl, Nat.le_of_ble_eq_true rfl, Nat.le_of_ble_eq_true rfl, Nat.le_of_ble_eq_true rfl, Nat.le_of_ble_eq_true rfl⟩ (fun _ => rfl) (fun x5 ex5 => ?_)
        refine bd_mmax C wd_414 wd_415 wd_104 wd_416 dX7_coveredFrames_42 ⟨Nat.le_of_ble_eq_true rfl, Nat.le_of_ble_eq_true rfl, Nat.zero_le _, Nat.zero_le _⟩ ?_
        refine bd_bnd (tp := Value.int) (fun v6 ev6 => ?_)
        refine bd_istore_n C [(2, .int v6), (1, .int v4), (0, .ref l0), (3, .int l3)] dX7_coveredFrames_45 rfl (by decide) rfl ?_
        refine bd_iinc C (v := l3 + 1) 3 [(3, .int (l3 + 1)), (2, .int v6), (1, .int v4), (0, .ref l0)] dX7_coveredFrames_46 rfl rfl (by decide) rfl ?_
        refine bd_goto C 6 dX7_coveredFrames_49 (by decide) ?_
        exact bd_sub (ih l0 v4 v6 (l3 + 1) ol0) [3, 2, 1, 0] rfl
  unfold fX7_coveredFrames
  refine bd_sub (lv' := [(0, .ref l0)]) ?_ [0] rfl
  refine bd_iconst C (v := 0) dX7_coveredFrames_0 (by decide) ?_
  refine bd_istore_n C [(1, .int 0), (0, .ref l0)] dX7_coveredFrames_1 rfl (by decide) rfl ?_
  refine bd_iconst C (v := 0) dX7_coveredFrames_2 (by decide) ?_
  refine bd_istore_n C [(2, .int 0), (1, .int 0), (0, .ref l0)] dX7_coveredFrames_3 rfl (by decide) rfl ?_
  refine bd_iconst C (v := 0) dX7_coveredFrames_4 (by decide) ?_
  refine bd_istore_n C [(3, .int 0), (2, .int 0), (1, .int 0), (0, .ref l0)] dX7_coveredFrames_5 rfl (by decide) rfl ?_
  exact bd_sub (hb6 N l0 0 0 0 ol0) [3, 2, 1, 0] rfl
abbrev rmX7_commonFrames : Room := { frames := 11, cells := 0, slots := 0, locals := 321 }
abbrev qX7_commonFrames (G : Gy) (F : Fr) (g : Bd) (w : Wd) : Int32 → State → Prop := fun r => QM G F g 0 0 ((fun (r : Int32) => some (.int r)) r) ((fun _ => w) r)
set_option maxRecDepth 20000 in
set_option maxHeartbeats 4000000 in
theorem mX7_commonFrames {l : Launch} (hf9 : l.stackTraces = false) {G : Gy} {F : Fr} (N : Nat) {w : Wd} {l0 : Nat} {l1 : Nat} {l2 : Int32} {r : Int32} (ol0 : okF F l0 7) (ol1 : okF F l1 7) (e9 : fX7_commonFrames F N w l0 l1 l2 = some r) : Met l yX7_commonFrames [.code yX7_commonFrames cX7_commonFrames 7 (some .int)] rmX7_commonFrames (PcB G F w [.ref l0, .ref l1, .int l2]) (QB G F ((fun (r : Int32) => some (.int r)) r) ((fun _ => w) r)) 0 0 (AF F) := by
  refine bd_met (vs := fun (r : Int32) => some (.int r)) (wf := fun _ => w) hf9 (by decide) (Nat.le_of_ble_eq_true rfl) e9 (fun g C hret hini => ?_)
  clear e9 r
  have hb88 : ∀ (k5 : Nat → Nat → Int32 → Int32 → Int32 → Option (Int32)), (∀ (l0 : Nat) (l1 : Nat) (l2 : Int32) (l3 : Int32) (l4 : Int32) (ol0 : okF F l0 7) (ol1 : okF F l1 7), BD g G F 7 (qX7_commonFrames G F g w) 0 0 (k5 l0 l1 l2 l3 l4) w 5 [(0, .ref l0), (1, .ref l1), (2, .int l2), (3, .int l3), (4, .int l4)] []) → ∀ (k17 : Nat → Nat → Int32 → Int32 → Int32 → Int32 → Option (Int32)), (∀ (l0 : Nat) (l1 : Nat) (l2 : Int32) (l3 : Int32) (l4 : Int32) (l5 : Int32) (ol0 : okF F l0 7) (ol1 : okF F l1 7), BD g G F 7 (qX7_commonFrames G F g w) 0 0 (k17 l0 l1 l2 l3 l4 l5) w 17 [(0, .ref l0), (1, .ref l1), (2, .int l2), (3, .int l3), (4, .int l4), (5, .int l5)] []) → ∀  (l0 : Nat) (l1 : Nat) (l2 : Int32) (l3 : Int32) (l4 : Int32) (l5 : Int32) (ol0 : okF F l0 7) (ol1 : okF F l1 7), BD g G F 7 (qX7_commonFrames G F g w) 0 0 (fX7_commonFrames_88 F N w k5 k17 l0 l1 l2 l3 l4 l5) w 88 [(0, .ref l0), (1, .ref l1), (2, .int l2), (3, .int l3), (4, .int l4), (5, .int l5)] [] := by
    intro k5 hk5 k17 hk17
    intro l0 l1 l2 l3 l4 l5 ol0 ol1
    unfold fX7_commonFrames_88
    refine bd_iinc C (v := l5 + 1) 5 [(5, .int (l5 + 1)), (0, .ref l0), (1, .ref l1), (2, .int l2), (3, .int l3), (4, .int l4)] dX7_commonFrames_88 rfl rfl (by decide) rfl ?_
    refine bd_goto C 17 dX7_commonFrames_91 (by decide) ?_
    exact bd_sub (hk17 l0 l1 l2 l3 l4 (l5 + 1) ol0 ol1) [1, 2, 3, 4, 5, 0] rfl
  have hb46 : ∀ (k5 : Nat → Nat → Int32 → Int32 → Int32 → Option (Int32)), (∀ (l0 : Nat) (l1 : Nat) (l2 : Int32) (l3 : Int32) (l4 : Int32) (ol0 : okF F l0 7) (ol1 : okF F l1 7), BD g G F 7 (qX7_commonFrames G F g w) 0 0 (k5 l0 l1 l2 l3 l4) w 5 [(0, .ref l0), (1, .ref l1), (2, .int l2), (3, .int l3), (4, .int l4)] []) → ∀ (k17 : Nat → Nat → Int32 → Int32 → Int32 → Int32 → Option (Int32)), (∀ (l0 : Nat) (l1 : Nat) (l2 : Int32) (l3 : Int32) (l4 : Int32) (l5 : Int32) (ol0 : okF F l0 7) (ol1 : okF F l1 7), BD g G F 7 (qX7_commonFrames G F g w) 0 0 (k17 l0 l1 l2 l3 l4 l5) w 17 [(0, .ref l0), (1, .ref l1), (2, .int l2), (3, .int l3), (4, .int l4), (5, .int l5)] []) → ∀  (l0 : Nat) (l1 : Nat) (l2 : Int32) (l3 : Int32) (l4 : Int32) (l5 : Int32) (ol0 : okF F l0 7) (ol1 : okF F l1 7), BD g G F 7 (qX7_commonFrames G F g w) 0 0 (fX7_commonFrames_46 F N w k5 k17 l0 l1 l2 l3 l4 l5) w 46 [(0, .ref l0), (1, .ref l1), (2, .int l2), (3, .int l3), (4, .int l4), (5, .int l5)] [] := by
    intro k5 hk5 k17 hk17
    intro l0 l1 l2 l3 l4 l5 ol0 ol1
    unfold fX7_commonFrames_46
    refine bd_aload_n C 0 dX7_commonFrames_46 rfl rfl ?_
    refine bd_iload C 4 dX7_commonFrames_47 rfl ?_
    refine bd_callV (vs := fun (r : Int32) => some (.int r)) (wf := fun _ => w) (st := []) (st1 := fun x7 => Value.int x7 :: []) C [.int l4] (fun r9 e9 => mX7_first C.flag N ol0 e9) mwX7_first miX7_first wd_402 ol0 (by decide) rfl rfl rfl (Nat.le_of_ble_eq_true rfl) dX7_commonFrames_49 ⟨rfl, rfl, Nat.le_of_ble_eq_true rfl, Nat.le_of_ble_eq_true rfl, Nat.le_of_ble_eq_true rfl, Nat.le_of_ble_eq_true rfl⟩ (fun _ => rfl) (fun x7 ex7 => ?_)
    refine bd_aload_n C 1 dX7_commonFrames_52 rfl rfl ?_
    refine bd_iload C 5 dX7_commonFrames_53 rfl ?_
    refine bd_callV (vs := fun (r : Int32) => some (.int r)) (wf := fun _ => w) (st := [.int x7]) (st1 := fun x8 => Value.int x8 :: [.int x7]) C [.int l5] (fun r9 e9 => mX7_first C.flag N ol1 e9) mwX7_first miX7_first wd_402 ol1 (by decide) rfl rfl rfl (Nat.le_of_ble_eq_true rfl) dX7_commonFrames_55 ⟨rfl, rfl, Nat.le_of_ble_eq_true rfl, Nat.le_of_ble_eq_true rfl, Nat.le_of_ble_eq_true rfl, Nat.le_of_ble_eq_true rfl⟩ (fun _ => rfl) (fun x8 ex8 => ?_)
    refine bd_mmax C wd_414 wd_415 wd_104 wd_416 dX7_commonFrames_58 ⟨Nat.le_of_ble_eq_true rfl, Nat.le_of_ble_eq_true rfl, Nat.zero_le _, Nat.zero_le _⟩ ?_
    refine bd_bnd (tp := Value.int) (fun v9 ev9 => ?_)
    refine bd_istore C [(6, .int v9), (0, .ref l0), (1, .ref l1), (2, .int l2), (3, .int l3), (4, .int l4), (5, .int l5)] dX7_commonFrames_61 (by decide) rfl ?_
    refine bd_iload_n C 4 dX7_commonFrames_63 rfl rfl ?_
    refine bd_iconst C (v := 0) dX7_commonFrames_64 (by decide) ?_
    refine bd_aload_n C 1 dX7_commonFrames_65 rfl rfl ?_
    refine bd_iload C 5 dX7_commonFrames_66 rfl ?_
    refine bd_callV (vs := fun (r : Int32) => some (.int r)) (wf := fun _ => w) (st := [.int 0, .int l3]) (st1 := fun x10 => Value.int x10 :: [.int 0, .int l3]) C [.int l4] (fun r9 e9 => mX7_end C.flag N ol0 e9) mwX7_end miX7_end wd_406 ol0 (by decide) rfl rfl rfl (Nat.le_of_ble_eq_true rfl) dX7_commonFrames_68 ⟨rfl, rfl, Nat.le_of_ble_eq_true rfl, Nat.le_of_ble_eq_true rfl, Nat.le_of_ble_eq_true rfl, Nat.le_of_ble_eq_true rfl⟩ (fun _ => rfl) (fun x10 ex10 => ?_)
    refine bd_aload_n C 2 dX7_commonFrames_71 rfl rfl ?_
    refine bd_iload C 6 dX7_commonFrames_72 rfl ?_
    refine bd_callV (vs := fun (r : Int32) => some (.int r)) (wf := fun _ => w) (st := [.int x10, .int 0, .int l3]) (st1 := fun x11 => Value.int x11 :: [.int x10, .int 0, .int l3]) C [.int l5] (fun r9 e9 => mX7_end C.flag N ol1 e9) mwX7_end miX7_end wd_406 ol1 (by decide) rfl rfl rfl (Nat.le_of_ble_eq_true rfl) dX7_commonFrames_74 ⟨rfl, rfl, Nat.le_of_ble_eq_true rfl, Nat.le_of_ble_eq_true rfl, Nat.le_of_ble_eq_true rfl, Nat.le_of_ble_eq_true rfl⟩ (fun _ => rfl) (fun x11 ex11 => ?_)
    refine bd_mmin C wd_1120 wd_625 wd_104 wd_626 dX7_commonFrames_77 ⟨Nat.le_of_ble_eq_true rfl, Nat.le_of_ble_eq_true rfl, Nat.zero_le _, Nat.zero_le _⟩ ?_
    refine bd_iload C 0 dX7_commonFrames_80 rfl ?_
    refine bd_isub C dX7_commonFrames_82 ?_
    refine bd_mmax C wd_414 wd_415 wd_104 wd_416 dX7_commonFrames_83 ⟨Nat.le_of_ble_eq_true rfl, Nat.le_of_ble_eq_true rfl, Nat.zero_le _, Nat.zero_le _⟩ ?_
    refine bd_iadd C dX7_commonFrames_86 ?_
    refine bd_bnd (tp := Value.int) (fun v12 ev12 => ?_)
    refine bd_istore_n C [(3, .int v12), (6, .int v9), (0, .ref l0), (1, .ref l1), (2, .int l2), (4, .int l4), (5, .int l5)] dX7_commonFrames_87 rfl (by decide) rfl ?_
    exact bd_sub (hb88 _ hk5 _ hk17 l0 l1 l2 v12 l4 l5 ol0 ol1) [2, 3, 4, 0, 5, 6] rfl
  have hb17 : ∀ (k5 : Nat → Nat → Int32 → Int32 → Int32 → Option (Int32)), (∀ (l0 : Nat) (l1 : Nat) (l2 : Int32) (l3 : Int32) (l4 : Int32) (ol0 : okF F l0 7) (ol1 : okF F l1 7), BD g G F 7 (qX7_commonFrames G F g w) 0 0 (k5 l0 l1 l2 l3 l4) w 5 [(0, .ref l0), (1, .ref l1), (2, .int l2), (3, .int l3), (4, .int l4)] []) → ∀ (n : Nat) (l0 : Nat) (l1 : Nat) (l2 : Int32) (l3 : Int32) (l4 : Int32) (l5 : Int32) (ol0 : okF F l0 7) (ol1 : okF F l1 7), BD g G F 7 (qX7_commonFrames G F g w) 0 0 (fX7_commonFrames_17 F N w k5 n l0 l1 l2 l3 l4 l5) w 17 [(0, .ref l0), (1, .ref l1), (2, .int l2), (3, .int l3), (4, .int l4), (5, .int l5)] [] := by
    intro k5 hk5
    intro n
    induction n with
    | zero =>
      intro l0 l1 l2 l3 l4 l5 ol0 ol1
      unfold fX7_commonFrames_17
      exact bd_none
    | succ n ih =>
      intro l0 l1 l2 l3 l4 l5 ol0 ol1
      unfold fX7_commonFrames_17
      refine bd_iload C 5 dX7_commonFrames_17 rfl ?_
      refine bd_aload_n C 1 dX7_commonFrames_19 rfl rfl ?_
      refine bd_gI C fi703 fv703 wd_136 dX7_commonFrames_20 ol1 ?_
      refine bd_icmp_ge C 94 dX7_commonFrames_23 (by decide) (fun c2 => ?_) (fun c2 => ?_)
      · refine bd_iinc C (v := l4 + 1) 4 [(4, .int (l4 + 1)), (0, .ref l0), (1, .ref l1), (2, .int l2), (3, .int l3), (5, .int l5)] dX7_commonFrames_94 rfl rfl (by decide) rfl ?_
        refine bd_goto C 5 dX7_commonFrames_97 (by decide) ?_
        exact bd_sub (hk5 l0 l1 l2 l3 (l4 + 1) ol0 ol1) [1, 2, 3, 4, 0] rfl
      · refine bd_iload_n C 2 dX7_commonFrames_26 rfl rfl ?_
        refine bd_if_eq C 46 dX7_commonFrames_27 (by decide) (fun c3 => ?_) (fun c3 => ?_)
        · exact bd_sub (hb46 _ hk5 _ ih l0 l1 l2 l3 l4 l5 ol0 ol1) [0, 1, 2, 3, 4, 5] rfl
        · refine bd_aload_n C 0 dX7_commonFrames_30 rfl rfl ?_
          refine bd_iload C 4 dX7_commonFrames_31 rfl ?_
          refine bd_callV (vs := fun (r : Int64) => some (.long r)) (wf := fun _ => w) (st := []) (st1 := fun x4 => Value.long x4 :: []) C [.int l4] (fun r9 e9 => mX7_label C.flag N ol0 e9) mwX7_label miX7_label wd_671 ol0 (by decide) rfl rfl rfl (Nat.le_of_ble_eq_true rfl) dX7_commonFrames_33 ⟨rfl, rfl, Nat.le_of_ble_eq_true rfl, Nat.le_of_ble_eq_true rfl, Nat.le_of_ble_eq_true rfl, Nat.le_of_ble_eq_true rfl⟩ (fun _ => rfl) (fun x4 ex4 => ?_)
          refine bd_aload_n C 1 dX7_commonFrames_36 rfl rfl ?_
          refine bd_iload C 5 dX7_commonFrames_37 rfl ?_
          refine bd_callV (vs := fun (r : Int64) => some (.long r)) (wf := fun _ => w) (st := [.long x4]) (st1 := fun x5 => Value.long x5 :: [.long x4]) C [.int l5] (fun r9 e9 => mX7_label C.flag N ol1 e9) mwX7_label miX7_label wd_671 ol1 (by decide) rfl rfl rfl (Nat.le_of_ble_eq_true rfl) dX7_commonFrames_39 ⟨rfl, rfl, Nat.le_of_ble_eq_true rfl, Nat.le_of_ble_eq_true rfl, Nat.le_of_ble_eq_true rfl, Nat.le_of_ble_eq_true rfl⟩ (fun _ => rfl) (fun x5 ex5 => ?_)
          refine bd_lcmp C dX7_commonFrames_42 ?_
          refine bd_if_ne C 88 dX7_commonFrames_43 (by decide) (fun c6 => ?_) (fun c6 => ?_)
          · exact bd_sub (hb88 _ hk5 _ ih l0 l1 l2 l3 l4 l5 ol0 ol1) [0, 1, 2, 3, 4, 5] rfl
          · exact bd_sub (hb46 _ hk5 _ ih l0 l1 l2 l3 l4 l5 ol0 ol1) [0, 1, 2, 3, 4, 5] rfl
  have hb5 : ∀ (n : Nat) (l0 : Nat) (l1 : Nat) (l2 : Int32) (l3 : Int32) (l4 : Int32) (ol0 : okF F l0 7) (ol1 : okF F l1 7), BD g G F 7 (qX7_commonFrames G F g w) 0 0 (fX7_commonFrames_5 F N w n l0 l1 l2 l3 l4) w 5 [(0, .ref l0), (1, .ref l1), (2, .int l2), (3, .int l3), (4, .int l4)] [] := by
    intro n
    induction n with
    | zero =>
      intro l0 l1 l2 l3 l4 ol0 ol1
      unfold fX7_commonFrames_5
      exact bd_none
    | succ n ih =>
      intro l0 l1 l2 l3 l4 ol0 ol1
      unfold fX7_commonFrames_5
      refine bd_iload C 4 dX7_commonFrames_5 rfl ?_
      refine bd_aload_n C 0 dX7_commonFrames_7 rfl rfl ?_
      refine bd_gI C fi703 fv703 wd_136 dX7_commonFrames_8 ol0 ?_
      refine bd_icmp_ge C 100 dX7_commonFrames_11 (by decide) (fun c1 => ?_) (fun c1 => ?_)
      · refine bd_iload_n C 3 dX7_commonFrames_100 rfl rfl ?_
        exact bd_iret C hret rfl _ _ rfl rfl dX7_commonFrames_101 (Nat.le_refl _) (Nat.le_refl _)
      · refine bd_iconst C (v := 0) dX7_commonFrames_14 (by decide) ?_
        refine bd_istore C [(5, .int 0), (0, .ref l0), (1, .ref l1), (2, .int l2), (3, .int l3), (4, .int l4)] dX7_commonFrames_15 (by decide) rfl ?_
        exact bd_sub (hb17 _ ih N l0 l1 l2 l3 l4 0 ol0 ol1) [1, 2, 3, 4, 5, 0] rfl
  unfold fX7_commonFrames
  refine bd_sub (lv' := [(0, .ref l0), (1, .ref l1), (2, .int l2)]) ?_ [0, 1, 2] rfl
  refine bd_iconst C (v := 0) dX7_commonFrames_0 (by decide) ?_
  refine bd_istore_n C [(3, .int 0), (0, .ref l0), (1, .ref l1), (2, .int l2)] dX7_commonFrames_1 rfl (by decide) rfl ?_
  refine bd_iconst C (v := 0) dX7_commonFrames_2 (by decide) ?_
  refine bd_istore C [(4, .int 0), (3, .int 0), (0, .ref l0), (1, .ref l1), (2, .int l2)] dX7_commonFrames_3 (by decide) rfl ?_
  exact bd_sub (hb5 N l0 l1 l2 0 0 ol0 ol1) [2, 3, 4, 1, 0] rfl
abbrev rmX7_framesWith : Room := { frames := 13, cells := 0, slots := 0, locals := 364 }
abbrev qX7_framesWith (G : Gy) (F : Fr) (g : Bd) (w : Wd) : Int32 → State → Prop := fun r => QM G F g 0 0 ((fun (r : Int32) => some (.int r)) r) ((fun _ => w) r)
set_option maxRecDepth 20000 in
set_option maxHeartbeats 4000000 in
theorem mX7_framesWith {l : Launch} (hf9 : l.stackTraces = false) {G : Gy} {F : Fr} (N : Nat) {w : Wd} {l0 : Nat} {l1 : Nat} {r : Int32} (ol0 : okF F l0 7) (ol1 : okF F l1 7) (e9 : fX7_framesWith F N w l0 l1 = some r) : Met l yX7_framesWith [.code yX7_framesWith cX7_framesWith 2 (some .int)] rmX7_framesWith (PcB G F w [.ref l0, .ref l1]) (QB G F ((fun (r : Int32) => some (.int r)) r) ((fun _ => w) r)) 0 0 (AF F) := by
  refine bd_met (vs := fun (r : Int32) => some (.int r)) (wf := fun _ => w) hf9 (by decide) (Nat.le_of_ble_eq_true rfl) e9 (fun g C hret hini => ?_)
  clear e9 r
  unfold fX7_framesWith
  refine bd_sub (lv' := [(0, .ref l0), (1, .ref l1)]) ?_ [0, 1] rfl
  refine bd_aload_n C 0 dX7_framesWith_0 rfl rfl ?_
  refine bd_callV (vs := fun (r : Int32) => some (.int r)) (wf := fun _ => w) (st := []) (st1 := fun x1 => Value.int x1 :: []) C [] (fun r9 e9 => mX7_frameSum C.flag N ol0 e9) mwX7_frameSum miX7_frameSum wd_1125 ol0 (by decide) rfl rfl rfl (Nat.le_of_ble_eq_true rfl) dX7_framesWith_1 ⟨rfl, rfl, Nat.le_of_ble_eq_true rfl, Nat.le_of_ble_eq_true rfl, Nat.le_of_ble_eq_true rfl, Nat.le_of_ble_eq_true rfl⟩ (fun _ => rfl) (fun x1 ex1 => ?_)
  refine bd_aload_n C 1 dX7_framesWith_4 rfl rfl ?_
  refine bd_callV (vs := fun (r : Int32) => some (.int r)) (wf := fun _ => w) (st := [.int x1]) (st1 := fun x2 => Value.int x2 :: [.int x1]) C [] (fun r9 e9 => mX7_frameSum C.flag N ol1 e9) mwX7_frameSum miX7_frameSum wd_1125 ol1 (by decide) rfl rfl rfl (Nat.le_of_ble_eq_true rfl) dX7_framesWith_5 ⟨rfl, rfl, Nat.le_of_ble_eq_true rfl, Nat.le_of_ble_eq_true rfl, Nat.le_of_ble_eq_true rfl, Nat.le_of_ble_eq_true rfl⟩ (fun _ => rfl) (fun x2 ex2 => ?_)
  refine bd_iadd C dX7_framesWith_8 ?_
  refine bd_aload_n C 0 dX7_framesWith_9 rfl rfl ?_
  refine bd_aload_n C 1 dX7_framesWith_10 rfl rfl ?_
  refine bd_iconst C (v := 0) dX7_framesWith_11 (by decide) ?_
  refine bd_callV (vs := fun (r : Int32) => some (.int r)) (wf := fun _ => w) (st := [.int (x1 + x2)]) (st1 := fun x3 => Value.int x3 :: [.int (x1 + x2)]) C [.ref l1, .int 0] (fun r9 e9 => mX7_commonFrames C.flag N ol0 ol1 e9) mwX7_commonFrames miX7_commonFrames wd_1126 ol0 (by decide) rfl rfl rfl (Nat.le_of_ble_eq_true rfl) dX7_framesWith_12 ⟨rfl, rfl, Nat.le_of_ble_eq_true rfl, Nat.le_of_ble_eq_true rfl, Nat.le_of_ble_eq_true rfl, Nat.le_of_ble_eq_true rfl⟩ (fun _ => rfl) (fun x3 ex3 => ?_)
  refine bd_isub C dX7_framesWith_15 ?_
  exact bd_iret C hret rfl _ _ rfl rfl dX7_framesWith_16 (Nat.le_refl _) (Nat.le_refl _)
abbrev rmX7_labelProducts : Room := { frames := 12, cells := 0, slots := 0, locals := 342 }
abbrev qX7_labelProducts (G : Gy) (F : Fr) (g : Bd) (w : Wd) : Int32 → State → Prop := fun r => QM G F g 0 0 ((fun (r : Int32) => some (.int r)) r) ((fun _ => w) r)
set_option maxRecDepth 20000 in
set_option maxHeartbeats 4000000 in
theorem mX7_labelProducts {l : Launch} (hf9 : l.stackTraces = false) {G : Gy} {F : Fr} (N : Nat) {w : Wd} {l0 : Nat} {l1 : Nat} {r : Int32} (ol0 : okF F l0 7) (ol1 : okF F l1 7) (e9 : fX7_labelProducts F N w l0 l1 = some r) : Met l yX7_labelProducts [.code yX7_labelProducts cX7_labelProducts 5 (some .int)] rmX7_labelProducts (PcB G F w [.ref l0, .ref l1]) (QB G F ((fun (r : Int32) => some (.int r)) r) ((fun _ => w) r)) 0 0 (AF F) := by
  refine bd_met (vs := fun (r : Int32) => some (.int r)) (wf := fun _ => w) hf9 (by decide) (Nat.le_of_ble_eq_true rfl) e9 (fun g C hret hini => ?_)
  clear e9 r
  have hb56 : ∀ (k4 : Nat → Nat → Int32 → Int32 → Option (Int32)), (∀ (l0 : Nat) (l1 : Nat) (l2 : Int32) (l3 : Int32) (ol0 : okF F l0 7) (ol1 : okF F l1 7), BD g G F 5 (qX7_labelProducts G F g w) 0 0 (k4 l0 l1 l2 l3) w 4 [(0, .ref l0), (1, .ref l1), (2, .int l2), (3, .int l3)] []) → ∀ (k15 : Nat → Nat → Int32 → Int32 → Int32 → Option (Int32)), (∀ (l0 : Nat) (l1 : Nat) (l2 : Int32) (l3 : Int32) (l4 : Int32) (ol0 : okF F l0 7) (ol1 : okF F l1 7), BD g G F 5 (qX7_labelProducts G F g w) 0 0 (k15 l0 l1 l2 l3 l4) w 15 [(0, .ref l0), (1, .ref l1), (2, .int l2), (3, .int l3), (4, .int l4)] []) → ∀  (l0 : Nat) (l1 : Nat) (l3 : Int32) (l4 : Int32) (s0 : Int32) (s1 : Int32) (ol0 : okF F l0 7) (ol1 : okF F l1 7), BD g G F 5 (qX7_labelProducts G F g w) 0 0 (fX7_labelProducts_56 F N w k4 k15 l0 l1 l3 l4 s0 s1) w 56 [(0, .ref l0), (1, .ref l1), (3, .int l3), (4, .int l4)] [.int s1, .int s0] := by
    intro k4 hk4 k15 hk15
    intro l0 l1 l3 l4 s0 s1 ol0 ol1
    unfold fX7_labelProducts_56
    refine bd_iadd C dX7_labelProducts_56 ?_
    refine bd_bnd (tp := Value.int) (fun v8 ev8 => ?_)
    refine bd_istore_n C [(2, .int v8), (0, .ref l0), (1, .ref l1), (3, .int l3), (4, .int l4)] dX7_labelProducts_57 rfl (by decide) rfl ?_
    refine bd_iinc C (v := l4 + 1) 4 [(4, .int (l4 + 1)), (2, .int v8), (0, .ref l0), (1, .ref l1), (3, .int l3)] dX7_labelProducts_58 rfl rfl (by decide) rfl ?_
    refine bd_goto C 15 dX7_labelProducts_61 (by decide) ?_
    exact bd_sub (hk15 l0 l1 v8 l3 (l4 + 1) ol0 ol1) [2, 3, 1, 4, 0] rfl
  have hb15 : ∀ (k4 : Nat → Nat → Int32 → Int32 → Option (Int32)), (∀ (l0 : Nat) (l1 : Nat) (l2 : Int32) (l3 : Int32) (ol0 : okF F l0 7) (ol1 : okF F l1 7), BD g G F 5 (qX7_labelProducts G F g w) 0 0 (k4 l0 l1 l2 l3) w 4 [(0, .ref l0), (1, .ref l1), (2, .int l2), (3, .int l3)] []) → ∀ (n : Nat) (l0 : Nat) (l1 : Nat) (l2 : Int32) (l3 : Int32) (l4 : Int32) (ol0 : okF F l0 7) (ol1 : okF F l1 7), BD g G F 5 (qX7_labelProducts G F g w) 0 0 (fX7_labelProducts_15 F N w k4 n l0 l1 l2 l3 l4) w 15 [(0, .ref l0), (1, .ref l1), (2, .int l2), (3, .int l3), (4, .int l4)] [] := by
    intro k4 hk4
    intro n
    induction n with
    | zero =>
      intro l0 l1 l2 l3 l4 ol0 ol1
      unfold fX7_labelProducts_15
      exact bd_none
    | succ n ih =>
      intro l0 l1 l2 l3 l4 ol0 ol1
      unfold fX7_labelProducts_15
      refine bd_iload C 4 dX7_labelProducts_15 rfl ?_
      refine bd_aload_n C 1 dX7_labelProducts_17 rfl rfl ?_
      refine bd_gI C fi703 fv703 wd_136 dX7_labelProducts_18 ol1 ?_
      refine bd_icmp_ge C 64 dX7_labelProducts_21 (by decide) (fun c2 => ?_) (fun c2 => ?_)
      · refine bd_iinc C (v := l3 + 1) 3 [(3, .int (l3 + 1)), (0, .ref l0), (1, .ref l1), (2, .int l2), (4, .int l4)] dX7_labelProducts_64 rfl rfl (by decide) rfl ?_
        refine bd_goto C 4 dX7_labelProducts_67 (by decide) ?_
        exact bd_sub (hk4 l0 l1 l2 (l3 + 1) ol0 ol1) [1, 2, 3, 0] rfl
      · refine bd_iload_n C 2 dX7_labelProducts_24 rfl rfl ?_
        refine bd_aload_n C 0 dX7_labelProducts_25 rfl rfl ?_
        refine bd_iload_n C 3 dX7_labelProducts_26 rfl rfl ?_
        refine bd_callV (vs := fun (r : Int64) => some (.long r)) (wf := fun _ => w) (st := [.int l2]) (st1 := fun x3 => Value.long x3 :: [.int l2]) C [.int l3] (fun r9 e9 => mX7_label C.flag N ol0 e9) mwX7_label miX7_label wd_671 ol0 (by decide) rfl rfl rfl (Nat.le_of_ble_eq_true rfl) dX7_labelProducts_27 ⟨rfl, rfl, Nat.le_of_ble_eq_true rfl, Nat.le_of_ble_eq_true rfl, Nat.le_of_ble_eq_true rfl, Nat.le_of_ble_eq_true rfl⟩ (fun _ => rfl) (fun x3 ex3 => ?_)
        refine bd_aload_n C 1 dX7_labelProducts_30 rfl rfl ?_
        refine bd_iload C 4 dX7_labelProducts_31 rfl ?_
        refine bd_callV (vs := fun (r : Int64) => some (.long r)) (wf := fun _ => w) (st := [.long x3, .int l2]) (st1 := fun x4 => Value.long x4 :: [.long x3, .int l2]) C [.int l4] (fun r9 e9 => mX7_label C.flag N ol1 e9) mwX7_label miX7_label wd_671 ol1 (by decide) rfl rfl rfl (Nat.le_of_ble_eq_true rfl) dX7_labelProducts_33 ⟨rfl, rfl, Nat.le_of_ble_eq_true rfl, Nat.le_of_ble_eq_true rfl, Nat.le_of_ble_eq_true rfl, Nat.le_of_ble_eq_true rfl⟩ (fun _ => rfl) (fun x4 ex4 => ?_)
        refine bd_lcmp C dX7_labelProducts_36 ?_
        refine bd_if_ne C 55 dX7_labelProducts_37 (by decide) (fun c5 => ?_) (fun c5 => ?_)
        · refine bd_iconst C (v := 0) dX7_labelProducts_55 (by decide) ?_
          exact bd_sub (hb56 _ hk4 _ ih l0 l1 l3 l4 l2 0 ol0 ol1) [0, 1, 3, 4] rfl
        · refine bd_aload_n C 0 dX7_labelProducts_40 rfl rfl ?_
          refine bd_iload_n C 3 dX7_labelProducts_41 rfl rfl ?_
          refine bd_callV (vs := fun (r : Int32) => some (.int r)) (wf := fun _ => w) (st := [.int l2]) (st1 := fun x6 => Value.int x6 :: [.int l2]) C [.int l3] (fun r9 e9 => mX7_length C.flag N ol0 e9) mwX7_length miX7_length wd_421 ol0 (by decide) rfl rfl rfl (Nat.le_of_ble_eq_true rfl) dX7_labelProducts_42 ⟨rfl, rfl, Nat.le_of_ble_eq_true rfl, Nat.le_of_ble_eq_true rfl, Nat.le_of_ble_eq_true rfl, Nat.le_of_ble_eq_true rfl⟩ (fun _ => rfl) (fun x6 ex6 => ?_)
          refine bd_aload_n C 1 dX7_labelProducts_45 rfl rfl ?_
          refine bd_iload C 4 dX7_labelProducts_46 rfl ?_
          refine bd_callV (vs := fun (r : Int32) => some (.int r)) (wf := fun _ => w) (st := [.int x6, .int l2]) (st1 := fun x7 => Value.int x7 :: [.int x6, .int l2]) C [.int l4] (fun r9 e9 => mX7_length C.flag N ol1 e9) mwX7_length miX7_length wd_421 ol1 (by decide) rfl rfl rfl (Nat.le_of_ble_eq_true rfl) dX7_labelProducts_48 ⟨rfl, rfl, Nat.le_of_ble_eq_true rfl, Nat.le_of_ble_eq_true rfl, Nat.le_of_ble_eq_true rfl, Nat.le_of_ble_eq_true rfl⟩ (fun _ => rfl) (fun x7 ex7 => ?_)
          refine bd_imul C dX7_labelProducts_51 ?_
          refine bd_goto C 56 dX7_labelProducts_52 (by decide) ?_
          exact bd_sub (hb56 _ hk4 _ ih l0 l1 l3 l4 l2 (x6 * x7) ol0 ol1) [0, 1, 3, 4] rfl
  have hb4 : ∀ (n : Nat) (l0 : Nat) (l1 : Nat) (l2 : Int32) (l3 : Int32) (ol0 : okF F l0 7) (ol1 : okF F l1 7), BD g G F 5 (qX7_labelProducts G F g w) 0 0 (fX7_labelProducts_4 F N w n l0 l1 l2 l3) w 4 [(0, .ref l0), (1, .ref l1), (2, .int l2), (3, .int l3)] [] := by
    intro n
    induction n with
    | zero =>
      intro l0 l1 l2 l3 ol0 ol1
      unfold fX7_labelProducts_4
      exact bd_none
    | succ n ih =>
      intro l0 l1 l2 l3 ol0 ol1
      unfold fX7_labelProducts_4
      refine bd_iload_n C 3 dX7_labelProducts_4 rfl rfl ?_
      refine bd_aload_n C 0 dX7_labelProducts_5 rfl rfl ?_
      refine bd_gI C fi703 fv703 wd_136 dX7_labelProducts_6 ol0 ?_
      refine bd_icmp_ge C 70 dX7_labelProducts_9 (by decide) (fun c1 => ?_) (fun c1 => ?_)
      · refine bd_iload_n C 2 dX7_labelProducts_70 rfl rfl ?_
        exact bd_iret C hret rfl _ _ rfl rfl dX7_labelProducts_71 (Nat.le_refl _) (Nat.le_refl _)
      · refine bd_iconst C (v := 0) dX7_labelProducts_12 (by decide) ?_
        refine bd_istore C [(4, .int 0), (0, .ref l0), (1, .ref l1), (2, .int l2), (3, .int l3)] dX7_labelProducts_13 (by decide) rfl ?_
        exact bd_sub (hb15 _ ih N l0 l1 l2 l3 0 ol0 ol1) [1, 2, 3, 4, 0] rfl
  unfold fX7_labelProducts
  refine bd_sub (lv' := [(0, .ref l0), (1, .ref l1)]) ?_ [0, 1] rfl
  refine bd_iconst C (v := 0) dX7_labelProducts_0 (by decide) ?_
  refine bd_istore_n C [(2, .int 0), (0, .ref l0), (1, .ref l1)] dX7_labelProducts_1 rfl (by decide) rfl ?_
  refine bd_iconst C (v := 0) dX7_labelProducts_2 (by decide) ?_
  refine bd_istore_n C [(3, .int 0), (2, .int 0), (0, .ref l0), (1, .ref l1)] dX7_labelProducts_3 rfl (by decide) rfl ?_
  exact bd_sub (hb4 N l0 l1 0 0 ol0 ol1) [2, 3, 1, 0] rfl
