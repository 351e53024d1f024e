abbrev rmX7_delete : Room := { frames := 12, cells := 0, slots := 0, locals := 345 }
abbrev qX7_delete (G : Gy) (F : Fr) (g : Bd) : Wd → State → Prop := fun r => QM G F g 0 0 ((fun _ => none) r) ((fun (r : Wd) => r) r)
set_option maxRecDepth 20000 in
set_option maxHeartbeats 4000000 in
theorem mX7_delete {l : Launch} (hf9 : l.stackTraces = false) {G : Gy} {F : Fr} (N : Nat) {w : Wd} {l0 : Nat} {l1 : Int32} {r : Wd} (ol0 : okF F l0 7) (e9 : fX7_delete F N w l0 l1 = some r) : Met l yX7_delete [.code yX7_delete cX7_delete 3 none] rmX7_delete (PcB G F w [.ref l0, .int l1]) (QB G F ((fun _ => none) r) ((fun (r : Wd) => r) r)) 0 0 (AF F) := by
  refine bd_met (vs := fun _ => none) (wf := fun (r : Wd) => r) hf9 (by decide) (Nat.le_of_ble_eq_true rfl) e9 (fun g C hret hini => ?_)
  clear e9 r
  have hb15 : ∀ (n : Nat) (w : Wd) (l0 : Nat) (l2 : Int32) (ol0 : okF F l0 7), BD g G F 3 (qX7_delete G F g) 0 0 (fX7_delete_15 F N n w l0 l2) w 15 [(0, .ref l0), (2, .int l2)] [] := by
    intro n
    induction n with
    | zero =>
      intro w l0 l2 ol0
      unfold fX7_delete_15
      exact bd_none
    | succ n ih =>
      intro w l0 l2 ol0
      unfold fX7_delete_15
      refine bd_iload_n C 1 dX7_delete_15 rfl rfl ?_
      refine bd_aload_n C 0 dX7_delete_16 rfl rfl ?_
      refine bd_gI C fi703 fv703 wd_136 dX7_delete_17 ol0 ?_
      refine bd_iconst C (v := 1) dX7_delete_20 (by decide) ?_
      refine bd_isub C dX7_delete_21 ?_
      refine bd_icmp_ge C 39 dX7_delete_22 (by decide) (fun c1 => ?_) (fun c1 => ?_)
      · refine bd_aload_n C 0 dX7_delete_39 rfl rfl ?_
        refine bd_dup C dX7_delete_40 rfl ?_
        refine bd_gI C fi703 fv703 wd_136 dX7_delete_41 ol0 ?_
        refine bd_iconst C (v := 1) dX7_delete_44 (by decide) ?_
        refine bd_isub C dX7_delete_45 ?_
        refine bd_pI C fi703 ftX7 fu703 wd_136 rfl rfl rfl dX7_delete_46 ol0 (fun w2 => ?_)
        exact bd_vret C hret rfl _ _ rfl rfl dX7_delete_49 (Nat.le_refl _) (Nat.le_refl _)
      · refine bd_aload_n C 0 dX7_delete_25 rfl rfl ?_
        refine bd_iload_n C 1 dX7_delete_26 rfl rfl ?_
        refine bd_iconst C (v := 1) dX7_delete_27 (by decide) ?_
        refine bd_iadd C dX7_delete_28 ?_
        refine bd_iload_n C 1 dX7_delete_29 rfl rfl ?_
        refine bd_callV (vs := fun _ => none) (wf := fun (r : Wd) => r) (st := []) (st1 := fun p3 => []) C [.int (l2 + 1), .int l2] (fun r9 e9 => mX7_shift C.flag N ol0 e9) mwX7_shift miX7_shift wd_761 ol0 (by decide) rfl rfl rfl (Nat.le_of_ble_eq_true rfl) dX7_delete_30 ⟨rfl, rfl, Nat.le_of_ble_eq_true rfl, Nat.le_of_ble_eq_true rfl, Nat.le_of_ble_eq_true rfl, Nat.le_of_ble_eq_true rfl⟩ (fun _ => rfl) (fun p3 ep3 => ?_)
        refine bd_iinc C (v := l2 + 1) 1 [(2, .int (l2 + 1)), (0, .ref l0)] dX7_delete_33 rfl rfl (by decide) rfl ?_
        refine bd_goto C 15 dX7_delete_36 (by decide) ?_
        exact bd_sub (ih p3 l0 (l2 + 1) ol0) [1, 0] rfl
  unfold fX7_delete
  refine bd_sub (lv' := [(0, .ref l0), (1, .int l1)]) ?_ [0, 1] rfl
  refine bd_iload_n C 1 dX7_delete_0 rfl rfl ?_
  refine bd_if_lt C 12 dX7_delete_1 (by decide) (fun c4 => ?_) (fun c4 => ?_)
  · exact bd_vret C hret rfl _ _ rfl rfl dX7_delete_12 (Nat.le_refl _) (Nat.le_refl _)
  · refine bd_iload_n C 1 dX7_delete_4 rfl rfl ?_
    refine bd_aload_n C 0 dX7_delete_5 rfl rfl ?_
    refine bd_gI C fi703 fv703 wd_136 dX7_delete_6 ol0 ?_
    refine bd_icmp_lt C 13 dX7_delete_9 (by decide) (fun c5 => ?_) (fun c5 => ?_)
    · refine bd_iload_n C 1 dX7_delete_13 rfl rfl ?_
      refine bd_istore_n C [(2, .int l1), (0, .ref l0), (1, .int l1)] dX7_delete_14 rfl (by decide) rfl ?_
      exact bd_sub (hb15 N w l0 l1 ol0) [1, 0] rfl
    · exact bd_vret C hret rfl _ _ rfl rfl dX7_delete_12 (Nat.le_refl _) (Nat.le_refl _)
abbrev rmX1_shiftSpan : Room := { frames := 15, cells := 0, slots := 0, locals := 420 }
abbrev qX1_shiftSpan (G : Gy) (F : Fr) (g : Bd) : (Int32 × Wd) → State → Prop := fun r => QM G F g 0 0 ((fun (r : Int32 × Wd) => some (.int r.1)) r) ((fun (r : Int32 × Wd) => r.2) r)
set_option maxRecDepth 20000 in
set_option maxHeartbeats 4000000 in
theorem mX1_shiftSpan {l : Launch} (hf9 : l.stackTraces = false) {G : Gy} {F : Fr} (N : Nat) {w : Wd} {l0 : Nat} {l1 : Int32} {l2 : Int32} {l3 : Int32} {l4 : Int32} {l5 : Nat} {r : Int32 × Wd} (ol0 : okF F l0 1) (ol5 : okF F l5 6) (e9 : fX1_shiftSpan F N w l0 l1 l2 l3 l4 l5 = some r) : Met l yX1_shiftSpan [.code yX1_shiftSpan cX1_shiftSpan 11 (some .int)] rmX1_shiftSpan (PcB G F w [.ref l0, .int l1, .int l2, .int l3, .int l4, .ref l5]) (QB G F ((fun (r : Int32 × Wd) => some (.int r.1)) r) ((fun (r : Int32 × Wd) => r.2) r)) 0 0 (AF F) := by
  refine bd_met (vs := fun (r : Int32 × Wd) => some (.int r.1)) (wf := fun (r : Int32 × Wd) => r.2) hf9 (by decide) (Nat.le_of_ble_eq_true rfl) e9 (fun g C hret hini => ?_)
  clear e9 r
  unfold fX1_shiftSpan
  refine bd_sub (lv' := [(0, .ref l0), (1, .int l1), (2, .int l2), (3, .int l3), (4, .int l4), (5, .ref l5)]) ?_ [0, 1, 2, 3, 4, 5] rfl
  refine bd_aload_n C 0 dX1_shiftSpan_0 rfl rfl ?_
  refine bd_iload_n C 1 dX1_shiftSpan_1 rfl rfl ?_
  refine bd_iload_n C 2 dX1_shiftSpan_2 rfl rfl ?_
  refine bd_iload_n C 3 dX1_shiftSpan_3 rfl rfl ?_
  refine bd_iload C 4 dX1_shiftSpan_4 rfl ?_
  refine bd_aload C 5 dX1_shiftSpan_6 rfl ?_
  refine bd_callV (vs := fun (r : Int32 × Wd) => some (.int r.1)) (wf := fun (r : Int32 × Wd) => r.2) (st := []) (st1 := fun p1 => Value.int p1.1 :: []) C [.int l1, .int l2, .int l3, .int l4, .ref l5] (fun r9 e9 => mX1_tryFrames C.flag N ol0 ol5 e9) mwX1_tryFrames miX1_tryFrames wd_744 ol0 (by decide) rfl rfl rfl (Nat.le_of_ble_eq_true rfl) dX1_shiftSpan_8 ⟨rfl, rfl, Nat.le_of_ble_eq_true rfl, Nat.le_of_ble_eq_true rfl, Nat.le_of_ble_eq_true rfl, Nat.le_of_ble_eq_true rfl⟩ (fun _ => rfl) (fun p1 ep1 => ?_)
  refine bd_if_ge C 16 dX1_shiftSpan_11 (by decide) (fun c2 => ?_) (fun c2 => ?_)
  · refine bd_aload_n C 0 dX1_shiftSpan_16 rfl rfl ?_
    refine bd_iload_n C 1 dX1_shiftSpan_17 rfl rfl ?_
    refine bd_callV (vs := fun (r : Nat) => some (.ref r)) (wf := fun _ => p1.2) (st := []) (st1 := fun x3 => Value.ref x3 :: []) C [.int l1] (fun r9 e9 => mX1_present C.flag N ol0 e9) mwX1_present miX1_present wd_752 ol0 (by decide) rfl rfl rfl (Nat.le_of_ble_eq_true rfl) dX1_shiftSpan_18 ⟨rfl, rfl, Nat.le_of_ble_eq_true rfl, Nat.le_of_ble_eq_true rfl, Nat.le_of_ble_eq_true rfl, Nat.le_of_ble_eq_true rfl⟩ (fun _ => rfl) (fun x3 ex3 => ?_)
    refine bd_ckF (fun h4 => ?_)
    refine bd_astore C [(6, .ref x3), (0, .ref l0), (1, .int l1), (2, .int l2), (3, .int l3), (4, .int l4), (5, .ref l5)] dX1_shiftSpan_21 (by decide) rfl ?_
    refine bd_aload C 0 dX1_shiftSpan_23 rfl ?_
    refine bd_iload_n C 3 dX1_shiftSpan_25 rfl rfl ?_
    refine bd_callV (vs := fun (r : Int64) => some (.long r)) (wf := fun _ => p1.2) (st := []) (st1 := fun x5 => Value.long x5 :: []) C [.int l2] (fun r9 e9 => mX7_label C.flag N h4 e9) mwX7_label miX7_label wd_827 h4 (by decide) rfl rfl rfl (Nat.le_of_ble_eq_true rfl) dX1_shiftSpan_26 ⟨rfl, rfl, Nat.le_of_ble_eq_true rfl, Nat.le_of_ble_eq_true rfl, Nat.le_of_ble_eq_true rfl, Nat.le_of_ble_eq_true rfl⟩ (fun _ => rfl) (fun x5 ex5 => ?_)
    refine bd_lstore C [(7, .long x5), (6, .ref x3), (0, .ref l0), (1, .int l1), (2, .int l2), (3, .int l3), (4, .int l4), (5, .ref l5)] dX1_shiftSpan_29 (by decide) rfl ?_
    refine bd_aload C 1 dX1_shiftSpan_31 rfl ?_
    refine bd_iload_n C 4 dX1_shiftSpan_33 rfl rfl ?_
    refine bd_callV (vs := fun _ => none) (wf := fun (r : Wd) => r) (st := []) (st1 := fun p6 => []) C [.int l2] (fun r9 e9 => mX7_delete C.flag N h4 e9) mwX7_delete miX7_delete wd_808 h4 (by decide) rfl rfl rfl (Nat.le_of_ble_eq_true rfl) dX1_shiftSpan_34 ⟨rfl, rfl, Nat.le_of_ble_eq_true rfl, Nat.le_of_ble_eq_true rfl, Nat.le_of_ble_eq_true rfl, Nat.le_of_ble_eq_true rfl⟩ (fun _ => rfl) (fun p6 ep6 => ?_)
    refine bd_aload C 1 dX1_shiftSpan_37 rfl ?_
    refine bd_iload_n C 5 dX1_shiftSpan_39 rfl rfl ?_
    refine bd_iload C 6 dX1_shiftSpan_40 rfl ?_
    refine bd_lload C 0 dX1_shiftSpan_42 rfl ?_
    refine bd_callV (vs := fun (r : Int32 × Wd) => some (.int r.1)) (wf := fun (r : Int32 × Wd) => r.2) (st := []) (st1 := fun p7 => Value.int p7.1 :: []) C [.int l3, .int l4, .long x5] (fun r9 e9 => mX7_insert C.flag N h4 e9) mwX7_insert miX7_insert wd_757 h4 (by decide) rfl rfl rfl (Nat.le_of_ble_eq_true rfl) dX1_shiftSpan_44 ⟨rfl, rfl, Nat.le_of_ble_eq_true rfl, Nat.le_of_ble_eq_true rfl, Nat.le_of_ble_eq_true rfl, Nat.le_of_ble_eq_true rfl⟩ (fun _ => rfl) (fun p7 ep7 => ?_)
    refine bd_istore C [(9, .int p7.1), (7, .long x5), (6, .ref x3), (0, .ref l0), (1, .int l1), (2, .int l2), (3, .int l3), (4, .int l4), (5, .ref l5)] dX1_shiftSpan_47 (by decide) rfl ?_
    refine bd_aload_n C 3 dX1_shiftSpan_49 rfl rfl ?_
    refine bd_iload_n C 4 dX1_shiftSpan_50 rfl rfl ?_
    refine bd_callV (vs := fun (r : Int32) => some (.int r)) (wf := fun _ => p7.2) (st := []) (st1 := fun x8 => Value.int x8 :: []) C [.int l1] (fun r9 e9 => mX1_lowestBereft C.flag N ol0 e9) mwX1_lowestBereft miX1_lowestBereft wd_828 ol0 (by decide) rfl rfl rfl (Nat.le_of_ble_eq_true rfl) dX1_shiftSpan_51 ⟨rfl, rfl, Nat.le_of_ble_eq_true rfl, Nat.le_of_ble_eq_true rfl, Nat.le_of_ble_eq_true rfl, Nat.le_of_ble_eq_true rfl⟩ (fun _ => rfl) (fun x8 ex8 => ?_)
    refine bd_istore C [(10, .int x8), (9, .int p7.1), (7, .long x5), (6, .ref x3), (0, .ref l0), (1, .int l1), (2, .int l2), (3, .int l3), (4, .int l4), (5, .ref l5)] dX1_shiftSpan_54 (by decide) rfl ?_
    refine bd_iload C 0 dX1_shiftSpan_56 rfl ?_
    refine bd_if_lt C 72 dX1_shiftSpan_58 (by decide) (fun c9 => ?_) (fun c9 => ?_)
    · refine bd_iload C 1 dX1_shiftSpan_72 rfl ?_
      exact bd_iret C hret rfl _ _ rfl rfl dX1_shiftSpan_74 (Nat.le_refl _) (Nat.le_refl _)
    · refine bd_aload C 9 dX1_shiftSpan_61 rfl ?_
      refine bd_iconst C (v := 4) dX1_shiftSpan_63 (by decide) ?_
      refine bd_iload C 0 dX1_shiftSpan_64 rfl ?_
      refine bd_callV (vs := fun (r : Int32 × Wd) => some (.int r.1)) (wf := fun (r : Int32 × Wd) => r.2) (st := []) (st1 := fun p10 => Value.int p10.1 :: []) C [.int 4, .int x8] (fun r9 e9 => mX6_refuse C.flag N ol5 e9) mwX6_refuse miX6_refuse wd_748 ol5 (by decide) rfl rfl rfl (Nat.le_of_ble_eq_true rfl) dX1_shiftSpan_66 ⟨rfl, rfl, Nat.le_of_ble_eq_true rfl, Nat.le_of_ble_eq_true rfl, Nat.le_of_ble_eq_true rfl, Nat.le_of_ble_eq_true rfl⟩ (fun _ => rfl) (fun p10 ep10 => ?_)
      refine bd_goto C 74 dX1_shiftSpan_69 (by decide) ?_
      exact bd_iret C hret rfl _ _ rfl rfl dX1_shiftSpan_74 (Nat.le_refl _) (Nat.le_refl _)
  · refine bd_iconst C (v := (-1)) dX1_shiftSpan_14 (by decide) ?_
    exact bd_iret C hret rfl _ _ rfl rfl dX1_shiftSpan_15 (Nat.le_refl _) (Nat.le_refl _)
abbrev rmX1_cutSpan : Room := { frames := 15, cells := 0, slots := 0, locals := 420 }
abbrev qX1_cutSpan (G : Gy) (F : Fr) (g : Bd) : (Int32 × Wd) → State → Prop := fun r => QM G F g 0 0 ((fun (r : Int32 × Wd) => some (.int r.1)) r) ((fun (r : Int32 × Wd) => r.2) r)
set_option maxRecDepth 20000 in
set_option maxHeartbeats 4000000 in
theorem mX1_cutSpan {l : Launch} (hf9 : l.stackTraces = false) {G : Gy} {F : Fr} (N : Nat) {w : Wd} {l0 : Nat} {l1 : Int32} {l2 : Int32} {l3 : Int32} {l4 : Nat} {r : Int32 × Wd} (ol0 : okF F l0 1) (ol4 : okF F l4 6) (e9 : fX1_cutSpan F N w l0 l1 l2 l3 l4 = some r) : Met l yX1_cutSpan [.code yX1_cutSpan cX1_cutSpan 9 (some .int)] rmX1_cutSpan (PcB G F w [.ref l0, .int l1, .int l2, .int l3, .ref l4]) (QB G F ((fun (r : Int32 × Wd) => some (.int r.1)) r) ((fun (r : Int32 × Wd) => r.2) r)) 0 0 (AF F) := by
  refine bd_met (vs := fun (r : Int32 × Wd) => some (.int r.1)) (wf := fun (r : Int32 × Wd) => r.2) hf9 (by decide) (Nat.le_of_ble_eq_true rfl) e9 (fun g C hret hini => ?_)
  clear e9 r
  have hb73 : ∀  (w : Wd) (l4 : Nat) (ol4 : okF F l4 6), BD g G F 9 (qX1_cutSpan G F g) 0 0 (fX1_cutSpan_73 F N w l4) w 73 [(4, .ref l4)] [] := by
    intro w l4 ol4
    unfold fX1_cutSpan_73
    refine bd_aload C 0 dX1_cutSpan_73 rfl ?_
    refine bd_iconst C (v := 3) dX1_cutSpan_75 (by decide) ?_
    refine bd_iconst C (v := 0) dX1_cutSpan_76 (by decide) ?_
    refine bd_callV (vs := fun (r : Int32 × Wd) => some (.int r.1)) (wf := fun (r : Int32 × Wd) => r.2) (st := []) (st1 := fun p2 => Value.int p2.1 :: []) C [.int 3, .int 0] (fun r9 e9 => mX6_refuse C.flag N ol4 e9) mwX6_refuse miX6_refuse wd_748 ol4 (by decide) rfl rfl rfl (Nat.le_of_ble_eq_true rfl) dX1_cutSpan_77 ⟨rfl, rfl, Nat.le_of_ble_eq_true rfl, Nat.le_of_ble_eq_true rfl, Nat.le_of_ble_eq_true rfl, Nat.le_of_ble_eq_true rfl⟩ (fun _ => rfl) (fun p2 ep2 => ?_)
    exact bd_iret C hret rfl _ _ rfl rfl dX1_cutSpan_80 (Nat.le_refl _) (Nat.le_refl _)
  have hb35 : ∀  (w : Wd) (l4 : Nat) (ol4 : okF F l4 6), BD g G F 9 (qX1_cutSpan G F g) 0 0 (fX1_cutSpan_35 F N w l4) w 35 [(4, .ref l4)] [] := by
    intro w l4 ol4
    unfold fX1_cutSpan_35
    refine bd_aload C 0 dX1_cutSpan_35 rfl ?_
    refine bd_iconst C (v := 1) dX1_cutSpan_37 (by decide) ?_
    refine bd_iconst C (v := 0) dX1_cutSpan_38 (by decide) ?_
    refine bd_callV (vs := fun (r : Int32 × Wd) => some (.int r.1)) (wf := fun (r : Int32 × Wd) => r.2) (st := []) (st1 := fun p1 => Value.int p1.1 :: []) C [.int 1, .int 0] (fun r9 e9 => mX6_refuse C.flag N ol4 e9) mwX6_refuse miX6_refuse wd_748 ol4 (by decide) rfl rfl rfl (Nat.le_of_ble_eq_true rfl) dX1_cutSpan_39 ⟨rfl, rfl, Nat.le_of_ble_eq_true rfl, Nat.le_of_ble_eq_true rfl, Nat.le_of_ble_eq_true rfl, Nat.le_of_ble_eq_true rfl⟩ (fun _ => rfl) (fun p1 ep1 => ?_)
    exact bd_iret C hret rfl _ _ rfl rfl dX1_cutSpan_42 (Nat.le_refl _) (Nat.le_refl _)
  unfold fX1_cutSpan
  refine bd_sub (lv' := [(0, .ref l0), (1, .int l1), (2, .int l2), (3, .int l3), (4, .ref l4)]) ?_ [0, 1, 2, 3, 4] rfl
  refine bd_aload_n C 0 dX1_cutSpan_0 rfl rfl ?_
  refine bd_iload_n C 1 dX1_cutSpan_1 rfl rfl ?_
  refine bd_callV (vs := fun (r : Nat) => some (.ref r)) (wf := fun _ => w) (st := []) (st1 := fun x3 => Value.ref x3 :: []) C [.int l1] (fun r9 e9 => mX1_present C.flag N ol0 e9) mwX1_present miX1_present wd_752 ol0 (by decide) rfl rfl rfl (Nat.le_of_ble_eq_true rfl) dX1_cutSpan_2 ⟨rfl, rfl, Nat.le_of_ble_eq_true rfl, Nat.le_of_ble_eq_true rfl, Nat.le_of_ble_eq_true rfl, Nat.le_of_ble_eq_true rfl⟩ (fun _ => rfl) (fun x3 ex3 => ?_)
  refine bd_ckF (fun h4 => ?_)
  refine bd_astore C [(5, .ref x3), (0, .ref l0), (1, .int l1), (2, .int l2), (3, .int l3), (4, .ref l4)] dX1_cutSpan_5 (by decide) rfl ?_
  refine bd_aload C 0 dX1_cutSpan_7 rfl ?_
  refine bd_iload_n C 3 dX1_cutSpan_9 rfl rfl ?_
  refine bd_callV (vs := fun (r : Int32) => some (.int r)) (wf := fun _ => w) (st := []) (st1 := fun x5 => Value.int x5 :: []) C [.int l2] (fun r9 e9 => mX7_first C.flag N h4 e9) mwX7_first miX7_first wd_430 h4 (by decide) rfl rfl rfl (Nat.le_of_ble_eq_true rfl) dX1_cutSpan_10 ⟨rfl, rfl, Nat.le_of_ble_eq_true rfl, Nat.le_of_ble_eq_true rfl, Nat.le_of_ble_eq_true rfl, Nat.le_of_ble_eq_true rfl⟩ (fun _ => rfl) (fun x5 ex5 => ?_)
  refine bd_istore C [(6, .int x5), (5, .ref x3), (0, .ref l0), (1, .int l1), (2, .int l2), (3, .int l3), (4, .ref l4)] dX1_cutSpan_13 (by decide) rfl ?_
  refine bd_aload C 1 dX1_cutSpan_15 rfl ?_
  refine bd_iload_n C 4 dX1_cutSpan_17 rfl rfl ?_
  refine bd_callV (vs := fun (r : Int32) => some (.int r)) (wf := fun _ => w) (st := []) (st1 := fun x6 => Value.int x6 :: []) C [.int l2] (fun r9 e9 => mX7_end C.flag N h4 e9) mwX7_end miX7_end wd_431 h4 (by decide) rfl rfl rfl (Nat.le_of_ble_eq_true rfl) dX1_cutSpan_18 ⟨rfl, rfl, Nat.le_of_ble_eq_true rfl, Nat.le_of_ble_eq_true rfl, Nat.le_of_ble_eq_true rfl, Nat.le_of_ble_eq_true rfl⟩ (fun _ => rfl) (fun x6 ex6 => ?_)
  refine bd_istore C [(7, .int x6), (6, .int x5), (5, .ref x3), (0, .ref l0), (1, .int l1), (2, .int l2), (3, .int l3), (4, .ref l4)] dX1_cutSpan_21 (by decide) rfl ?_
  refine bd_iload_n C 6 dX1_cutSpan_23 rfl rfl ?_
  refine bd_iload C 1 dX1_cutSpan_24 rfl ?_
  refine bd_icmp_le C 35 dX1_cutSpan_26 (by decide) (fun c7 => ?_) (fun c7 => ?_)
  · exact bd_sub (hb35 w l4 ol4) [7] rfl
  · refine bd_iload_n C 6 dX1_cutSpan_29 rfl rfl ?_
    refine bd_iload C 0 dX1_cutSpan_30 rfl ?_
    refine bd_icmp_lt C 43 dX1_cutSpan_32 (by decide) (fun c8 => ?_) (fun c8 => ?_)
    · refine bd_aload_n C 3 dX1_cutSpan_43 rfl rfl ?_
      refine bd_aload_n C 3 dX1_cutSpan_44 rfl rfl ?_
      refine bd_gI C fi106 fv106 wd_158 dX1_cutSpan_45 ol0 ?_
      refine bd_iload_n C 4 dX1_cutSpan_48 rfl rfl ?_
      refine bd_iload C 1 dX1_cutSpan_49 rfl ?_
      refine bd_iload_n C 6 dX1_cutSpan_51 rfl rfl ?_
      refine bd_callV (vs := fun (r : Int32) => some (.int r)) (wf := fun _ => w) (st := []) (st1 := fun x9 => Value.int x9 :: []) C [.int (gI w 106 l0), .int l1, .int x5, .int l3] (fun r9 e9 => mX1_lacksHost C.flag N ol0 e9) mwX1_lacksHost miX1_lacksHost wd_432 ol0 (by decide) rfl rfl rfl (Nat.le_of_ble_eq_true rfl) dX1_cutSpan_52 ⟨rfl, rfl, Nat.le_of_ble_eq_true rfl, Nat.le_of_ble_eq_true rfl, Nat.le_of_ble_eq_true rfl, Nat.le_of_ble_eq_true rfl⟩ (fun _ => rfl) (fun x9 ex9 => ?_)
      refine bd_if_ne C 73 dX1_cutSpan_55 (by decide) (fun c10 => ?_) (fun c10 => ?_)
      · exact bd_sub (hb73 w l4 ol4) [7] rfl
      · refine bd_aload_n C 3 dX1_cutSpan_58 rfl rfl ?_
        refine bd_aload_n C 3 dX1_cutSpan_59 rfl rfl ?_
        refine bd_gI C fi106 fv106 wd_158 dX1_cutSpan_60 ol0 ?_
        refine bd_iload_n C 4 dX1_cutSpan_63 rfl rfl ?_
        refine bd_iload_n C 6 dX1_cutSpan_64 rfl rfl ?_
        refine bd_iload C 0 dX1_cutSpan_65 rfl ?_
        refine bd_callV (vs := fun (r : Int32) => some (.int r)) (wf := fun _ => w) (st := []) (st1 := fun x11 => Value.int x11 :: []) C [.int (gI w 106 l0), .int l1, .int l3, .int x6] (fun r9 e9 => mX1_lacksHost C.flag N ol0 e9) mwX1_lacksHost miX1_lacksHost wd_432 ol0 (by decide) rfl rfl rfl (Nat.le_of_ble_eq_true rfl) dX1_cutSpan_67 ⟨rfl, rfl, Nat.le_of_ble_eq_true rfl, Nat.le_of_ble_eq_true rfl, Nat.le_of_ble_eq_true rfl, Nat.le_of_ble_eq_true rfl⟩ (fun _ => rfl) (fun x11 ex11 => ?_)
        refine bd_if_eq C 81 dX1_cutSpan_70 (by decide) (fun c12 => ?_) (fun c12 => ?_)
        · refine bd_aload C 2 dX1_cutSpan_81 rfl ?_
          refine bd_iload_n C 5 dX1_cutSpan_83 rfl rfl ?_
          refine bd_iload C 1 dX1_cutSpan_84 rfl ?_
          refine bd_iload_n C 6 dX1_cutSpan_86 rfl rfl ?_
          refine bd_callV (vs := fun _ => none) (wf := fun (r : Wd) => r) (st := []) (st1 := fun p13 => []) C [.int l2, .int x5, .int l3] (fun r9 e9 => mX7_setFrames C.flag N h4 e9) mwX7_setFrames miX7_setFrames wd_853 h4 (by decide) rfl rfl rfl (Nat.le_of_ble_eq_true rfl) dX1_cutSpan_87 ⟨rfl, rfl, Nat.le_of_ble_eq_true rfl, Nat.le_of_ble_eq_true rfl, Nat.le_of_ble_eq_true rfl, Nat.le_of_ble_eq_true rfl⟩ (fun _ => rfl) (fun p13 ep13 => ?_)
          refine bd_aload C 2 dX1_cutSpan_90 rfl ?_
          refine bd_iload_n C 6 dX1_cutSpan_92 rfl rfl ?_
          refine bd_iload C 0 dX1_cutSpan_93 rfl ?_
          refine bd_aload C 2 dX1_cutSpan_95 rfl ?_
          refine bd_iload_n C 5 dX1_cutSpan_97 rfl rfl ?_
          refine bd_callV (vs := fun (r : Int64) => some (.long r)) (wf := fun _ => p13) (st := [.int x6, .int l3, .ref x3]) (st1 := fun x14 => Value.long x14 :: [.int x6, .int l3, .ref x3]) C [.int l2] (fun r9 e9 => mX7_label C.flag N h4 e9) mwX7_label miX7_label wd_827 h4 (by decide) rfl rfl rfl (Nat.le_of_ble_eq_true rfl) dX1_cutSpan_98 ⟨rfl, rfl, Nat.le_of_ble_eq_true rfl, Nat.le_of_ble_eq_true rfl, Nat.le_of_ble_eq_true rfl, Nat.le_of_ble_eq_true rfl⟩ (fun _ => rfl) (fun x14 ex14 => ?_)
          refine bd_callV (vs := fun (r : Int32 × Wd) => some (.int r.1)) (wf := fun (r : Int32 × Wd) => r.2) (st := []) (st1 := fun p15 => Value.int p15.1 :: []) C [.int l3, .int x6, .long x14] (fun r9 e9 => mX7_insert C.flag N h4 e9) mwX7_insert miX7_insert wd_757 h4 (by decide) rfl rfl rfl (Nat.le_of_ble_eq_true rfl) dX1_cutSpan_101 ⟨rfl, rfl, Nat.le_of_ble_eq_true rfl, Nat.le_of_ble_eq_true rfl, Nat.le_of_ble_eq_true rfl, Nat.le_of_ble_eq_true rfl⟩ (fun _ => rfl) (fun p15 ep15 => ?_)
          refine bd_pop C dX1_cutSpan_104 rfl ?_
          refine bd_aload_n C 3 dX1_cutSpan_105 rfl rfl ?_
          refine bd_iload_n C 4 dX1_cutSpan_106 rfl rfl ?_
          refine bd_callV (vs := fun (r : Int32) => some (.int r)) (wf := fun _ => p15.2) (st := []) (st1 := fun x16 => Value.int x16 :: []) C [.int l1] (fun r9 e9 => mX1_lowestBereft C.flag N ol0 e9) mwX1_lowestBereft miX1_lowestBereft wd_828 ol0 (by decide) rfl rfl rfl (Nat.le_of_ble_eq_true rfl) dX1_cutSpan_107 ⟨rfl, rfl, Nat.le_of_ble_eq_true rfl, Nat.le_of_ble_eq_true rfl, Nat.le_of_ble_eq_true rfl, Nat.le_of_ble_eq_true rfl⟩ (fun _ => rfl) (fun x16 ex16 => ?_)
          refine bd_istore C [(8, .int x16), (7, .int x6), (6, .int x5), (5, .ref x3), (0, .ref l0), (1, .int l1), (2, .int l2), (3, .int l3), (4, .ref l4)] dX1_cutSpan_110 (by decide) rfl ?_
          refine bd_iload C 0 dX1_cutSpan_112 rfl ?_
          refine bd_if_lt C 126 dX1_cutSpan_114 (by decide) (fun c17 => ?_) (fun c17 => ?_)
          · refine bd_aload C 3 dX1_cutSpan_126 rfl ?_
            refine bd_gIN C fi703 fv703 wd_133 dX1_cutSpan_128 h4 ?_
            refine bd_bipush C (v := 30) dX1_cutSpan_131 (by decide) ?_
            refine bd_icmp_le C 146 dX1_cutSpan_133 (by decide) (fun c18 => ?_) (fun c18 => ?_)
            · refine bd_aload C 3 dX1_cutSpan_146 rfl ?_
              refine bd_gIN C fi703 fv703 wd_133 dX1_cutSpan_148 h4 ?_
              exact bd_iret C hret rfl _ _ rfl rfl dX1_cutSpan_151 (Nat.le_refl _) (Nat.le_refl _)
            · refine bd_aload C 8 dX1_cutSpan_136 rfl ?_
              refine bd_iconst C (v := 5) dX1_cutSpan_138 (by decide) ?_
              refine bd_iconst C (v := 0) dX1_cutSpan_139 (by decide) ?_
              refine bd_callV (vs := fun (r : Int32 × Wd) => some (.int r.1)) (wf := fun (r : Int32 × Wd) => r.2) (st := []) (st1 := fun p19 => Value.int p19.1 :: []) C [.int 5, .int 0] (fun r9 e9 => mX6_refuse C.flag N ol4 e9) mwX6_refuse miX6_refuse wd_748 ol4 (by decide) rfl rfl rfl (Nat.le_of_ble_eq_true rfl) dX1_cutSpan_140 ⟨rfl, rfl, Nat.le_of_ble_eq_true rfl, Nat.le_of_ble_eq_true rfl, Nat.le_of_ble_eq_true rfl, Nat.le_of_ble_eq_true rfl⟩ (fun _ => rfl) (fun p19 ep19 => ?_)
              refine bd_goto C 151 dX1_cutSpan_143 (by decide) ?_
              exact bd_iret C hret rfl _ _ rfl rfl dX1_cutSpan_151 (Nat.le_refl _) (Nat.le_refl _)
          · refine bd_aload C 8 dX1_cutSpan_117 rfl ?_
            refine bd_iconst C (v := 4) dX1_cutSpan_119 (by decide) ?_
            refine bd_iload C 0 dX1_cutSpan_120 rfl ?_
            refine bd_callV (vs := fun (r : Int32 × Wd) => some (.int r.1)) (wf := fun (r : Int32 × Wd) => r.2) (st := []) (st1 := fun p20 => Value.int p20.1 :: []) C [.int 4, .int x16] (fun r9 e9 => mX6_refuse C.flag N ol4 e9) mwX6_refuse miX6_refuse wd_748 ol4 (by decide) rfl rfl rfl (Nat.le_of_ble_eq_true rfl) dX1_cutSpan_122 ⟨rfl, rfl, Nat.le_of_ble_eq_true rfl, Nat.le_of_ble_eq_true rfl, Nat.le_of_ble_eq_true rfl, Nat.le_of_ble_eq_true rfl⟩ (fun _ => rfl) (fun p20 ep20 => ?_)
            exact bd_iret C hret rfl _ _ rfl rfl dX1_cutSpan_125 (Nat.le_refl _) (Nat.le_refl _)
        · exact bd_sub (hb73 w l4 ol4) [7] rfl
    · exact bd_sub (hb35 w l4 ol4) [7] rfl
abbrev rmX1_uniteSpan : Room := { frames := 15, cells := 0, slots := 0, locals := 420 }
abbrev qX1_uniteSpan (G : Gy) (F : Fr) (g : Bd) : (Int32 × Wd) → State → Prop := fun r => QM G F g 0 0 ((fun (r : Int32 × Wd) => some (.int r.1)) r) ((fun (r : Int32 × Wd) => r.2) r)
set_option maxRecDepth 20000 in
set_option maxHeartbeats 4000000 in
theorem mX1_uniteSpan {l : Launch} (hf9 : l.stackTraces = false) {G : Gy} {F : Fr} (N : Nat) {w : Wd} {l0 : Nat} {l1 : Int32} {l2 : Int32} {l3 : Nat} {r : Int32 × Wd} (ol0 : okF F l0 1) (ol3 : okF F l3 6) (e9 : fX1_uniteSpan F N w l0 l1 l2 l3 = some r) : Met l yX1_uniteSpan [.code yX1_uniteSpan cX1_uniteSpan 8 (some .int)] rmX1_uniteSpan (PcB G F w [.ref l0, .int l1, .int l2, .ref l3]) (QB G F ((fun (r : Int32 × Wd) => some (.int r.1)) r) ((fun (r : Int32 × Wd) => r.2) r)) 0 0 (AF F) := by
  refine bd_met (vs := fun (r : Int32 × Wd) => some (.int r.1)) (wf := fun (r : Int32 × Wd) => r.2) hf9 (by decide) (Nat.le_of_ble_eq_true rfl) e9 (fun g C hret hini => ?_)
  clear e9 r
  unfold fX1_uniteSpan
  refine bd_sub (lv' := [(0, .ref l0), (1, .int l1), (2, .int l2), (3, .ref l3)]) ?_ [0, 1, 2, 3] rfl
  refine bd_aload_n C 0 dX1_uniteSpan_0 rfl rfl ?_
  refine bd_iload_n C 1 dX1_uniteSpan_1 rfl rfl ?_
  refine bd_callV (vs := fun (r : Nat) => some (.ref r)) (wf := fun _ => w) (st := []) (st1 := fun x1 => Value.ref x1 :: []) C [.int l1] (fun r9 e9 => mX1_present C.flag N ol0 e9) mwX1_present miX1_present wd_752 ol0 (by decide) rfl rfl rfl (Nat.le_of_ble_eq_true rfl) dX1_uniteSpan_2 ⟨rfl, rfl, Nat.le_of_ble_eq_true rfl, Nat.le_of_ble_eq_true rfl, Nat.le_of_ble_eq_true rfl, Nat.le_of_ble_eq_true rfl⟩ (fun _ => rfl) (fun x1 ex1 => ?_)
  refine bd_ckF (fun h2 => ?_)
  refine bd_astore C [(4, .ref x1), (0, .ref l0), (1, .int l1), (2, .int l2), (3, .ref l3)] dX1_uniteSpan_5 (by decide) rfl ?_
  refine bd_iload_n C 3 dX1_uniteSpan_7 rfl rfl ?_
  refine bd_iconst C (v := 1) dX1_uniteSpan_8 (by decide) ?_
  refine bd_iadd C dX1_uniteSpan_9 ?_
  refine bd_aload C 0 dX1_uniteSpan_10 rfl ?_
  refine bd_gIN C fi703 fv703 wd_133 dX1_uniteSpan_12 h2 ?_
  refine bd_icmp_lt C 25 dX1_uniteSpan_15 (by decide) (fun c3 => ?_) (fun c3 => ?_)
  · refine bd_aload C 0 dX1_uniteSpan_25 rfl ?_
    refine bd_iload_n C 3 dX1_uniteSpan_27 rfl rfl ?_
    refine bd_callV (vs := fun (r : Int32) => some (.int r)) (wf := fun _ => w) (st := []) (st1 := fun x4 => Value.int x4 :: []) C [.int l2] (fun r9 e9 => mX7_first C.flag N h2 e9) mwX7_first miX7_first wd_430 h2 (by decide) rfl rfl rfl (Nat.le_of_ble_eq_true rfl) dX1_uniteSpan_28 ⟨rfl, rfl, Nat.le_of_ble_eq_true rfl, Nat.le_of_ble_eq_true rfl, Nat.le_of_ble_eq_true rfl, Nat.le_of_ble_eq_true rfl⟩ (fun _ => rfl) (fun x4 ex4 => ?_)
    refine bd_istore C [(5, .int x4), (4, .ref x1), (0, .ref l0), (1, .int l1), (2, .int l2), (3, .ref l3)] dX1_uniteSpan_31 (by decide) rfl ?_
    refine bd_aload C 1 dX1_uniteSpan_33 rfl ?_
    refine bd_iload_n C 4 dX1_uniteSpan_35 rfl rfl ?_
    refine bd_iconst C (v := 1) dX1_uniteSpan_36 (by decide) ?_
    refine bd_iadd C dX1_uniteSpan_37 ?_
    refine bd_callV (vs := fun (r : Int32) => some (.int r)) (wf := fun _ => w) (st := []) (st1 := fun x5 => Value.int x5 :: []) C [.int (l2 + 1)] (fun r9 e9 => mX7_end C.flag N h2 e9) mwX7_end miX7_end wd_431 h2 (by decide) rfl rfl rfl (Nat.le_of_ble_eq_true rfl) dX1_uniteSpan_38 ⟨rfl, rfl, Nat.le_of_ble_eq_true rfl, Nat.le_of_ble_eq_true rfl, Nat.le_of_ble_eq_true rfl, Nat.le_of_ble_eq_true rfl⟩ (fun _ => rfl) (fun x5 ex5 => ?_)
    refine bd_istore C [(6, .int x5), (5, .int x4), (4, .ref x1), (0, .ref l0), (1, .int l1), (2, .int l2), (3, .ref l3)] dX1_uniteSpan_41 (by decide) rfl ?_
    refine bd_aload_n C 3 dX1_uniteSpan_43 rfl rfl ?_
    refine bd_aload_n C 3 dX1_uniteSpan_44 rfl rfl ?_
    refine bd_gI C fi106 fv106 wd_158 dX1_uniteSpan_45 ol0 ?_
    refine bd_iload_n C 4 dX1_uniteSpan_48 rfl rfl ?_
    refine bd_iload C 1 dX1_uniteSpan_49 rfl ?_
    refine bd_iload C 0 dX1_uniteSpan_51 rfl ?_
    refine bd_callV (vs := fun (r : Int32) => some (.int r)) (wf := fun _ => w) (st := []) (st1 := fun x6 => Value.int x6 :: []) C [.int (gI w 106 l0), .int l1, .int x4, .int x5] (fun r9 e9 => mX1_lacksHost C.flag N ol0 e9) mwX1_lacksHost miX1_lacksHost wd_432 ol0 (by decide) rfl rfl rfl (Nat.le_of_ble_eq_true rfl) dX1_uniteSpan_53 ⟨rfl, rfl, Nat.le_of_ble_eq_true rfl, Nat.le_of_ble_eq_true rfl, Nat.le_of_ble_eq_true rfl, Nat.le_of_ble_eq_true rfl⟩ (fun _ => rfl) (fun x6 ex6 => ?_)
    refine bd_if_eq C 66 dX1_uniteSpan_56 (by decide) (fun c7 => ?_) (fun c7 => ?_)
    · refine bd_aload C 2 dX1_uniteSpan_66 rfl ?_
      refine bd_iload_n C 5 dX1_uniteSpan_68 rfl rfl ?_
      refine bd_iload C 1 dX1_uniteSpan_69 rfl ?_
      refine bd_iload C 0 dX1_uniteSpan_71 rfl ?_
      refine bd_callV (vs := fun _ => none) (wf := fun (r : Wd) => r) (st := []) (st1 := fun p8 => []) C [.int l2, .int x4, .int x5] (fun r9 e9 => mX7_setFrames C.flag N h2 e9) mwX7_setFrames miX7_setFrames wd_853 h2 (by decide) rfl rfl rfl (Nat.le_of_ble_eq_true rfl) dX1_uniteSpan_73 ⟨rfl, rfl, Nat.le_of_ble_eq_true rfl, Nat.le_of_ble_eq_true rfl, Nat.le_of_ble_eq_true rfl, Nat.le_of_ble_eq_true rfl⟩ (fun _ => rfl) (fun p8 ep8 => ?_)
      refine bd_aload C 2 dX1_uniteSpan_76 rfl ?_
      refine bd_iload_n C 5 dX1_uniteSpan_78 rfl rfl ?_
      refine bd_iconst C (v := 1) dX1_uniteSpan_79 (by decide) ?_
      refine bd_iadd C dX1_uniteSpan_80 ?_
      refine bd_callV (vs := fun _ => none) (wf := fun (r : Wd) => r) (st := []) (st1 := fun p9 => []) C [.int (l2 + 1)] (fun r9 e9 => mX7_delete C.flag N h2 e9) mwX7_delete miX7_delete wd_808 h2 (by decide) rfl rfl rfl (Nat.le_of_ble_eq_true rfl) dX1_uniteSpan_81 ⟨rfl, rfl, Nat.le_of_ble_eq_true rfl, Nat.le_of_ble_eq_true rfl, Nat.le_of_ble_eq_true rfl, Nat.le_of_ble_eq_true rfl⟩ (fun _ => rfl) (fun p9 ep9 => ?_)
      refine bd_aload_n C 3 dX1_uniteSpan_84 rfl rfl ?_
      refine bd_iload_n C 4 dX1_uniteSpan_85 rfl rfl ?_
      refine bd_callV (vs := fun (r : Int32) => some (.int r)) (wf := fun _ => p9) (st := []) (st1 := fun x10 => Value.int x10 :: []) C [.int l1] (fun r9 e9 => mX1_lowestBereft C.flag N ol0 e9) mwX1_lowestBereft miX1_lowestBereft wd_828 ol0 (by decide) rfl rfl rfl (Nat.le_of_ble_eq_true rfl) dX1_uniteSpan_86 ⟨rfl, rfl, Nat.le_of_ble_eq_true rfl, Nat.le_of_ble_eq_true rfl, Nat.le_of_ble_eq_true rfl, Nat.le_of_ble_eq_true rfl⟩ (fun _ => rfl) (fun x10 ex10 => ?_)
      refine bd_istore C [(7, .int x10), (6, .int x5), (5, .int x4), (4, .ref x1), (0, .ref l0), (1, .int l1), (2, .int l2), (3, .ref l3)] dX1_uniteSpan_89 (by decide) rfl ?_
      refine bd_iload C 0 dX1_uniteSpan_91 rfl ?_
      refine bd_if_lt C 106 dX1_uniteSpan_93 (by decide) (fun c11 => ?_) (fun c11 => ?_)
      · refine bd_aload C 3 dX1_uniteSpan_106 rfl ?_
        refine bd_gIN C fi703 fv703 wd_133 dX1_uniteSpan_108 h2 ?_
        exact bd_iret C hret rfl _ _ rfl rfl dX1_uniteSpan_111 (Nat.le_refl _) (Nat.le_refl _)
      · refine bd_aload_n C 7 dX1_uniteSpan_96 rfl rfl ?_
        refine bd_iconst C (v := 4) dX1_uniteSpan_97 (by decide) ?_
        refine bd_iload C 0 dX1_uniteSpan_98 rfl ?_
        refine bd_callV (vs := fun (r : Int32 × Wd) => some (.int r.1)) (wf := fun (r : Int32 × Wd) => r.2) (st := []) (st1 := fun p12 => Value.int p12.1 :: []) C [.int 4, .int x10] (fun r9 e9 => mX6_refuse C.flag N ol3 e9) mwX6_refuse miX6_refuse wd_748 ol3 (by decide) rfl rfl rfl (Nat.le_of_ble_eq_true rfl) dX1_uniteSpan_100 ⟨rfl, rfl, Nat.le_of_ble_eq_true rfl, Nat.le_of_ble_eq_true rfl, Nat.le_of_ble_eq_true rfl, Nat.le_of_ble_eq_true rfl⟩ (fun _ => rfl) (fun p12 ep12 => ?_)
        refine bd_goto C 111 dX1_uniteSpan_103 (by decide) ?_
        exact bd_iret C hret rfl _ _ rfl rfl dX1_uniteSpan_111 (Nat.le_refl _) (Nat.le_refl _)
    · refine bd_aload_n C 6 dX1_uniteSpan_59 rfl rfl ?_
      refine bd_iconst C (v := 3) dX1_uniteSpan_60 (by decide) ?_
      refine bd_iconst C (v := 0) dX1_uniteSpan_61 (by decide) ?_
      refine bd_callV (vs := fun (r : Int32 × Wd) => some (.int r.1)) (wf := fun (r : Int32 × Wd) => r.2) (st := []) (st1 := fun p13 => Value.int p13.1 :: []) C [.int 3, .int 0] (fun r9 e9 => mX6_refuse C.flag N ol3 e9) mwX6_refuse miX6_refuse wd_748 ol3 (by decide) rfl rfl rfl (Nat.le_of_ble_eq_true rfl) dX1_uniteSpan_62 ⟨rfl, rfl, Nat.le_of_ble_eq_true rfl, Nat.le_of_ble_eq_true rfl, Nat.le_of_ble_eq_true rfl, Nat.le_of_ble_eq_true rfl⟩ (fun _ => rfl) (fun p13 ep13 => ?_)
      exact bd_iret C hret rfl _ _ rfl rfl dX1_uniteSpan_65 (Nat.le_refl _) (Nat.le_refl _)
  · refine bd_aload_n C 4 dX1_uniteSpan_18 rfl rfl ?_
    refine bd_iconst C (v := 1) dX1_uniteSpan_19 (by decide) ?_
    refine bd_iconst C (v := 0) dX1_uniteSpan_20 (by decide) ?_
    refine bd_callV (vs := fun (r : Int32 × Wd) => some (.int r.1)) (wf := fun (r : Int32 × Wd) => r.2) (st := []) (st1 := fun p14 => Value.int p14.1 :: []) C [.int 1, .int 0] (fun r9 e9 => mX6_refuse C.flag N ol3 e9) mwX6_refuse miX6_refuse wd_748 ol3 (by decide) rfl rfl rfl (Nat.le_of_ble_eq_true rfl) dX1_uniteSpan_21 ⟨rfl, rfl, Nat.le_of_ble_eq_true rfl, Nat.le_of_ble_eq_true rfl, Nat.le_of_ble_eq_true rfl, Nat.le_of_ble_eq_true rfl⟩ (fun _ => rfl) (fun p14 ep14 => ?_)
    exact bd_iret C hret rfl _ _ rfl rfl dX1_uniteSpan_24 (Nat.le_refl _) (Nat.le_refl _)
abbrev rmX1_dropOrphans : Room := { frames := 13, cells := 0, slots := 0, locals := 374 }
abbrev qX1_dropOrphans (G : Gy) (F : Fr) (g : Bd) : (Int32 × Wd) → State → Prop := fun r => QM G F g 0 0 ((fun (r : Int32 × Wd) => some (.int r.1)) r) ((fun (r : Int32 × Wd) => r.2) r)
set_option maxRecDepth 20000 in
set_option maxHeartbeats 4000000 in
theorem mX1_dropOrphans {l : Launch} (hf9 : l.stackTraces = false) {G : Gy} {F : Fr} (N : Nat) {w : Wd} {l0 : Nat} {l1 : Int32} {r : Int32 × Wd} (ol0 : okF F l0 1) (e9 : fX1_dropOrphans F N w l0 l1 = some r) : Met l yX1_dropOrphans [.code yX1_dropOrphans cX1_dropOrphans 5 (some .int)] rmX1_dropOrphans (PcB G F w [.ref l0, .int l1]) (QB G F ((fun (r : Int32 × Wd) => some (.int r.1)) r) ((fun (r : Int32 × Wd) => r.2) r)) 0 0 (AF F) := by
  refine bd_met (vs := fun (r : Int32 × Wd) => some (.int r.1)) (wf := fun (r : Int32 × Wd) => r.2) hf9 (by decide) (Nat.le_of_ble_eq_true rfl) e9 (fun g C hret hini => ?_)
  clear e9 r
  have hb54 : ∀ (k16 : Wd → Nat → Int32 → Nat → Int32 → Int32 → Option (Int32 × Wd)), (∀ (w : Wd) (l0 : Nat) (l1 : Int32) (l2 : Nat) (l3 : Int32) (l4 : Int32) (ol0 : okF F l0 1) (ol2 : okF F l2 7), BD g G F 5 (qX1_dropOrphans G F g) 0 0 (k16 w l0 l1 l2 l3 l4) w 16 [(0, .ref l0), (1, .int l1), (2, .ref l2), (3, .int l3), (4, .int l4)] []) → ∀  (w : Wd) (l0 : Nat) (l1 : Int32) (l2 : Nat) (l3 : Int32) (l4 : Int32) (ol0 : okF F l0 1) (ol2 : okF F l2 7), BD g G F 5 (qX1_dropOrphans G F g) 0 0 (fX1_dropOrphans_54 F N k16 w l0 l1 l2 l3 l4) w 54 [(0, .ref l0), (1, .int l1), (2, .ref l2), (3, .int l3), (4, .int l4)] [] := by
    intro k16 hk16
    intro w l0 l1 l2 l3 l4 ol0 ol2
    unfold fX1_dropOrphans_54
    refine bd_iinc C (v := l4 + (-1)) 4 [(4, .int (l4 + (-1))), (0, .ref l0), (1, .int l1), (2, .ref l2), (3, .int l3)] dX1_dropOrphans_54 rfl rfl (by decide) rfl ?_
    refine bd_goto C 16 dX1_dropOrphans_57 (by decide) ?_
    exact bd_sub (hk16 w l0 l1 l2 l3 (l4 + (-1)) ol0 ol2) [1, 2, 3, 4, 0] rfl
  have hb16 : ∀ (n : Nat) (w : Wd) (l0 : Nat) (l1 : Int32) (l2 : Nat) (l3 : Int32) (l4 : Int32) (ol0 : okF F l0 1) (ol2 : okF F l2 7), BD g G F 5 (qX1_dropOrphans G F g) 0 0 (fX1_dropOrphans_16 F N n w l0 l1 l2 l3 l4) w 16 [(0, .ref l0), (1, .int l1), (2, .ref l2), (3, .int l3), (4, .int l4)] [] := by
    intro n
    induction n with
    | zero =>
      intro w l0 l1 l2 l3 l4 ol0 ol2
      unfold fX1_dropOrphans_16
      exact bd_none
    | succ n ih =>
      intro w l0 l1 l2 l3 l4 ol0 ol2
      unfold fX1_dropOrphans_16
      refine bd_iload C 4 dX1_dropOrphans_16 rfl ?_
      refine bd_if_lt C 60 dX1_dropOrphans_18 (by decide) (fun c1 => ?_) (fun c1 => ?_)
      · refine bd_iload_n C 3 dX1_dropOrphans_60 rfl rfl ?_
        exact bd_iret C hret rfl _ _ rfl rfl dX1_dropOrphans_61 (Nat.le_refl _) (Nat.le_refl _)
      · refine bd_aload_n C 0 dX1_dropOrphans_21 rfl rfl ?_
        refine bd_aload_n C 0 dX1_dropOrphans_22 rfl rfl ?_
        refine bd_gI C fi106 fv106 wd_158 dX1_dropOrphans_23 ol0 ?_
        refine bd_iload_n C 1 dX1_dropOrphans_26 rfl rfl ?_
        refine bd_aload_n C 2 dX1_dropOrphans_27 rfl rfl ?_
        refine bd_iload C 4 dX1_dropOrphans_28 rfl ?_
        refine bd_callV (vs := fun (r : Int32) => some (.int r)) (wf := fun _ => w) (st := [.int l1, .int (gI w 106 l0), .ref l0]) (st1 := fun x2 => Value.int x2 :: [.int l1, .int (gI w 106 l0), .ref l0]) C [.int l4] (fun r9 e9 => mX7_first C.flag N ol2 e9) mwX7_first miX7_first wd_430 ol2 (by decide) rfl rfl rfl (Nat.le_of_ble_eq_true rfl) dX1_dropOrphans_30 ⟨rfl, rfl, Nat.le_of_ble_eq_true rfl, Nat.le_of_ble_eq_true rfl, Nat.le_of_ble_eq_true rfl, Nat.le_of_ble_eq_true rfl⟩ (fun _ => rfl) (fun x2 ex2 => ?_)
        refine bd_aload_n C 2 dX1_dropOrphans_33 rfl rfl ?_
        refine bd_iload C 4 dX1_dropOrphans_34 rfl ?_
        refine bd_callV (vs := fun (r : Int32) => some (.int r)) (wf := fun _ => w) (st := [.int x2, .int l1, .int (gI w 106 l0), .ref l0]) (st1 := fun x3 => Value.int x3 :: [.int x2, .int l1, .int (gI w 106 l0), .ref l0]) C [.int l4] (fun r9 e9 => mX7_end C.flag N ol2 e9) mwX7_end miX7_end wd_431 ol2 (by decide) rfl rfl rfl (Nat.le_of_ble_eq_true rfl) dX1_dropOrphans_36 ⟨rfl, rfl, Nat.le_of_ble_eq_true rfl, Nat.le_of_ble_eq_true rfl, Nat.le_of_ble_eq_true rfl, Nat.le_of_ble_eq_true rfl⟩ (fun _ => rfl) (fun x3 ex3 => ?_)
        refine bd_callV (vs := fun (r : Int32) => some (.int r)) (wf := fun _ => w) (st := []) (st1 := fun x4 => Value.int x4 :: []) C [.int (gI w 106 l0), .int l1, .int x2, .int x3] (fun r9 e9 => mX1_lacksHost C.flag N ol0 e9) mwX1_lacksHost miX1_lacksHost wd_432 ol0 (by decide) rfl rfl rfl (Nat.le_of_ble_eq_true rfl) dX1_dropOrphans_39 ⟨rfl, rfl, Nat.le_of_ble_eq_true rfl, Nat.le_of_ble_eq_true rfl, Nat.le_of_ble_eq_true rfl, Nat.le_of_ble_eq_true rfl⟩ (fun _ => rfl) (fun x4 ex4 => ?_)
        refine bd_if_eq C 54 dX1_dropOrphans_42 (by decide) (fun c5 => ?_) (fun c5 => ?_)
        · exact bd_sub (hb54 _ ih w l0 l1 l2 l3 l4 ol0 ol2) [0, 1, 2, 3, 4] rfl
        · refine bd_aload_n C 2 dX1_dropOrphans_45 rfl rfl ?_
          refine bd_iload C 4 dX1_dropOrphans_46 rfl ?_
          refine bd_callV (vs := fun _ => none) (wf := fun (r : Wd) => r) (st := []) (st1 := fun p6 => []) C [.int l4] (fun r9 e9 => mX7_delete C.flag N ol2 e9) mwX7_delete miX7_delete wd_808 ol2 (by decide) rfl rfl rfl (Nat.le_of_ble_eq_true rfl) dX1_dropOrphans_48 ⟨rfl, rfl, Nat.le_of_ble_eq_true rfl, Nat.le_of_ble_eq_true rfl, Nat.le_of_ble_eq_true rfl, Nat.le_of_ble_eq_true rfl⟩ (fun _ => rfl) (fun p6 ep6 => ?_)
          refine bd_iinc C (v := l3 + 1) 3 [(3, .int (l3 + 1)), (0, .ref l0), (1, .int l1), (2, .ref l2), (4, .int l4)] dX1_dropOrphans_51 rfl rfl (by decide) rfl ?_
          exact bd_sub (hb54 _ ih p6 l0 l1 l2 (l3 + 1) l4 ol0 ol2) [1, 2, 3, 0, 4] rfl
  unfold fX1_dropOrphans
  refine bd_sub (lv' := [(0, .ref l0), (1, .int l1)]) ?_ [0, 1] rfl
  refine bd_aload_n C 0 dX1_dropOrphans_0 rfl rfl ?_
  refine bd_iload_n C 1 dX1_dropOrphans_1 rfl rfl ?_
  refine bd_callV (vs := fun (r : Nat) => some (.ref r)) (wf := fun _ => w) (st := []) (st1 := fun x7 => Value.ref x7 :: []) C [.int l1] (fun r9 e9 => mX1_present C.flag N ol0 e9) mwX1_present miX1_present wd_752 ol0 (by decide) rfl rfl rfl (Nat.le_of_ble_eq_true rfl) dX1_dropOrphans_2 ⟨rfl, rfl, Nat.le_of_ble_eq_true rfl, Nat.le_of_ble_eq_true rfl, Nat.le_of_ble_eq_true rfl, Nat.le_of_ble_eq_true rfl⟩ (fun _ => rfl) (fun x7 ex7 => ?_)
  refine bd_ckF (fun h8 => ?_)
  refine bd_astore_n C [(2, .ref x7), (0, .ref l0), (1, .int l1)] dX1_dropOrphans_5 rfl (by decide) rfl ?_
  refine bd_iconst C (v := 0) dX1_dropOrphans_6 (by decide) ?_
  refine bd_istore_n C [(3, .int 0), (2, .ref x7), (0, .ref l0), (1, .int l1)] dX1_dropOrphans_7 rfl (by decide) rfl ?_
  refine bd_aload_n C 1 dX1_dropOrphans_8 rfl rfl ?_
  refine bd_gIN C fi703 fv703 wd_133 dX1_dropOrphans_9 h8 ?_
  refine bd_iconst C (v := 1) dX1_dropOrphans_12 (by decide) ?_
  refine bd_isub C dX1_dropOrphans_13 ?_
  refine bd_bnd (tp := Value.int) (fun v9 ev9 => ?_)
  refine bd_istore C [(4, .int v9), (3, .int 0), (2, .ref x7), (0, .ref l0), (1, .int l1)] dX1_dropOrphans_14 (by decide) rfl ?_
  exact bd_sub (hb16 N w l0 l1 x7 0 v9 ol0 h8) [3, 4, 2, 1, 0] rfl
abbrev rmX1_dropSpan : Room := { frames := 14, cells := 0, slots := 0, locals := 398 }
abbrev qX1_dropSpan (G : Gy) (F : Fr) (g : Bd) : (Int32 × Wd) → State → Prop := fun r => QM G F g 0 0 ((fun (r : Int32 × Wd) => some (.int r.1)) r) ((fun (r : Int32 × Wd) => r.2) r)
set_option maxRecDepth 20000 in
set_option maxHeartbeats 4000000 in
theorem mX1_dropSpan {l : Launch} (hf9 : l.stackTraces = false) {G : Gy} {F : Fr} (N : Nat) {w : Wd} {l0 : Nat} {l1 : Int32} {l2 : Int32} {r : Int32 × Wd} (ol0 : okF F l0 1) (e9 : fX1_dropSpan F N w l0 l1 l2 = some r) : Met l yX1_dropSpan [.code yX1_dropSpan cX1_dropSpan 5 (some .int)] rmX1_dropSpan (PcB G F w [.ref l0, .int l1, .int l2]) (QB G F ((fun (r : Int32 × Wd) => some (.int r.1)) r) ((fun (r : Int32 × Wd) => r.2) r)) 0 0 (AF F) := by
  refine bd_met (vs := fun (r : Int32 × Wd) => some (.int r.1)) (wf := fun (r : Int32 × Wd) => r.2) hf9 (by decide) (Nat.le_of_ble_eq_true rfl) e9 (fun g C hret hini => ?_)
  clear e9 r
  have hb16 : ∀ (n : Nat) (w : Wd) (l0 : Nat) (l3 : Int32) (l4 : Int32) (ol0 : okF F l0 1), BD g G F 5 (qX1_dropSpan G F g) 0 0 (fX1_dropSpan_16 F N n w l0 l3 l4) w 16 [(0, .ref l0), (3, .int l3), (4, .int l4)] [] := by
    intro n
    induction n with
    | zero =>
      intro w l0 l3 l4 ol0
      unfold fX1_dropSpan_16
      exact bd_none
    | succ n ih =>
      intro w l0 l3 l4 ol0
      unfold fX1_dropSpan_16
      refine bd_iload C 2 dX1_dropSpan_16 rfl ?_
      refine bd_aload_n C 0 dX1_dropSpan_18 rfl rfl ?_
      refine bd_gI C fi105 fv105 wd_154 dX1_dropSpan_19 ol0 ?_
      refine bd_icmp_ge C 40 dX1_dropSpan_22 (by decide) (fun c1 => ?_) (fun c1 => ?_)
      · refine bd_iload_n C 1 dX1_dropSpan_40 rfl rfl ?_
        exact bd_iret C hret rfl _ _ rfl rfl dX1_dropSpan_41 (Nat.le_refl _) (Nat.le_refl _)
      · refine bd_iload_n C 1 dX1_dropSpan_25 rfl rfl ?_
        refine bd_aload_n C 0 dX1_dropSpan_26 rfl rfl ?_
        refine bd_iload C 2 dX1_dropSpan_27 rfl ?_
        refine bd_callV (vs := fun (r : Int32 × Wd) => some (.int r.1)) (wf := fun (r : Int32 × Wd) => r.2) (st := [.int l3]) (st1 := fun p2 => Value.int p2.1 :: [.int l3]) C [.int l4] (fun r9 e9 => mX1_dropOrphans C.flag N ol0 e9) mwX1_dropOrphans miX1_dropOrphans wd_812 ol0 (by decide) rfl rfl rfl (Nat.le_of_ble_eq_true rfl) dX1_dropSpan_29 ⟨rfl, rfl, Nat.le_of_ble_eq_true rfl, Nat.le_of_ble_eq_true rfl, Nat.le_of_ble_eq_true rfl, Nat.le_of_ble_eq_true rfl⟩ (fun _ => rfl) (fun p2 ep2 => ?_)
        refine bd_iadd C dX1_dropSpan_32 ?_
        refine bd_bnd (tp := Value.int) (fun v3 ev3 => ?_)
        refine bd_istore_n C [(3, .int v3), (0, .ref l0), (4, .int l4)] dX1_dropSpan_33 rfl (by decide) rfl ?_
        refine bd_iinc C (v := l4 + 1) 2 [(4, .int (l4 + 1)), (3, .int v3), (0, .ref l0)] dX1_dropSpan_34 rfl rfl (by decide) rfl ?_
        refine bd_goto C 16 dX1_dropSpan_37 (by decide) ?_
        exact bd_sub (ih p2.2 l0 v3 (l4 + 1) ol0) [2, 1, 0] rfl
  unfold fX1_dropSpan
  refine bd_sub (lv' := [(0, .ref l0), (1, .int l1), (2, .int l2)]) ?_ [0, 1, 2] rfl
  refine bd_aload_n C 0 dX1_dropSpan_0 rfl rfl ?_
  refine bd_iload_n C 1 dX1_dropSpan_1 rfl rfl ?_
  refine bd_callV (vs := fun (r : Nat) => some (.ref r)) (wf := fun _ => w) (st := []) (st1 := fun x4 => Value.ref x4 :: []) C [.int l1] (fun r9 e9 => mX1_present C.flag N ol0 e9) mwX1_present miX1_present wd_752 ol0 (by decide) rfl rfl rfl (Nat.le_of_ble_eq_true rfl) dX1_dropSpan_2 ⟨rfl, rfl, Nat.le_of_ble_eq_true rfl, Nat.le_of_ble_eq_true rfl, Nat.le_of_ble_eq_true rfl, Nat.le_of_ble_eq_true rfl⟩ (fun _ => rfl) (fun x4 ex4 => ?_)
  refine bd_ckF (fun h5 => ?_)
  refine bd_iload_n C 2 dX1_dropSpan_5 rfl rfl ?_
  refine bd_callV (vs := fun _ => none) (wf := fun (r : Wd) => r) (st := []) (st1 := fun p6 => []) C [.int l2] (fun r9 e9 => mX7_delete C.flag N h5 e9) mwX7_delete miX7_delete wd_808 h5 (by decide) rfl rfl rfl (Nat.le_of_ble_eq_true rfl) dX1_dropSpan_6 ⟨rfl, rfl, Nat.le_of_ble_eq_true rfl, Nat.le_of_ble_eq_true rfl, Nat.le_of_ble_eq_true rfl, Nat.le_of_ble_eq_true rfl⟩ (fun _ => rfl) (fun p6 ep6 => ?_)
  refine bd_iconst C (v := 1) dX1_dropSpan_9 (by decide) ?_
  refine bd_istore_n C [(3, .int 1), (0, .ref l0), (1, .int l1), (2, .int l2)] dX1_dropSpan_10 rfl (by decide) rfl ?_
  refine bd_iload_n C 2 dX1_dropSpan_11 rfl rfl ?_
  refine bd_iconst C (v := 1) dX1_dropSpan_12 (by decide) ?_
  refine bd_iadd C dX1_dropSpan_13 ?_
  refine bd_bnd (tp := Value.int) (fun v7 ev7 => ?_)
  refine bd_istore C [(4, .int v7), (3, .int 1), (0, .ref l0), (1, .int l1), (2, .int l2)] dX1_dropSpan_14 (by decide) rfl ?_
  exact bd_sub (hb16 N p6 l0 1 v7 ol0) [2, 1, 0] rfl
abbrev rmX2_push : Room := { frames := 12, cells := 0, slots := 0, locals := 346 }
abbrev qX2_push (G : Gy) (F : Fr) (g : Bd) : Wd → State → Prop := fun r => QM G F g 0 0 ((fun _ => none) r) ((fun (r : Wd) => r) r)
set_option maxRecDepth 20000 in
set_option maxHeartbeats 4000000 in
theorem mX2_push {l : Launch} (hf9 : l.stackTraces = false) {G : Gy} {F : Fr} (N : Nat) {w : Wd} {l0 : Nat} {l1 : Nat} {r : Wd} (ol0 : okF F l0 2) (ol1 : okF F l1 1) (e9 : fX2_push F N w l0 l1 = some r) : Met l yX2_push [.code yX2_push cX2_push 3 none] rmX2_push (PcB G F w [.ref l0, .ref l1]) (QB G F ((fun _ => none) r) ((fun (r : Wd) => r) r)) 0 0 (AF F) := by
  refine bd_met (vs := fun _ => none) (wf := fun (r : Wd) => r) hf9 (by decide) (Nat.le_of_ble_eq_true rfl) e9 (fun g C hret hini => ?_)
  clear e9 r
  have hb62 : ∀  (w : Wd) (l0 : Nat) (s0 : Nat) (s1 : Int32) (ol0 : okF F l0 2) (os0 : okF F s0 2), BD g G F 3 (qX2_push G F g) 0 0 (fX2_push_62 F N w l0 s0 s1) w 62 [(0, .ref l0)] [.int s1, .ref s0] := by
    intro w l0 s0 s1 ol0 os0
    unfold fX2_push_62
    refine bd_pI C fi201 ftX2 fu201 wd_194 rfl rfl rfl dX2_push_62 os0 (fun w4 => ?_)
    refine bd_aload_n C 0 dX2_push_65 rfl rfl ?_
    refine bd_aload_n C 0 dX2_push_66 rfl rfl ?_
    refine bd_gI C fi202 fv202 wd_195 dX2_push_67 ol0 ?_
    refine bd_iconst C (v := 1) dX2_push_70 (by decide) ?_
    refine bd_iadd C dX2_push_71 ?_
    refine bd_bipush C (v := 8) dX2_push_72 (by decide) ?_
    refine bd_mmin C wd_624 wd_625 wd_104 wd_626 dX2_push_74 ⟨Nat.le_of_ble_eq_true rfl, Nat.le_of_ble_eq_true rfl, Nat.zero_le _, Nat.zero_le _⟩ ?_
    refine bd_pI C fi202 ftX2 fu202 wd_195 rfl rfl rfl dX2_push_77 ol0 (fun w5 => ?_)
    exact bd_vret C hret rfl _ _ rfl rfl dX2_push_80 (Nat.le_refl _) (Nat.le_refl _)
  have hb42 : ∀  (w : Wd) (l0 : Nat) (ol0 : okF F l0 2), BD g G F 3 (qX2_push G F g) 0 0 (fX2_push_42 F N w l0) w 42 [(0, .ref l0)] [] := by
    intro w l0 ol0
    unfold fX2_push_42
    refine bd_aload_n C 0 dX2_push_42 rfl rfl ?_
    refine bd_aload_n C 0 dX2_push_43 rfl rfl ?_
    refine bd_gI C fi201 fv201 wd_194 dX2_push_44 ol0 ?_
    refine bd_bipush C (v := 7) dX2_push_47 (by decide) ?_
    refine bd_icmp_ge C 61 dX2_push_49 (by decide) (fun c3 => ?_) (fun c3 => ?_)
    · refine bd_iconst C (v := 0) dX2_push_61 (by decide) ?_
      exact bd_sub (hb62 w l0 l0 0 ol0 ol0) [0] rfl
    · refine bd_aload_n C 0 dX2_push_52 rfl rfl ?_
      refine bd_gI C fi201 fv201 wd_194 dX2_push_53 ol0 ?_
      refine bd_iconst C (v := 1) dX2_push_56 (by decide) ?_
      refine bd_iadd C dX2_push_57 ?_
      refine bd_goto C 62 dX2_push_58 (by decide) ?_
      exact bd_sub (hb62 w l0 l0 ((gI w 201 l0) + 1) ol0 ol0) [0] rfl
  have hb32 : ∀  (w : Wd) (l0 : Nat) (l1 : Nat) (s0 : Option Nat) (ol0 : okF F l0 2) (ol1 : okF F l1 1) (os0 : okO F s0 1), BD g G F 3 (qX2_push G F g) 0 0 (fX2_push_32 F N w l0 l1 s0) w 32 [(0, .ref l0), (1, .ref l1)] [va_rf s0] := by
    intro w l0 l1 s0 ol0 ol1 os0
    unfold fX2_push_32
    refine bd_astore_nq C [(2, va_rf s0), (0, .ref l0), (1, .ref l1)] dX2_push_32 rfl (by decide) rfl ?_
    refine bd_aload_nq C 0 dX2_push_33 rfl rfl ?_
    refine bd_ifnull C 42 dX2_push_34 (by decide) (fun ez1 => ?_) (fun z1 ez1 => ?_)
    · subst ez1
      exact bd_sub (hb42 w l0 ol0) [1] rfl
    · have hz1 := os0 z1 ez1
      subst ez1
      refine bd_aload_n C 0 dX2_push_37 rfl rfl ?_
      refine bd_aload_n C 2 dX2_push_38 rfl rfl ?_
      refine bd_callV (vs := fun _ => none) (wf := fun (r : Wd) => r) (st := []) (st1 := fun p2 => []) C [.ref l1] (fun r9 e9 => mX1_copyFrom C.flag N hz1 ol1 e9) mwX1_copyFrom miX1_copyFrom wd_623 hz1 (by decide) rfl rfl rfl (Nat.le_of_ble_eq_true rfl) dX2_push_39 ⟨rfl, rfl, Nat.le_of_ble_eq_true rfl, Nat.le_of_ble_eq_true rfl, Nat.le_of_ble_eq_true rfl, Nat.le_of_ble_eq_true rfl⟩ (fun _ => rfl) (fun p2 ep2 => ?_)
      exact bd_sub (hb42 p2 l0 ol0) [1] rfl
  have hb31 : ∀  (w : Wd) (l0 : Nat) (l1 : Nat) (ol0 : okF F l0 2) (ol1 : okF F l1 1), BD g G F 3 (qX2_push G F g) 0 0 (fX2_push_31 F N w l0 l1) w 31 [(0, .ref l0), (1, .ref l1)] [] := by
    intro w l0 l1 ol0 ol1
    unfold fX2_push_31
    refine bd_null C dX2_push_31 ?_
    exact bd_sub (hb32 w l0 l1 none ol0 ol1 okO_none) [0, 1] rfl
  unfold fX2_push
  refine bd_sub (lv' := [(0, .ref l0), (1, .ref l1)]) ?_ [0, 1] rfl
  refine bd_aload_n C 0 dX2_push_0 rfl rfl ?_
  refine bd_gI C fi201 fv201 wd_194 dX2_push_1 ol0 ?_
  refine bd_if_lt C 31 dX2_push_4 (by decide) (fun c6 => ?_) (fun c6 => ?_)
  · exact bd_sub (hb31 w l0 l1 ol0 ol1) [0, 1] rfl
  · refine bd_aload_n C 0 dX2_push_7 rfl rfl ?_
    refine bd_gI C fi201 fv201 wd_194 dX2_push_8 ol0 ?_
    refine bd_aload_n C 0 dX2_push_11 rfl rfl ?_
    refine bd_gR C fi200 fv200 wd_193 dX2_push_12 ol0 (fun r7 gr7 hr7 => ?_)
    refine bd_alen C dX2_push_15 hr7 (by decide) 4 rfl ?_
    refine bd_icmp_ge C 31 dX2_push_16 (by decide) (fun c8 => ?_) (fun c8 => ?_)
    · exact bd_sub (hb31 w l0 l1 ol0 ol1) [0, 1] rfl
    · refine bd_aload_n C 0 dX2_push_19 rfl rfl ?_
      refine bd_gR C fi200 fv200 wd_193 dX2_push_20 ol0 (fun r9 gr9 hr9 => ?_)
      refine bd_aload_n C 0 dX2_push_23 rfl rfl ?_
      refine bd_gI C fi201 fv201 wd_194 dX2_push_24 ol0 ?_
      refine bd_aald14 C (k2 := 1) dX2_push_27 hr9 (fun q10 hq10 => ?_)
      refine bd_goto C 32 dX2_push_28 (by decide) ?_
      exact bd_sub (hb32 w l0 l1 q10 ol0 ol1 hq10) [0, 1] rfl
abbrev rmX2_pop : Room := { frames := 12, cells := 0, slots := 0, locals := 346 }
abbrev qX2_pop (G : Gy) (F : Fr) (g : Bd) : Wd → State → Prop := fun r => QM G F g 0 0 ((fun _ => none) r) ((fun (r : Wd) => r) r)
set_option maxRecDepth 20000 in
set_option maxHeartbeats 4000000 in
theorem mX2_pop {l : Launch} (hf9 : l.stackTraces = false) {G : Gy} {F : Fr} (N : Nat) {w : Wd} {l0 : Nat} {l1 : Nat} {r : Wd} (ol0 : okF F l0 2) (ol1 : okF F l1 1) (e9 : fX2_pop F N w l0 l1 = some r) : Met l yX2_pop [.code yX2_pop cX2_pop 3 none] rmX2_pop (PcB G F w [.ref l0, .ref l1]) (QB G F ((fun _ => none) r) ((fun (r : Wd) => r) r)) 0 0 (AF F) := by
  refine bd_met (vs := fun _ => none) (wf := fun (r : Wd) => r) hf9 (by decide) (Nat.le_of_ble_eq_true rfl) e9 (fun g C hret hini => ?_)
  clear e9 r
  have hb64 : ∀  (w : Wd) (l1 : Nat) (s0 : Option Nat) (ol1 : okF F l1 1) (os0 : okO F s0 1), BD g G F 3 (qX2_pop G F g) 0 0 (fX2_pop_64 F N w l1 s0) w 64 [(1, .ref l1)] [va_rf s0] := by
    intro w l1 s0 ol1 os0
    unfold fX2_pop_64
    refine bd_astore_nq C [(2, va_rf s0), (1, .ref l1)] dX2_pop_64 rfl (by decide) rfl ?_
    refine bd_aload_nq C 0 dX2_pop_65 rfl rfl ?_
    refine bd_ifnull C 74 dX2_pop_66 (by decide) (fun ez8 => ?_) (fun z8 ez8 => ?_)
    · subst ez8
      exact bd_vret C hret rfl _ _ rfl rfl dX2_pop_74 (Nat.le_refl _) (Nat.le_refl _)
    · have hz8 := os0 z8 ez8
      subst ez8
      refine bd_aload_n C 1 dX2_pop_69 rfl rfl ?_
      refine bd_aload_n C 0 dX2_pop_70 rfl rfl ?_
      refine bd_callV (vs := fun _ => none) (wf := fun (r : Wd) => r) (st := []) (st1 := fun p9 => []) C [.ref z8] (fun r9 e9 => mX1_copyFrom C.flag N ol1 hz8 e9) mwX1_copyFrom miX1_copyFrom wd_623 ol1 (by decide) rfl rfl rfl (Nat.le_of_ble_eq_true rfl) dX2_pop_71 ⟨rfl, rfl, Nat.le_of_ble_eq_true rfl, Nat.le_of_ble_eq_true rfl, Nat.le_of_ble_eq_true rfl, Nat.le_of_ble_eq_true rfl⟩ (fun _ => rfl) (fun p9 ep9 => ?_)
      exact bd_vret C hret rfl _ _ rfl rfl dX2_pop_74 (Nat.le_refl _) (Nat.le_refl _)
  have hb63 : ∀  (w : Wd) (l1 : Nat) (ol1 : okF F l1 1), BD g G F 3 (qX2_pop G F g) 0 0 (fX2_pop_63 F N w l1) w 63 [(1, .ref l1)] [] := by
    intro w l1 ol1
    unfold fX2_pop_63
    refine bd_null C dX2_pop_63 ?_
    exact bd_sub (hb64 w l1 none ol1 okO_none) [0] rfl
  have hb19 : ∀  (w : Wd) (l0 : Nat) (l1 : Nat) (s0 : Nat) (s1 : Int32) (ol0 : okF F l0 2) (ol1 : okF F l1 1) (os0 : okF F s0 2), BD g G F 3 (qX2_pop G F g) 0 0 (fX2_pop_19 F N w l0 l1 s0 s1) w 19 [(0, .ref l0), (1, .ref l1)] [.int s1, .ref s0] := by
    intro w l0 l1 s0 s1 ol0 ol1 os0
    unfold fX2_pop_19
    refine bd_pI C fi201 ftX2 fu201 wd_194 rfl rfl rfl dX2_pop_19 os0 (fun w1 => ?_)
    refine bd_aload_n C 0 dX2_pop_22 rfl rfl ?_
    refine bd_dup C dX2_pop_23 rfl ?_
    refine bd_gI C fi202 fv202 wd_195 dX2_pop_24 ol0 ?_
    refine bd_iconst C (v := 1) dX2_pop_27 (by decide) ?_
    refine bd_isub C dX2_pop_28 ?_
    refine bd_pI C fi202 ftX2 fu202 wd_195 rfl rfl rfl dX2_pop_29 ol0 (fun w2 => ?_)
    refine bd_aload_n C 0 dX2_pop_32 rfl rfl ?_
    refine bd_gI C fi201 fv201 wd_194 dX2_pop_33 ol0 ?_
    refine bd_if_lt C 63 dX2_pop_36 (by decide) (fun c3 => ?_) (fun c3 => ?_)
    · exact bd_sub (hb63 w2 l1 ol1) [1] rfl
    · refine bd_aload_n C 0 dX2_pop_39 rfl rfl ?_
      refine bd_gI C fi201 fv201 wd_194 dX2_pop_40 ol0 ?_
      refine bd_aload_n C 0 dX2_pop_43 rfl rfl ?_
      refine bd_gR C fi200 fv200 wd_193 dX2_pop_44 ol0 (fun r4 gr4 hr4 => ?_)
      refine bd_alen C dX2_pop_47 hr4 (by decide) 4 rfl ?_
      refine bd_icmp_ge C 63 dX2_pop_48 (by decide) (fun c5 => ?_) (fun c5 => ?_)
      · exact bd_sub (hb63 w2 l1 ol1) [1] rfl
      · refine bd_aload_n C 0 dX2_pop_51 rfl rfl ?_
        refine bd_gR C fi200 fv200 wd_193 dX2_pop_52 ol0 (fun r6 gr6 hr6 => ?_)
        refine bd_aload_n C 0 dX2_pop_55 rfl rfl ?_
        refine bd_gI C fi201 fv201 wd_194 dX2_pop_56 ol0 ?_
        refine bd_aald14 C (k2 := 1) dX2_pop_59 hr6 (fun q7 hq7 => ?_)
        refine bd_goto C 64 dX2_pop_60 (by decide) ?_
        exact bd_sub (hb64 w2 l1 q7 ol1 hq7) [1] rfl
  unfold fX2_pop
  refine bd_sub (lv' := [(0, .ref l0), (1, .ref l1)]) ?_ [0, 1] rfl
  refine bd_aload_n C 0 dX2_pop_0 rfl rfl ?_
  refine bd_aload_n C 0 dX2_pop_1 rfl rfl ?_
  refine bd_gI C fi201 fv201 wd_194 dX2_pop_2 ol0 ?_
  refine bd_if_le C 17 dX2_pop_5 (by decide) (fun c10 => ?_) (fun c10 => ?_)
  · refine bd_bipush C (v := 7) dX2_pop_17 (by decide) ?_
    exact bd_sub (hb19 w l0 l1 l0 7 ol0 ol1 ol0) [0, 1] rfl
  · refine bd_aload_n C 0 dX2_pop_8 rfl rfl ?_
    refine bd_gI C fi201 fv201 wd_194 dX2_pop_9 ol0 ?_
    refine bd_iconst C (v := 1) dX2_pop_12 (by decide) ?_
    refine bd_isub C dX2_pop_13 ?_
    refine bd_goto C 19 dX2_pop_14 (by decide) ?_
    exact bd_sub (hb19 w l0 l1 l0 ((gI w 201 l0) - 1) ol0 ol1 ol0) [0, 1] rfl
abbrev rmX2_forget : Room := { frames := 10, cells := 0, slots := 0, locals := 300 }
abbrev qX2_forget (G : Gy) (F : Fr) (g : Bd) : Wd → State → Prop := fun r => QM G F g 0 0 ((fun _ => none) r) ((fun (r : Wd) => r) r)
set_option maxRecDepth 20000 in
set_option maxHeartbeats 4000000 in
theorem mX2_forget {l : Launch} (hf9 : l.stackTraces = false) {G : Gy} {F : Fr} (N : Nat) {w : Wd} {l0 : Nat} {r : Wd} (ol0 : okF F l0 2) (e9 : fX2_forget F N w l0 = some r) : Met l yX2_forget [.code yX2_forget cX2_forget 1 none] rmX2_forget (PcB G F w [.ref l0]) (QB G F ((fun _ => none) r) ((fun (r : Wd) => r) r)) 0 0 (AF F) := by
  refine bd_met (vs := fun _ => none) (wf := fun (r : Wd) => r) hf9 (by decide) (Nat.le_of_ble_eq_true rfl) e9 (fun g C hret hini => ?_)
  clear e9 r
  unfold fX2_forget
  refine bd_sub (lv' := [(0, .ref l0)]) ?_ [0] rfl
  refine bd_aload_n C 0 dX2_forget_0 rfl rfl ?_
  refine bd_iconst C (v := 0) dX2_forget_1 (by decide) ?_
  refine bd_pI C fi202 ftX2 fu202 wd_195 rfl rfl rfl dX2_forget_2 ol0 (fun w1 => ?_)
  exact bd_vret C hret rfl _ _ rfl rfl dX2_forget_5 (Nat.le_refl _) (Nat.le_refl _)
abbrev rmX3_put : Room := { frames := 10, cells := 0, slots := 0, locals := 300 }
abbrev qX3_put (G : Gy) (F : Fr) (g : Bd) : Wd → State → Prop := fun r => QM G F g 0 0 ((fun _ => none) r) ((fun (r : Wd) => r) r)
set_option maxRecDepth 20000 in
set_option maxHeartbeats 4000000 in
theorem mX3_put {l : Launch} (hf9 : l.stackTraces = false) {G : Gy} {F : Fr} (N : Nat) {w : Wd} {l0 : Nat} {l1 : Int32} {r : Wd} (ol0 : okF F l0 3) (e9 : fX3_put F N w l0 l1 = some r) : Met l yX3_put [.code yX3_put cX3_put 2 none] rmX3_put (PcB G F w [.ref l0, .int l1]) (QB G F ((fun _ => none) r) ((fun (r : Wd) => r) r)) 0 0 (AF F) := by
  refine bd_met (vs := fun _ => none) (wf := fun (r : Wd) => r) hf9 (by decide) (Nat.le_of_ble_eq_true rfl) e9 (fun g C hret hini => ?_)
  clear e9 r
  unfold fX3_put
  refine bd_sub (lv' := [(0, .ref l0), (1, .int l1)]) ?_ [0, 1] rfl
  refine bd_iload_n C 1 dX3_put_0 rfl rfl ?_
  refine bd_if_eq C 41 dX3_put_1 (by decide) (fun c1 => ?_) (fun c1 => ?_)
  · exact bd_vret C hret rfl _ _ rfl rfl dX3_put_41 (Nat.le_refl _) (Nat.le_refl _)
  · refine bd_aload_n C 0 dX3_put_4 rfl rfl ?_
    refine bd_gI C fi301 fv301 wd_211 dX3_put_5 ol0 ?_
    refine bd_if_lt C 41 dX3_put_8 (by decide) (fun c2 => ?_) (fun c2 => ?_)
    · exact bd_vret C hret rfl _ _ rfl rfl dX3_put_41 (Nat.le_refl _) (Nat.le_refl _)
    · refine bd_aload_n C 0 dX3_put_11 rfl rfl ?_
      refine bd_gI C fi301 fv301 wd_211 dX3_put_12 ol0 ?_
      refine bd_bipush C (v := 100) dX3_put_15 (by decide) ?_
      refine bd_icmp_ge C 41 dX3_put_17 (by decide) (fun c3 => ?_) (fun c3 => ?_)
      · exact bd_vret C hret rfl _ _ rfl rfl dX3_put_41 (Nat.le_refl _) (Nat.le_refl _)
      · refine bd_aload_n C 0 dX3_put_20 rfl rfl ?_
        refine bd_gR C fi300 fv300 wd_210 dX3_put_21 ol0 (fun r4 gr4 hr4 => ?_)
        refine bd_aload_n C 0 dX3_put_24 rfl rfl ?_
        refine bd_gI C fi301 fv301 wd_211 dX3_put_25 ol0 ?_
        refine bd_iload_n C 1 dX3_put_28 rfl rfl ?_
        refine bd_i2c C dX3_put_29 ?_
        refine bd_cast C dX3_put_30 hr4 (fun w5 => ?_)
        refine bd_aload_n C 0 dX3_put_31 rfl rfl ?_
        refine bd_dup C dX3_put_32 rfl ?_
        refine bd_gI C fi301 fv301 wd_211 dX3_put_33 ol0 ?_
        refine bd_iconst C (v := 1) dX3_put_36 (by decide) ?_
        refine bd_iadd C dX3_put_37 ?_
        refine bd_pI C fi301 ftX3 fu301 wd_211 rfl rfl rfl dX3_put_38 ol0 (fun w6 => ?_)
        exact bd_vret C hret rfl _ _ rfl rfl dX3_put_41 (Nat.le_refl _) (Nat.le_refl _)
abbrev rmX3_empty : Room := { frames := 10, cells := 0, slots := 0, locals := 300 }
abbrev qX3_empty (G : Gy) (F : Fr) (g : Bd) : Wd → State → Prop := fun r => QM G F g 0 0 ((fun _ => none) r) ((fun (r : Wd) => r) r)
set_option maxRecDepth 20000 in
set_option maxHeartbeats 4000000 in
theorem mX3_empty {l : Launch} (hf9 : l.stackTraces = false) {G : Gy} {F : Fr} (N : Nat) {w : Wd} {l0 : Nat} {r : Wd} (ol0 : okF F l0 3) (e9 : fX3_empty F N w l0 = some r) : Met l yX3_empty [.code yX3_empty cX3_empty 1 none] rmX3_empty (PcB G F w [.ref l0]) (QB G F ((fun _ => none) r) ((fun (r : Wd) => r) r)) 0 0 (AF F) := by
  refine bd_met (vs := fun _ => none) (wf := fun (r : Wd) => r) hf9 (by decide) (Nat.le_of_ble_eq_true rfl) e9 (fun g C hret hini => ?_)
  clear e9 r
  unfold fX3_empty
  refine bd_sub (lv' := [(0, .ref l0)]) ?_ [0] rfl
  refine bd_aload_n C 0 dX3_empty_0 rfl rfl ?_
  refine bd_iconst C (v := 0) dX3_empty_1 (by decide) ?_
  refine bd_pI C fi301 ftX3 fu301 wd_211 rfl rfl rfl dX3_empty_2 ol0 (fun w1 => ?_)
  exact bd_vret C hret rfl _ _ rfl rfl dX3_empty_5 (Nat.le_refl _) (Nat.le_refl _)
abbrev rmX3_restart : Room := { frames := 10, cells := 0, slots := 0, locals := 300 }
abbrev qX3_restart (G : Gy) (F : Fr) (g : Bd) : Wd → State → Prop := fun r => QM G F g 0 0 ((fun _ => none) r) ((fun (r : Wd) => r) r)
set_option maxRecDepth 20000 in
set_option maxHeartbeats 4000000 in
theorem mX3_restart {l : Launch} (hf9 : l.stackTraces = false) {G : Gy} {F : Fr} (N : Nat) {w : Wd} {l0 : Nat} {r : Wd} (ol0 : okF F l0 3) (e9 : fX3_restart F N w l0 = some r) : Met l yX3_restart [.code yX3_restart cX3_restart 1 none] rmX3_restart (PcB G F w [.ref l0]) (QB G F ((fun _ => none) r) ((fun (r : Wd) => r) r)) 0 0 (AF F) := by
  refine bd_met (vs := fun _ => none) (wf := fun (r : Wd) => r) hf9 (by decide) (Nat.le_of_ble_eq_true rfl) e9 (fun g C hret hini => ?_)
  clear e9 r
  unfold fX3_restart
  refine bd_sub (lv' := [(0, .ref l0)]) ?_ [0] rfl
  refine bd_aload_n C 0 dX3_restart_0 rfl rfl ?_
  refine bd_iconst C (v := 0) dX3_restart_1 (by decide) ?_
  refine bd_pI C fi302 ftX3 fu302 wd_213 rfl rfl rfl dX3_restart_2 ol0 (fun w1 => ?_)
  exact bd_vret C hret rfl _ _ rfl rfl dX3_restart_5 (Nat.le_refl _) (Nat.le_refl _)
abbrev rmX3_isAtEnd : Room := { frames := 10, cells := 0, slots := 0, locals := 300 }
abbrev qX3_isAtEnd (G : Gy) (F : Fr) (g : Bd) (w : Wd) : Int32 → State → Prop := fun r => QM G F g 0 0 ((fun (r : Int32) => some (.int r)) r) ((fun _ => w) r)
set_option maxRecDepth 20000 in
set_option maxHeartbeats 4000000 in
theorem mX3_isAtEnd {l : Launch} (hf9 : l.stackTraces = false) {G : Gy} {F : Fr} (N : Nat) {w : Wd} {l0 : Nat} {r : Int32} (ol0 : okF F l0 3) (e9 : fX3_isAtEnd F N w l0 = some r) : Met l yX3_isAtEnd [.code yX3_isAtEnd cX3_isAtEnd 1 (some .boolean)] rmX3_isAtEnd (PcB G F w [.ref l0]) (QB G F ((fun (r : Int32) => some (.int r)) r) ((fun _ => w) r)) 0 0 (AF F) := by
  refine bd_met (vs := fun (r : Int32) => some (.int r)) (wf := fun _ => w) hf9 (by decide) (Nat.le_of_ble_eq_true rfl) e9 (fun g C hret hini => ?_)
  clear e9 r
  unfold fX3_isAtEnd
  refine bd_sub (lv' := [(0, .ref l0)]) ?_ [0] rfl
  refine bd_aload_n C 0 dX3_isAtEnd_0 rfl rfl ?_
  refine bd_gI C fi302 fv302 wd_213 dX3_isAtEnd_1 ol0 ?_
  refine bd_aload_n C 0 dX3_isAtEnd_4 rfl rfl ?_
  refine bd_gI C fi301 fv301 wd_211 dX3_isAtEnd_5 ol0 ?_
  refine bd_icmp_lt C 15 dX3_isAtEnd_8 (by decide) (fun c1 => ?_) (fun c1 => ?_)
  · refine bd_iconst C (v := 0) dX3_isAtEnd_15 (by decide) ?_
    exact bd_zret C hret rfl _ _ rfl rfl rfl dX3_isAtEnd_16 (Nat.le_refl _) (Nat.le_refl _)
  · refine bd_iconst C (v := 1) dX3_isAtEnd_11 (by decide) ?_
    refine bd_goto C 16 dX3_isAtEnd_12 (by decide) ?_
    exact bd_zret C hret rfl _ _ rfl rfl rfl dX3_isAtEnd_16 (Nat.le_refl _) (Nat.le_refl _)
abbrev rmX3_peek : Room := { frames := 10, cells := 0, slots := 0, locals := 300 }
abbrev qX3_peek (G : Gy) (F : Fr) (g : Bd) (w : Wd) : Int32 → State → Prop := fun r => QM G F g 0 0 ((fun (r : Int32) => some (.int r)) r) ((fun _ => w) r)
set_option maxRecDepth 20000 in
set_option maxHeartbeats 4000000 in
theorem mX3_peek {l : Launch} (hf9 : l.stackTraces = false) {G : Gy} {F : Fr} (N : Nat) {w : Wd} {l0 : Nat} {r : Int32} (ol0 : okF F l0 3) (e9 : fX3_peek F N w l0 = some r) : Met l yX3_peek [.code yX3_peek cX3_peek 1 (some .char)] rmX3_peek (PcB G F w [.ref l0]) (QB G F ((fun (r : Int32) => some (.int r)) r) ((fun _ => w) r)) 0 0 (AF F) := by
  refine bd_met (vs := fun (r : Int32) => some (.int r)) (wf := fun _ => w) hf9 (by decide) (Nat.le_of_ble_eq_true rfl) e9 (fun g C hret hini => ?_)
  clear e9 r
  unfold fX3_peek
  refine bd_sub (lv' := [(0, .ref l0)]) ?_ [0] rfl
  refine bd_aload_n C 0 dX3_peek_0 rfl rfl ?_
  refine bd_gI C fi302 fv302 wd_213 dX3_peek_1 ol0 ?_
  refine bd_if_lt C 39 dX3_peek_4 (by decide) (fun c1 => ?_) (fun c1 => ?_)
  · refine bd_iconst C (v := 0) dX3_peek_39 (by decide) ?_
    exact bd_zret C hret rfl _ _ rfl rfl rfl dX3_peek_40 (Nat.le_refl _) (Nat.le_refl _)
  · refine bd_aload_n C 0 dX3_peek_7 rfl rfl ?_
    refine bd_gI C fi302 fv302 wd_213 dX3_peek_8 ol0 ?_
    refine bd_aload_n C 0 dX3_peek_11 rfl rfl ?_
    refine bd_gI C fi301 fv301 wd_211 dX3_peek_12 ol0 ?_
    refine bd_icmp_ge C 39 dX3_peek_15 (by decide) (fun c2 => ?_) (fun c2 => ?_)
    · refine bd_iconst C (v := 0) dX3_peek_39 (by decide) ?_
      exact bd_zret C hret rfl _ _ rfl rfl rfl dX3_peek_40 (Nat.le_refl _) (Nat.le_refl _)
    · refine bd_aload_n C 0 dX3_peek_18 rfl rfl ?_
      refine bd_gI C fi302 fv302 wd_213 dX3_peek_19 ol0 ?_
      refine bd_bipush C (v := 100) dX3_peek_22 (by decide) ?_
      refine bd_icmp_ge C 39 dX3_peek_24 (by decide) (fun c3 => ?_) (fun c3 => ?_)
      · refine bd_iconst C (v := 0) dX3_peek_39 (by decide) ?_
        exact bd_zret C hret rfl _ _ rfl rfl rfl dX3_peek_40 (Nat.le_refl _) (Nat.le_refl _)
      · refine bd_aload_n C 0 dX3_peek_27 rfl rfl ?_
        refine bd_gR C fi300 fv300 wd_210 dX3_peek_28 ol0 (fun r4 gr4 hr4 => ?_)
        refine bd_aload_n C 0 dX3_peek_31 rfl rfl ?_
        refine bd_gI C fi302 fv302 wd_213 dX3_peek_32 ol0 ?_
        refine bd_cald C dX3_peek_35 hr4 (fun x5 => ?_)
        refine bd_goto C 40 dX3_peek_36 (by decide) ?_
        refine bd_ckC (fun cz6 => ?_)
        exact bd_zret C hret rfl _ _ (nar_c cz6) rfl rfl dX3_peek_40 (Nat.le_refl _) (Nat.le_refl _)
abbrev rmX3_take : Room := { frames := 11, cells := 0, slots := 0, locals := 320 }
abbrev qX3_take (G : Gy) (F : Fr) (g : Bd) : (Int32 × Wd) → State → Prop := fun r => QM G F g 0 0 ((fun (r : Int32 × Wd) => some (.int r.1)) r) ((fun (r : Int32 × Wd) => r.2) r)
set_option maxRecDepth 20000 in
set_option maxHeartbeats 4000000 in
theorem mX3_take {l : Launch} (hf9 : l.stackTraces = false) {G : Gy} {F : Fr} (N : Nat) {w : Wd} {l0 : Nat} {l1 : Int32} {r : Int32 × Wd} (ol0 : okF F l0 3) (e9 : fX3_take F N w l0 l1 = some r) : Met l yX3_take [.code yX3_take cX3_take 2 (some .boolean)] rmX3_take (PcB G F w [.ref l0, .int l1]) (QB G F ((fun (r : Int32 × Wd) => some (.int r.1)) r) ((fun (r : Int32 × Wd) => r.2) r)) 0 0 (AF F) := by
  refine bd_met (vs := fun (r : Int32 × Wd) => some (.int r.1)) (wf := fun (r : Int32 × Wd) => r.2) hf9 (by decide) (Nat.le_of_ble_eq_true rfl) e9 (fun g C hret hini => ?_)
  clear e9 r
  unfold fX3_take
  refine bd_sub (lv' := [(0, .ref l0), (1, .int l1)]) ?_ [0, 1] rfl
  refine bd_aload_n C 0 dX3_take_0 rfl rfl ?_
  refine bd_callV (vs := fun (r : Int32) => some (.int r)) (wf := fun _ => w) (st := []) (st1 := fun x1 => Value.int x1 :: []) C [] (fun r9 e9 => mX3_peek C.flag N ol0 e9) mwX3_peek miX3_peek wd_721 ol0 (by decide) rfl rfl rfl (Nat.le_of_ble_eq_true rfl) dX3_take_1 ⟨rfl, rfl, Nat.le_of_ble_eq_true rfl, Nat.le_of_ble_eq_true rfl, Nat.le_of_ble_eq_true rfl, Nat.le_of_ble_eq_true rfl⟩ (fun _ => rfl) (fun x1 ex1 => ?_)
  refine bd_iload_n C 1 dX3_take_4 rfl rfl ?_
  refine bd_icmp_eq C 10 dX3_take_5 (by decide) (fun c2 => ?_) (fun c2 => ?_)
  · refine bd_aload_n C 0 dX3_take_10 rfl rfl ?_
    refine bd_dup C dX3_take_11 rfl ?_
    refine bd_gI C fi302 fv302 wd_213 dX3_take_12 ol0 ?_
    refine bd_iconst C (v := 1) dX3_take_15 (by decide) ?_
    refine bd_iadd C dX3_take_16 ?_
    refine bd_pI C fi302 ftX3 fu302 wd_213 rfl rfl rfl dX3_take_17 ol0 (fun w3 => ?_)
    refine bd_iconst C (v := 1) dX3_take_20 (by decide) ?_
    exact bd_zret C hret rfl _ _ rfl rfl rfl dX3_take_21 (Nat.le_refl _) (Nat.le_refl _)
  · refine bd_iconst C (v := 0) dX3_take_8 (by decide) ?_
    exact bd_zret C hret rfl _ _ rfl rfl rfl dX3_take_9 (Nat.le_refl _) (Nat.le_refl _)
abbrev rmX3_isDigit : Room := { frames := 11, cells := 0, slots := 0, locals := 320 }
abbrev qX3_isDigit (G : Gy) (F : Fr) (g : Bd) (w : Wd) : Int32 → State → Prop := fun r => QM G F g 0 0 ((fun (r : Int32) => some (.int r)) r) ((fun _ => w) r)
set_option maxRecDepth 20000 in
set_option maxHeartbeats 4000000 in
theorem mX3_isDigit {l : Launch} (hf9 : l.stackTraces = false) {G : Gy} {F : Fr} (N : Nat) {w : Wd} {l0 : Nat} {r : Int32} (ol0 : okF F l0 3) (e9 : fX3_isDigit F N w l0 = some r) : Met l yX3_isDigit [.code yX3_isDigit cX3_isDigit 1 (some .boolean)] rmX3_isDigit (PcB G F w [.ref l0]) (QB G F ((fun (r : Int32) => some (.int r)) r) ((fun _ => w) r)) 0 0 (AF F) := by
  refine bd_met (vs := fun (r : Int32) => some (.int r)) (wf := fun _ => w) hf9 (by decide) (Nat.le_of_ble_eq_true rfl) e9 (fun g C hret hini => ?_)
  clear e9 r
  unfold fX3_isDigit
  refine bd_sub (lv' := [(0, .ref l0)]) ?_ [0] rfl
  refine bd_aload_n C 0 dX3_isDigit_0 rfl rfl ?_
  refine bd_callV (vs := fun (r : Int32) => some (.int r)) (wf := fun _ => w) (st := []) (st1 := fun x1 => Value.int x1 :: []) C [] (fun r9 e9 => mX3_peek C.flag N ol0 e9) mwX3_peek miX3_peek wd_721 ol0 (by decide) rfl rfl rfl (Nat.le_of_ble_eq_true rfl) dX3_isDigit_1 ⟨rfl, rfl, Nat.le_of_ble_eq_true rfl, Nat.le_of_ble_eq_true rfl, Nat.le_of_ble_eq_true rfl, Nat.le_of_ble_eq_true rfl⟩ (fun _ => rfl) (fun x1 ex1 => ?_)
  refine bd_bipush C (v := 48) dX3_isDigit_4 (by decide) ?_
  refine bd_icmp_lt C 22 dX3_isDigit_6 (by decide) (fun c2 => ?_) (fun c2 => ?_)
  · refine bd_iconst C (v := 0) dX3_isDigit_22 (by decide) ?_
    exact bd_zret C hret rfl _ _ rfl rfl rfl dX3_isDigit_23 (Nat.le_refl _) (Nat.le_refl _)
  · refine bd_aload_n C 0 dX3_isDigit_9 rfl rfl ?_
    refine bd_callV (vs := fun (r : Int32) => some (.int r)) (wf := fun _ => w) (st := []) (st1 := fun x3 => Value.int x3 :: []) C [] (fun r9 e9 => mX3_peek C.flag N ol0 e9) mwX3_peek miX3_peek wd_721 ol0 (by decide) rfl rfl rfl (Nat.le_of_ble_eq_true rfl) dX3_isDigit_10 ⟨rfl, rfl, Nat.le_of_ble_eq_true rfl, Nat.le_of_ble_eq_true rfl, Nat.le_of_ble_eq_true rfl, Nat.le_of_ble_eq_true rfl⟩ (fun _ => rfl) (fun x3 ex3 => ?_)
    refine bd_bipush C (v := 57) dX3_isDigit_13 (by decide) ?_
    refine bd_icmp_gt C 22 dX3_isDigit_15 (by decide) (fun c4 => ?_) (fun c4 => ?_)
    · refine bd_iconst C (v := 0) dX3_isDigit_22 (by decide) ?_
      exact bd_zret C hret rfl _ _ rfl rfl rfl dX3_isDigit_23 (Nat.le_refl _) (Nat.le_refl _)
    · refine bd_iconst C (v := 1) dX3_isDigit_18 (by decide) ?_
      refine bd_goto C 23 dX3_isDigit_19 (by decide) ?_
      exact bd_zret C hret rfl _ _ rfl rfl rfl dX3_isDigit_23 (Nat.le_refl _) (Nat.le_refl _)
abbrev rmX3_readTier : Room := { frames := 11, cells := 0, slots := 0, locals := 320 }
abbrev qX3_readTier (G : Gy) (F : Fr) (g : Bd) : (Int32 × Wd) → State → Prop := fun r => QM G F g 0 0 ((fun (r : Int32 × Wd) => some (.int r.1)) r) ((fun (r : Int32 × Wd) => r.2) r)
set_option maxRecDepth 20000 in
set_option maxHeartbeats 4000000 in
theorem mX3_readTier {l : Launch} (hf9 : l.stackTraces = false) {G : Gy} {F : Fr} (N : Nat) {w : Wd} {l0 : Nat} {l1 : Int32} {r : Int32 × Wd} (ol0 : okF F l0 3) (e9 : fX3_readTier F N w l0 l1 = some r) : Met l yX3_readTier [.code yX3_readTier cX3_readTier 3 (some .int)] rmX3_readTier (PcB G F w [.ref l0, .int l1]) (QB G F ((fun (r : Int32 × Wd) => some (.int r.1)) r) ((fun (r : Int32 × Wd) => r.2) r)) 0 0 (AF F) := by
  refine bd_met (vs := fun (r : Int32 × Wd) => some (.int r.1)) (wf := fun (r : Int32 × Wd) => r.2) hf9 (by decide) (Nat.le_of_ble_eq_true rfl) e9 (fun g C hret hini => ?_)
  clear e9 r
  unfold fX3_readTier
  refine bd_sub (lv' := [(0, .ref l0), (1, .int l1)]) ?_ [0, 1] rfl
  refine bd_aload_n C 0 dX3_readTier_0 rfl rfl ?_
  refine bd_callV (vs := fun (r : Int32) => some (.int r)) (wf := fun _ => w) (st := []) (st1 := fun x1 => Value.int x1 :: []) C [] (fun r9 e9 => mX3_peek C.flag N ol0 e9) mwX3_peek miX3_peek wd_721 ol0 (by decide) rfl rfl rfl (Nat.le_of_ble_eq_true rfl) dX3_readTier_1 ⟨rfl, rfl, Nat.le_of_ble_eq_true rfl, Nat.le_of_ble_eq_true rfl, Nat.le_of_ble_eq_true rfl, Nat.le_of_ble_eq_true rfl⟩ (fun _ => rfl) (fun x1 ex1 => ?_)
  refine bd_bipush C (v := 48) dX3_readTier_4 (by decide) ?_
  refine bd_isub C dX3_readTier_6 ?_
  refine bd_bnd (tp := Value.int) (fun v2 ev2 => ?_)
  refine bd_istore_n C [(2, .int v2), (0, .ref l0), (1, .int l1)] dX3_readTier_7 rfl (by decide) rfl ?_
  refine bd_iload_n C 0 dX3_readTier_8 rfl rfl ?_
  refine bd_if_lt C 17 dX3_readTier_9 (by decide) (fun c3 => ?_) (fun c3 => ?_)
  · refine bd_iconst C (v := (-1)) dX3_readTier_17 (by decide) ?_
    exact bd_iret C hret rfl _ _ rfl rfl dX3_readTier_18 (Nat.le_refl _) (Nat.le_refl _)
  · refine bd_iload_n C 0 dX3_readTier_12 rfl rfl ?_
    refine bd_iload_n C 2 dX3_readTier_13 rfl rfl ?_
    refine bd_icmp_lt C 19 dX3_readTier_14 (by decide) (fun c4 => ?_) (fun c4 => ?_)
    · refine bd_aload_n C 1 dX3_readTier_19 rfl rfl ?_
      refine bd_dup C dX3_readTier_20 rfl ?_
      refine bd_gI C fi302 fv302 wd_213 dX3_readTier_21 ol0 ?_
      refine bd_iconst C (v := 1) dX3_readTier_24 (by decide) ?_
      refine bd_iadd C dX3_readTier_25 ?_
      refine bd_pI C fi302 ftX3 fu302 wd_213 rfl rfl rfl dX3_readTier_26 ol0 (fun w5 => ?_)
      refine bd_iload_n C 0 dX3_readTier_29 rfl rfl ?_
      exact bd_iret C hret rfl _ _ rfl rfl dX3_readTier_30 (Nat.le_refl _) (Nat.le_refl _)
    · refine bd_iconst C (v := (-1)) dX3_readTier_17 (by decide) ?_
      exact bd_iret C hret rfl _ _ rfl rfl dX3_readTier_18 (Nat.le_refl _) (Nat.le_refl _)
abbrev rmX3_readNumber : Room := { frames := 12, cells := 0, slots := 0, locals := 341 }
abbrev qX3_readNumber (G : Gy) (F : Fr) (g : Bd) : (Int32 × Wd) → State → Prop := fun r => QM G F g 0 0 ((fun (r : Int32 × Wd) => some (.int r.1)) r) ((fun (r : Int32 × Wd) => r.2) r)
set_option maxRecDepth 20000 in
set_option maxHeartbeats 4000000 in
theorem mX3_readNumber {l : Launch} (hf9 : l.stackTraces = false) {G : Gy} {F : Fr} (N : Nat) {w : Wd} {l0 : Nat} {r : Int32 × Wd} (ol0 : okF F l0 3) (e9 : fX3_readNumber F N w l0 = some r) : Met l yX3_readNumber [.code yX3_readNumber cX3_readNumber 3 (some .int)] rmX3_readNumber (PcB G F w [.ref l0]) (QB G F ((fun (r : Int32 × Wd) => some (.int r.1)) r) ((fun (r : Int32 × Wd) => r.2) r)) 0 0 (AF F) := by
  refine bd_met (vs := fun (r : Int32 × Wd) => some (.int r.1)) (wf := fun (r : Int32 × Wd) => r.2) hf9 (by decide) (Nat.le_of_ble_eq_true rfl) e9 (fun g C hret hini => ?_)
  clear e9 r
  have hb24 : ∀ (n : Nat) (w : Wd) (l0 : Nat) (l1 : Int32) (l2 : Int32) (ol0 : okF F l0 3), BD g G F 3 (qX3_readNumber G F g) 0 0 (fX3_readNumber_24 F N n w l0 l1 l2) w 24 [(0, .ref l0), (1, .int l1), (2, .int l2)] [] := by
    intro n
    induction n with
    | zero =>
      intro w l0 l1 l2 ol0
      unfold fX3_readNumber_24
      exact bd_none
    | succ n ih =>
      intro w l0 l1 l2 ol0
      unfold fX3_readNumber_24
      refine bd_iload_n C 2 dX3_readNumber_24 rfl rfl ?_
      refine bd_iconst C (v := 4) dX3_readNumber_25 (by decide) ?_
      refine bd_icmp_ge C 65 dX3_readNumber_26 (by decide) (fun c1 => ?_) (fun c1 => ?_)
      · refine bd_iload_n C 1 dX3_readNumber_65 rfl rfl ?_
        exact bd_iret C hret rfl _ _ rfl rfl dX3_readNumber_66 (Nat.le_refl _) (Nat.le_refl _)
      · refine bd_aload_n C 0 dX3_readNumber_29 rfl rfl ?_
        refine bd_callV (vs := fun (r : Int32) => some (.int r)) (wf := fun _ => w) (st := []) (st1 := fun x2 => Value.int x2 :: []) C [] (fun r9 e9 => mX3_isDigit C.flag N ol0 e9) mwX3_isDigit miX3_isDigit wd_725 ol0 (by decide) rfl rfl rfl (Nat.le_of_ble_eq_true rfl) dX3_readNumber_30 ⟨rfl, rfl, Nat.le_of_ble_eq_true rfl, Nat.le_of_ble_eq_true rfl, Nat.le_of_ble_eq_true rfl, Nat.le_of_ble_eq_true rfl⟩ (fun _ => rfl) (fun x2 ex2 => ?_)
        refine bd_if_eq C 65 dX3_readNumber_33 (by decide) (fun c3 => ?_) (fun c3 => ?_)
        · refine bd_iload_n C 1 dX3_readNumber_65 rfl rfl ?_
          exact bd_iret C hret rfl _ _ rfl rfl dX3_readNumber_66 (Nat.le_refl _) (Nat.le_refl _)
        · refine bd_iload_n C 1 dX3_readNumber_36 rfl rfl ?_
          refine bd_bipush C (v := 10) dX3_readNumber_37 (by decide) ?_
          refine bd_imul C dX3_readNumber_39 ?_
          refine bd_aload_n C 0 dX3_readNumber_40 rfl rfl ?_
          refine bd_callV (vs := fun (r : Int32) => some (.int r)) (wf := fun _ => w) (st := [.int (l1 * 10)]) (st1 := fun x4 => Value.int x4 :: [.int (l1 * 10)]) C [] (fun r9 e9 => mX3_peek C.flag N ol0 e9) mwX3_peek miX3_peek wd_721 ol0 (by decide) rfl rfl rfl (Nat.le_of_ble_eq_true rfl) dX3_readNumber_41 ⟨rfl, rfl, Nat.le_of_ble_eq_true rfl, Nat.le_of_ble_eq_true rfl, Nat.le_of_ble_eq_true rfl, Nat.le_of_ble_eq_true rfl⟩ (fun _ => rfl) (fun x4 ex4 => ?_)
          refine bd_iadd C dX3_readNumber_44 ?_
          refine bd_bipush C (v := 48) dX3_readNumber_45 (by decide) ?_
          refine bd_isub C dX3_readNumber_47 ?_
          refine bd_bnd (tp := Value.int) (fun v5 ev5 => ?_)
          refine bd_istore_n C [(1, .int v5), (0, .ref l0), (2, .int l2)] dX3_readNumber_48 rfl (by decide) rfl ?_
          refine bd_aload_n C 1 dX3_readNumber_49 rfl rfl ?_
          refine bd_dup C dX3_readNumber_50 rfl ?_
          refine bd_gI C fi302 fv302 wd_213 dX3_readNumber_51 ol0 ?_
          refine bd_iconst C (v := 1) dX3_readNumber_54 (by decide) ?_
          refine bd_iadd C dX3_readNumber_55 ?_
          refine bd_pI C fi302 ftX3 fu302 wd_213 rfl rfl rfl dX3_readNumber_56 ol0 (fun w6 => ?_)
          refine bd_iinc C (v := l2 + 1) 2 [(2, .int (l2 + 1)), (1, .int v5), (0, .ref l0)] dX3_readNumber_59 rfl rfl (by decide) rfl ?_
          refine bd_goto C 24 dX3_readNumber_62 (by decide) ?_
          exact bd_sub (ih w6 l0 v5 (l2 + 1) ol0) [2, 1, 0] rfl
  unfold fX3_readNumber
  refine bd_sub (lv' := [(0, .ref l0)]) ?_ [0] rfl
  refine bd_aload_n C 0 dX3_readNumber_0 rfl rfl ?_
  refine bd_callV (vs := fun (r : Int32) => some (.int r)) (wf := fun _ => w) (st := []) (st1 := fun x7 => Value.int x7 :: []) C [] (fun r9 e9 => mX3_isDigit C.flag N ol0 e9) mwX3_isDigit miX3_isDigit wd_725 ol0 (by decide) rfl rfl rfl (Nat.le_of_ble_eq_true rfl) dX3_readNumber_1 ⟨rfl, rfl, Nat.le_of_ble_eq_true rfl, Nat.le_of_ble_eq_true rfl, Nat.le_of_ble_eq_true rfl, Nat.le_of_ble_eq_true rfl⟩ (fun _ => rfl) (fun x7 ex7 => ?_)
  refine bd_if_ne C 9 dX3_readNumber_4 (by decide) (fun c8 => ?_) (fun c8 => ?_)
  · refine bd_aload_n C 0 dX3_readNumber_9 rfl rfl ?_
    refine bd_bipush C (v := 48) dX3_readNumber_10 (by decide) ?_
    refine bd_callV (vs := fun (r : Int32 × Wd) => some (.int r.1)) (wf := fun (r : Int32 × Wd) => r.2) (st := []) (st1 := fun p9 => Value.int p9.1 :: []) C [.int 48] (fun r9 e9 => mX3_take C.flag N ol0 e9) mwX3_take miX3_take wd_1183 ol0 (by decide) rfl rfl rfl (Nat.le_of_ble_eq_true rfl) dX3_readNumber_12 ⟨rfl, rfl, Nat.le_of_ble_eq_true rfl, Nat.le_of_ble_eq_true rfl, Nat.le_of_ble_eq_true rfl, Nat.le_of_ble_eq_true rfl⟩ (fun _ => rfl) (fun p9 ep9 => ?_)
    refine bd_if_eq C 20 dX3_readNumber_15 (by decide) (fun c10 => ?_) (fun c10 => ?_)
    · refine bd_iconst C (v := 0) dX3_readNumber_20 (by decide) ?_
      refine bd_istore_n C [(1, .int 0), (0, .ref l0)] dX3_readNumber_21 rfl (by decide) rfl ?_
      refine bd_iconst C (v := 0) dX3_readNumber_22 (by decide) ?_
      refine bd_istore_n C [(2, .int 0), (1, .int 0), (0, .ref l0)] dX3_readNumber_23 rfl (by decide) rfl ?_
      exact bd_sub (hb24 N p9.2 l0 0 0 ol0) [2, 1, 0] rfl
    · refine bd_iconst C (v := 0) dX3_readNumber_18 (by decide) ?_
      exact bd_iret C hret rfl _ _ rfl rfl dX3_readNumber_19 (Nat.le_refl _) (Nat.le_refl _)
  · refine bd_iconst C (v := (-1)) dX3_readNumber_7 (by decide) ?_
    exact bd_iret C hret rfl _ _ rfl rfl dX3_readNumber_8 (Nat.le_refl _) (Nat.le_refl _)
abbrev rmX3_isLetterOf : Room := { frames := 12, cells := 0, slots := 0, locals := 340 }
abbrev qX3_isLetterOf (G : Gy) (F : Fr) (g : Bd) (w : Wd) : Int32 → State → Prop := fun r => QM G F g 0 0 ((fun (r : Int32) => some (.int r)) r) ((fun _ => w) r)
set_option maxRecDepth 20000 in
set_option maxHeartbeats 4000000 in
theorem mX3_isLetterOf {l : Launch} (hf9 : l.stackTraces = false) {G : Gy} {F : Fr} (N : Nat) {w : Wd} {l0 : Nat} {l1 : Int32} {r : Int32} (ol0 : okF F l0 3) (e9 : fX3_isLetterOf F N w l0 l1 = some r) : Met l yX3_isLetterOf [.code yX3_isLetterOf cX3_isLetterOf 3 (some .boolean)] rmX3_isLetterOf (PcB G F w [.ref l0, .int l1]) (QB G F ((fun (r : Int32) => some (.int r)) r) ((fun _ => w) r)) 0 0 (AF F) := by
  refine bd_met (vs := fun (r : Int32) => some (.int r)) (wf := fun _ => w) hf9 (by decide) (Nat.le_of_ble_eq_true rfl) e9 (fun g C hret hini => ?_)
  clear e9 r
  have hb50 : BD g G F 3 (qX3_isLetterOf G F g w) 0 0 (fX3_isLetterOf_50 F N w) w 50 [] [] := by
    unfold fX3_isLetterOf_50
    refine bd_iconst C (v := 1) dX3_isLetterOf_50 (by decide) ?_
    refine bd_goto C 55 dX3_isLetterOf_51 (by decide) ?_
    exact bd_zret C hret rfl _ _ rfl rfl rfl dX3_isLetterOf_55 (Nat.le_refl _) (Nat.le_refl _)
  unfold fX3_isLetterOf
  refine bd_sub (lv' := [(0, .ref l0), (1, .int l1)]) ?_ [0, 1] rfl
  refine bd_aload_n C 0 dX3_isLetterOf_0 rfl rfl ?_
  refine bd_callV (vs := fun (r : Int32) => some (.int r)) (wf := fun _ => w) (st := []) (st1 := fun x1 => Value.int x1 :: []) C [] (fun r9 e9 => mX3_peek C.flag N ol0 e9) mwX3_peek miX3_peek wd_721 ol0 (by decide) rfl rfl rfl (Nat.le_of_ble_eq_true rfl) dX3_isLetterOf_1 ⟨rfl, rfl, Nat.le_of_ble_eq_true rfl, Nat.le_of_ble_eq_true rfl, Nat.le_of_ble_eq_true rfl, Nat.le_of_ble_eq_true rfl⟩ (fun _ => rfl) (fun x1 ex1 => ?_)
  refine bd_istore_n C [(2, .int x1), (0, .ref l0), (1, .int l1)] dX3_isLetterOf_4 rfl (by decide) rfl ?_
  refine bd_iload_n C 2 dX3_isLetterOf_5 rfl rfl ?_
  refine bd_ite (fun c2 => ?_) (fun c2 => ?_)
  · refine bd_lookup C (off := 26) 32 dX3_isLetterOf_6 (by decide) (by rw [c2]; rfl) (by decide) ?_
    refine bd_iload_n C 0 dX3_isLetterOf_32 rfl rfl ?_
    refine bd_bipush C (v := 108) dX3_isLetterOf_33 (by decide) ?_
    refine bd_icmp_eq C 50 dX3_isLetterOf_35 (by decide) (fun c3 => ?_) (fun c3 => ?_)
    · exact bd_sub (hb50) [] rfl
    · refine bd_iload_n C 0 dX3_isLetterOf_38 rfl rfl ?_
      refine bd_bipush C (v := 114) dX3_isLetterOf_39 (by decide) ?_
      refine bd_icmp_eq C 50 dX3_isLetterOf_41 (by decide) (fun c4 => ?_) (fun c4 => ?_)
      · exact bd_sub (hb50) [] rfl
      · refine bd_iload_n C 0 dX3_isLetterOf_44 rfl rfl ?_
        refine bd_bipush C (v := 98) dX3_isLetterOf_45 (by decide) ?_
        refine bd_icmp_ne C 54 dX3_isLetterOf_47 (by decide) (fun c5 => ?_) (fun c5 => ?_)
        · refine bd_iconst C (v := 0) dX3_isLetterOf_54 (by decide) ?_
          exact bd_zret C hret rfl _ _ rfl rfl rfl dX3_isLetterOf_55 (Nat.le_refl _) (Nat.le_refl _)
        · exact bd_sub (hb50) [] rfl
  · refine bd_ite (fun c6 => ?_) (fun c6 => ?_)
    · refine bd_lookup C (off := 50) 56 dX3_isLetterOf_6 (by decide) (by rw [c6]; rfl) (by decide) ?_
      refine bd_aload_n C 1 dX3_isLetterOf_56 rfl rfl ?_
      refine bd_callV (vs := fun (r : Int32) => some (.int r)) (wf := fun _ => w) (st := []) (st1 := fun x7 => Value.int x7 :: []) C [] (fun r9 e9 => mX3_isDigit C.flag N ol0 e9) mwX3_isDigit miX3_isDigit wd_725 ol0 (by decide) rfl rfl rfl (Nat.le_of_ble_eq_true rfl) dX3_isLetterOf_57 ⟨rfl, rfl, Nat.le_of_ble_eq_true rfl, Nat.le_of_ble_eq_true rfl, Nat.le_of_ble_eq_true rfl, Nat.le_of_ble_eq_true rfl⟩ (fun _ => rfl) (fun x7 ex7 => ?_)
      refine bd_ckZ (fun cz8 => ?_)
      exact bd_zret C hret rfl _ _ (nar_z cz8) rfl rfl dX3_isLetterOf_60 (Nat.le_refl _) (Nat.le_refl _)
    · refine bd_lookup C (off := 55) 61 dX3_isLetterOf_6 (by decide) ((lv_osw c2 rfl).trans ((lv_osw c6 rfl).trans rfl)) (by decide) ?_
      refine bd_iload_n C 0 dX3_isLetterOf_61 rfl rfl ?_
      refine bd_bipush C (v := 97) dX3_isLetterOf_62 (by decide) ?_
      refine bd_icmp_lt C 77 dX3_isLetterOf_64 (by decide) (fun c9 => ?_) (fun c9 => ?_)
      · refine bd_iconst C (v := 0) dX3_isLetterOf_77 (by decide) ?_
        exact bd_zret C hret rfl _ _ rfl rfl rfl dX3_isLetterOf_78 (Nat.le_refl _) (Nat.le_refl _)
      · refine bd_iload_n C 0 dX3_isLetterOf_67 rfl rfl ?_
        refine bd_bipush C (v := 122) dX3_isLetterOf_68 (by decide) ?_
        refine bd_icmp_gt C 77 dX3_isLetterOf_70 (by decide) (fun c10 => ?_) (fun c10 => ?_)
        · refine bd_iconst C (v := 0) dX3_isLetterOf_77 (by decide) ?_
          exact bd_zret C hret rfl _ _ rfl rfl rfl dX3_isLetterOf_78 (Nat.le_refl _) (Nat.le_refl _)
        · refine bd_iconst C (v := 1) dX3_isLetterOf_73 (by decide) ?_
          refine bd_goto C 78 dX3_isLetterOf_74 (by decide) ?_
          exact bd_zret C hret rfl _ _ rfl rfl rfl dX3_isLetterOf_78 (Nat.le_refl _) (Nat.le_refl _)
abbrev rmX8_withLetter : Room := { frames := 10, cells := 0, slots := 0, locals := 300 }
abbrev qX8_withLetter (G : Gy) (F : Fr) (g : Bd) (w : Wd) : Int64 → State → Prop := fun r => QM G F g 0 0 ((fun (r : Int64) => some (.long r)) r) ((fun _ => w) r)
set_option maxRecDepth 20000 in
set_option maxHeartbeats 4000000 in
theorem mX8_withLetter {l : Launch} (hf9 : l.stackTraces = false) {G : Gy} {F : Fr} (N : Nat) {w : Wd} {l0 : Int64} {l2 : Int32} {l3 : Int32} {r : Int64} (e9 : fX8_withLetter F N w l0 l2 l3 = some r) : Met l yX8_withLetter [.code yX8_withLetter cX8_withLetter 4 (some .long)] rmX8_withLetter (PcB G F w [.long l0, .int l2, .int l3]) (QB G F ((fun (r : Int64) => some (.long r)) r) ((fun _ => w) r)) 0 0 (AF F) := by
  refine bd_met (vs := fun (r : Int64) => some (.long r)) (wf := fun _ => w) hf9 (by decide) (Nat.le_of_ble_eq_true rfl) e9 (fun g C hret hini => ?_)
  clear e9 r
  unfold fX8_withLetter
  refine bd_sub (lv' := [(0, .long l0), (2, .int l2), (3, .int l3)]) ?_ [0, 1, 2] rfl
  refine bd_lload_n C 0 dX8_withLetter_0 rfl rfl ?_
  refine bd_iload_n C 2 dX8_withLetter_1 rfl rfl ?_
  refine bd_i2l C dX8_withLetter_2 ?_
  refine bd_bipush C (v := 8) dX8_withLetter_3 (by decide) ?_
  refine bd_iload_n C 1 dX8_withLetter_5 rfl rfl ?_
  refine bd_imul C dX8_withLetter_6 ?_
  refine bd_lshl C dX8_withLetter_7 ?_
  refine bd_lor C dX8_withLetter_8 ?_
  exact bd_lret C hret rfl _ _ rfl rfl dX8_withLetter_9 (Nat.le_refl _) (Nat.le_refl _)
abbrev rmX3_readLabel : Room := { frames := 13, cells := 0, slots := 0, locals := 362 }
abbrev qX3_readLabel (G : Gy) (F : Fr) (g : Bd) : (Int64 × Wd) → State → Prop := fun r => QM G F g 0 0 ((fun (r : Int64 × Wd) => some (.long r.1)) r) ((fun (r : Int64 × Wd) => r.2) r)
set_option maxRecDepth 20000 in
set_option maxHeartbeats 4000000 in
theorem mX3_readLabel {l : Launch} (hf9 : l.stackTraces = false) {G : Gy} {F : Fr} (N : Nat) {w : Wd} {l0 : Nat} {l1 : Int32} {r : Int64 × Wd} (ol0 : okF F l0 3) (e9 : fX3_readLabel F N w l0 l1 = some r) : Met l yX3_readLabel [.code yX3_readLabel cX3_readLabel 6 (some .long)] rmX3_readLabel (PcB G F w [.ref l0, .int l1]) (QB G F ((fun (r : Int64 × Wd) => some (.long r.1)) r) ((fun (r : Int64 × Wd) => r.2) r)) 0 0 (AF F) := by
  refine bd_met (vs := fun (r : Int64 × Wd) => some (.long r.1)) (wf := fun (r : Int64 × Wd) => r.2) hf9 (by decide) (Nat.le_of_ble_eq_true rfl) e9 (fun g C hret hini => ?_)
  clear e9 r
  have hb21 : ∀ (n : Nat) (w : Wd) (l0 : Nat) (l1 : Int32) (l2 : Int32) (l3 : Int64) (l5 : Int32) (ol0 : okF F l0 3), BD g G F 6 (qX3_readLabel G F g) 0 0 (fX3_readLabel_21 F N n w l0 l1 l2 l3 l5) w 21 [(0, .ref l0), (1, .int l1), (2, .int l2), (3, .long l3), (5, .int l5)] [] := by
    intro n
    induction n with
    | zero =>
      intro w l0 l1 l2 l3 l5 ol0
      unfold fX3_readLabel_21
      exact bd_none
    | succ n ih =>
      intro w l0 l1 l2 l3 l5 ol0
      unfold fX3_readLabel_21
      refine bd_iload C 4 dX3_readLabel_21 rfl ?_
      refine bd_iload_n C 2 dX3_readLabel_23 rfl rfl ?_
      refine bd_icmp_ge C 62 dX3_readLabel_24 (by decide) (fun c1 => ?_) (fun c1 => ?_)
      · refine bd_lload_n C 3 dX3_readLabel_62 rfl rfl ?_
        exact bd_lret C hret rfl _ _ rfl rfl dX3_readLabel_63 (Nat.le_refl _) (Nat.le_refl _)
      · refine bd_aload_n C 0 dX3_readLabel_27 rfl rfl ?_
        refine bd_iload_n C 1 dX3_readLabel_28 rfl rfl ?_
        refine bd_callV (vs := fun (r : Int32) => some (.int r)) (wf := fun _ => w) (st := []) (st1 := fun x2 => Value.int x2 :: []) C [.int l1] (fun r9 e9 => mX3_isLetterOf C.flag N ol0 e9) mwX3_isLetterOf miX3_isLetterOf wd_717 ol0 (by decide) rfl rfl rfl (Nat.le_of_ble_eq_true rfl) dX3_readLabel_29 ⟨rfl, rfl, Nat.le_of_ble_eq_true rfl, Nat.le_of_ble_eq_true rfl, Nat.le_of_ble_eq_true rfl, Nat.le_of_ble_eq_true rfl⟩ (fun _ => rfl) (fun x2 ex2 => ?_)
        refine bd_if_eq C 62 dX3_readLabel_32 (by decide) (fun c3 => ?_) (fun c3 => ?_)
        · refine bd_lload_n C 3 dX3_readLabel_62 rfl rfl ?_
          exact bd_lret C hret rfl _ _ rfl rfl dX3_readLabel_63 (Nat.le_refl _) (Nat.le_refl _)
        · refine bd_lload_n C 3 dX3_readLabel_35 rfl rfl ?_
          refine bd_iload C 4 dX3_readLabel_36 rfl ?_
          refine bd_aload_n C 0 dX3_readLabel_38 rfl rfl ?_
          refine bd_callV (vs := fun (r : Int32) => some (.int r)) (wf := fun _ => w) (st := [.int l5, .long l3]) (st1 := fun x4 => Value.int x4 :: [.int l5, .long l3]) C [] (fun r9 e9 => mX3_peek C.flag N ol0 e9) mwX3_peek miX3_peek wd_721 ol0 (by decide) rfl rfl rfl (Nat.le_of_ble_eq_true rfl) dX3_readLabel_39 ⟨rfl, rfl, Nat.le_of_ble_eq_true rfl, Nat.le_of_ble_eq_true rfl, Nat.le_of_ble_eq_true rfl, Nat.le_of_ble_eq_true rfl⟩ (fun _ => rfl) (fun x4 ex4 => ?_)
          refine bd_callSN (vs := fun (r : Int64) => some (.long r)) (wf := fun _ => w) (st := []) (st1 := fun x5 => Value.long x5 :: []) C [.long l3, .int l5, .int x4] (fun r9 e9 => mX8_withLetter C.flag N e9) mwX8_withLetter miX8_withLetter wd_729 rfl rfl (Nat.le_of_ble_eq_true rfl) dX3_readLabel_42 ⟨rfl, rfl, Nat.le_of_ble_eq_true rfl, Nat.le_of_ble_eq_true rfl, Nat.le_of_ble_eq_true rfl, Nat.le_of_ble_eq_true rfl⟩ (fun _ => rfl) (fun x5 ex5 => ?_)
          refine bd_lstore_n C [(3, .long x5), (0, .ref l0), (1, .int l1), (2, .int l2), (5, .int l5)] dX3_readLabel_45 rfl (by decide) rfl ?_
          refine bd_aload_n C 1 dX3_readLabel_46 rfl rfl ?_
          refine bd_dup C dX3_readLabel_47 rfl ?_
          refine bd_gI C fi302 fv302 wd_213 dX3_readLabel_48 ol0 ?_
          refine bd_iconst C (v := 1) dX3_readLabel_51 (by decide) ?_
          refine bd_iadd C dX3_readLabel_52 ?_
          refine bd_pI C fi302 ftX3 fu302 wd_213 rfl rfl rfl dX3_readLabel_53 ol0 (fun w6 => ?_)
          refine bd_iinc C (v := l5 + 1) 4 [(5, .int (l5 + 1)), (3, .long x5), (0, .ref l0), (1, .int l1), (2, .int l2)] dX3_readLabel_56 rfl rfl (by decide) rfl ?_
          refine bd_goto C 21 dX3_readLabel_59 (by decide) ?_
          exact bd_sub (ih w6 l0 l1 l2 x5 (l5 + 1) ol0) [2, 3, 4, 1, 0] rfl
  have hb15 : ∀  (w : Wd) (l0 : Nat) (l1 : Int32) (s0 : Int32) (ol0 : okF F l0 3), BD g G F 6 (qX3_readLabel G F g) 0 0 (fX3_readLabel_15 F N w l0 l1 s0) w 15 [(0, .ref l0), (1, .int l1)] [.int s0] := by
    intro w l0 l1 s0 ol0
    unfold fX3_readLabel_15
    refine bd_istore_n C [(2, .int s0), (0, .ref l0), (1, .int l1)] dX3_readLabel_15 rfl (by decide) rfl ?_
    refine bd_lconst C (v := 0) dX3_readLabel_16 (by decide) ?_
    refine bd_lstore_n C [(3, .long 0), (2, .int s0), (0, .ref l0), (1, .int l1)] dX3_readLabel_17 rfl (by decide) rfl ?_
    refine bd_iconst C (v := 0) dX3_readLabel_18 (by decide) ?_
    refine bd_istore C [(5, .int 0), (3, .long 0), (2, .int s0), (0, .ref l0), (1, .int l1)] dX3_readLabel_19 (by decide) rfl ?_
    exact bd_sub (hb21 N w l0 l1 s0 0 0 ol0) [3, 4, 2, 1, 0] rfl
  have hb9 : ∀  (w : Wd) (l0 : Nat) (l1 : Int32) (ol0 : okF F l0 3), BD g G F 6 (qX3_readLabel G F g) 0 0 (fX3_readLabel_9 F N w l0 l1) w 9 [(0, .ref l0), (1, .int l1)] [] := by
    intro w l0 l1 ol0
    unfold fX3_readLabel_9
    refine bd_bipush C (v := 8) dX3_readLabel_9 (by decide) ?_
    refine bd_goto C 15 dX3_readLabel_11 (by decide) ?_
    exact bd_sub (hb15 w l0 l1 8 ol0) [0, 1] rfl
  unfold fX3_readLabel
  refine bd_sub (lv' := [(0, .ref l0), (1, .int l1)]) ?_ [0, 1] rfl
  refine bd_iload_n C 1 dX3_readLabel_0 rfl rfl ?_
  refine bd_if_eq C 9 dX3_readLabel_1 (by decide) (fun c7 => ?_) (fun c7 => ?_)
  · exact bd_sub (hb9 w l0 l1 ol0) [0, 1] rfl
  · refine bd_iload_n C 1 dX3_readLabel_4 rfl rfl ?_
    refine bd_iconst C (v := 3) dX3_readLabel_5 (by decide) ?_
    refine bd_icmp_ne C 14 dX3_readLabel_6 (by decide) (fun c8 => ?_) (fun c8 => ?_)
    · refine bd_iconst C (v := 1) dX3_readLabel_14 (by decide) ?_
      exact bd_sub (hb15 w l0 l1 1 ol0) [0, 1] rfl
    · exact bd_sub (hb9 w l0 l1 ol0) [0, 1] rfl
abbrev rmX3_readItem : Room := { frames := 14, cells := 0, slots := 0, locals := 387 }
abbrev qX3_readItem (G : Gy) (F : Fr) (g : Bd) : (Int32 × Wd) → State → Prop := fun r => QM G F g 0 0 ((fun (r : Int32 × Wd) => some (.int r.1)) r) ((fun (r : Int32 × Wd) => r.2) r)
set_option maxRecDepth 20000 in
set_option maxHeartbeats 4000000 in
theorem mX3_readItem {l : Launch} (hf9 : l.stackTraces = false) {G : Gy} {F : Fr} (N : Nat) {w : Wd} {l0 : Nat} {l1 : Nat} {r : Int32 × Wd} (ol0 : okF F l0 3) (ol1 : okF F l1 1) (e9 : fX3_readItem F N w l0 l1 = some r) : Met l yX3_readItem [.code yX3_readItem cX3_readItem 2 (some .boolean)] rmX3_readItem (PcB G F w [.ref l0, .ref l1]) (QB G F ((fun (r : Int32 × Wd) => some (.int r.1)) r) ((fun (r : Int32 × Wd) => r.2) r)) 0 0 (AF F) := by
  refine bd_met (vs := fun (r : Int32 × Wd) => some (.int r.1)) (wf := fun (r : Int32 × Wd) => r.2) hf9 (by decide) (Nat.le_of_ble_eq_true rfl) e9 (fun g C hret hini => ?_)
  clear e9 r
  unfold fX3_readItem
  refine bd_sub (lv' := [(0, .ref l0), (1, .ref l1)]) ?_ [0, 1] rfl
  refine bd_aload_n C 0 dX3_readItem_0 rfl rfl ?_
  refine bd_aload_n C 0 dX3_readItem_1 rfl rfl ?_
  refine bd_aload_n C 1 dX3_readItem_2 rfl rfl ?_
  refine bd_gIN C fi105 fv105 wd_157 dX3_readItem_3 ol1 ?_
  refine bd_callV (vs := fun (r : Int32 × Wd) => some (.int r.1)) (wf := fun (r : Int32 × Wd) => r.2) (st := [.ref l0]) (st1 := fun p1 => Value.int p1.1 :: [.ref l0]) C [.int (gI w 105 l1)] (fun r9 e9 => mX3_readTier C.flag N ol0 e9) mwX3_readTier miX3_readTier wd_1182 ol0 (by decide) rfl rfl rfl (Nat.le_of_ble_eq_true rfl) dX3_readItem_6 ⟨rfl, rfl, Nat.le_of_ble_eq_true rfl, Nat.le_of_ble_eq_true rfl, Nat.le_of_ble_eq_true rfl, Nat.le_of_ble_eq_true rfl⟩ (fun _ => rfl) (fun p1 ep1 => ?_)
  refine bd_pI C fi303 ftX3 fu303 wd_215 rfl rfl rfl dX3_readItem_9 ol0 (fun w2 => ?_)
  refine bd_aload_n C 0 dX3_readItem_12 rfl rfl ?_
  refine bd_gI C fi303 fv303 wd_215 dX3_readItem_13 ol0 ?_
  refine bd_if_lt C 28 dX3_readItem_16 (by decide) (fun c3 => ?_) (fun c3 => ?_)
  · refine bd_iconst C (v := 0) dX3_readItem_28 (by decide) ?_
    exact bd_zret C hret rfl _ _ rfl rfl rfl dX3_readItem_29 (Nat.le_refl _) (Nat.le_refl _)
  · refine bd_aload_n C 0 dX3_readItem_19 rfl rfl ?_
    refine bd_bipush C (v := 58) dX3_readItem_20 (by decide) ?_
    refine bd_callV (vs := fun (r : Int32 × Wd) => some (.int r.1)) (wf := fun (r : Int32 × Wd) => r.2) (st := []) (st1 := fun p4 => Value.int p4.1 :: []) C [.int 58] (fun r9 e9 => mX3_take C.flag N ol0 e9) mwX3_take miX3_take wd_1183 ol0 (by decide) rfl rfl rfl (Nat.le_of_ble_eq_true rfl) dX3_readItem_22 ⟨rfl, rfl, Nat.le_of_ble_eq_true rfl, Nat.le_of_ble_eq_true rfl, Nat.le_of_ble_eq_true rfl, Nat.le_of_ble_eq_true rfl⟩ (fun _ => rfl) (fun p4 ep4 => ?_)
    refine bd_if_ne C 30 dX3_readItem_25 (by decide) (fun c5 => ?_) (fun c5 => ?_)
    · refine bd_aload_n C 0 dX3_readItem_30 rfl rfl ?_
      refine bd_aload_n C 0 dX3_readItem_31 rfl rfl ?_
      refine bd_callV (vs := fun (r : Int32 × Wd) => some (.int r.1)) (wf := fun (r : Int32 × Wd) => r.2) (st := [.ref l0]) (st1 := fun p6 => Value.int p6.1 :: [.ref l0]) C [] (fun r9 e9 => mX3_readNumber C.flag N ol0 e9) mwX3_readNumber miX3_readNumber wd_1184 ol0 (by decide) rfl rfl rfl (Nat.le_of_ble_eq_true rfl) dX3_readItem_32 ⟨rfl, rfl, Nat.le_of_ble_eq_true rfl, Nat.le_of_ble_eq_true rfl, Nat.le_of_ble_eq_true rfl, Nat.le_of_ble_eq_true rfl⟩ (fun _ => rfl) (fun p6 ep6 => ?_)
      refine bd_pI C fi304 ftX3 fu304 wd_217 rfl rfl rfl dX3_readItem_35 ol0 (fun w7 => ?_)
      refine bd_aload_n C 0 dX3_readItem_38 rfl rfl ?_
      refine bd_gI C fi304 fv304 wd_217 dX3_readItem_39 ol0 ?_
      refine bd_if_lt C 54 dX3_readItem_42 (by decide) (fun c8 => ?_) (fun c8 => ?_)
      · refine bd_iconst C (v := 0) dX3_readItem_54 (by decide) ?_
        exact bd_zret C hret rfl _ _ rfl rfl rfl dX3_readItem_55 (Nat.le_refl _) (Nat.le_refl _)
      · refine bd_aload_n C 0 dX3_readItem_45 rfl rfl ?_
        refine bd_bipush C (v := 45) dX3_readItem_46 (by decide) ?_
        refine bd_callV (vs := fun (r : Int32 × Wd) => some (.int r.1)) (wf := fun (r : Int32 × Wd) => r.2) (st := []) (st1 := fun p9 => Value.int p9.1 :: []) C [.int 45] (fun r9 e9 => mX3_take C.flag N ol0 e9) mwX3_take miX3_take wd_1183 ol0 (by decide) rfl rfl rfl (Nat.le_of_ble_eq_true rfl) dX3_readItem_48 ⟨rfl, rfl, Nat.le_of_ble_eq_true rfl, Nat.le_of_ble_eq_true rfl, Nat.le_of_ble_eq_true rfl, Nat.le_of_ble_eq_true rfl⟩ (fun _ => rfl) (fun p9 ep9 => ?_)
        refine bd_if_ne C 56 dX3_readItem_51 (by decide) (fun c10 => ?_) (fun c10 => ?_)
        · refine bd_aload_n C 0 dX3_readItem_56 rfl rfl ?_
          refine bd_aload_n C 0 dX3_readItem_57 rfl rfl ?_
          refine bd_callV (vs := fun (r : Int32 × Wd) => some (.int r.1)) (wf := fun (r : Int32 × Wd) => r.2) (st := [.ref l0]) (st1 := fun p11 => Value.int p11.1 :: [.ref l0]) C [] (fun r9 e9 => mX3_readNumber C.flag N ol0 e9) mwX3_readNumber miX3_readNumber wd_1184 ol0 (by decide) rfl rfl rfl (Nat.le_of_ble_eq_true rfl) dX3_readItem_58 ⟨rfl, rfl, Nat.le_of_ble_eq_true rfl, Nat.le_of_ble_eq_true rfl, Nat.le_of_ble_eq_true rfl, Nat.le_of_ble_eq_true rfl⟩ (fun _ => rfl) (fun p11 ep11 => ?_)
          refine bd_pI C fi305 ftX3 fu305 wd_219 rfl rfl rfl dX3_readItem_61 ol0 (fun w12 => ?_)
          refine bd_aload_n C 0 dX3_readItem_64 rfl rfl ?_
          refine bd_gI C fi305 fv305 wd_219 dX3_readItem_65 ol0 ?_
          refine bd_if_lt C 80 dX3_readItem_68 (by decide) (fun c13 => ?_) (fun c13 => ?_)
          · refine bd_iconst C (v := 0) dX3_readItem_80 (by decide) ?_
            exact bd_zret C hret rfl _ _ rfl rfl rfl dX3_readItem_81 (Nat.le_refl _) (Nat.le_refl _)
          · refine bd_aload_n C 0 dX3_readItem_71 rfl rfl ?_
            refine bd_bipush C (v := 61) dX3_readItem_72 (by decide) ?_
            refine bd_callV (vs := fun (r : Int32 × Wd) => some (.int r.1)) (wf := fun (r : Int32 × Wd) => r.2) (st := []) (st1 := fun p14 => Value.int p14.1 :: []) C [.int 61] (fun r9 e9 => mX3_take C.flag N ol0 e9) mwX3_take miX3_take wd_1183 ol0 (by decide) rfl rfl rfl (Nat.le_of_ble_eq_true rfl) dX3_readItem_74 ⟨rfl, rfl, Nat.le_of_ble_eq_true rfl, Nat.le_of_ble_eq_true rfl, Nat.le_of_ble_eq_true rfl, Nat.le_of_ble_eq_true rfl⟩ (fun _ => rfl) (fun p14 ep14 => ?_)
            refine bd_if_ne C 82 dX3_readItem_77 (by decide) (fun c15 => ?_) (fun c15 => ?_)
            · refine bd_aload_n C 0 dX3_readItem_82 rfl rfl ?_
              refine bd_aload_n C 0 dX3_readItem_83 rfl rfl ?_
              refine bd_aload_n C 1 dX3_readItem_84 rfl rfl ?_
              refine bd_aload_n C 0 dX3_readItem_85 rfl rfl ?_
              refine bd_gI C fi303 fv303 wd_215 dX3_readItem_86 ol0 ?_
              refine bd_callV (vs := fun (r : Int32) => some (.int r)) (wf := fun _ => p14.2) (st := [.ref l0, .ref l0]) (st1 := fun x16 => Value.int x16 :: [.ref l0, .ref l0]) C [.int (gI p14.2 303 l0)] (fun r9 e9 => mX1_kindOf C.flag N ol1 e9) mwX1_kindOf miX1_kindOf wd_1188 ol1 (by decide) rfl rfl rfl (Nat.le_of_ble_eq_true rfl) dX3_readItem_89 ⟨rfl, rfl, Nat.le_of_ble_eq_true rfl, Nat.le_of_ble_eq_true rfl, Nat.le_of_ble_eq_true rfl, Nat.le_of_ble_eq_true rfl⟩ (fun _ => rfl) (fun x16 ex16 => ?_)
              refine bd_callV (vs := fun (r : Int64 × Wd) => some (.long r.1)) (wf := fun (r : Int64 × Wd) => r.2) (st := [.ref l0]) (st1 := fun p17 => Value.long p17.1 :: [.ref l0]) C [.int x16] (fun r9 e9 => mX3_readLabel C.flag N ol0 e9) mwX3_readLabel miX3_readLabel wd_1189 ol0 (by decide) rfl rfl rfl (Nat.le_of_ble_eq_true rfl) dX3_readItem_92 ⟨rfl, rfl, Nat.le_of_ble_eq_true rfl, Nat.le_of_ble_eq_true rfl, Nat.le_of_ble_eq_true rfl, Nat.le_of_ble_eq_true rfl⟩ (fun _ => rfl) (fun p17 ep17 => ?_)
              refine bd_pJ C fi306 ftX3 fu306 wd_221 rfl rfl rfl dX3_readItem_95 ol0 (fun w18 => ?_)
              refine bd_aload_n C 0 dX3_readItem_98 rfl rfl ?_
              refine bd_gJ C fi306 fv306 wd_221 dX3_readItem_99 ol0 ?_
              refine bd_lconst C (v := 0) dX3_readItem_102 (by decide) ?_
              refine bd_lcmp C dX3_readItem_103 ?_
              refine bd_if_eq C 111 dX3_readItem_104 (by decide) (fun c19 => ?_) (fun c19 => ?_)
              · refine bd_iconst C (v := 0) dX3_readItem_111 (by decide) ?_
                exact bd_zret C hret rfl _ _ rfl rfl rfl dX3_readItem_112 (Nat.le_refl _) (Nat.le_refl _)
              · refine bd_iconst C (v := 1) dX3_readItem_107 (by decide) ?_
                refine bd_goto C 112 dX3_readItem_108 (by decide) ?_
                exact bd_zret C hret rfl _ _ rfl rfl rfl dX3_readItem_112 (Nat.le_refl _) (Nat.le_refl _)
            · refine bd_iconst C (v := 0) dX3_readItem_80 (by decide) ?_
              exact bd_zret C hret rfl _ _ rfl rfl rfl dX3_readItem_81 (Nat.le_refl _) (Nat.le_refl _)
        · refine bd_iconst C (v := 0) dX3_readItem_54 (by decide) ?_
          exact bd_zret C hret rfl _ _ rfl rfl rfl dX3_readItem_55 (Nat.le_refl _) (Nat.le_refl _)
    · refine bd_iconst C (v := 0) dX3_readItem_28 (by decide) ?_
      exact bd_zret C hret rfl _ _ rfl rfl rfl dX3_readItem_29 (Nat.le_refl _) (Nat.le_refl _)
abbrev rmX3_countItems : Room := { frames := 15, cells := 0, slots := 0, locals := 408 }
abbrev qX3_countItems (G : Gy) (F : Fr) (g : Bd) : (Int32 × Wd) → State → Prop := fun r => QM G F g 0 0 ((fun (r : Int32 × Wd) => some (.int r.1)) r) ((fun (r : Int32 × Wd) => r.2) r)
set_option maxRecDepth 20000 in
set_option maxHeartbeats 4000000 in
theorem mX3_countItems {l : Launch} (hf9 : l.stackTraces = false) {G : Gy} {F : Fr} (N : Nat) {w : Wd} {l0 : Nat} {l1 : Nat} {r : Int32 × Wd} (ol0 : okF F l0 3) (ol1 : okF F l1 1) (e9 : fX3_countItems F N w l0 l1 = some r) : Met l yX3_countItems [.code yX3_countItems cX3_countItems 3 (some .int)] rmX3_countItems (PcB G F w [.ref l0, .ref l1]) (QB G F ((fun (r : Int32 × Wd) => some (.int r.1)) r) ((fun (r : Int32 × Wd) => r.2) r)) 0 0 (AF F) := by
  refine bd_met (vs := fun (r : Int32 × Wd) => some (.int r.1)) (wf := fun (r : Int32 × Wd) => r.2) hf9 (by decide) (Nat.le_of_ble_eq_true rfl) e9 (fun g C hret hini => ?_)
  clear e9 r
  have hb6 : ∀ (n : Nat) (w : Wd) (l0 : Nat) (l1 : Nat) (l2 : Int32) (ol0 : okF F l0 3) (ol1 : okF F l1 1), BD g G F 3 (qX3_countItems G F g) 0 0 (fX3_countItems_6 F N n w l0 l1 l2) w 6 [(0, .ref l0), (1, .ref l1), (2, .int l2)] [] := by
    intro n
    induction n with
    | zero =>
      intro w l0 l1 l2 ol0 ol1
      unfold fX3_countItems_6
      exact bd_none
    | succ n ih =>
      intro w l0 l1 l2 ol0 ol1
      unfold fX3_countItems_6
      refine bd_iload_n C 2 dX3_countItems_6 rfl rfl ?_
      refine bd_bipush C (v := 100) dX3_countItems_7 (by decide) ?_
      refine bd_icmp_gt C 48 dX3_countItems_9 (by decide) (fun c1 => ?_) (fun c1 => ?_)
      · refine bd_iconst C (v := 0) dX3_countItems_48 (by decide) ?_
        exact bd_iret C hret rfl _ _ rfl rfl dX3_countItems_49 (Nat.le_refl _) (Nat.le_refl _)
      · refine bd_aload_n C 0 dX3_countItems_12 rfl rfl ?_
        refine bd_aload_n C 1 dX3_countItems_13 rfl rfl ?_
        refine bd_callV (vs := fun (r : Int32 × Wd) => some (.int r.1)) (wf := fun (r : Int32 × Wd) => r.2) (st := []) (st1 := fun p2 => Value.int p2.1 :: []) C [.ref l1] (fun r9 e9 => mX3_readItem C.flag N ol0 ol1 e9) mwX3_readItem miX3_readItem wd_1178 ol0 (by decide) rfl rfl rfl (Nat.le_of_ble_eq_true rfl) dX3_countItems_14 ⟨rfl, rfl, Nat.le_of_ble_eq_true rfl, Nat.le_of_ble_eq_true rfl, Nat.le_of_ble_eq_true rfl, Nat.le_of_ble_eq_true rfl⟩ (fun _ => rfl) (fun p2 ep2 => ?_)
        refine bd_if_ne C 22 dX3_countItems_17 (by decide) (fun c3 => ?_) (fun c3 => ?_)
        · refine bd_aload_n C 0 dX3_countItems_22 rfl rfl ?_
          refine bd_callV (vs := fun (r : Int32) => some (.int r)) (wf := fun _ => p2.2) (st := []) (st1 := fun x4 => Value.int x4 :: []) C [] (fun r9 e9 => mX3_isAtEnd C.flag N ol0 e9) mwX3_isAtEnd miX3_isAtEnd wd_1190 ol0 (by decide) rfl rfl rfl (Nat.le_of_ble_eq_true rfl) dX3_countItems_23 ⟨rfl, rfl, Nat.le_of_ble_eq_true rfl, Nat.le_of_ble_eq_true rfl, Nat.le_of_ble_eq_true rfl, Nat.le_of_ble_eq_true rfl⟩ (fun _ => rfl) (fun x4 ex4 => ?_)
          refine bd_if_eq C 31 dX3_countItems_26 (by decide) (fun c5 => ?_) (fun c5 => ?_)
          · refine bd_aload_n C 0 dX3_countItems_31 rfl rfl ?_
            refine bd_bipush C (v := 59) dX3_countItems_32 (by decide) ?_
            refine bd_callV (vs := fun (r : Int32 × Wd) => some (.int r.1)) (wf := fun (r : Int32 × Wd) => r.2) (st := []) (st1 := fun p6 => Value.int p6.1 :: []) C [.int 59] (fun r9 e9 => mX3_take C.flag N ol0 e9) mwX3_take miX3_take wd_1183 ol0 (by decide) rfl rfl rfl (Nat.le_of_ble_eq_true rfl) dX3_countItems_34 ⟨rfl, rfl, Nat.le_of_ble_eq_true rfl, Nat.le_of_ble_eq_true rfl, Nat.le_of_ble_eq_true rfl, Nat.le_of_ble_eq_true rfl⟩ (fun _ => rfl) (fun p6 ep6 => ?_)
            refine bd_if_ne C 42 dX3_countItems_37 (by decide) (fun c7 => ?_) (fun c7 => ?_)
            · refine bd_iinc C (v := l2 + 1) 2 [(2, .int (l2 + 1)), (0, .ref l0), (1, .ref l1)] dX3_countItems_42 rfl rfl (by decide) rfl ?_
              refine bd_goto C 6 dX3_countItems_45 (by decide) ?_
              exact bd_sub (ih p6.2 l0 l1 (l2 + 1) ol0 ol1) [1, 2, 0] rfl
            · refine bd_iconst C (v := 0) dX3_countItems_40 (by decide) ?_
              exact bd_iret C hret rfl _ _ rfl rfl dX3_countItems_41 (Nat.le_refl _) (Nat.le_refl _)
          · refine bd_iload_n C 2 dX3_countItems_29 rfl rfl ?_
            exact bd_iret C hret rfl _ _ rfl rfl dX3_countItems_30 (Nat.le_refl _) (Nat.le_refl _)
        · refine bd_iconst C (v := 0) dX3_countItems_20 (by decide) ?_
          exact bd_iret C hret rfl _ _ rfl rfl dX3_countItems_21 (Nat.le_refl _) (Nat.le_refl _)
  unfold fX3_countItems
  refine bd_sub (lv' := [(0, .ref l0), (1, .ref l1)]) ?_ [0, 1] rfl
  refine bd_aload_n C 0 dX3_countItems_0 rfl rfl ?_
  refine bd_callV (vs := fun _ => none) (wf := fun (r : Wd) => r) (st := []) (st1 := fun p8 => []) C [] (fun r9 e9 => mX3_restart C.flag N ol0 e9) mwX3_restart miX3_restart wd_1177 ol0 (by decide) rfl rfl rfl (Nat.le_of_ble_eq_true rfl) dX3_countItems_1 ⟨rfl, rfl, Nat.le_of_ble_eq_true rfl, Nat.le_of_ble_eq_true rfl, Nat.le_of_ble_eq_true rfl, Nat.le_of_ble_eq_true rfl⟩ (fun _ => rfl) (fun p8 ep8 => ?_)
  refine bd_iconst C (v := 1) dX3_countItems_4 (by decide) ?_
  refine bd_istore_n C [(2, .int 1), (0, .ref l0), (1, .ref l1)] dX3_countItems_5 rfl (by decide) rfl ?_
  exact bd_sub (hb6 N p8 l0 l1 1 ol0 ol1) [1, 2, 0] rfl
abbrev rmX4_has : Room := { frames := 10, cells := 0, slots := 0, locals := 300 }
abbrev qX4_has (G : Gy) (F : Fr) (g : Bd) (w : Wd) : Int32 → State → Prop := fun r => QM G F g 0 0 ((fun (r : Int32) => some (.int r)) r) ((fun _ => w) r)
set_option maxRecDepth 20000 in
set_option maxHeartbeats 4000000 in
theorem mX4_has {l : Launch} (hf9 : l.stackTraces = false) {G : Gy} {F : Fr} (N : Nat) {w : Wd} {l0 : Nat} {l1 : Int32} {r : Int32} (ol0 : okF F l0 4) (e9 : fX4_has F N w l0 l1 = some r) : Met l yX4_has [.code yX4_has cX4_has 2 (some .boolean)] rmX4_has (PcB G F w [.ref l0, .int l1]) (QB G F ((fun (r : Int32) => some (.int r)) r) ((fun _ => w) r)) 0 0 (AF F) := by
  refine bd_met (vs := fun (r : Int32) => some (.int r)) (wf := fun _ => w) hf9 (by decide) (Nat.le_of_ble_eq_true rfl) e9 (fun g C hret hini => ?_)
  clear e9 r
  unfold fX4_has
  refine bd_sub (lv' := [(0, .ref l0), (1, .int l1)]) ?_ [0, 1] rfl
  refine bd_iload_n C 1 dX4_has_0 rfl rfl ?_
  refine bd_if_lt C 22 dX4_has_1 (by decide) (fun c1 => ?_) (fun c1 => ?_)
  · refine bd_iconst C (v := 0) dX4_has_22 (by decide) ?_
    exact bd_zret C hret rfl _ _ rfl rfl rfl dX4_has_23 (Nat.le_refl _) (Nat.le_refl _)
  · refine bd_iload_n C 1 dX4_has_4 rfl rfl ?_
    refine bd_aload_n C 0 dX4_has_5 rfl rfl ?_
    refine bd_gI C fi404 fv404 wd_285 dX4_has_6 ol0 ?_
    refine bd_icmp_ge C 22 dX4_has_9 (by decide) (fun c2 => ?_) (fun c2 => ?_)
    · refine bd_iconst C (v := 0) dX4_has_22 (by decide) ?_
      exact bd_zret C hret rfl _ _ rfl rfl rfl dX4_has_23 (Nat.le_refl _) (Nat.le_refl _)
    · refine bd_iload_n C 1 dX4_has_12 rfl rfl ?_
      refine bd_bipush C (v := 60) dX4_has_13 (by decide) ?_
      refine bd_icmp_ge C 22 dX4_has_15 (by decide) (fun c3 => ?_) (fun c3 => ?_)
      · refine bd_iconst C (v := 0) dX4_has_22 (by decide) ?_
        exact bd_zret C hret rfl _ _ rfl rfl rfl dX4_has_23 (Nat.le_refl _) (Nat.le_refl _)
      · refine bd_iconst C (v := 1) dX4_has_18 (by decide) ?_
        refine bd_goto C 23 dX4_has_19 (by decide) ?_
        exact bd_zret C hret rfl _ _ rfl rfl rfl dX4_has_23 (Nat.le_refl _) (Nat.le_refl _)
abbrev rmX4_first : Room := { frames := 11, cells := 0, slots := 0, locals := 321 }
abbrev qX4_first (G : Gy) (F : Fr) (g : Bd) (w : Wd) : Int32 → State → Prop := fun r => QM G F g 0 0 ((fun (r : Int32) => some (.int r)) r) ((fun _ => w) r)
set_option maxRecDepth 20000 in
set_option maxHeartbeats 4000000 in
theorem mX4_first {l : Launch} (hf9 : l.stackTraces = false) {G : Gy} {F : Fr} (N : Nat) {w : Wd} {l0 : Nat} {l1 : Int32} {r : Int32} (ol0 : okF F l0 4) (e9 : fX4_first F N w l0 l1 = some r) : Met l yX4_first [.code yX4_first cX4_first 2 (some .int)] rmX4_first (PcB G F w [.ref l0, .int l1]) (QB G F ((fun (r : Int32) => some (.int r)) r) ((fun _ => w) r)) 0 0 (AF F) := by
  refine bd_met (vs := fun (r : Int32) => some (.int r)) (wf := fun _ => w) hf9 (by decide) (Nat.le_of_ble_eq_true rfl) e9 (fun g C hret hini => ?_)
  clear e9 r
  unfold fX4_first
  refine bd_sub (lv' := [(0, .ref l0), (1, .int l1)]) ?_ [0, 1] rfl
  refine bd_aload_n C 0 dX4_first_0 rfl rfl ?_
  refine bd_iload_n C 1 dX4_first_1 rfl rfl ?_
  refine bd_callV (vs := fun (r : Int32) => some (.int r)) (wf := fun _ => w) (st := []) (st1 := fun x1 => Value.int x1 :: []) C [.int l1] (fun r9 e9 => mX4_has C.flag N ol0 e9) mwX4_has miX4_has wd_1067 ol0 (by decide) rfl rfl rfl (Nat.le_of_ble_eq_true rfl) dX4_first_2 ⟨rfl, rfl, Nat.le_of_ble_eq_true rfl, Nat.le_of_ble_eq_true rfl, Nat.le_of_ble_eq_true rfl, Nat.le_of_ble_eq_true rfl⟩ (fun _ => rfl) (fun x1 ex1 => ?_)
  refine bd_if_eq C 17 dX4_first_5 (by decide) (fun c2 => ?_) (fun c2 => ?_)
  · refine bd_iconst C (v := 0) dX4_first_17 (by decide) ?_
    exact bd_iret C hret rfl _ _ rfl rfl dX4_first_18 (Nat.le_refl _) (Nat.le_refl _)
  · refine bd_aload_n C 0 dX4_first_8 rfl rfl ?_
    refine bd_gR C fi400 fv400 wd_281 dX4_first_9 ol0 (fun r3 gr3 hr3 => ?_)
    refine bd_iload_n C 1 dX4_first_12 rfl rfl ?_
    refine bd_iald C dX4_first_13 hr3 (fun x4 => ?_)
    refine bd_goto C 18 dX4_first_14 (by decide) ?_
    exact bd_iret C hret rfl _ _ rfl rfl dX4_first_18 (Nat.le_refl _) (Nat.le_refl _)
abbrev rmX4_end : Room := { frames := 11, cells := 0, slots := 0, locals := 321 }
abbrev qX4_end (G : Gy) (F : Fr) (g : Bd) (w : Wd) : Int32 → State → Prop := fun r => QM G F g 0 0 ((fun (r : Int32) => some (.int r)) r) ((fun _ => w) r)
set_option maxRecDepth 20000 in
set_option maxHeartbeats 4000000 in
theorem mX4_end {l : Launch} (hf9 : l.stackTraces = false) {G : Gy} {F : Fr} (N : Nat) {w : Wd} {l0 : Nat} {l1 : Int32} {r : Int32} (ol0 : okF F l0 4) (e9 : fX4_end F N w l0 l1 = some r) : Met l yX4_end [.code yX4_end cX4_end 2 (some .int)] rmX4_end (PcB G F w [.ref l0, .int l1]) (QB G F ((fun (r : Int32) => some (.int r)) r) ((fun _ => w) r)) 0 0 (AF F) := by
  refine bd_met (vs := fun (r : Int32) => some (.int r)) (wf := fun _ => w) hf9 (by decide) (Nat.le_of_ble_eq_true rfl) e9 (fun g C hret hini => ?_)
  clear e9 r
  unfold fX4_end
  refine bd_sub (lv' := [(0, .ref l0), (1, .int l1)]) ?_ [0, 1] rfl
  refine bd_aload_n C 0 dX4_end_0 rfl rfl ?_
  refine bd_iload_n C 1 dX4_end_1 rfl rfl ?_
  refine bd_callV (vs := fun (r : Int32) => some (.int r)) (wf := fun _ => w) (st := []) (st1 := fun x1 => Value.int x1 :: []) C [.int l1] (fun r9 e9 => mX4_has C.flag N ol0 e9) mwX4_has miX4_has wd_1067 ol0 (by decide) rfl rfl rfl (Nat.le_of_ble_eq_true rfl) dX4_end_2 ⟨rfl, rfl, Nat.le_of_ble_eq_true rfl, Nat.le_of_ble_eq_true rfl, Nat.le_of_ble_eq_true rfl, Nat.le_of_ble_eq_true rfl⟩ (fun _ => rfl) (fun x1 ex1 => ?_)
  refine bd_if_eq C 17 dX4_end_5 (by decide) (fun c2 => ?_) (fun c2 => ?_)
  · refine bd_iconst C (v := 0) dX4_end_17 (by decide) ?_
    exact bd_iret C hret rfl _ _ rfl rfl dX4_end_18 (Nat.le_refl _) (Nat.le_refl _)
  · refine bd_aload_n C 0 dX4_end_8 rfl rfl ?_
    refine bd_gR C fi401 fv401 wd_282 dX4_end_9 ol0 (fun r3 gr3 hr3 => ?_)
    refine bd_iload_n C 1 dX4_end_12 rfl rfl ?_
    refine bd_iald C dX4_end_13 hr3 (fun x4 => ?_)
    refine bd_goto C 18 dX4_end_14 (by decide) ?_
    exact bd_iret C hret rfl _ _ rfl rfl dX4_end_18 (Nat.le_refl _) (Nat.le_refl _)
abbrev rmX4_source : Room := { frames := 11, cells := 0, slots := 0, locals := 321 }
abbrev qX4_source (G : Gy) (F : Fr) (g : Bd) (w : Wd) : Int32 → State → Prop := fun r => QM G F g 0 0 ((fun (r : Int32) => some (.int r)) r) ((fun _ => w) r)
set_option maxRecDepth 20000 in
set_option maxHeartbeats 4000000 in
theorem mX4_source {l : Launch} (hf9 : l.stackTraces = false) {G : Gy} {F : Fr} (N : Nat) {w : Wd} {l0 : Nat} {l1 : Int32} {r : Int32} (ol0 : okF F l0 4) (e9 : fX4_source F N w l0 l1 = some r) : Met l yX4_source [.code yX4_source cX4_source 2 (some .int)] rmX4_source (PcB G F w [.ref l0, .int l1]) (QB G F ((fun (r : Int32) => some (.int r)) r) ((fun _ => w) r)) 0 0 (AF F) := by
  refine bd_met (vs := fun (r : Int32) => some (.int r)) (wf := fun _ => w) hf9 (by decide) (Nat.le_of_ble_eq_true rfl) e9 (fun g C hret hini => ?_)
  clear e9 r
  unfold fX4_source
  refine bd_sub (lv' := [(0, .ref l0), (1, .int l1)]) ?_ [0, 1] rfl
  refine bd_aload_n C 0 dX4_source_0 rfl rfl ?_
  refine bd_iload_n C 1 dX4_source_1 rfl rfl ?_
  refine bd_callV (vs := fun (r : Int32) => some (.int r)) (wf := fun _ => w) (st := []) (st1 := fun x1 => Value.int x1 :: []) C [.int l1] (fun r9 e9 => mX4_has C.flag N ol0 e9) mwX4_has miX4_has wd_1067 ol0 (by decide) rfl rfl rfl (Nat.le_of_ble_eq_true rfl) dX4_source_2 ⟨rfl, rfl, Nat.le_of_ble_eq_true rfl, Nat.le_of_ble_eq_true rfl, Nat.le_of_ble_eq_true rfl, Nat.le_of_ble_eq_true rfl⟩ (fun _ => rfl) (fun x1 ex1 => ?_)
  refine bd_if_eq C 17 dX4_source_5 (by decide) (fun c2 => ?_) (fun c2 => ?_)
  · refine bd_iconst C (v := 0) dX4_source_17 (by decide) ?_
    exact bd_iret C hret rfl _ _ rfl rfl dX4_source_18 (Nat.le_refl _) (Nat.le_refl _)
  · refine bd_aload_n C 0 dX4_source_8 rfl rfl ?_
    refine bd_gR C fi402 fv402 wd_283 dX4_source_9 ol0 (fun r3 gr3 hr3 => ?_)
    refine bd_iload_n C 1 dX4_source_12 rfl rfl ?_
    refine bd_iald C dX4_source_13 hr3 (fun x4 => ?_)
    refine bd_goto C 18 dX4_source_14 (by decide) ?_
    exact bd_iret C hret rfl _ _ rfl rfl dX4_source_18 (Nat.le_refl _) (Nat.le_refl _)
abbrev rmX4_label : Room := { frames := 11, cells := 0, slots := 0, locals := 321 }
abbrev qX4_label (G : Gy) (F : Fr) (g : Bd) (w : Wd) : Int64 → State → Prop := fun r => QM G F g 0 0 ((fun (r : Int64) => some (.long r)) r) ((fun _ => w) r)
set_option maxRecDepth 20000 in
set_option maxHeartbeats 4000000 in
theorem mX4_label {l : Launch} (hf9 : l.stackTraces = false) {G : Gy} {F : Fr} (N : Nat) {w : Wd} {l0 : Nat} {l1 : Int32} {r : Int64} (ol0 : okF F l0 4) (e9 : fX4_label F N w l0 l1 = some r) : Met l yX4_label [.code yX4_label cX4_label 2 (some .long)] rmX4_label (PcB G F w [.ref l0, .int l1]) (QB G F ((fun (r : Int64) => some (.long r)) r) ((fun _ => w) r)) 0 0 (AF F) := by
  refine bd_met (vs := fun (r : Int64) => some (.long r)) (wf := fun _ => w) hf9 (by decide) (Nat.le_of_ble_eq_true rfl) e9 (fun g C hret hini => ?_)
  clear e9 r
  unfold fX4_label
  refine bd_sub (lv' := [(0, .ref l0), (1, .int l1)]) ?_ [0, 1] rfl
  refine bd_aload_n C 0 dX4_label_0 rfl rfl ?_
  refine bd_iload_n C 1 dX4_label_1 rfl rfl ?_
  refine bd_callV (vs := fun (r : Int32) => some (.int r)) (wf := fun _ => w) (st := []) (st1 := fun x1 => Value.int x1 :: []) C [.int l1] (fun r9 e9 => mX4_has C.flag N ol0 e9) mwX4_has miX4_has wd_1067 ol0 (by decide) rfl rfl rfl (Nat.le_of_ble_eq_true rfl) dX4_label_2 ⟨rfl, rfl, Nat.le_of_ble_eq_true rfl, Nat.le_of_ble_eq_true rfl, Nat.le_of_ble_eq_true rfl, Nat.le_of_ble_eq_true rfl⟩ (fun _ => rfl) (fun x1 ex1 => ?_)
  refine bd_if_eq C 17 dX4_label_5 (by decide) (fun c2 => ?_) (fun c2 => ?_)
  · refine bd_lconst C (v := 0) dX4_label_17 (by decide) ?_
    exact bd_lret C hret rfl _ _ rfl rfl dX4_label_18 (Nat.le_refl _) (Nat.le_refl _)
  · refine bd_aload_n C 0 dX4_label_8 rfl rfl ?_
    refine bd_gR C fi403 fv403 wd_284 dX4_label_9 ol0 (fun r3 gr3 hr3 => ?_)
    refine bd_iload_n C 1 dX4_label_12 rfl rfl ?_
    refine bd_lald C dX4_label_13 hr3 (fun x4 => ?_)
    refine bd_goto C 18 dX4_label_14 (by decide) ?_
    exact bd_lret C hret rfl _ _ rfl rfl dX4_label_18 (Nat.le_refl _) (Nat.le_refl _)
abbrev rmX4_isBefore : Room := { frames := 11, cells := 0, slots := 0, locals := 321 }
abbrev qX4_isBefore (G : Gy) (F : Fr) (g : Bd) (w : Wd) : Int32 → State → Prop := fun r => QM G F g 0 0 ((fun (r : Int32) => some (.int r)) r) ((fun _ => w) r)
set_option maxRecDepth 20000 in
set_option maxHeartbeats 4000000 in
theorem mX4_isBefore {l : Launch} (hf9 : l.stackTraces = false) {G : Gy} {F : Fr} (N : Nat) {w : Wd} {l0 : Nat} {l1 : Int32} {l2 : Nat} {l3 : Int32} {r : Int32} (ol0 : okF F l0 7) (ol2 : okF F l2 7) (e9 : fX4_isBefore F N w l0 l1 l2 l3 = some r) : Met l yX4_isBefore [.code yX4_isBefore cX4_isBefore 4 (some .boolean)] rmX4_isBefore (PcB G F w [.ref l0, .int l1, .ref l2, .int l3]) (QB G F ((fun (r : Int32) => some (.int r)) r) ((fun _ => w) r)) 0 0 (AF F) := by
  refine bd_met (vs := fun (r : Int32) => some (.int r)) (wf := fun _ => w) hf9 (by decide) (Nat.le_of_ble_eq_true rfl) e9 (fun g C hret hini => ?_)
  clear e9 r
  have hb16 : ∀  (l0 : Nat) (l1 : Int32) (ol0 : okF F l0 7), BD g G F 4 (qX4_isBefore G F g w) 0 0 (fX4_isBefore_16 F N w l0 l1) w 16 [(0, .ref l0), (1, .int l1)] [] := by
    intro l0 l1 ol0
    unfold fX4_isBefore_16
    refine bd_iload_n C 1 dX4_isBefore_16 rfl rfl ?_
    refine bd_aload_n C 0 dX4_isBefore_17 rfl rfl ?_
    refine bd_gIN C fi703 fv703 wd_135 dX4_isBefore_18 ol0 ?_
    refine bd_icmp_ge C 28 dX4_isBefore_21 (by decide) (fun c1 => ?_) (fun c1 => ?_)
    · refine bd_iconst C (v := 0) dX4_isBefore_28 (by decide) ?_
      exact bd_zret C hret rfl _ _ rfl rfl rfl dX4_isBefore_29 (Nat.le_refl _) (Nat.le_refl _)
    · refine bd_iconst C (v := 1) dX4_isBefore_24 (by decide) ?_
      refine bd_goto C 29 dX4_isBefore_25 (by decide) ?_
      exact bd_zret C hret rfl _ _ rfl rfl rfl dX4_isBefore_29 (Nat.le_refl _) (Nat.le_refl _)
  unfold fX4_isBefore
  refine bd_sub (lv' := [(0, .ref l0), (1, .int l1), (2, .ref l2), (3, .int l3)]) ?_ [0, 1, 2, 3] rfl
  refine bd_iload_n C 1 dX4_isBefore_0 rfl rfl ?_
  refine bd_aload_n C 0 dX4_isBefore_1 rfl rfl ?_
  refine bd_gIN C fi703 fv703 wd_135 dX4_isBefore_2 ol0 ?_
  refine bd_icmp_ge C 16 dX4_isBefore_5 (by decide) (fun c2 => ?_) (fun c2 => ?_)
  · exact bd_sub (hb16 l0 l1 ol0) [0, 1] rfl
  · refine bd_iload_n C 3 dX4_isBefore_8 rfl rfl ?_
    refine bd_aload_n C 2 dX4_isBefore_9 rfl rfl ?_
    refine bd_gIN C fi703 fv703 wd_135 dX4_isBefore_10 ol2 ?_
    refine bd_icmp_lt C 30 dX4_isBefore_13 (by decide) (fun c3 => ?_) (fun c3 => ?_)
    · refine bd_aload_n C 0 dX4_isBefore_30 rfl rfl ?_
      refine bd_iload_n C 1 dX4_isBefore_31 rfl rfl ?_
      refine bd_callV (vs := fun (r : Int32) => some (.int r)) (wf := fun _ => w) (st := []) (st1 := fun x4 => Value.int x4 :: []) C [.int l1] (fun r9 e9 => mX7_first C.flag N ol0 e9) mwX7_first miX7_first wd_1061 ol0 (by decide) rfl rfl rfl (Nat.le_of_ble_eq_true rfl) dX4_isBefore_32 ⟨rfl, rfl, Nat.le_of_ble_eq_true rfl, Nat.le_of_ble_eq_true rfl, Nat.le_of_ble_eq_true rfl, Nat.le_of_ble_eq_true rfl⟩ (fun _ => rfl) (fun x4 ex4 => ?_)
      refine bd_aload_n C 2 dX4_isBefore_35 rfl rfl ?_
      refine bd_iload_n C 3 dX4_isBefore_36 rfl rfl ?_
      refine bd_callV (vs := fun (r : Int32) => some (.int r)) (wf := fun _ => w) (st := [.int x4]) (st1 := fun x5 => Value.int x5 :: [.int x4]) C [.int l3] (fun r9 e9 => mX7_first C.flag N ol2 e9) mwX7_first miX7_first wd_1061 ol2 (by decide) rfl rfl rfl (Nat.le_of_ble_eq_true rfl) dX4_isBefore_37 ⟨rfl, rfl, Nat.le_of_ble_eq_true rfl, Nat.le_of_ble_eq_true rfl, Nat.le_of_ble_eq_true rfl, Nat.le_of_ble_eq_true rfl⟩ (fun _ => rfl) (fun x5 ex5 => ?_)
      refine bd_icmp_eq C 62 dX4_isBefore_40 (by decide) (fun c6 => ?_) (fun c6 => ?_)
      · refine bd_aload_n C 0 dX4_isBefore_62 rfl rfl ?_
        refine bd_iload_n C 1 dX4_isBefore_63 rfl rfl ?_
        refine bd_callV (vs := fun (r : Int32) => some (.int r)) (wf := fun _ => w) (st := []) (st1 := fun x7 => Value.int x7 :: []) C [.int l1] (fun r9 e9 => mX7_end C.flag N ol0 e9) mwX7_end miX7_end wd_1062 ol0 (by decide) rfl rfl rfl (Nat.le_of_ble_eq_true rfl) dX4_isBefore_64 ⟨rfl, rfl, Nat.le_of_ble_eq_true rfl, Nat.le_of_ble_eq_true rfl, Nat.le_of_ble_eq_true rfl, Nat.le_of_ble_eq_true rfl⟩ (fun _ => rfl) (fun x7 ex7 => ?_)
        refine bd_aload_n C 2 dX4_isBefore_67 rfl rfl ?_
        refine bd_iload_n C 3 dX4_isBefore_68 rfl rfl ?_
        refine bd_callV (vs := fun (r : Int32) => some (.int r)) (wf := fun _ => w) (st := [.int x7]) (st1 := fun x8 => Value.int x8 :: [.int x7]) C [.int l3] (fun r9 e9 => mX7_end C.flag N ol2 e9) mwX7_end miX7_end wd_1062 ol2 (by decide) rfl rfl rfl (Nat.le_of_ble_eq_true rfl) dX4_isBefore_69 ⟨rfl, rfl, Nat.le_of_ble_eq_true rfl, Nat.le_of_ble_eq_true rfl, Nat.le_of_ble_eq_true rfl, Nat.le_of_ble_eq_true rfl⟩ (fun _ => rfl) (fun x8 ex8 => ?_)
        refine bd_icmp_gt C 79 dX4_isBefore_72 (by decide) (fun c9 => ?_) (fun c9 => ?_)
        · refine bd_iconst C (v := 0) dX4_isBefore_79 (by decide) ?_
          exact bd_zret C hret rfl _ _ rfl rfl rfl dX4_isBefore_80 (Nat.le_refl _) (Nat.le_refl _)
        · refine bd_iconst C (v := 1) dX4_isBefore_75 (by decide) ?_
          refine bd_goto C 80 dX4_isBefore_76 (by decide) ?_
          exact bd_zret C hret rfl _ _ rfl rfl rfl dX4_isBefore_80 (Nat.le_refl _) (Nat.le_refl _)
      · refine bd_aload_n C 0 dX4_isBefore_43 rfl rfl ?_
        refine bd_iload_n C 1 dX4_isBefore_44 rfl rfl ?_
        refine bd_callV (vs := fun (r : Int32) => some (.int r)) (wf := fun _ => w) (st := []) (st1 := fun x10 => Value.int x10 :: []) C [.int l1] (fun r9 e9 => mX7_first C.flag N ol0 e9) mwX7_first miX7_first wd_1061 ol0 (by decide) rfl rfl rfl (Nat.le_of_ble_eq_true rfl) dX4_isBefore_45 ⟨rfl, rfl, Nat.le_of_ble_eq_true rfl, Nat.le_of_ble_eq_true rfl, Nat.le_of_ble_eq_true rfl, Nat.le_of_ble_eq_true rfl⟩ (fun _ => rfl) (fun x10 ex10 => ?_)
        refine bd_aload_n C 2 dX4_isBefore_48 rfl rfl ?_
        refine bd_iload_n C 3 dX4_isBefore_49 rfl rfl ?_
        refine bd_callV (vs := fun (r : Int32) => some (.int r)) (wf := fun _ => w) (st := [.int x10]) (st1 := fun x11 => Value.int x11 :: [.int x10]) C [.int l3] (fun r9 e9 => mX7_first C.flag N ol2 e9) mwX7_first miX7_first wd_1061 ol2 (by decide) rfl rfl rfl (Nat.le_of_ble_eq_true rfl) dX4_isBefore_50 ⟨rfl, rfl, Nat.le_of_ble_eq_true rfl, Nat.le_of_ble_eq_true rfl, Nat.le_of_ble_eq_true rfl, Nat.le_of_ble_eq_true rfl⟩ (fun _ => rfl) (fun x11 ex11 => ?_)
        refine bd_icmp_ge C 60 dX4_isBefore_53 (by decide) (fun c12 => ?_) (fun c12 => ?_)
        · refine bd_iconst C (v := 0) dX4_isBefore_60 (by decide) ?_
          exact bd_zret C hret rfl _ _ rfl rfl rfl dX4_isBefore_61 (Nat.le_refl _) (Nat.le_refl _)
        · refine bd_iconst C (v := 1) dX4_isBefore_56 (by decide) ?_
          refine bd_goto C 61 dX4_isBefore_57 (by decide) ?_
          exact bd_zret C hret rfl _ _ rfl rfl rfl dX4_isBefore_61 (Nat.le_refl _) (Nat.le_refl _)
    · exact bd_sub (hb16 l0 l1 ol0) [0, 1] rfl
abbrev rmX4_put : Room := { frames := 12, cells := 0, slots := 0, locals := 342 }
abbrev qX4_put (G : Gy) (F : Fr) (g : Bd) : Wd → State → Prop := fun r => QM G F g 0 0 ((fun _ => none) r) ((fun (r : Wd) => r) r)
set_option maxRecDepth 20000 in
set_option maxHeartbeats 4000000 in
theorem mX4_put {l : Launch} (hf9 : l.stackTraces = false) {G : Gy} {F : Fr} (N : Nat) {w : Wd} {l0 : Nat} {l1 : Nat} {l2 : Int32} {l3 : Int32} {r : Wd} (ol0 : okF F l0 4) (ol1 : okF F l1 7) (e9 : fX4_put F N w l0 l1 l2 l3 = some r) : Met l yX4_put [.code yX4_put cX4_put 7 none] rmX4_put (PcB G F w [.ref l0, .ref l1, .int l2, .int l3]) (QB G F ((fun _ => none) r) ((fun (r : Wd) => r) r)) 0 0 (AF F) := by
  refine bd_met (vs := fun _ => none) (wf := fun (r : Wd) => r) hf9 (by decide) (Nat.le_of_ble_eq_true rfl) e9 (fun g C hret hini => ?_)
  clear e9 r
  have hb133 : ∀  (w : Wd) (l0 : Nat) (l1 : Nat) (l2 : Int32) (l3 : Int32) (s0 : Int32) (ol0 : okF F l0 4) (ol1 : okF F l1 7), BD g G F 7 (qX4_put G F g) 0 0 (fX4_put_133 F N w l0 l1 l2 l3 s0) w 133 [(0, .ref l0), (1, .ref l1), (2, .int l2), (3, .int l3)] [.int s0] := by
    intro w l0 l1 l2 l3 s0 ol0 ol1
    unfold fX4_put_133
    refine bd_istore C [(6, .int s0), (0, .ref l0), (1, .ref l1), (2, .int l2), (3, .int l3)] dX4_put_133 (by decide) rfl ?_
    refine bd_iload C 0 dX4_put_135 rfl ?_
    refine bd_aload_n C 2 dX4_put_137 rfl rfl ?_
    refine bd_iload_n C 3 dX4_put_138 rfl rfl ?_
    refine bd_callV (vs := fun (r : Int32) => some (.int r)) (wf := fun _ => w) (st := [.int s0]) (st1 := fun x17 => Value.int x17 :: [.int s0]) C [.int l2] (fun r9 e9 => mX7_end C.flag N ol1 e9) mwX7_end miX7_end wd_1062 ol1 (by decide) rfl rfl rfl (Nat.le_of_ble_eq_true rfl) dX4_put_139 ⟨rfl, rfl, Nat.le_of_ble_eq_true rfl, Nat.le_of_ble_eq_true rfl, Nat.le_of_ble_eq_true rfl, Nat.le_of_ble_eq_true rfl⟩ (fun _ => rfl) (fun x17 ex17 => ?_)
    refine bd_icmp_lt C 156 dX4_put_142 (by decide) (fun c18 => ?_) (fun c18 => ?_)
    · refine bd_aload_n C 1 dX4_put_156 rfl rfl ?_
      refine bd_gI C fi404 fv404 wd_285 dX4_put_157 ol0 ?_
      refine bd_if_lt C 231 dX4_put_160 (by decide) (fun c19 => ?_) (fun c19 => ?_)
      · exact bd_vret C hret rfl _ _ rfl rfl dX4_put_231 (Nat.le_refl _) (Nat.le_refl _)
      · refine bd_aload_n C 1 dX4_put_163 rfl rfl ?_
        refine bd_gI C fi404 fv404 wd_285 dX4_put_164 ol0 ?_
        refine bd_bipush C (v := 60) dX4_put_167 (by decide) ?_
        refine bd_icmp_ge C 231 dX4_put_169 (by decide) (fun c20 => ?_) (fun c20 => ?_)
        · exact bd_vret C hret rfl _ _ rfl rfl dX4_put_231 (Nat.le_refl _) (Nat.le_refl _)
        · refine bd_aload_n C 1 dX4_put_172 rfl rfl ?_
          refine bd_gR C fi400 fv400 wd_281 dX4_put_173 ol0 (fun r21 gr21 hr21 => ?_)
          refine bd_aload_n C 1 dX4_put_176 rfl rfl ?_
          refine bd_gI C fi404 fv404 wd_285 dX4_put_177 ol0 ?_
          refine bd_iload C 0 dX4_put_180 rfl ?_
          refine bd_iast C dX4_put_182 hr21 (fun w22 => ?_)
          refine bd_aload_n C 1 dX4_put_183 rfl rfl ?_
          refine bd_gR C fi401 fv401 wd_282 dX4_put_184 ol0 (fun r23 gr23 hr23 => ?_)
          refine bd_aload_n C 1 dX4_put_187 rfl rfl ?_
          refine bd_gI C fi404 fv404 wd_285 dX4_put_188 ol0 ?_
          refine bd_aload_n C 2 dX4_put_191 rfl rfl ?_
          refine bd_iload_n C 3 dX4_put_192 rfl rfl ?_
          refine bd_callV (vs := fun (r : Int32) => some (.int r)) (wf := fun _ => w22) (st := [.int (gI w22 404 l0), .ref r23]) (st1 := fun x24 => Value.int x24 :: [.int (gI w22 404 l0), .ref r23]) C [.int l2] (fun r9 e9 => mX7_end C.flag N ol1 e9) mwX7_end miX7_end wd_1062 ol1 (by decide) rfl rfl rfl (Nat.le_of_ble_eq_true rfl) dX4_put_193 ⟨rfl, rfl, Nat.le_of_ble_eq_true rfl, Nat.le_of_ble_eq_true rfl, Nat.le_of_ble_eq_true rfl, Nat.le_of_ble_eq_true rfl⟩ (fun _ => rfl) (fun x24 ex24 => ?_)
          refine bd_iast C dX4_put_196 hr23 (fun w25 => ?_)
          refine bd_aload_n C 1 dX4_put_197 rfl rfl ?_
          refine bd_gR C fi402 fv402 wd_283 dX4_put_198 ol0 (fun r26 gr26 hr26 => ?_)
          refine bd_aload_n C 1 dX4_put_201 rfl rfl ?_
          refine bd_gI C fi404 fv404 wd_285 dX4_put_202 ol0 ?_
          refine bd_iload_n C 4 dX4_put_205 rfl rfl ?_
          refine bd_iast C dX4_put_206 hr26 (fun w27 => ?_)
          refine bd_aload_n C 1 dX4_put_207 rfl rfl ?_
          refine bd_gR C fi403 fv403 wd_284 dX4_put_208 ol0 (fun r28 gr28 hr28 => ?_)
          refine bd_aload_n C 1 dX4_put_211 rfl rfl ?_
          refine bd_gI C fi404 fv404 wd_285 dX4_put_212 ol0 ?_
          refine bd_aload_n C 2 dX4_put_215 rfl rfl ?_
          refine bd_iload_n C 3 dX4_put_216 rfl rfl ?_
          refine bd_callV (vs := fun (r : Int64) => some (.long r)) (wf := fun _ => w27) (st := [.int (gI w27 404 l0), .ref r28]) (st1 := fun x29 => Value.long x29 :: [.int (gI w27 404 l0), .ref r28]) C [.int l2] (fun r9 e9 => mX7_label C.flag N ol1 e9) mwX7_label miX7_label wd_1079 ol1 (by decide) rfl rfl rfl (Nat.le_of_ble_eq_true rfl) dX4_put_217 ⟨rfl, rfl, Nat.le_of_ble_eq_true rfl, Nat.le_of_ble_eq_true rfl, Nat.le_of_ble_eq_true rfl, Nat.le_of_ble_eq_true rfl⟩ (fun _ => rfl) (fun x29 ex29 => ?_)
          refine bd_last C dX4_put_220 hr28 (fun w30 => ?_)
          refine bd_aload_n C 1 dX4_put_221 rfl rfl ?_
          refine bd_dup C dX4_put_222 rfl ?_
          refine bd_gI C fi404 fv404 wd_285 dX4_put_223 ol0 ?_
          refine bd_iconst C (v := 1) dX4_put_226 (by decide) ?_
          refine bd_iadd C dX4_put_227 ?_
          refine bd_pI C fi404 ftX4 fu404 wd_285 rfl rfl rfl dX4_put_228 ol0 (fun w31 => ?_)
          exact bd_vret C hret rfl _ _ rfl rfl dX4_put_231 (Nat.le_refl _) (Nat.le_refl _)
    · refine bd_aload_n C 1 dX4_put_145 rfl rfl ?_
      refine bd_dup C dX4_put_146 rfl ?_
      refine bd_gI C fi406 fv406 wd_289 dX4_put_147 ol0 ?_
      refine bd_iconst C (v := 1) dX4_put_150 (by decide) ?_
      refine bd_iadd C dX4_put_151 ?_
      refine bd_pI C fi406 ftX4 fu406 wd_289 rfl rfl rfl dX4_put_152 ol0 (fun w32 => ?_)
      exact bd_vret C hret rfl _ _ rfl rfl dX4_put_155 (Nat.le_refl _) (Nat.le_refl _)
  have hb110 : ∀  (w : Wd) (l0 : Nat) (l1 : Nat) (l2 : Int32) (l3 : Int32) (l4 : Int32) (l5 : Int32) (s0 : Nat) (s1 : Int32) (s2 : Int32) (ol0 : okF F l0 4) (ol1 : okF F l1 7) (os0 : okF F s0 4), BD g G F 7 (qX4_put G F g) 0 0 (fX4_put_110 F N w l0 l1 l2 l3 l4 l5 s0 s1 s2) w 110 [(0, .ref l0), (1, .ref l1), (2, .int l2), (3, .int l3), (4, .int l4), (5, .int l5)] [.int s2, .int s1, .ref s0] := by
    intro w l0 l1 l2 l3 l4 l5 s0 s1 s2 ol0 ol1 os0
    unfold fX4_put_110
    refine bd_iadd C dX4_put_110 ?_
    refine bd_pI C fi405 ftX4 fu405 wd_287 rfl rfl rfl dX4_put_111 os0 (fun w13 => ?_)
    refine bd_iload C 5 dX4_put_114 rfl ?_
    refine bd_if_eq C 128 dX4_put_116 (by decide) (fun c14 => ?_) (fun c14 => ?_)
    · refine bd_aload_n C 1 dX4_put_128 rfl rfl ?_
      refine bd_iload_n C 2 dX4_put_129 rfl rfl ?_
      refine bd_callV (vs := fun (r : Int32) => some (.int r)) (wf := fun _ => w13) (st := []) (st1 := fun x15 => Value.int x15 :: []) C [.int l2] (fun r9 e9 => mX7_first C.flag N ol1 e9) mwX7_first miX7_first wd_1061 ol1 (by decide) rfl rfl rfl (Nat.le_of_ble_eq_true rfl) dX4_put_130 ⟨rfl, rfl, Nat.le_of_ble_eq_true rfl, Nat.le_of_ble_eq_true rfl, Nat.le_of_ble_eq_true rfl, Nat.le_of_ble_eq_true rfl⟩ (fun _ => rfl) (fun x15 ex15 => ?_)
      exact bd_sub (hb133 w13 l0 l1 l2 l3 x15 ol0 ol1) [0, 1, 2, 3] rfl
    · refine bd_aload_n C 0 dX4_put_119 rfl rfl ?_
      refine bd_iload C 4 dX4_put_120 rfl ?_
      refine bd_callV (vs := fun (r : Int32) => some (.int r)) (wf := fun _ => w13) (st := []) (st1 := fun x16 => Value.int x16 :: []) C [.int l4] (fun r9 e9 => mX4_end C.flag N ol0 e9) mwX4_end miX4_end wd_1071 ol0 (by decide) rfl rfl rfl (Nat.le_of_ble_eq_true rfl) dX4_put_122 ⟨rfl, rfl, Nat.le_of_ble_eq_true rfl, Nat.le_of_ble_eq_true rfl, Nat.le_of_ble_eq_true rfl, Nat.le_of_ble_eq_true rfl⟩ (fun _ => rfl) (fun x16 ex16 => ?_)
      refine bd_goto C 133 dX4_put_125 (by decide) ?_
      exact bd_sub (hb133 w13 l0 l1 l2 l3 x16 ol0 ol1) [0, 1, 2, 3] rfl
  have hb95 : ∀  (w : Wd) (l0 : Nat) (l1 : Nat) (l2 : Int32) (l3 : Int32) (l4 : Int32) (l5 : Int32) (ol0 : okF F l0 4) (ol1 : okF F l1 7), BD g G F 7 (qX4_put G F g) 0 0 (fX4_put_95 F N w l0 l1 l2 l3 l4 l5) w 95 [(0, .ref l0), (1, .ref l1), (2, .int l2), (3, .int l3), (4, .int l4), (5, .int l5)] [] := by
    intro w l0 l1 l2 l3 l4 l5 ol0 ol1
    unfold fX4_put_95
    refine bd_aload_n C 0 dX4_put_95 rfl rfl ?_
    refine bd_dup C dX4_put_96 rfl ?_
    refine bd_gI C fi405 fv405 wd_287 dX4_put_97 ol0 ?_
    refine bd_iload C 5 dX4_put_100 rfl ?_
    refine bd_if_eq C 109 dX4_put_102 (by decide) (fun c12 => ?_) (fun c12 => ?_)
    · refine bd_iconst C (v := 0) dX4_put_109 (by decide) ?_
      exact bd_sub (hb110 w l0 l1 l2 l3 l4 l5 l0 (gI w 405 l0) 0 ol0 ol1 ol0) [0, 1, 2, 3, 4, 5] rfl
    · refine bd_iconst C (v := 1) dX4_put_105 (by decide) ?_
      refine bd_goto C 110 dX4_put_106 (by decide) ?_
      exact bd_sub (hb110 w l0 l1 l2 l3 l4 l5 l0 (gI w 405 l0) 1 ol0 ol1 ol0) [0, 1, 2, 3, 4, 5] rfl
  have hb36 : ∀  (w : Wd) (l0 : Nat) (l1 : Nat) (l2 : Int32) (l3 : Int32) (l4 : Int32) (s0 : Int32) (ol0 : okF F l0 4) (ol1 : okF F l1 7), BD g G F 7 (qX4_put G F g) 0 0 (fX4_put_36 F N w l0 l1 l2 l3 l4 s0) w 36 [(0, .ref l0), (1, .ref l1), (2, .int l2), (3, .int l3), (4, .int l4)] [.int s0] := by
    intro w l0 l1 l2 l3 l4 s0 ol0 ol1
    unfold fX4_put_36
    refine bd_istore C [(5, .int s0), (0, .ref l0), (1, .ref l1), (2, .int l2), (3, .int l3), (4, .int l4)] dX4_put_36 (by decide) rfl ?_
    refine bd_iload C 0 dX4_put_38 rfl ?_
    refine bd_if_eq C 95 dX4_put_40 (by decide) (fun c1 => ?_) (fun c1 => ?_)
    · exact bd_sub (hb95 w l0 l1 l2 l3 l4 s0 ol0 ol1) [1, 2, 3, 4, 5, 0] rfl
    · refine bd_aload_n C 1 dX4_put_43 rfl rfl ?_
      refine bd_iload C 5 dX4_put_44 rfl ?_
      refine bd_callV (vs := fun (r : Int64) => some (.long r)) (wf := fun _ => w) (st := []) (st1 := fun x2 => Value.long x2 :: []) C [.int l4] (fun r9 e9 => mX4_label C.flag N ol0 e9) mwX4_label miX4_label wd_1075 ol0 (by decide) rfl rfl rfl (Nat.le_of_ble_eq_true rfl) dX4_put_46 ⟨rfl, rfl, Nat.le_of_ble_eq_true rfl, Nat.le_of_ble_eq_true rfl, Nat.le_of_ble_eq_true rfl, Nat.le_of_ble_eq_true rfl⟩ (fun _ => rfl) (fun x2 ex2 => ?_)
      refine bd_aload_n C 2 dX4_put_49 rfl rfl ?_
      refine bd_iload_n C 3 dX4_put_50 rfl rfl ?_
      refine bd_callV (vs := fun (r : Int64) => some (.long r)) (wf := fun _ => w) (st := [.long x2]) (st1 := fun x3 => Value.long x3 :: [.long x2]) C [.int l2] (fun r9 e9 => mX7_label C.flag N ol1 e9) mwX7_label miX7_label wd_1079 ol1 (by decide) rfl rfl rfl (Nat.le_of_ble_eq_true rfl) dX4_put_51 ⟨rfl, rfl, Nat.le_of_ble_eq_true rfl, Nat.le_of_ble_eq_true rfl, Nat.le_of_ble_eq_true rfl, Nat.le_of_ble_eq_true rfl⟩ (fun _ => rfl) (fun x3 ex3 => ?_)
      refine bd_lcmp C dX4_put_54 ?_
      refine bd_if_ne C 95 dX4_put_55 (by decide) (fun c4 => ?_) (fun c4 => ?_)
      · exact bd_sub (hb95 w l0 l1 l2 l3 l4 s0 ol0 ol1) [1, 2, 3, 4, 5, 0] rfl
      · refine bd_aload_n C 1 dX4_put_58 rfl rfl ?_
        refine bd_gR C fi401 fv401 wd_282 dX4_put_59 ol0 (fun r5 gr5 hr5 => ?_)
        refine bd_iload C 5 dX4_put_62 rfl ?_
        refine bd_aload_n C 1 dX4_put_64 rfl rfl ?_
        refine bd_iload C 5 dX4_put_65 rfl ?_
        refine bd_callV (vs := fun (r : Int32) => some (.int r)) (wf := fun _ => w) (st := [.int l4, .ref r5]) (st1 := fun x6 => Value.int x6 :: [.int l4, .ref r5]) C [.int l4] (fun r9 e9 => mX4_end C.flag N ol0 e9) mwX4_end miX4_end wd_1071 ol0 (by decide) rfl rfl rfl (Nat.le_of_ble_eq_true rfl) dX4_put_67 ⟨rfl, rfl, Nat.le_of_ble_eq_true rfl, Nat.le_of_ble_eq_true rfl, Nat.le_of_ble_eq_true rfl, Nat.le_of_ble_eq_true rfl⟩ (fun _ => rfl) (fun x6 ex6 => ?_)
        refine bd_aload_n C 2 dX4_put_70 rfl rfl ?_
        refine bd_iload_n C 3 dX4_put_71 rfl rfl ?_
        refine bd_callV (vs := fun (r : Int32) => some (.int r)) (wf := fun _ => w) (st := [.int x6, .int l4, .ref r5]) (st1 := fun x7 => Value.int x7 :: [.int x6, .int l4, .ref r5]) C [.int l2] (fun r9 e9 => mX7_end C.flag N ol1 e9) mwX7_end miX7_end wd_1062 ol1 (by decide) rfl rfl rfl (Nat.le_of_ble_eq_true rfl) dX4_put_72 ⟨rfl, rfl, Nat.le_of_ble_eq_true rfl, Nat.le_of_ble_eq_true rfl, Nat.le_of_ble_eq_true rfl, Nat.le_of_ble_eq_true rfl⟩ (fun _ => rfl) (fun x7 ex7 => ?_)
        refine bd_mmax C wd_1080 wd_415 wd_104 wd_416 dX4_put_75 ⟨Nat.le_of_ble_eq_true rfl, Nat.le_of_ble_eq_true rfl, Nat.zero_le _, Nat.zero_le _⟩ ?_
        refine bd_iast C dX4_put_78 hr5 (fun w8 => ?_)
        refine bd_aload_n C 1 dX4_put_79 rfl rfl ?_
        refine bd_gR C fi402 fv402 wd_283 dX4_put_80 ol0 (fun r9 gr9 hr9 => ?_)
        refine bd_iload C 5 dX4_put_83 rfl ?_
        refine bd_aload_n C 1 dX4_put_85 rfl rfl ?_
        refine bd_iload C 5 dX4_put_86 rfl ?_
        refine bd_callV (vs := fun (r : Int32) => some (.int r)) (wf := fun _ => w8) (st := [.int l4, .ref r9]) (st1 := fun x10 => Value.int x10 :: [.int l4, .ref r9]) C [.int l4] (fun r9 e9 => mX4_source C.flag N ol0 e9) mwX4_source miX4_source wd_1081 ol0 (by decide) rfl rfl rfl (Nat.le_of_ble_eq_true rfl) dX4_put_88 ⟨rfl, rfl, Nat.le_of_ble_eq_true rfl, Nat.le_of_ble_eq_true rfl, Nat.le_of_ble_eq_true rfl, Nat.le_of_ble_eq_true rfl⟩ (fun _ => rfl) (fun x10 ex10 => ?_)
        refine bd_iload_n C 4 dX4_put_91 rfl rfl ?_
        refine bd_ior C dX4_put_92 ?_
        refine bd_iast C dX4_put_93 hr9 (fun w11 => ?_)
        exact bd_vret C hret rfl _ _ rfl rfl dX4_put_94 (Nat.le_refl _) (Nat.le_refl _)
  have hb35 : ∀  (w : Wd) (l0 : Nat) (l1 : Nat) (l2 : Int32) (l3 : Int32) (l4 : Int32) (ol0 : okF F l0 4) (ol1 : okF F l1 7), BD g G F 7 (qX4_put G F g) 0 0 (fX4_put_35 F N w l0 l1 l2 l3 l4) w 35 [(0, .ref l0), (1, .ref l1), (2, .int l2), (3, .int l3), (4, .int l4)] [] := by
    intro w l0 l1 l2 l3 l4 ol0 ol1
    unfold fX4_put_35
    refine bd_iconst C (v := 0) dX4_put_35 (by decide) ?_
    exact bd_sub (hb36 w l0 l1 l2 l3 l4 0 ol0 ol1) [0, 1, 2, 3, 4] rfl
  unfold fX4_put
  refine bd_sub (lv' := [(0, .ref l0), (1, .ref l1), (2, .int l2), (3, .int l3)]) ?_ [0, 1, 2, 3] rfl
  refine bd_aload_n C 0 dX4_put_0 rfl rfl ?_
  refine bd_gI C fi404 fv404 wd_285 dX4_put_1 ol0 ?_
  refine bd_iconst C (v := 1) dX4_put_4 (by decide) ?_
  refine bd_isub C dX4_put_5 ?_
  refine bd_bnd (tp := Value.int) (fun v33 ev33 => ?_)
  refine bd_istore C [(4, .int v33), (0, .ref l0), (1, .ref l1), (2, .int l2), (3, .int l3)] dX4_put_6 (by decide) rfl ?_
  refine bd_aload_n C 1 dX4_put_8 rfl rfl ?_
  refine bd_iload C 0 dX4_put_9 rfl ?_
  refine bd_callV (vs := fun (r : Int32) => some (.int r)) (wf := fun _ => w) (st := []) (st1 := fun x34 => Value.int x34 :: []) C [.int v33] (fun r9 e9 => mX4_has C.flag N ol0 e9) mwX4_has miX4_has wd_1067 ol0 (by decide) rfl rfl rfl (Nat.le_of_ble_eq_true rfl) dX4_put_11 ⟨rfl, rfl, Nat.le_of_ble_eq_true rfl, Nat.le_of_ble_eq_true rfl, Nat.le_of_ble_eq_true rfl, Nat.le_of_ble_eq_true rfl⟩ (fun _ => rfl) (fun x34 ex34 => ?_)
  refine bd_if_eq C 35 dX4_put_14 (by decide) (fun c35 => ?_) (fun c35 => ?_)
  · exact bd_sub (hb35 w l0 l1 l2 l3 v33 ol0 ol1) [1, 2, 3, 4, 0] rfl
  · refine bd_aload_n C 2 dX4_put_17 rfl rfl ?_
    refine bd_iload_n C 3 dX4_put_18 rfl rfl ?_
    refine bd_callV (vs := fun (r : Int32) => some (.int r)) (wf := fun _ => w) (st := []) (st1 := fun x36 => Value.int x36 :: []) C [.int l2] (fun r9 e9 => mX7_first C.flag N ol1 e9) mwX7_first miX7_first wd_1061 ol1 (by decide) rfl rfl rfl (Nat.le_of_ble_eq_true rfl) dX4_put_19 ⟨rfl, rfl, Nat.le_of_ble_eq_true rfl, Nat.le_of_ble_eq_true rfl, Nat.le_of_ble_eq_true rfl, Nat.le_of_ble_eq_true rfl⟩ (fun _ => rfl) (fun x36 ex36 => ?_)
    refine bd_aload_n C 1 dX4_put_22 rfl rfl ?_
    refine bd_iload C 0 dX4_put_23 rfl ?_
    refine bd_callV (vs := fun (r : Int32) => some (.int r)) (wf := fun _ => w) (st := [.int x36]) (st1 := fun x37 => Value.int x37 :: [.int x36]) C [.int v33] (fun r9 e9 => mX4_end C.flag N ol0 e9) mwX4_end miX4_end wd_1071 ol0 (by decide) rfl rfl rfl (Nat.le_of_ble_eq_true rfl) dX4_put_25 ⟨rfl, rfl, Nat.le_of_ble_eq_true rfl, Nat.le_of_ble_eq_true rfl, Nat.le_of_ble_eq_true rfl, Nat.le_of_ble_eq_true rfl⟩ (fun _ => rfl) (fun x37 ex37 => ?_)
    refine bd_icmp_ge C 35 dX4_put_28 (by decide) (fun c38 => ?_) (fun c38 => ?_)
    · exact bd_sub (hb35 w l0 l1 l2 l3 v33 ol0 ol1) [1, 2, 3, 4, 0] rfl
    · refine bd_iconst C (v := 1) dX4_put_31 (by decide) ?_
      refine bd_goto C 36 dX4_put_32 (by decide) ?_
      exact bd_sub (hb36 w l0 l1 l2 l3 v33 1 ol0 ol1) [1, 2, 3, 4, 0] rfl
abbrev rmX4_run : Room := { frames := 13, cells := 0, slots := 0, locals := 368 }
abbrev qX4_run (G : Gy) (F : Fr) (g : Bd) : Wd → State → Prop := fun r => QM G F g 0 0 ((fun _ => none) r) ((fun (r : Wd) => r) r)
set_option maxRecDepth 20000 in
set_option maxHeartbeats 4000000 in
theorem mX4_run {l : Launch} (hf9 : l.stackTraces = false) {G : Gy} {F : Fr} (N : Nat) {w : Wd} {l0 : Nat} {l1 : Nat} {l2 : Nat} {r : Wd} (ol0 : okF F l0 4) (ol1 : okF F l1 7) (ol2 : okF F l2 7) (e9 : fX4_run F N w l0 l1 l2 = some r) : Met l yX4_run [.code yX4_run cX4_run 7 none] rmX4_run (PcB G F w [.ref l0, .ref l1, .ref l2]) (QB G F ((fun _ => none) r) ((fun (r : Wd) => r) r)) 0 0 (AF F) := by
  refine bd_met (vs := fun _ => none) (wf := fun (r : Wd) => r) hf9 (by decide) (Nat.le_of_ble_eq_true rfl) e9 (fun g C hret hini => ?_)
  clear e9 r
  have hb78 : ∀ (k31 : Wd → Nat → Nat → Nat → Int32 → Int32 → Int32 → Option (Wd)), (∀ (w : Wd) (l0 : Nat) (l1 : Nat) (l2 : Nat) (l3 : Int32) (l4 : Int32) (l5 : Int32) (ol0 : okF F l0 4) (ol1 : okF F l1 7) (ol2 : okF F l2 7), BD g G F 7 (qX4_run G F g) 0 0 (k31 w l0 l1 l2 l3 l4 l5) w 31 [(0, .ref l0), (1, .ref l1), (2, .ref l2), (3, .int l3), (4, .int l4), (5, .int l5)] []) → ∀  (w : Wd) (l0 : Nat) (l1 : Nat) (l2 : Nat) (l3 : Int32) (l4 : Int32) (l5 : Int32) (ol0 : okF F l0 4) (ol1 : okF F l1 7) (ol2 : okF F l2 7), BD g G F 7 (qX4_run G F g) 0 0 (fX4_run_78 F N k31 w l0 l1 l2 l3 l4 l5) w 78 [(0, .ref l0), (1, .ref l1), (2, .ref l2), (3, .int l3), (4, .int l4), (5, .int l5)] [] := by
    intro k31 hk31
    intro w l0 l1 l2 l3 l4 l5 ol0 ol1 ol2
    unfold fX4_run_78
    refine bd_iinc C (v := l5 + 1) 5 [(5, .int (l5 + 1)), (0, .ref l0), (1, .ref l1), (2, .ref l2), (3, .int l3), (4, .int l4)] dX4_run_78 rfl rfl (by decide) rfl ?_
    refine bd_goto C 31 dX4_run_81 (by decide) ?_
    exact bd_sub (hk31 w l0 l1 l2 l3 l4 (l5 + 1) ol0 ol1 ol2) [1, 2, 3, 4, 5, 0] rfl
  have hb31 : ∀ (n : Nat) (w : Wd) (l0 : Nat) (l1 : Nat) (l2 : Nat) (l3 : Int32) (l4 : Int32) (l5 : Int32) (ol0 : okF F l0 4) (ol1 : okF F l1 7) (ol2 : okF F l2 7), BD g G F 7 (qX4_run G F g) 0 0 (fX4_run_31 F N n w l0 l1 l2 l3 l4 l5) w 31 [(0, .ref l0), (1, .ref l1), (2, .ref l2), (3, .int l3), (4, .int l4), (5, .int l5)] [] := by
    intro n
    induction n with
    | zero =>
      intro w l0 l1 l2 l3 l4 l5 ol0 ol1 ol2
      unfold fX4_run_31
      exact bd_none
    | succ n ih =>
      intro w l0 l1 l2 l3 l4 l5 ol0 ol1 ol2
      unfold fX4_run_31
      refine bd_iload C 5 dX4_run_31 rfl ?_
      refine bd_iload_n C 3 dX4_run_33 rfl rfl ?_
      refine bd_icmp_ge C 84 dX4_run_34 (by decide) (fun c1 => ?_) (fun c1 => ?_)
      · exact bd_vret C hret rfl _ _ rfl rfl dX4_run_84 (Nat.le_refl _) (Nat.le_refl _)
      · refine bd_iload C 5 dX4_run_37 rfl ?_
        refine bd_iload C 4 dX4_run_39 rfl ?_
        refine bd_isub C dX4_run_41 ?_
        refine bd_bnd (tp := Value.int) (fun v2 ev2 => ?_)
        refine bd_istore C [(6, .int v2), (0, .ref l0), (1, .ref l1), (2, .ref l2), (3, .int l3), (4, .int l4), (5, .int l5)] dX4_run_42 (by decide) rfl ?_
        refine bd_aload_n C 2 dX4_run_44 rfl rfl ?_
        refine bd_iload C 5 dX4_run_45 rfl ?_
        refine bd_aload_n C 3 dX4_run_47 rfl rfl ?_
        refine bd_iload C 0 dX4_run_48 rfl ?_
        refine bd_callS (vs := fun (r : Int32) => some (.int r)) (wf := fun _ => w) (st := []) (st1 := fun x3 => Value.int x3 :: []) C [.ref l1, .int l4, .ref l2, .int v2] (fun r9 e9 => mX4_isBefore C.flag N ol1 ol2 e9) mwX4_isBefore miX4_isBefore wd_1058 rfl rfl (Nat.le_of_ble_eq_true rfl) dX4_run_50 ⟨rfl, rfl, Nat.le_of_ble_eq_true rfl, Nat.le_of_ble_eq_true rfl, Nat.le_of_ble_eq_true rfl, Nat.le_of_ble_eq_true rfl⟩ (fun _ => rfl) (fun x3 ex3 => ?_)
        refine bd_if_eq C 70 dX4_run_53 (by decide) (fun c4 => ?_) (fun c4 => ?_)
        · refine bd_aload_n C 1 dX4_run_70 rfl rfl ?_
          refine bd_aload_n C 3 dX4_run_71 rfl rfl ?_
          refine bd_iload C 0 dX4_run_72 rfl ?_
          refine bd_iconst C (v := 2) dX4_run_74 (by decide) ?_
          refine bd_callV (vs := fun _ => none) (wf := fun (r : Wd) => r) (st := []) (st1 := fun p5 => []) C [.ref l2, .int v2, .int 2] (fun r9 e9 => mX4_put C.flag N ol0 ol2 e9) mwX4_put miX4_put wd_1063 ol0 (by decide) rfl rfl rfl (Nat.le_of_ble_eq_true rfl) dX4_run_75 ⟨rfl, rfl, Nat.le_of_ble_eq_true rfl, Nat.le_of_ble_eq_true rfl, Nat.le_of_ble_eq_true rfl, Nat.le_of_ble_eq_true rfl⟩ (fun _ => rfl) (fun p5 ep5 => ?_)
          exact bd_sub (hb78 _ ih p5 l0 l1 l2 l3 l4 l5 ol0 ol1 ol2) [1, 2, 3, 4, 5, 6] rfl
        · refine bd_aload_n C 1 dX4_run_56 rfl rfl ?_
          refine bd_aload_n C 2 dX4_run_57 rfl rfl ?_
          refine bd_iload C 5 dX4_run_58 rfl ?_
          refine bd_iconst C (v := 1) dX4_run_60 (by decide) ?_
          refine bd_callV (vs := fun _ => none) (wf := fun (r : Wd) => r) (st := []) (st1 := fun p6 => []) C [.ref l1, .int l4, .int 1] (fun r9 e9 => mX4_put C.flag N ol0 ol1 e9) mwX4_put miX4_put wd_1063 ol0 (by decide) rfl rfl rfl (Nat.le_of_ble_eq_true rfl) dX4_run_61 ⟨rfl, rfl, Nat.le_of_ble_eq_true rfl, Nat.le_of_ble_eq_true rfl, Nat.le_of_ble_eq_true rfl, Nat.le_of_ble_eq_true rfl⟩ (fun _ => rfl) (fun p6 ep6 => ?_)
          refine bd_iinc C (v := l4 + 1) 5 [(4, .int (l4 + 1)), (6, .int v2), (0, .ref l0), (1, .ref l1), (2, .ref l2), (3, .int l3), (5, .int l5)] dX4_run_64 rfl rfl (by decide) rfl ?_
          refine bd_goto C 78 dX4_run_67 (by decide) ?_
          exact bd_sub (hb78 _ ih p6 l0 l1 l2 l3 (l4 + 1) l5 ol0 ol1 ol2) [2, 3, 4, 5, 0, 6] rfl
  unfold fX4_run
  refine bd_sub (lv' := [(0, .ref l0), (1, .ref l1), (2, .ref l2)]) ?_ [0, 1, 2] rfl
  refine bd_aload_n C 0 dX4_run_0 rfl rfl ?_
  refine bd_iconst C (v := 0) dX4_run_1 (by decide) ?_
  refine bd_pI C fi404 ftX4 fu404 wd_285 rfl rfl rfl dX4_run_2 ol0 (fun w7 => ?_)
  refine bd_aload_n C 0 dX4_run_5 rfl rfl ?_
  refine bd_iconst C (v := 0) dX4_run_6 (by decide) ?_
  refine bd_pI C fi405 ftX4 fu405 wd_287 rfl rfl rfl dX4_run_7 ol0 (fun w8 => ?_)
  refine bd_aload_n C 0 dX4_run_10 rfl rfl ?_
  refine bd_iconst C (v := 0) dX4_run_11 (by decide) ?_
  refine bd_pI C fi406 ftX4 fu406 wd_289 rfl rfl rfl dX4_run_12 ol0 (fun w9 => ?_)
  refine bd_aload_n C 1 dX4_run_15 rfl rfl ?_
  refine bd_gIN C fi703 fv703 wd_135 dX4_run_16 ol1 ?_
  refine bd_aload_n C 2 dX4_run_19 rfl rfl ?_
  refine bd_gIN C fi703 fv703 wd_135 dX4_run_20 ol2 ?_
  refine bd_iadd C dX4_run_23 ?_
  refine bd_bnd (tp := Value.int) (fun v10 ev10 => ?_)
  refine bd_istore_n C [(3, .int v10), (0, .ref l0), (1, .ref l1), (2, .ref l2)] dX4_run_24 rfl (by decide) rfl ?_
  refine bd_iconst C (v := 0) dX4_run_25 (by decide) ?_
  refine bd_istore C [(4, .int 0), (3, .int v10), (0, .ref l0), (1, .ref l1), (2, .ref l2)] dX4_run_26 (by decide) rfl ?_
  refine bd_iconst C (v := 0) dX4_run_28 (by decide) ?_
  refine bd_istore C [(5, .int 0), (4, .int 0), (3, .int v10), (0, .ref l0), (1, .ref l1), (2, .ref l2)] dX4_run_29 (by decide) rfl ?_
  exact bd_sub (hb31 N w9 l0 l1 l2 v10 0 0 ol0 ol1 ol2) [3, 4, 5, 2, 1, 0] rfl
abbrev rmX4_sharedCount : Room := { frames := 12, cells := 0, slots := 0, locals := 342 }
abbrev qX4_sharedCount (G : Gy) (F : Fr) (g : Bd) (w : Wd) : Int32 → State → Prop := fun r => QM G F g 0 0 ((fun (r : Int32) => some (.int r)) r) ((fun _ => w) r)
set_option maxRecDepth 20000 in
set_option maxHeartbeats 4000000 in
theorem mX4_sharedCount {l : Launch} (hf9 : l.stackTraces = false) {G : Gy} {F : Fr} (N : Nat) {w : Wd} {l0 : Nat} {r : Int32} (ol0 : okF F l0 4) (e9 : fX4_sharedCount F N w l0 = some r) : Met l yX4_sharedCount [.code yX4_sharedCount cX4_sharedCount 3 (some .int)] rmX4_sharedCount (PcB G F w [.ref l0]) (QB G F ((fun (r : Int32) => some (.int r)) r) ((fun _ => w) r)) 0 0 (AF F) := by
  refine bd_met (vs := fun (r : Int32) => some (.int r)) (wf := fun _ => w) hf9 (by decide) (Nat.le_of_ble_eq_true rfl) e9 (fun g C hret hini => ?_)
  clear e9 r
  have hb27 : ∀ (k4 : Nat → Int32 → Int32 → Option (Int32)), (∀ (l0 : Nat) (l1 : Int32) (l2 : Int32) (ol0 : okF F l0 4), BD g G F 3 (qX4_sharedCount G F g w) 0 0 (k4 l0 l1 l2) w 4 [(0, .ref l0), (1, .int l1), (2, .int l2)] []) → ∀  (l0 : Nat) (l2 : Int32) (s0 : Int32) (s1 : Int32) (ol0 : okF F l0 4), BD g G F 3 (qX4_sharedCount G F g w) 0 0 (fX4_sharedCount_27 F N w k4 l0 l2 s0 s1) w 27 [(0, .ref l0), (2, .int l2)] [.int s1, .int s0] := by
    intro k4 hk4
    intro l0 l2 s0 s1 ol0
    unfold fX4_sharedCount_27
    refine bd_iadd C dX4_sharedCount_27 ?_
    refine bd_bnd (tp := Value.int) (fun v4 ev4 => ?_)
    refine bd_istore_n C [(1, .int v4), (0, .ref l0), (2, .int l2)] dX4_sharedCount_28 rfl (by decide) rfl ?_
    refine bd_iinc C (v := l2 + 1) 2 [(2, .int (l2 + 1)), (1, .int v4), (0, .ref l0)] dX4_sharedCount_29 rfl rfl (by decide) rfl ?_
    refine bd_goto C 4 dX4_sharedCount_32 (by decide) ?_
    exact bd_sub (hk4 l0 v4 (l2 + 1) ol0) [2, 1, 0] rfl
  have hb4 : ∀ (n : Nat) (l0 : Nat) (l1 : Int32) (l2 : Int32) (ol0 : okF F l0 4), BD g G F 3 (qX4_sharedCount G F g w) 0 0 (fX4_sharedCount_4 F N w n l0 l1 l2) w 4 [(0, .ref l0), (1, .int l1), (2, .int l2)] [] := by
    intro n
    induction n with
    | zero =>
      intro l0 l1 l2 ol0
      unfold fX4_sharedCount_4
      exact bd_none
    | succ n ih =>
      intro l0 l1 l2 ol0
      unfold fX4_sharedCount_4
      refine bd_iload_n C 2 dX4_sharedCount_4 rfl rfl ?_
      refine bd_aload_n C 0 dX4_sharedCount_5 rfl rfl ?_
      refine bd_gI C fi404 fv404 wd_285 dX4_sharedCount_6 ol0 ?_
      refine bd_icmp_ge C 35 dX4_sharedCount_9 (by decide) (fun c1 => ?_) (fun c1 => ?_)
      · refine bd_iload_n C 1 dX4_sharedCount_35 rfl rfl ?_
        exact bd_iret C hret rfl _ _ rfl rfl dX4_sharedCount_36 (Nat.le_refl _) (Nat.le_refl _)
      · refine bd_iload_n C 1 dX4_sharedCount_12 rfl rfl ?_
        refine bd_aload_n C 0 dX4_sharedCount_13 rfl rfl ?_
        refine bd_iload_n C 2 dX4_sharedCount_14 rfl rfl ?_
        refine bd_callV (vs := fun (r : Int32) => some (.int r)) (wf := fun _ => w) (st := [.int l1]) (st1 := fun x2 => Value.int x2 :: [.int l1]) C [.int l2] (fun r9 e9 => mX4_source C.flag N ol0 e9) mwX4_source miX4_source wd_1081 ol0 (by decide) rfl rfl rfl (Nat.le_of_ble_eq_true rfl) dX4_sharedCount_15 ⟨rfl, rfl, Nat.le_of_ble_eq_true rfl, Nat.le_of_ble_eq_true rfl, Nat.le_of_ble_eq_true rfl, Nat.le_of_ble_eq_true rfl⟩ (fun _ => rfl) (fun x2 ex2 => ?_)
        refine bd_iconst C (v := 3) dX4_sharedCount_18 (by decide) ?_
        refine bd_icmp_ne C 26 dX4_sharedCount_19 (by decide) (fun c3 => ?_) (fun c3 => ?_)
        · refine bd_iconst C (v := 0) dX4_sharedCount_26 (by decide) ?_
          exact bd_sub (hb27 _ ih l0 l2 l1 0 ol0) [0, 2] rfl
        · refine bd_iconst C (v := 1) dX4_sharedCount_22 (by decide) ?_
          refine bd_goto C 27 dX4_sharedCount_23 (by decide) ?_
          exact bd_sub (hb27 _ ih l0 l2 l1 1 ol0) [0, 2] rfl
  unfold fX4_sharedCount
  refine bd_sub (lv' := [(0, .ref l0)]) ?_ [0] rfl
  refine bd_iconst C (v := 0) dX4_sharedCount_0 (by decide) ?_
  refine bd_istore_n C [(1, .int 0), (0, .ref l0)] dX4_sharedCount_1 rfl (by decide) rfl ?_
  refine bd_iconst C (v := 0) dX4_sharedCount_2 (by decide) ?_
  refine bd_istore_n C [(2, .int 0), (1, .int 0), (0, .ref l0)] dX4_sharedCount_3 rfl (by decide) rfl ?_
  exact bd_sub (hb4 N l0 0 0 ol0) [2, 1, 0] rfl
abbrev rmX4_frameSum : Room := { frames := 12, cells := 0, slots := 0, locals := 342 }
abbrev qX4_frameSum (G : Gy) (F : Fr) (g : Bd) (w : Wd) : Int32 → State → Prop := fun r => QM G F g 0 0 ((fun (r : Int32) => some (.int r)) r) ((fun _ => w) r)
set_option maxRecDepth 20000 in
set_option maxHeartbeats 4000000 in
theorem mX4_frameSum {l : Launch} (hf9 : l.stackTraces = false) {G : Gy} {F : Fr} (N : Nat) {w : Wd} {l0 : Nat} {r : Int32} (ol0 : okF F l0 4) (e9 : fX4_frameSum F N w l0 = some r) : Met l yX4_frameSum [.code yX4_frameSum cX4_frameSum 3 (some .int)] rmX4_frameSum (PcB G F w [.ref l0]) (QB G F ((fun (r : Int32) => some (.int r)) r) ((fun _ => w) r)) 0 0 (AF F) := by
  refine bd_met (vs := fun (r : Int32) => some (.int r)) (wf := fun _ => w) hf9 (by decide) (Nat.le_of_ble_eq_true rfl) e9 (fun g C hret hini => ?_)
  clear e9 r
  have hb4 : ∀ (n : Nat) (l0 : Nat) (l1 : Int32) (l2 : Int32) (ol0 : okF F l0 4), BD g G F 3 (qX4_frameSum G F g w) 0 0 (fX4_frameSum_4 F N w n l0 l1 l2) w 4 [(0, .ref l0), (1, .int l1), (2, .int l2)] [] := by
    intro n
    induction n with
    | zero =>
      intro l0 l1 l2 ol0
      unfold fX4_frameSum_4
      exact bd_none
    | succ n ih =>
      intro l0 l1 l2 ol0
      unfold fX4_frameSum_4
      refine bd_iload_n C 2 dX4_frameSum_4 rfl rfl ?_
      refine bd_aload_n C 0 dX4_frameSum_5 rfl rfl ?_
      refine bd_gI C fi404 fv404 wd_285 dX4_frameSum_6 ol0 ?_
      refine bd_icmp_ge C 32 dX4_frameSum_9 (by decide) (fun c1 => ?_) (fun c1 => ?_)
      · refine bd_iload_n C 1 dX4_frameSum_32 rfl rfl ?_
        exact bd_iret C hret rfl _ _ rfl rfl dX4_frameSum_33 (Nat.le_refl _) (Nat.le_refl _)
      · refine bd_iload_n C 1 dX4_frameSum_12 rfl rfl ?_
        refine bd_aload_n C 0 dX4_frameSum_13 rfl rfl ?_
        refine bd_iload_n C 2 dX4_frameSum_14 rfl rfl ?_
        refine bd_callV (vs := fun (r : Int32) => some (.int r)) (wf := fun _ => w) (st := [.int l1]) (st1 := fun x2 => Value.int x2 :: [.int l1]) C [.int l2] (fun r9 e9 => mX4_end C.flag N ol0 e9) mwX4_end miX4_end wd_1071 ol0 (by decide) rfl rfl rfl (Nat.le_of_ble_eq_true rfl) dX4_frameSum_15 ⟨rfl, rfl, Nat.le_of_ble_eq_true rfl, Nat.le_of_ble_eq_true rfl, Nat.le_of_ble_eq_true rfl, Nat.le_of_ble_eq_true rfl⟩ (fun _ => rfl) (fun x2 ex2 => ?_)
        refine bd_aload_n C 0 dX4_frameSum_18 rfl rfl ?_
        refine bd_iload_n C 2 dX4_frameSum_19 rfl rfl ?_
        refine bd_callV (vs := fun (r : Int32) => some (.int r)) (wf := fun _ => w) (st := [.int x2, .int l1]) (st1 := fun x3 => Value.int x3 :: [.int x2, .int l1]) C [.int l2] (fun r9 e9 => mX4_first C.flag N ol0 e9) mwX4_first miX4_first wd_1093 ol0 (by decide) rfl rfl rfl (Nat.le_of_ble_eq_true rfl) dX4_frameSum_20 ⟨rfl, rfl, Nat.le_of_ble_eq_true rfl, Nat.le_of_ble_eq_true rfl, Nat.le_of_ble_eq_true rfl, Nat.le_of_ble_eq_true rfl⟩ (fun _ => rfl) (fun x3 ex3 => ?_)
        refine bd_isub C dX4_frameSum_23 ?_
        refine bd_iadd C dX4_frameSum_24 ?_
        refine bd_bnd (tp := Value.int) (fun v4 ev4 => ?_)
        refine bd_istore_n C [(1, .int v4), (0, .ref l0), (2, .int l2)] dX4_frameSum_25 rfl (by decide) rfl ?_
        refine bd_iinc C (v := l2 + 1) 2 [(2, .int (l2 + 1)), (1, .int v4), (0, .ref l0)] dX4_frameSum_26 rfl rfl (by decide) rfl ?_
        refine bd_goto C 4 dX4_frameSum_29 (by decide) ?_
        exact bd_sub (ih l0 v4 (l2 + 1) ol0) [2, 1, 0] rfl
  unfold fX4_frameSum
  refine bd_sub (lv' := [(0, .ref l0)]) ?_ [0] rfl
  refine bd_iconst C (v := 0) dX4_frameSum_0 (by decide) ?_
  refine bd_istore_n C [(1, .int 0), (0, .ref l0)] dX4_frameSum_1 rfl (by decide) rfl ?_
  refine bd_iconst C (v := 0) dX4_frameSum_2 (by decide) ?_
  refine bd_istore_n C [(2, .int 0), (1, .int 0), (0, .ref l0)] dX4_frameSum_3 rfl (by decide) rfl ?_
  exact bd_sub (hb4 N l0 0 0 ol0) [2, 1, 0] rfl
abbrev rmX5_readPart : Room := { frames := 14, cells := 0, slots := 0, locals := 387 }
abbrev qX5_readPart (G : Gy) (F : Fr) (g : Bd) : (Int32 × Wd) → State → Prop := fun r => QM G F g 0 0 ((fun (r : Int32 × Wd) => some (.int r.1)) r) ((fun (r : Int32 × Wd) => r.2) r)
set_option maxRecDepth 20000 in
set_option maxHeartbeats 4000000 in
theorem mX5_readPart {l : Launch} (hf9 : l.stackTraces = false) {G : Gy} {F : Fr} (N : Nat) {w : Wd} {l0 : Nat} {l1 : Nat} {l2 : Nat} {l3 : Int32} {r : Int32 × Wd} (ol0 : okF F l0 5) (ol1 : okF F l1 3) (ol2 : okF F l2 1) (e9 : fX5_readPart F N w l0 l1 l2 l3 = some r) : Met l yX5_readPart [.code yX5_readPart cX5_readPart 8 (some .boolean)] rmX5_readPart (PcB G F w [.ref l0, .ref l1, .ref l2, .int l3]) (QB G F ((fun (r : Int32 × Wd) => some (.int r.1)) r) ((fun (r : Int32 × Wd) => r.2) r)) 0 0 (AF F) := by
  refine bd_met (vs := fun (r : Int32 × Wd) => some (.int r.1)) (wf := fun (r : Int32 × Wd) => r.2) hf9 (by decide) (Nat.le_of_ble_eq_true rfl) e9 (fun g C hret hini => ?_)
  clear e9 r
  have hb104 : ∀  (w : Wd), BD g G F 8 (qX5_readPart G F g) 0 0 (fX5_readPart_104 F N w) w 104 [] [] := by
    intro w
    unfold fX5_readPart_104
    refine bd_iconst C (v := 1) dX5_readPart_104 (by decide) ?_
    refine bd_goto C 109 dX5_readPart_105 (by decide) ?_
    exact bd_zret C hret rfl _ _ rfl rfl rfl dX5_readPart_109 (Nat.le_refl _) (Nat.le_refl _)
  have hb92 : ∀  (w : Wd) (l5 : Int32) (l6 : Int64), BD g G F 8 (qX5_readPart G F g) 0 0 (fX5_readPart_92 F N w l5 l6) w 92 [(5, .int l5), (6, .long l6)] [] := by
    intro w l5 l6
    unfold fX5_readPart_92
    refine bd_iload C 0 dX5_readPart_92 rfl ?_
    refine bd_if_ne C 104 dX5_readPart_94 (by decide) (fun c10 => ?_) (fun c10 => ?_)
    · exact bd_sub (hb104 w) [] rfl
    · refine bd_lload C 1 dX5_readPart_97 rfl ?_
      refine bd_lconst C (v := 0) dX5_readPart_99 (by decide) ?_
      refine bd_lcmp C dX5_readPart_100 ?_
      refine bd_if_eq C 108 dX5_readPart_101 (by decide) (fun c11 => ?_) (fun c11 => ?_)
      · refine bd_iconst C (v := 0) dX5_readPart_108 (by decide) ?_
        exact bd_zret C hret rfl _ _ rfl rfl rfl dX5_readPart_109 (Nat.le_refl _) (Nat.le_refl _)
      · exact bd_sub (hb104 w) [] rfl
  have hb53 : ∀  (w : Wd) (l0 : Nat) (l2 : Nat) (l3 : Int32) (l4 : Int32) (l5 : Int32) (s0 : Int64) (ol0 : okF F l0 5) (ol2 : okF F l2 1), BD g G F 8 (qX5_readPart G F g) 0 0 (fX5_readPart_53 F N w l0 l2 l3 l4 l5 s0) w 53 [(0, .ref l0), (2, .ref l2), (3, .int l3), (4, .int l4), (5, .int l5)] [.long s0] := by
    intro w l0 l2 l3 l4 l5 s0 ol0 ol2
    unfold fX5_readPart_53
    refine bd_lstore C [(6, .long s0), (0, .ref l0), (2, .ref l2), (3, .int l3), (4, .int l4), (5, .int l5)] dX5_readPart_53 (by decide) rfl ?_
    refine bd_iload_n C 3 dX5_readPart_55 rfl rfl ?_
    refine bd_if_lt C 92 dX5_readPart_56 (by decide) (fun c1 => ?_) (fun c1 => ?_)
    · exact bd_sub (hb92 w l5 s0) [5, 0] rfl
    · refine bd_iload_n C 3 dX5_readPart_59 rfl rfl ?_
      refine bd_iconst C (v := 4) dX5_readPart_60 (by decide) ?_
      refine bd_icmp_ge C 92 dX5_readPart_61 (by decide) (fun c2 => ?_) (fun c2 => ?_)
      · exact bd_sub (hb92 w l5 s0) [5, 0] rfl
      · refine bd_aload_n C 1 dX5_readPart_64 rfl rfl ?_
        refine bd_gR C fi500 fv500 wd_314 dX5_readPart_65 ol0 (fun r3 gr3 hr3 => ?_)
        refine bd_iload_n C 3 dX5_readPart_68 rfl rfl ?_
        refine bd_iload C 4 dX5_readPart_69 rfl ?_
        refine bd_iast C dX5_readPart_71 hr3 (fun w4 => ?_)
        refine bd_aload_n C 1 dX5_readPart_72 rfl rfl ?_
        refine bd_gR C fi501 fv501 wd_315 dX5_readPart_73 ol0 (fun r5 gr5 hr5 => ?_)
        refine bd_iload_n C 3 dX5_readPart_76 rfl rfl ?_
        refine bd_aload_n C 2 dX5_readPart_77 rfl rfl ?_
        refine bd_iload C 4 dX5_readPart_78 rfl ?_
        refine bd_callV (vs := fun (r : Int32) => some (.int r)) (wf := fun _ => w4) (st := [.int l3, .ref r5]) (st1 := fun x6 => Value.int x6 :: [.int l3, .ref r5]) C [.int l4] (fun r9 e9 => mX1_kindOf C.flag N ol2 e9) mwX1_kindOf miX1_kindOf wd_998 ol2 (by decide) rfl rfl rfl (Nat.le_of_ble_eq_true rfl) dX5_readPart_80 ⟨rfl, rfl, Nat.le_of_ble_eq_true rfl, Nat.le_of_ble_eq_true rfl, Nat.le_of_ble_eq_true rfl, Nat.le_of_ble_eq_true rfl⟩ (fun _ => rfl) (fun x6 ex6 => ?_)
        refine bd_iast C dX5_readPart_83 hr5 (fun w7 => ?_)
        refine bd_aload_n C 1 dX5_readPart_84 rfl rfl ?_
        refine bd_gR C fi502 fv502 wd_316 dX5_readPart_85 ol0 (fun r8 gr8 hr8 => ?_)
        refine bd_iload_n C 3 dX5_readPart_88 rfl rfl ?_
        refine bd_lload C 0 dX5_readPart_89 rfl ?_
        refine bd_last C dX5_readPart_91 hr8 (fun w9 => ?_)
        exact bd_sub (hb92 w9 l5 s0) [5, 0] rfl
  unfold fX5_readPart
  refine bd_sub (lv' := [(0, .ref l0), (1, .ref l1), (2, .ref l2), (3, .int l3)]) ?_ [0, 1, 2, 3] rfl
  refine bd_aload_n C 1 dX5_readPart_0 rfl rfl ?_
  refine bd_aload_n C 2 dX5_readPart_1 rfl rfl ?_
  refine bd_gIN C fi105 fv105 wd_156 dX5_readPart_2 ol2 ?_
  refine bd_callV (vs := fun (r : Int32 × Wd) => some (.int r.1)) (wf := fun (r : Int32 × Wd) => r.2) (st := []) (st1 := fun p12 => Value.int p12.1 :: []) C [.int (gI w 105 l2)] (fun r9 e9 => mX3_readTier C.flag N ol1 e9) mwX3_readTier miX3_readTier wd_990 ol1 (by decide) rfl rfl rfl (Nat.le_of_ble_eq_true rfl) dX5_readPart_5 ⟨rfl, rfl, Nat.le_of_ble_eq_true rfl, Nat.le_of_ble_eq_true rfl, Nat.le_of_ble_eq_true rfl, Nat.le_of_ble_eq_true rfl⟩ (fun _ => rfl) (fun p12 ep12 => ?_)
  refine bd_istore C [(4, .int p12.1), (0, .ref l0), (1, .ref l1), (2, .ref l2), (3, .int l3)] dX5_readPart_8 (by decide) rfl ?_
  refine bd_iload C 0 dX5_readPart_10 rfl ?_
  refine bd_if_lt C 24 dX5_readPart_12 (by decide) (fun c13 => ?_) (fun c13 => ?_)
  · refine bd_iconst C (v := 0) dX5_readPart_24 (by decide) ?_
    exact bd_zret C hret rfl _ _ rfl rfl rfl dX5_readPart_25 (Nat.le_refl _) (Nat.le_refl _)
  · refine bd_aload_n C 2 dX5_readPart_15 rfl rfl ?_
    refine bd_bipush C (v := 61) dX5_readPart_16 (by decide) ?_
    refine bd_callV (vs := fun (r : Int32 × Wd) => some (.int r.1)) (wf := fun (r : Int32 × Wd) => r.2) (st := []) (st1 := fun p14 => Value.int p14.1 :: []) C [.int 61] (fun r9 e9 => mX3_take C.flag N ol1 e9) mwX3_take miX3_take wd_994 ol1 (by decide) rfl rfl rfl (Nat.le_of_ble_eq_true rfl) dX5_readPart_18 ⟨rfl, rfl, Nat.le_of_ble_eq_true rfl, Nat.le_of_ble_eq_true rfl, Nat.le_of_ble_eq_true rfl, Nat.le_of_ble_eq_true rfl⟩ (fun _ => rfl) (fun p14 ep14 => ?_)
    refine bd_if_ne C 26 dX5_readPart_21 (by decide) (fun c15 => ?_) (fun c15 => ?_)
    · refine bd_aload_n C 2 dX5_readPart_26 rfl rfl ?_
      refine bd_bipush C (v := 42) dX5_readPart_27 (by decide) ?_
      refine bd_callV (vs := fun (r : Int32 × Wd) => some (.int r.1)) (wf := fun (r : Int32 × Wd) => r.2) (st := []) (st1 := fun p16 => Value.int p16.1 :: []) C [.int 42] (fun r9 e9 => mX3_take C.flag N ol1 e9) mwX3_take miX3_take wd_994 ol1 (by decide) rfl rfl rfl (Nat.le_of_ble_eq_true rfl) dX5_readPart_29 ⟨rfl, rfl, Nat.le_of_ble_eq_true rfl, Nat.le_of_ble_eq_true rfl, Nat.le_of_ble_eq_true rfl, Nat.le_of_ble_eq_true rfl⟩ (fun _ => rfl) (fun p16 ep16 => ?_)
      refine bd_istore C [(5, .int p16.1), (4, .int p12.1), (0, .ref l0), (1, .ref l1), (2, .ref l2), (3, .int l3)] dX5_readPart_32 (by decide) rfl ?_
      refine bd_iload C 0 dX5_readPart_34 rfl ?_
      refine bd_if_eq C 43 dX5_readPart_36 (by decide) (fun c17 => ?_) (fun c17 => ?_)
      · refine bd_aload_n C 3 dX5_readPart_43 rfl rfl ?_
        refine bd_aload_n C 4 dX5_readPart_44 rfl rfl ?_
        refine bd_iload C 1 dX5_readPart_45 rfl ?_
        refine bd_callV (vs := fun (r : Int32) => some (.int r)) (wf := fun _ => p16.2) (st := [.ref l1]) (st1 := fun x18 => Value.int x18 :: [.ref l1]) C [.int p12.1] (fun r9 e9 => mX1_kindOf C.flag N ol2 e9) mwX1_kindOf miX1_kindOf wd_998 ol2 (by decide) rfl rfl rfl (Nat.le_of_ble_eq_true rfl) dX5_readPart_47 ⟨rfl, rfl, Nat.le_of_ble_eq_true rfl, Nat.le_of_ble_eq_true rfl, Nat.le_of_ble_eq_true rfl, Nat.le_of_ble_eq_true rfl⟩ (fun _ => rfl) (fun x18 ex18 => ?_)
        refine bd_callV (vs := fun (r : Int64 × Wd) => some (.long r.1)) (wf := fun (r : Int64 × Wd) => r.2) (st := []) (st1 := fun p19 => Value.long p19.1 :: []) C [.int x18] (fun r9 e9 => mX3_readLabel C.flag N ol1 e9) mwX3_readLabel miX3_readLabel wd_999 ol1 (by decide) rfl rfl rfl (Nat.le_of_ble_eq_true rfl) dX5_readPart_50 ⟨rfl, rfl, Nat.le_of_ble_eq_true rfl, Nat.le_of_ble_eq_true rfl, Nat.le_of_ble_eq_true rfl, Nat.le_of_ble_eq_true rfl⟩ (fun _ => rfl) (fun p19 ep19 => ?_)
        exact bd_sub (hb53 p19.2 l0 l2 l3 p12.1 p16.1 p19.1 ol0 ol2) [2, 4, 5, 1, 0] rfl
      · refine bd_lconst C (v := 0) dX5_readPart_39 (by decide) ?_
        refine bd_goto C 53 dX5_readPart_40 (by decide) ?_
        exact bd_sub (hb53 p16.2 l0 l2 l3 p12.1 p16.1 0 ol0 ol2) [2, 4, 5, 1, 0] rfl
    · refine bd_iconst C (v := 0) dX5_readPart_24 (by decide) ?_
      exact bd_zret C hret rfl _ _ rfl rfl rfl dX5_readPart_25 (Nat.le_refl _) (Nat.le_refl _)
abbrev rmX5_readLink : Room := { frames := 12, cells := 0, slots := 0, locals := 341 }
abbrev qX5_readLink (G : Gy) (F : Fr) (g : Bd) : (Int32 × Wd) → State → Prop := fun r => QM G F g 0 0 ((fun (r : Int32 × Wd) => some (.int r.1)) r) ((fun (r : Int32 × Wd) => r.2) r)
set_option maxRecDepth 20000 in
set_option maxHeartbeats 4000000 in
theorem mX5_readLink {l : Launch} (hf9 : l.stackTraces = false) {G : Gy} {F : Fr} (N : Nat) {w : Wd} {l0 : Nat} {l1 : Nat} {l2 : Int32} {r : Int32 × Wd} (ol0 : okF F l0 5) (ol1 : okF F l1 3) (e9 : fX5_readLink F N w l0 l1 l2 = some r) : Met l yX5_readLink [.code yX5_readLink cX5_readLink 3 (some .boolean)] rmX5_readLink (PcB G F w [.ref l0, .ref l1, .int l2]) (QB G F ((fun (r : Int32 × Wd) => some (.int r.1)) r) ((fun (r : Int32 × Wd) => r.2) r)) 0 0 (AF F) := by
  refine bd_met (vs := fun (r : Int32 × Wd) => some (.int r.1)) (wf := fun (r : Int32 × Wd) => r.2) hf9 (by decide) (Nat.le_of_ble_eq_true rfl) e9 (fun g C hret hini => ?_)
  clear e9 r
  have hb41 : ∀  (w : Wd), BD g G F 3 (qX5_readLink G F g) 0 0 (fX5_readLink_41 F N w) w 41 [] [] := by
    intro w
    unfold fX5_readLink_41
    refine bd_iconst C (v := 1) dX5_readLink_41 (by decide) ?_
    refine bd_goto C 46 dX5_readLink_42 (by decide) ?_
    exact bd_zret C hret rfl _ _ rfl rfl rfl dX5_readLink_46 (Nat.le_refl _) (Nat.le_refl _)
  unfold fX5_readLink
  refine bd_sub (lv' := [(0, .ref l0), (1, .ref l1), (2, .int l2)]) ?_ [0, 1, 2] rfl
  refine bd_iload_n C 2 dX5_readLink_0 rfl rfl ?_
  refine bd_if_lt C 9 dX5_readLink_1 (by decide) (fun c1 => ?_) (fun c1 => ?_)
  · refine bd_iconst C (v := 0) dX5_readLink_9 (by decide) ?_
    exact bd_zret C hret rfl _ _ rfl rfl rfl dX5_readLink_10 (Nat.le_refl _) (Nat.le_refl _)
  · refine bd_iload_n C 2 dX5_readLink_4 rfl rfl ?_
    refine bd_iconst C (v := 4) dX5_readLink_5 (by decide) ?_
    refine bd_icmp_lt C 11 dX5_readLink_6 (by decide) (fun c2 => ?_) (fun c2 => ?_)
    · refine bd_aload_n C 0 dX5_readLink_11 rfl rfl ?_
      refine bd_gR C fi503 fv503 wd_317 dX5_readLink_12 ol0 (fun r3 gr3 hr3 => ?_)
      refine bd_iload_n C 2 dX5_readLink_15 rfl rfl ?_
      refine bd_aload_n C 1 dX5_readLink_16 rfl rfl ?_
      refine bd_bipush C (v := 38) dX5_readLink_17 (by decide) ?_
      refine bd_callV (vs := fun (r : Int32 × Wd) => some (.int r.1)) (wf := fun (r : Int32 × Wd) => r.2) (st := [.int l2, .ref r3]) (st1 := fun p4 => Value.int p4.1 :: [.int l2, .ref r3]) C [.int 38] (fun r9 e9 => mX3_take C.flag N ol1 e9) mwX3_take miX3_take wd_994 ol1 (by decide) rfl rfl rfl (Nat.le_of_ble_eq_true rfl) dX5_readLink_19 ⟨rfl, rfl, Nat.le_of_ble_eq_true rfl, Nat.le_of_ble_eq_true rfl, Nat.le_of_ble_eq_true rfl, Nat.le_of_ble_eq_true rfl⟩ (fun _ => rfl) (fun p4 ep4 => ?_)
      refine bd_zast C dX5_readLink_22 hr3 (fun w5 => ?_)
      refine bd_aload_n C 0 dX5_readLink_23 rfl rfl ?_
      refine bd_gR C fi503 fv503 wd_317 dX5_readLink_24 ol0 (fun r6 gr6 hr6 => ?_)
      refine bd_iload_n C 2 dX5_readLink_27 rfl rfl ?_
      refine bd_zald C dX5_readLink_28 hr6 (fun x7 => ?_)
      refine bd_if_ne C 41 dX5_readLink_29 (by decide) (fun c8 => ?_) (fun c8 => ?_)
      · exact bd_sub (hb41 w5) [] rfl
      · refine bd_aload_n C 1 dX5_readLink_32 rfl rfl ?_
        refine bd_bipush C (v := 44) dX5_readLink_33 (by decide) ?_
        refine bd_callV (vs := fun (r : Int32 × Wd) => some (.int r.1)) (wf := fun (r : Int32 × Wd) => r.2) (st := []) (st1 := fun p9 => Value.int p9.1 :: []) C [.int 44] (fun r9 e9 => mX3_take C.flag N ol1 e9) mwX3_take miX3_take wd_994 ol1 (by decide) rfl rfl rfl (Nat.le_of_ble_eq_true rfl) dX5_readLink_35 ⟨rfl, rfl, Nat.le_of_ble_eq_true rfl, Nat.le_of_ble_eq_true rfl, Nat.le_of_ble_eq_true rfl, Nat.le_of_ble_eq_true rfl⟩ (fun _ => rfl) (fun p9 ep9 => ?_)
        refine bd_if_eq C 45 dX5_readLink_38 (by decide) (fun c10 => ?_) (fun c10 => ?_)
        · refine bd_iconst C (v := 0) dX5_readLink_45 (by decide) ?_
          exact bd_zret C hret rfl _ _ rfl rfl rfl dX5_readLink_46 (Nat.le_refl _) (Nat.le_refl _)
        · exact bd_sub (hb41 p9.2) [] rfl
    · refine bd_iconst C (v := 0) dX5_readLink_9 (by decide) ?_
      exact bd_zret C hret rfl _ _ rfl rfl rfl dX5_readLink_10 (Nat.le_refl _) (Nat.le_refl _)
