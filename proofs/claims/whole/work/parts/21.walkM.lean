abbrev rmX9_stays : Room := { frames := 18, cells := 0, slots := 0, locals := 481 }
abbrev qX9_stays (G : Gy) (F : Fr) (g : Bd) : (Int32 × Wd) → State → Prop := fun r => QM G F g 0 0 ((fun (r : Int32 × Wd) => some (.int r.1)) r) ((fun (r : Int32 × Wd) => r.2) r)
set_option maxRecDepth 20000 in
set_option maxHeartbeats 4000000 in
theorem mX9_stays {l : Launch} (hf9 : l.stackTraces = false) {G : Gy} {F : Fr} (N : Nat) {w : Wd} {l0 : Nat} {l1 : Int32} {r : Int32 × Wd} (ol0 : okF F l0 9) (e9 : fX9_stays F N w l0 l1 = some r) : Met l yX9_stays [.code yX9_stays cX9_stays 3 (some .boolean)] rmX9_stays (PcB G F w [.ref l0, .int l1]) (QB G F ((fun (r : Int32 × Wd) => some (.int r.1)) r) ((fun (r : Int32 × Wd) => r.2) r)) 0 0 (AF F) := by
  refine bd_met (vs := fun (r : Int32 × Wd) => some (.int r.1)) (wf := fun (r : Int32 × Wd) => r.2) hf9 (by decide) (Nat.le_of_ble_eq_true rfl) e9 (fun g C hret hini => ?_)
  clear e9 r
  have hb15 : ∀  (w : Wd) (l0 : Nat) (l1 : Int32) (l2 : Int32) (s0 : Nat) (s1 : Int32) (ol0 : okF F l0 9) (os0 : okF F s0 9), BD g G F 3 (qX9_stays G F g) 0 0 (fX9_stays_15 F N w l0 l1 l2 s0 s1) w 15 [(0, .ref l0), (1, .int l1), (2, .int l2)] [.int s1, .ref s0] := by
    intro w l0 l1 l2 s0 s1 ol0 os0
    unfold fX9_stays_15
    refine bd_iload_n C 2 dX9_stays_15 rfl rfl ?_
    refine bd_callV (vs := fun (r : Int32 × Wd) => some (.int r.1)) (wf := fun (r : Int32 × Wd) => r.2) (st := []) (st1 := fun p1 => Value.int p1.1 :: []) C [.int s1, .int l2] (fun r9 e9 => mX9_isRefused C.flag N os0 e9) mwX9_isRefused miX9_isRefused wd_1514 os0 (by decide) rfl rfl rfl (Nat.le_of_ble_eq_true rfl) dX9_stays_16 ⟨rfl, rfl, Nat.le_of_ble_eq_true rfl, Nat.le_of_ble_eq_true rfl, Nat.le_of_ble_eq_true rfl, Nat.le_of_ble_eq_true rfl⟩ (fun _ => rfl) (fun p1 ep1 => ?_)
    refine bd_if_eq C 33 dX9_stays_19 (by decide) (fun c2 => ?_) (fun c2 => ?_)
    · refine bd_iconst C (v := 1) dX9_stays_33 (by decide) ?_
      exact bd_zret C hret rfl _ _ rfl rfl rfl dX9_stays_34 (Nat.le_refl _) (Nat.le_refl _)
    · refine bd_aload_n C 0 dX9_stays_22 rfl rfl ?_
      refine bd_callV (vs := fun _ => none) (wf := fun (r : Wd) => r) (st := []) (st1 := fun p3 => []) C [] (fun r9 e9 => mX9_putBack C.flag N ol0 e9) mwX9_putBack miX9_putBack wd_1574 ol0 (by decide) rfl rfl rfl (Nat.le_of_ble_eq_true rfl) dX9_stays_23 ⟨rfl, rfl, Nat.le_of_ble_eq_true rfl, Nat.le_of_ble_eq_true rfl, Nat.le_of_ble_eq_true rfl, Nat.le_of_ble_eq_true rfl⟩ (fun _ => rfl) (fun p3 ep3 => ?_)
      refine bd_aload_n C 0 dX9_stays_26 rfl rfl ?_
      refine bd_iload_n C 1 dX9_stays_27 rfl rfl ?_
      refine bd_pI C fi906 ftX9 fu906 wd_1247 rfl rfl rfl dX9_stays_28 ol0 (fun w4 => ?_)
      refine bd_iconst C (v := 0) dX9_stays_31 (by decide) ?_
      exact bd_zret C hret rfl _ _ rfl rfl rfl dX9_stays_32 (Nat.le_refl _) (Nat.le_refl _)
  unfold fX9_stays
  refine bd_sub (lv' := [(0, .ref l0), (1, .int l1)]) ?_ [0, 1] rfl
  refine bd_aload_n C 0 dX9_stays_0 rfl rfl ?_
  refine bd_callV (vs := fun (r : Int32) => some (.int r)) (wf := fun _ => w) (st := []) (st1 := fun x5 => Value.int x5 :: []) C [] (fun r9 e9 => mX9_hostlessTier C.flag N ol0 e9) mwX9_hostlessTier miX9_hostlessTier wd_1570 ol0 (by decide) rfl rfl rfl (Nat.le_of_ble_eq_true rfl) dX9_stays_1 ⟨rfl, rfl, Nat.le_of_ble_eq_true rfl, Nat.le_of_ble_eq_true rfl, Nat.le_of_ble_eq_true rfl, Nat.le_of_ble_eq_true rfl⟩ (fun _ => rfl) (fun x5 ex5 => ?_)
  refine bd_istore_n C [(2, .int x5), (0, .ref l0), (1, .int l1)] dX9_stays_4 rfl (by decide) rfl ?_
  refine bd_aload_n C 1 dX9_stays_5 rfl rfl ?_
  refine bd_iload_n C 0 dX9_stays_6 rfl rfl ?_
  refine bd_if_lt C 14 dX9_stays_7 (by decide) (fun c6 => ?_) (fun c6 => ?_)
  · refine bd_iconst C (v := 0) dX9_stays_14 (by decide) ?_
    exact bd_sub (hb15 w l0 l1 x5 l0 0 ol0 ol0) [1, 2, 0] rfl
  · refine bd_iconst C (v := 4) dX9_stays_10 (by decide) ?_
    refine bd_goto C 15 dX9_stays_11 (by decide) ?_
    exact bd_sub (hb15 w l0 l1 x5 l0 4 ol0 ol0) [1, 2, 0] rfl
abbrev rmX9_moveSpan : Room := { frames := 19, cells := 0, slots := 0, locals := 503 }
abbrev qX9_moveSpan (G : Gy) (F : Fr) (g : Bd) : (Int32 × Wd) → State → Prop := fun r => QM G F g 0 0 ((fun (r : Int32 × Wd) => some (.int r.1)) r) ((fun (r : Int32 × Wd) => r.2) r)
set_option maxRecDepth 20000 in
set_option maxHeartbeats 4000000 in
theorem mX9_moveSpan {l : Launch} (hf9 : l.stackTraces = false) {G : Gy} {F : Fr} (N : Nat) {w : Wd} {l0 : Nat} {l1 : Int32} {l2 : Int32} {l3 : Int32} {l4 : Int32} {r : Int32 × Wd} (ol0 : okF F l0 9) (e9 : fX9_moveSpan F N w l0 l1 l2 l3 l4 = some r) : Met l yX9_moveSpan [.code yX9_moveSpan cX9_moveSpan 8 (some .int)] rmX9_moveSpan (PcB G F w [.ref l0, .int l1, .int l2, .int l3, .int l4]) (QB G F ((fun (r : Int32 × Wd) => some (.int r.1)) r) ((fun (r : Int32 × Wd) => r.2) r)) 0 0 (AF F) := by
  refine bd_met (vs := fun (r : Int32 × Wd) => some (.int r.1)) (wf := fun (r : Int32 × Wd) => r.2) hf9 (by decide) (Nat.le_of_ble_eq_true rfl) e9 (fun g C hret hini => ?_)
  clear e9 r
  have hb31 : ∀  (w : Wd) (l0 : Nat) (l1 : Int32) (l2 : Int32) (l3 : Int32) (l4 : Int32) (s0 : Nat) (s1 : Int32) (ol0 : okF F l0 9) (os0 : okF F s0 9), BD g G F 8 (qX9_moveSpan G F g) 0 0 (fX9_moveSpan_31 F N w l0 l1 l2 l3 l4 s0 s1) w 31 [(0, .ref l0), (1, .int l1), (2, .int l2), (3, .int l3), (4, .int l4)] [.int s1, .ref s0] := by
    intro w l0 l1 l2 l3 l4 s0 s1 ol0 os0
    unfold fX9_moveSpan_31
    refine bd_pI C fi906 ftX9 fu906 wd_1247 rfl rfl rfl dX9_moveSpan_31 os0 (fun w1 => ?_)
    refine bd_aload_n C 0 dX9_moveSpan_34 rfl rfl ?_
    refine bd_gI C fi906 fv906 wd_1247 dX9_moveSpan_35 ol0 ?_
    refine bd_if_le C 43 dX9_moveSpan_38 (by decide) (fun c2 => ?_) (fun c2 => ?_)
    · refine bd_aload_n C 0 dX9_moveSpan_43 rfl rfl ?_
      refine bd_callV (vs := fun _ => none) (wf := fun (r : Wd) => r) (st := []) (st1 := fun p3 => []) C [] (fun r9 e9 => mX9_keepState C.flag N ol0 e9) mwX9_keepState miX9_keepState wd_1410 ol0 (by decide) rfl rfl rfl (Nat.le_of_ble_eq_true rfl) dX9_moveSpan_44 ⟨rfl, rfl, Nat.le_of_ble_eq_true rfl, Nat.le_of_ble_eq_true rfl, Nat.le_of_ble_eq_true rfl, Nat.le_of_ble_eq_true rfl⟩ (fun _ => rfl) (fun p3 ep3 => ?_)
      refine bd_aload_n C 0 dX9_moveSpan_47 rfl rfl ?_
      refine bd_iload_n C 1 dX9_moveSpan_48 rfl rfl ?_
      refine bd_iload_n C 2 dX9_moveSpan_49 rfl rfl ?_
      refine bd_callV (vs := fun (r : Int64) => some (.long r)) (wf := fun _ => p3) (st := []) (st1 := fun x4 => Value.long x4 :: []) C [.int l1, .int l2] (fun r9 e9 => mX9_label C.flag N ol0 e9) mwX9_label miX9_label wd_1459 ol0 (by decide) rfl rfl rfl (Nat.le_of_ble_eq_true rfl) dX9_moveSpan_50 ⟨rfl, rfl, Nat.le_of_ble_eq_true rfl, Nat.le_of_ble_eq_true rfl, Nat.le_of_ble_eq_true rfl, Nat.le_of_ble_eq_true rfl⟩ (fun _ => rfl) (fun x4 ex4 => ?_)
      refine bd_lstore C [(5, .long x4), (0, .ref l0), (1, .int l1), (2, .int l2), (3, .int l3), (4, .int l4)] dX9_moveSpan_53 (by decide) rfl ?_
      refine bd_aload_n C 1 dX9_moveSpan_55 rfl rfl ?_
      refine bd_iload_n C 2 dX9_moveSpan_56 rfl rfl ?_
      refine bd_iload_n C 3 dX9_moveSpan_57 rfl rfl ?_
      refine bd_callV (vs := fun _ => none) (wf := fun (r : Wd) => r) (st := []) (st1 := fun p5 => []) C [.int l1, .int l2] (fun r9 e9 => mX9_takeOut C.flag N ol0 e9) mwX9_takeOut miX9_takeOut wd_1554 ol0 (by decide) rfl rfl rfl (Nat.le_of_ble_eq_true rfl) dX9_moveSpan_58 ⟨rfl, rfl, Nat.le_of_ble_eq_true rfl, Nat.le_of_ble_eq_true rfl, Nat.le_of_ble_eq_true rfl, Nat.le_of_ble_eq_true rfl⟩ (fun _ => rfl) (fun p5 ep5 => ?_)
      refine bd_aload_n C 1 dX9_moveSpan_61 rfl rfl ?_
      refine bd_iload_n C 2 dX9_moveSpan_62 rfl rfl ?_
      refine bd_iload_n C 4 dX9_moveSpan_63 rfl rfl ?_
      refine bd_iload C 5 dX9_moveSpan_64 rfl ?_
      refine bd_lload C 0 dX9_moveSpan_66 rfl ?_
      refine bd_callV (vs := fun (r : Int32 × Wd) => some (.int r.1)) (wf := fun (r : Int32 × Wd) => r.2) (st := []) (st1 := fun p6 => Value.int p6.1 :: []) C [.int l1, .int l3, .int l4, .long x4] (fun r9 e9 => mX9_putIn C.flag N ol0 e9) mwX9_putIn miX9_putIn wd_1542 ol0 (by decide) rfl rfl rfl (Nat.le_of_ble_eq_true rfl) dX9_moveSpan_68 ⟨rfl, rfl, Nat.le_of_ble_eq_true rfl, Nat.le_of_ble_eq_true rfl, Nat.le_of_ble_eq_true rfl, Nat.le_of_ble_eq_true rfl⟩ (fun _ => rfl) (fun p6 ep6 => ?_)
      refine bd_istore C [(7, .int p6.1), (5, .long x4), (0, .ref l0), (1, .int l1), (2, .int l2), (3, .int l3), (4, .int l4)] dX9_moveSpan_71 (by decide) rfl ?_
      refine bd_aload_n C 2 dX9_moveSpan_73 rfl rfl ?_
      refine bd_iconst C (v := 2) dX9_moveSpan_74 (by decide) ?_
      refine bd_callV (vs := fun (r : Int32 × Wd) => some (.int r.1)) (wf := fun (r : Int32 × Wd) => r.2) (st := []) (st1 := fun p7 => Value.int p7.1 :: []) C [.int 2] (fun r9 e9 => mX9_stays C.flag N ol0 e9) mwX9_stays miX9_stays wd_1566 ol0 (by decide) rfl rfl rfl (Nat.le_of_ble_eq_true rfl) dX9_moveSpan_75 ⟨rfl, rfl, Nat.le_of_ble_eq_true rfl, Nat.le_of_ble_eq_true rfl, Nat.le_of_ble_eq_true rfl, Nat.le_of_ble_eq_true rfl⟩ (fun _ => rfl) (fun p7 ep7 => ?_)
      refine bd_if_ne C 83 dX9_moveSpan_78 (by decide) (fun c8 => ?_) (fun c8 => ?_)
      · refine bd_aload_n C 2 dX9_moveSpan_83 rfl rfl ?_
        refine bd_callV (vs := fun _ => none) (wf := fun (r : Wd) => r) (st := []) (st1 := fun p9 => []) C [] (fun r9 e9 => mX9_change C.flag N ol0 e9) mwX9_change miX9_change wd_1415 ol0 (by decide) rfl rfl rfl (Nat.le_of_ble_eq_true rfl) dX9_moveSpan_84 ⟨rfl, rfl, Nat.le_of_ble_eq_true rfl, Nat.le_of_ble_eq_true rfl, Nat.le_of_ble_eq_true rfl, Nat.le_of_ble_eq_true rfl⟩ (fun _ => rfl) (fun p9 ep9 => ?_)
        refine bd_iload C 0 dX9_moveSpan_87 rfl ?_
        exact bd_iret C hret rfl _ _ rfl rfl dX9_moveSpan_89 (Nat.le_refl _) (Nat.le_refl _)
      · refine bd_iconst C (v := 0) dX9_moveSpan_81 (by decide) ?_
        exact bd_iret C hret rfl _ _ rfl rfl dX9_moveSpan_82 (Nat.le_refl _) (Nat.le_refl _)
    · refine bd_iconst C (v := 0) dX9_moveSpan_41 (by decide) ?_
      exact bd_iret C hret rfl _ _ rfl rfl dX9_moveSpan_42 (Nat.le_refl _) (Nat.le_refl _)
  unfold fX9_moveSpan
  refine bd_sub (lv' := [(0, .ref l0), (1, .int l1), (2, .int l2), (3, .int l3), (4, .int l4)]) ?_ [0, 1, 2, 3, 4] rfl
  refine bd_aload_n C 0 dX9_moveSpan_0 rfl rfl ?_
  refine bd_aload_n C 0 dX9_moveSpan_1 rfl rfl ?_
  refine bd_iload_n C 1 dX9_moveSpan_2 rfl rfl ?_
  refine bd_iload_n C 2 dX9_moveSpan_3 rfl rfl ?_
  refine bd_callV (vs := fun (r : Int32) => some (.int r)) (wf := fun _ => w) (st := [.ref l0]) (st1 := fun x10 => Value.int x10 :: [.ref l0]) C [.int l1, .int l2] (fun r9 e9 => mX9_isSpan C.flag N ol0 e9) mwX9_isSpan miX9_isSpan wd_1550 ol0 (by decide) rfl rfl rfl (Nat.le_of_ble_eq_true rfl) dX9_moveSpan_4 ⟨rfl, rfl, Nat.le_of_ble_eq_true rfl, Nat.le_of_ble_eq_true rfl, Nat.le_of_ble_eq_true rfl, Nat.le_of_ble_eq_true rfl⟩ (fun _ => rfl) (fun x10 ex10 => ?_)
  refine bd_if_ne C 14 dX9_moveSpan_7 (by decide) (fun c11 => ?_) (fun c11 => ?_)
  · refine bd_aload_n C 0 dX9_moveSpan_14 rfl rfl ?_
    refine bd_iload_n C 1 dX9_moveSpan_15 rfl rfl ?_
    refine bd_iload_n C 2 dX9_moveSpan_16 rfl rfl ?_
    refine bd_iload_n C 3 dX9_moveSpan_17 rfl rfl ?_
    refine bd_iload C 4 dX9_moveSpan_18 rfl ?_
    refine bd_callV (vs := fun (r : Int32 × Wd) => some (.int r.1)) (wf := fun (r : Int32 × Wd) => r.2) (st := [.ref l0]) (st1 := fun p12 => Value.int p12.1 :: [.ref l0]) C [.int l1, .int l2, .int l3, .int l4] (fun r9 e9 => mX9_areRefused C.flag N ol0 e9) mwX9_areRefused miX9_areRefused wd_1507 ol0 (by decide) rfl rfl rfl (Nat.le_of_ble_eq_true rfl) dX9_moveSpan_20 ⟨rfl, rfl, Nat.le_of_ble_eq_true rfl, Nat.le_of_ble_eq_true rfl, Nat.le_of_ble_eq_true rfl, Nat.le_of_ble_eq_true rfl⟩ (fun _ => rfl) (fun p12 ep12 => ?_)
    refine bd_if_eq C 30 dX9_moveSpan_23 (by decide) (fun c13 => ?_) (fun c13 => ?_)
    · refine bd_iconst C (v := 0) dX9_moveSpan_30 (by decide) ?_
      exact bd_sub (hb31 p12.2 l0 l1 l2 l3 l4 l0 0 ol0 ol0) [0, 1, 2, 3, 4] rfl
    · refine bd_iconst C (v := 2) dX9_moveSpan_26 (by decide) ?_
      refine bd_goto C 31 dX9_moveSpan_27 (by decide) ?_
      exact bd_sub (hb31 p12.2 l0 l1 l2 l3 l4 l0 2 ol0 ol0) [0, 1, 2, 3, 4] rfl
  · refine bd_iconst C (v := 1) dX9_moveSpan_10 (by decide) ?_
    refine bd_goto C 31 dX9_moveSpan_11 (by decide) ?_
    exact bd_sub (hb31 w l0 l1 l2 l3 l4 l0 1 ol0 ol0) [0, 1, 2, 3, 4] rfl
abbrev rmX9_rename : Room := { frames := 14, cells := 0, slots := 0, locals := 386 }
abbrev qX9_rename (G : Gy) (F : Fr) (g : Bd) : (Int32 × Wd) → State → Prop := fun r => QM G F g 0 0 ((fun (r : Int32 × Wd) => some (.int r.1)) r) ((fun (r : Int32 × Wd) => r.2) r)
set_option maxRecDepth 20000 in
set_option maxHeartbeats 4000000 in
theorem mX9_rename {l : Launch} (hf9 : l.stackTraces = false) {G : Gy} {F : Fr} (N : Nat) {w : Wd} {l0 : Nat} {l1 : Int32} {l2 : Int32} {r : Int32 × Wd} (ol0 : okF F l0 9) (e9 : fX9_rename F N w l0 l1 l2 = some r) : Met l yX9_rename [.code yX9_rename cX9_rename 6 (some .int)] rmX9_rename (PcB G F w [.ref l0, .int l1, .int l2]) (QB G F ((fun (r : Int32 × Wd) => some (.int r.1)) r) ((fun (r : Int32 × Wd) => r.2) r)) 0 0 (AF F) := by
  refine bd_met (vs := fun (r : Int32 × Wd) => some (.int r.1)) (wf := fun (r : Int32 × Wd) => r.2) hf9 (by decide) (Nat.le_of_ble_eq_true rfl) e9 (fun g C hret hini => ?_)
  clear e9 r
  have hb75 : ∀  (w : Wd) (l0 : Nat) (l1 : Int32) (l2 : Int32) (l3 : Int64) (s0 : Int32) (ol0 : okF F l0 9), BD g G F 6 (qX9_rename G F g) 0 0 (fX9_rename_75 F N w l0 l1 l2 l3 s0) w 75 [(0, .ref l0), (1, .int l1), (2, .int l2), (3, .long l3)] [.int s0] := by
    intro w l0 l1 l2 l3 s0 ol0
    unfold fX9_rename_75
    refine bd_istore C [(5, .int s0), (0, .ref l0), (1, .int l1), (2, .int l2), (3, .long l3)] dX9_rename_75 (by decide) rfl ?_
    refine bd_aload_n C 1 dX9_rename_77 rfl rfl ?_
    refine bd_gR C fi900 fv900 wd_1241 dX9_rename_78 ol0 (fun r12 gr12 hr12 => ?_)
    refine bd_aload_n C 1 dX9_rename_81 rfl rfl ?_
    refine bd_iload_n C 2 dX9_rename_82 rfl rfl ?_
    refine bd_iload_n C 3 dX9_rename_83 rfl rfl ?_
    refine bd_callV (vs := fun (r : Int32) => some (.int r)) (wf := fun _ => w) (st := [.ref r12]) (st1 := fun x13 => Value.int x13 :: [.ref r12]) C [.int l1, .int l2] (fun r9 e9 => mX9_at C.flag N ol0 e9) mwX9_at miX9_at wd_1463 ol0 (by decide) rfl rfl rfl (Nat.le_of_ble_eq_true rfl) dX9_rename_84 ⟨rfl, rfl, Nat.le_of_ble_eq_true rfl, Nat.le_of_ble_eq_true rfl, Nat.le_of_ble_eq_true rfl, Nat.le_of_ble_eq_true rfl⟩ (fun _ => rfl) (fun x13 ex13 => ?_)
    refine bd_iconst C (v := 2) dX9_rename_87 (by decide) ?_
    refine bd_iadd C dX9_rename_88 ?_
    refine bd_lload_n C 4 dX9_rename_89 rfl rfl ?_
    refine bd_last C dX9_rename_90 hr12 (fun w14 => ?_)
    refine bd_iload C 0 dX9_rename_91 rfl ?_
    refine bd_if_eq C 100 dX9_rename_93 (by decide) (fun c15 => ?_) (fun c15 => ?_)
    · refine bd_iconst C (v := 0) dX9_rename_100 (by decide) ?_
      exact bd_iret C hret rfl _ _ rfl rfl dX9_rename_101 (Nat.le_refl _) (Nat.le_refl _)
    · refine bd_iconst C (v := 1) dX9_rename_96 (by decide) ?_
      refine bd_goto C 101 dX9_rename_97 (by decide) ?_
      exact bd_iret C hret rfl _ _ rfl rfl dX9_rename_101 (Nat.le_refl _) (Nat.le_refl _)
  have hb15 : ∀  (w : Wd) (l0 : Nat) (l1 : Int32) (l2 : Int32) (s0 : Nat) (s1 : Int32) (ol0 : okF F l0 9) (os0 : okF F s0 9), BD g G F 6 (qX9_rename G F g) 0 0 (fX9_rename_15 F N w l0 l1 l2 s0 s1) w 15 [(0, .ref l0), (1, .int l1), (2, .int l2)] [.int s1, .ref s0] := by
    intro w l0 l1 l2 s0 s1 ol0 os0
    unfold fX9_rename_15
    refine bd_pI C fi906 ftX9 fu906 wd_1247 rfl rfl rfl dX9_rename_15 os0 (fun w1 => ?_)
    refine bd_aload_n C 0 dX9_rename_18 rfl rfl ?_
    refine bd_gI C fi906 fv906 wd_1247 dX9_rename_19 ol0 ?_
    refine bd_if_le C 27 dX9_rename_22 (by decide) (fun c2 => ?_) (fun c2 => ?_)
    · refine bd_aload_n C 0 dX9_rename_27 rfl rfl ?_
      refine bd_callV (vs := fun _ => none) (wf := fun (r : Wd) => r) (st := []) (st1 := fun p3 => []) C [] (fun r9 e9 => mX9_beginText C.flag N ol0 e9) mwX9_beginText miX9_beginText wd_1479 ol0 (by decide) rfl rfl rfl (Nat.le_of_ble_eq_true rfl) dX9_rename_28 ⟨rfl, rfl, Nat.le_of_ble_eq_true rfl, Nat.le_of_ble_eq_true rfl, Nat.le_of_ble_eq_true rfl, Nat.le_of_ble_eq_true rfl⟩ (fun _ => rfl) (fun p3 ep3 => ?_)
      refine bd_aload_n C 0 dX9_rename_31 rfl rfl ?_
      refine bd_aload_n C 0 dX9_rename_32 rfl rfl ?_
      refine bd_iload_n C 1 dX9_rename_33 rfl rfl ?_
      refine bd_callV (vs := fun (r : Int32) => some (.int r)) (wf := fun _ => p3) (st := [.ref l0]) (st1 := fun x4 => Value.int x4 :: [.ref l0]) C [.int l1] (fun r9 e9 => mX9_kind C.flag N ol0 e9) mwX9_kind miX9_kind wd_1483 ol0 (by decide) rfl rfl rfl (Nat.le_of_ble_eq_true rfl) dX9_rename_34 ⟨rfl, rfl, Nat.le_of_ble_eq_true rfl, Nat.le_of_ble_eq_true rfl, Nat.le_of_ble_eq_true rfl, Nat.le_of_ble_eq_true rfl⟩ (fun _ => rfl) (fun x4 ex4 => ?_)
      refine bd_callV (vs := fun (r : Int64 × Wd) => some (.long r.1)) (wf := fun (r : Int64 × Wd) => r.2) (st := []) (st1 := fun p5 => Value.long p5.1 :: []) C [.int x4] (fun r9 e9 => mX9_readLabel C.flag N ol0 e9) mwX9_readLabel miX9_readLabel wd_1487 ol0 (by decide) rfl rfl rfl (Nat.le_of_ble_eq_true rfl) dX9_rename_37 ⟨rfl, rfl, Nat.le_of_ble_eq_true rfl, Nat.le_of_ble_eq_true rfl, Nat.le_of_ble_eq_true rfl, Nat.le_of_ble_eq_true rfl⟩ (fun _ => rfl) (fun p5 ep5 => ?_)
      refine bd_lstore_n C [(3, .long p5.1), (0, .ref l0), (1, .int l1), (2, .int l2)] dX9_rename_40 rfl (by decide) rfl ?_
      refine bd_aload_n C 1 dX9_rename_41 rfl rfl ?_
      refine bd_callV (vs := fun (r : Int32 × Wd) => some (.int r.1)) (wf := fun (r : Int32 × Wd) => r.2) (st := []) (st1 := fun p6 => Value.int p6.1 :: []) C [] (fun r9 e9 => mX9_endText C.flag N ol0 e9) mwX9_endText miX9_endText wd_1499 ol0 (by decide) rfl rfl rfl (Nat.le_of_ble_eq_true rfl) dX9_rename_42 ⟨rfl, rfl, Nat.le_of_ble_eq_true rfl, Nat.le_of_ble_eq_true rfl, Nat.le_of_ble_eq_true rfl, Nat.le_of_ble_eq_true rfl⟩ (fun _ => rfl) (fun p6 ep6 => ?_)
      refine bd_if_eq C 55 dX9_rename_45 (by decide) (fun c7 => ?_) (fun c7 => ?_)
      · refine bd_aload_n C 1 dX9_rename_55 rfl rfl ?_
        refine bd_callV (vs := fun _ => none) (wf := fun (r : Wd) => r) (st := []) (st1 := fun p8 => []) C [] (fun r9 e9 => mX9_changes C.flag N ol0 e9) mwX9_changes miX9_changes wd_1406 ol0 (by decide) rfl rfl rfl (Nat.le_of_ble_eq_true rfl) dX9_rename_56 ⟨rfl, rfl, Nat.le_of_ble_eq_true rfl, Nat.le_of_ble_eq_true rfl, Nat.le_of_ble_eq_true rfl, Nat.le_of_ble_eq_true rfl⟩ (fun _ => rfl) (fun p8 ep8 => ?_)
        refine bd_aload_n C 1 dX9_rename_59 rfl rfl ?_
        refine bd_iload_n C 2 dX9_rename_60 rfl rfl ?_
        refine bd_iload_n C 3 dX9_rename_61 rfl rfl ?_
        refine bd_callV (vs := fun (r : Int64) => some (.long r)) (wf := fun _ => p8) (st := []) (st1 := fun x9 => Value.long x9 :: []) C [.int l1, .int l2] (fun r9 e9 => mX9_label C.flag N ol0 e9) mwX9_label miX9_label wd_1459 ol0 (by decide) rfl rfl rfl (Nat.le_of_ble_eq_true rfl) dX9_rename_62 ⟨rfl, rfl, Nat.le_of_ble_eq_true rfl, Nat.le_of_ble_eq_true rfl, Nat.le_of_ble_eq_true rfl, Nat.le_of_ble_eq_true rfl⟩ (fun _ => rfl) (fun x9 ex9 => ?_)
        refine bd_lload_n C 0 dX9_rename_65 rfl rfl ?_
        refine bd_lcmp C dX9_rename_66 ?_
        refine bd_if_eq C 74 dX9_rename_67 (by decide) (fun c10 => ?_) (fun c10 => ?_)
        · refine bd_iconst C (v := 0) dX9_rename_74 (by decide) ?_
          exact bd_sub (hb75 p8 l0 l1 l2 p5.1 0 ol0) [1, 2, 3, 0] rfl
        · refine bd_iconst C (v := 1) dX9_rename_70 (by decide) ?_
          refine bd_goto C 75 dX9_rename_71 (by decide) ?_
          exact bd_sub (hb75 p8 l0 l1 l2 p5.1 1 ol0) [1, 2, 3, 0] rfl
      · refine bd_aload_n C 1 dX9_rename_48 rfl rfl ?_
        refine bd_iconst C (v := 2) dX9_rename_49 (by decide) ?_
        refine bd_pI C fi906 ftX9 fu906 wd_1247 rfl rfl rfl dX9_rename_50 ol0 (fun w11 => ?_)
        refine bd_iconst C (v := 0) dX9_rename_53 (by decide) ?_
        exact bd_iret C hret rfl _ _ rfl rfl dX9_rename_54 (Nat.le_refl _) (Nat.le_refl _)
    · refine bd_iconst C (v := 0) dX9_rename_25 (by decide) ?_
      exact bd_iret C hret rfl _ _ rfl rfl dX9_rename_26 (Nat.le_refl _) (Nat.le_refl _)
  unfold fX9_rename
  refine bd_sub (lv' := [(0, .ref l0), (1, .int l1), (2, .int l2)]) ?_ [0, 1, 2] rfl
  refine bd_aload_n C 0 dX9_rename_0 rfl rfl ?_
  refine bd_aload_n C 0 dX9_rename_1 rfl rfl ?_
  refine bd_iload_n C 1 dX9_rename_2 rfl rfl ?_
  refine bd_iload_n C 2 dX9_rename_3 rfl rfl ?_
  refine bd_callV (vs := fun (r : Int32) => some (.int r)) (wf := fun _ => w) (st := [.ref l0]) (st1 := fun x16 => Value.int x16 :: [.ref l0]) C [.int l1, .int l2] (fun r9 e9 => mX9_isSpan C.flag N ol0 e9) mwX9_isSpan miX9_isSpan wd_1550 ol0 (by decide) rfl rfl rfl (Nat.le_of_ble_eq_true rfl) dX9_rename_4 ⟨rfl, rfl, Nat.le_of_ble_eq_true rfl, Nat.le_of_ble_eq_true rfl, Nat.le_of_ble_eq_true rfl, Nat.le_of_ble_eq_true rfl⟩ (fun _ => rfl) (fun x16 ex16 => ?_)
  refine bd_if_eq C 14 dX9_rename_7 (by decide) (fun c17 => ?_) (fun c17 => ?_)
  · refine bd_iconst C (v := 1) dX9_rename_14 (by decide) ?_
    exact bd_sub (hb15 w l0 l1 l2 l0 1 ol0 ol0) [0, 1, 2] rfl
  · refine bd_iconst C (v := 0) dX9_rename_10 (by decide) ?_
    refine bd_goto C 15 dX9_rename_11 (by decide) ?_
    exact bd_sub (hb15 w l0 l1 l2 l0 0 ol0 ol0) [0, 1, 2] rfl
abbrev rmX9_isHosted : Room := { frames := 14, cells := 0, slots := 0, locals := 386 }
abbrev qX9_isHosted (G : Gy) (F : Fr) (g : Bd) (w : Wd) : Int32 → State → Prop := fun r => QM G F g 0 0 ((fun (r : Int32) => some (.int r)) r) ((fun _ => w) r)
set_option maxRecDepth 20000 in
set_option maxHeartbeats 4000000 in
theorem mX9_isHosted {l : Launch} (hf9 : l.stackTraces = false) {G : Gy} {F : Fr} (N : Nat) {w : Wd} {l0 : Nat} {l1 : Int32} {l2 : Int32} {l3 : Int32} {l4 : Int32} {r : Int32} (ol0 : okF F l0 9) (e9 : fX9_isHosted F N w l0 l1 l2 l3 l4 = some r) : Met l yX9_isHosted [.code yX9_isHosted cX9_isHosted 7 (some .boolean)] rmX9_isHosted (PcB G F w [.ref l0, .int l1, .int l2, .int l3, .int l4]) (QB G F ((fun (r : Int32) => some (.int r)) r) ((fun _ => w) r)) 0 0 (AF F) := by
  refine bd_met (vs := fun (r : Int32) => some (.int r)) (wf := fun _ => w) hf9 (by decide) (Nat.le_of_ble_eq_true rfl) e9 (fun g C hret hini => ?_)
  clear e9 r
  have hb42 : BD g G F 7 (qX9_isHosted G F g w) 0 0 (fX9_isHosted_42 F N w) w 42 [] [] := by
    unfold fX9_isHosted_42
    refine bd_iconst C (v := 0) dX9_isHosted_42 (by decide) ?_
    refine bd_goto C 73 dX9_isHosted_43 (by decide) ?_
    exact bd_zret C hret rfl _ _ rfl rfl rfl dX9_isHosted_73 (Nat.le_refl _) (Nat.le_refl _)
  have hb68 : BD g G F 7 (qX9_isHosted G F g w) 0 0 (fX9_isHosted_68 F N w) w 68 [] [] := by
    unfold fX9_isHosted_68
    refine bd_iconst C (v := 1) dX9_isHosted_68 (by decide) ?_
    refine bd_goto C 73 dX9_isHosted_69 (by decide) ?_
    exact bd_zret C hret rfl _ _ rfl rfl rfl dX9_isHosted_73 (Nat.le_refl _) (Nat.le_refl _)
  unfold fX9_isHosted
  refine bd_sub (lv' := [(0, .ref l0), (1, .int l1), (2, .int l2), (3, .int l3), (4, .int l4)]) ?_ [0, 1, 2, 3, 4] rfl
  refine bd_aload_n C 0 dX9_isHosted_0 rfl rfl ?_
  refine bd_iload_n C 1 dX9_isHosted_1 rfl rfl ?_
  refine bd_iload_n C 2 dX9_isHosted_2 rfl rfl ?_
  refine bd_callV (vs := fun (r : Int32) => some (.int r)) (wf := fun _ => w) (st := []) (st1 := fun x1 => Value.int x1 :: []) C [.int l1, .int l2] (fun r9 e9 => mX9_first C.flag N ol0 e9) mwX9_first miX9_first wd_1522 ol0 (by decide) rfl rfl rfl (Nat.le_of_ble_eq_true rfl) dX9_isHosted_3 ⟨rfl, rfl, Nat.le_of_ble_eq_true rfl, Nat.le_of_ble_eq_true rfl, Nat.le_of_ble_eq_true rfl, Nat.le_of_ble_eq_true rfl⟩ (fun _ => rfl) (fun x1 ex1 => ?_)
  refine bd_istore C [(5, .int x1), (0, .ref l0), (1, .int l1), (2, .int l2), (3, .int l3), (4, .int l4)] dX9_isHosted_6 (by decide) rfl ?_
  refine bd_aload_n C 1 dX9_isHosted_8 rfl rfl ?_
  refine bd_iload_n C 2 dX9_isHosted_9 rfl rfl ?_
  refine bd_iload_n C 3 dX9_isHosted_10 rfl rfl ?_
  refine bd_callV (vs := fun (r : Int32) => some (.int r)) (wf := fun _ => w) (st := []) (st1 := fun x2 => Value.int x2 :: []) C [.int l1, .int l2] (fun r9 e9 => mX9_end C.flag N ol0 e9) mwX9_end miX9_end wd_1526 ol0 (by decide) rfl rfl rfl (Nat.le_of_ble_eq_true rfl) dX9_isHosted_11 ⟨rfl, rfl, Nat.le_of_ble_eq_true rfl, Nat.le_of_ble_eq_true rfl, Nat.le_of_ble_eq_true rfl, Nat.le_of_ble_eq_true rfl⟩ (fun _ => rfl) (fun x2 ex2 => ?_)
  refine bd_istore C [(6, .int x2), (5, .int x1), (0, .ref l0), (1, .int l1), (2, .int l2), (3, .int l3), (4, .int l4)] dX9_isHosted_14 (by decide) rfl ?_
  refine bd_aload_n C 2 dX9_isHosted_16 rfl rfl ?_
  refine bd_iload_n C 3 dX9_isHosted_17 rfl rfl ?_
  refine bd_callV (vs := fun (r : Int32) => some (.int r)) (wf := fun _ => w) (st := []) (st1 := fun x3 => Value.int x3 :: []) C [.int l1] (fun r9 e9 => mX9_rule C.flag N ol0 e9) mwX9_rule miX9_rule wd_1534 ol0 (by decide) rfl rfl rfl (Nat.le_of_ble_eq_true rfl) dX9_isHosted_18 ⟨rfl, rfl, Nat.le_of_ble_eq_true rfl, Nat.le_of_ble_eq_true rfl, Nat.le_of_ble_eq_true rfl, Nat.le_of_ble_eq_true rfl⟩ (fun _ => rfl) (fun x3 ex3 => ?_)
  refine bd_iconst C (v := 1) dX9_isHosted_21 (by decide) ?_
  refine bd_icmp_ne C 46 dX9_isHosted_22 (by decide) (fun c4 => ?_) (fun c4 => ?_)
  · refine bd_iload_n C 5 dX9_isHosted_46 rfl rfl ?_
    refine bd_iload C 1 dX9_isHosted_47 rfl ?_
    refine bd_icmp_ne C 72 dX9_isHosted_49 (by decide) (fun c5 => ?_) (fun c5 => ?_)
    · refine bd_iconst C (v := 0) dX9_isHosted_72 (by decide) ?_
      exact bd_zret C hret rfl _ _ rfl rfl rfl dX9_isHosted_73 (Nat.le_refl _) (Nat.le_refl _)
    · refine bd_aload_n C 2 dX9_isHosted_52 rfl rfl ?_
      refine bd_iload_n C 3 dX9_isHosted_53 rfl rfl ?_
      refine bd_callV (vs := fun (r : Int32) => some (.int r)) (wf := fun _ => w) (st := []) (st1 := fun x6 => Value.int x6 :: []) C [.int l1] (fun r9 e9 => mX9_rule C.flag N ol0 e9) mwX9_rule miX9_rule wd_1534 ol0 (by decide) rfl rfl rfl (Nat.le_of_ble_eq_true rfl) dX9_isHosted_54 ⟨rfl, rfl, Nat.le_of_ble_eq_true rfl, Nat.le_of_ble_eq_true rfl, Nat.le_of_ble_eq_true rfl, Nat.le_of_ble_eq_true rfl⟩ (fun _ => rfl) (fun x6 ex6 => ?_)
      refine bd_iconst C (v := 3) dX9_isHosted_57 (by decide) ?_
      refine bd_icmp_eq C 68 dX9_isHosted_58 (by decide) (fun c7 => ?_) (fun c7 => ?_)
      · exact bd_sub (hb68) [] rfl
      · refine bd_iload C 6 dX9_isHosted_61 rfl ?_
        refine bd_iload C 0 dX9_isHosted_63 rfl ?_
        refine bd_icmp_ne C 72 dX9_isHosted_65 (by decide) (fun c8 => ?_) (fun c8 => ?_)
        · refine bd_iconst C (v := 0) dX9_isHosted_72 (by decide) ?_
          exact bd_zret C hret rfl _ _ rfl rfl rfl dX9_isHosted_73 (Nat.le_refl _) (Nat.le_refl _)
        · exact bd_sub (hb68) [] rfl
  · refine bd_iload_n C 5 dX9_isHosted_25 rfl rfl ?_
    refine bd_iload C 1 dX9_isHosted_26 rfl ?_
    refine bd_icmp_gt C 42 dX9_isHosted_28 (by decide) (fun c9 => ?_) (fun c9 => ?_)
    · exact bd_sub (hb42) [] rfl
    · refine bd_iload C 0 dX9_isHosted_31 rfl ?_
      refine bd_iload C 6 dX9_isHosted_33 rfl ?_
      refine bd_icmp_gt C 42 dX9_isHosted_35 (by decide) (fun c10 => ?_) (fun c10 => ?_)
      · exact bd_sub (hb42) [] rfl
      · refine bd_iconst C (v := 1) dX9_isHosted_38 (by decide) ?_
        refine bd_goto C 73 dX9_isHosted_39 (by decide) ?_
        exact bd_zret C hret rfl _ _ rfl rfl rfl dX9_isHosted_73 (Nat.le_refl _) (Nat.le_refl _)
abbrev rmX9_splitFull : Room := { frames := 15, cells := 0, slots := 0, locals := 415 }
abbrev qX9_splitFull (G : Gy) (F : Fr) (g : Bd) : (Int32 × Wd) → State → Prop := fun r => QM G F g 0 0 ((fun (r : Int32 × Wd) => some (.int r.1)) r) ((fun (r : Int32 × Wd) => r.2) r)
set_option maxRecDepth 20000 in
set_option maxHeartbeats 4000000 in
theorem mX9_splitFull {l : Launch} (hf9 : l.stackTraces = false) {G : Gy} {F : Fr} (N : Nat) {w : Wd} {l0 : Nat} {l1 : Int32} {l2 : Int32} {l3 : Int32} {l4 : Int32} {r : Int32 × Wd} (ol0 : okF F l0 9) (e9 : fX9_splitFull F N w l0 l1 l2 l3 l4 = some r) : Met l yX9_splitFull [.code yX9_splitFull cX9_splitFull 10 (some .int)] rmX9_splitFull (PcB G F w [.ref l0, .int l1, .int l2, .int l3, .int l4]) (QB G F ((fun (r : Int32 × Wd) => some (.int r.1)) r) ((fun (r : Int32 × Wd) => r.2) r)) 0 0 (AF F) := by
  refine bd_met (vs := fun (r : Int32 × Wd) => some (.int r.1)) (wf := fun (r : Int32 × Wd) => r.2) hf9 (by decide) (Nat.le_of_ble_eq_true rfl) e9 (fun g C hret hini => ?_)
  clear e9 r
  have hb155 : ∀  (w : Wd) (l0 : Nat) (s0 : Int32) (ol0 : okF F l0 9), BD g G F 10 (qX9_splitFull G F g) 0 0 (fX9_splitFull_155 F N w l0 s0) w 155 [(0, .ref l0)] [.int s0] := by
    intro w l0 s0 ol0
    unfold fX9_splitFull_155
    refine bd_istore C [(6, .int s0), (0, .ref l0)] dX9_splitFull_155 (by decide) rfl ?_
    refine bd_aload_n C 1 dX9_splitFull_157 rfl rfl ?_
    refine bd_iload C 0 dX9_splitFull_158 rfl ?_
    refine bd_if_eq C 167 dX9_splitFull_160 (by decide) (fun c19 => ?_) (fun c19 => ?_)
    · refine bd_iconst C (v := 0) dX9_splitFull_167 (by decide) ?_
      refine bd_pI C fi906 ftX9 fu906 wd_1247 rfl rfl rfl dX9_splitFull_168 ol0 (fun w20 => ?_)
      refine bd_iconst C (v := 0) dX9_splitFull_171 (by decide) ?_
      exact bd_iret C hret rfl _ _ rfl rfl dX9_splitFull_172 (Nat.le_refl _) (Nat.le_refl _)
    · refine bd_iconst C (v := 2) dX9_splitFull_163 (by decide) ?_
      refine bd_goto C 168 dX9_splitFull_164 (by decide) ?_
      refine bd_pI C fi906 ftX9 fu906 wd_1247 rfl rfl rfl dX9_splitFull_168 ol0 (fun w21 => ?_)
      refine bd_iconst C (v := 0) dX9_splitFull_171 (by decide) ?_
      exact bd_iret C hret rfl _ _ rfl rfl dX9_splitFull_172 (Nat.le_refl _) (Nat.le_refl _)
  have hb116 : ∀ (k11 : Wd → Nat → Int32 → Int32 → Int32 → Int32 → Int32 → Option (Int32 × Wd)), (∀ (w : Wd) (l0 : Nat) (l1 : Int32) (l3 : Int32) (l4 : Int32) (l5 : Int32) (l6 : Int32) (ol0 : okF F l0 9), BD g G F 10 (qX9_splitFull G F g) 0 0 (k11 w l0 l1 l3 l4 l5 l6) w 11 [(0, .ref l0), (1, .int l1), (3, .int l3), (4, .int l4), (5, .int l5), (6, .int l6)] []) → ∀ (k20 : Wd → Nat → Int32 → Int32 → Int32 → Int32 → Int32 → Int32 → Option (Int32 × Wd)), (∀ (w : Wd) (l0 : Nat) (l1 : Int32) (l3 : Int32) (l4 : Int32) (l5 : Int32) (l6 : Int32) (l7 : Int32) (ol0 : okF F l0 9), BD g G F 10 (qX9_splitFull G F g) 0 0 (k20 w l0 l1 l3 l4 l5 l6 l7) w 20 [(0, .ref l0), (1, .int l1), (3, .int l3), (4, .int l4), (5, .int l5), (6, .int l6), (7, .int l7)] []) → ∀  (w : Wd) (l0 : Nat) (l1 : Int32) (l3 : Int32) (l4 : Int32) (l6 : Int32) (l7 : Int32) (s0 : Int32) (ol0 : okF F l0 9), BD g G F 10 (qX9_splitFull G F g) 0 0 (fX9_splitFull_116 F N k11 k20 w l0 l1 l3 l4 l6 l7 s0) w 116 [(0, .ref l0), (1, .int l1), (3, .int l3), (4, .int l4), (6, .int l6), (7, .int l7)] [.int s0] := by
    intro k11 hk11 k20 hk20
    intro w l0 l1 l3 l4 l6 l7 s0 ol0
    unfold fX9_splitFull_116
    refine bd_istore C [(5, .int s0), (0, .ref l0), (1, .int l1), (3, .int l3), (4, .int l4), (6, .int l6), (7, .int l7)] dX9_splitFull_116 (by decide) rfl ?_
    refine bd_iinc C (v := l7 + 1) 6 [(7, .int (l7 + 1)), (5, .int s0), (0, .ref l0), (1, .int l1), (3, .int l3), (4, .int l4), (6, .int l6)] dX9_splitFull_118 rfl rfl (by decide) rfl ?_
    refine bd_goto C 20 dX9_splitFull_121 (by decide) ?_
    exact bd_sub (hk20 w l0 l1 l3 l4 s0 l6 (l7 + 1) ol0) [2, 3, 4, 5, 1, 6, 0] rfl
  have hb114 : ∀ (k11 : Wd → Nat → Int32 → Int32 → Int32 → Int32 → Int32 → Option (Int32 × Wd)), (∀ (w : Wd) (l0 : Nat) (l1 : Int32) (l3 : Int32) (l4 : Int32) (l5 : Int32) (l6 : Int32) (ol0 : okF F l0 9), BD g G F 10 (qX9_splitFull G F g) 0 0 (k11 w l0 l1 l3 l4 l5 l6) w 11 [(0, .ref l0), (1, .int l1), (3, .int l3), (4, .int l4), (5, .int l5), (6, .int l6)] []) → ∀ (k20 : Wd → Nat → Int32 → Int32 → Int32 → Int32 → Int32 → Int32 → Option (Int32 × Wd)), (∀ (w : Wd) (l0 : Nat) (l1 : Int32) (l3 : Int32) (l4 : Int32) (l5 : Int32) (l6 : Int32) (l7 : Int32) (ol0 : okF F l0 9), BD g G F 10 (qX9_splitFull G F g) 0 0 (k20 w l0 l1 l3 l4 l5 l6 l7) w 20 [(0, .ref l0), (1, .int l1), (3, .int l3), (4, .int l4), (5, .int l5), (6, .int l6), (7, .int l7)] []) → ∀  (w : Wd) (l0 : Nat) (l1 : Int32) (l3 : Int32) (l4 : Int32) (l5 : Int32) (l6 : Int32) (l7 : Int32) (ol0 : okF F l0 9), BD g G F 10 (qX9_splitFull G F g) 0 0 (fX9_splitFull_114 F N k11 k20 w l0 l1 l3 l4 l5 l6 l7) w 114 [(0, .ref l0), (1, .int l1), (3, .int l3), (4, .int l4), (5, .int l5), (6, .int l6), (7, .int l7)] [] := by
    intro k11 hk11 k20 hk20
    intro w l0 l1 l3 l4 l5 l6 l7 ol0
    unfold fX9_splitFull_114
    refine bd_iload C 4 dX9_splitFull_114 rfl ?_
    exact bd_sub (hb116 _ hk11 _ hk20 w l0 l1 l3 l4 l6 l7 l5 ol0) [0, 1, 2, 3, 5, 6] rfl
  have hb97 : ∀ (k11 : Wd → Nat → Int32 → Int32 → Int32 → Int32 → Int32 → Option (Int32 × Wd)), (∀ (w : Wd) (l0 : Nat) (l1 : Int32) (l3 : Int32) (l4 : Int32) (l5 : Int32) (l6 : Int32) (ol0 : okF F l0 9), BD g G F 10 (qX9_splitFull G F g) 0 0 (k11 w l0 l1 l3 l4 l5 l6) w 11 [(0, .ref l0), (1, .int l1), (3, .int l3), (4, .int l4), (5, .int l5), (6, .int l6)] []) → ∀ (k20 : Wd → Nat → Int32 → Int32 → Int32 → Int32 → Int32 → Int32 → Option (Int32 × Wd)), (∀ (w : Wd) (l0 : Nat) (l1 : Int32) (l3 : Int32) (l4 : Int32) (l5 : Int32) (l6 : Int32) (l7 : Int32) (ol0 : okF F l0 9), BD g G F 10 (qX9_splitFull G F g) 0 0 (k20 w l0 l1 l3 l4 l5 l6 l7) w 20 [(0, .ref l0), (1, .int l1), (3, .int l3), (4, .int l4), (5, .int l5), (6, .int l6), (7, .int l7)] []) → ∀  (w : Wd) (l0 : Nat) (l1 : Int32) (l3 : Int32) (l4 : Int32) (l5 : Int32) (l6 : Int32) (l7 : Int32) (l8 : Int32) (s0 : Int32) (ol0 : okF F l0 9), BD g G F 10 (qX9_splitFull G F g) 0 0 (fX9_splitFull_97 F N k11 k20 w l0 l1 l3 l4 l5 l6 l7 l8 s0) w 97 [(0, .ref l0), (1, .int l1), (3, .int l3), (4, .int l4), (5, .int l5), (6, .int l6), (7, .int l7), (8, .int l8)] [.int s0] := by
    intro k11 hk11 k20 hk20
    intro w l0 l1 l3 l4 l5 l6 l7 l8 s0 ol0
    unfold fX9_splitFull_97
    refine bd_istore C [(9, .int s0), (0, .ref l0), (1, .int l1), (3, .int l3), (4, .int l4), (5, .int l5), (6, .int l6), (7, .int l7), (8, .int l8)] dX9_splitFull_97 (by decide) rfl ?_
    refine bd_iload C 8 dX9_splitFull_99 rfl ?_
    refine bd_if_eq C 114 dX9_splitFull_101 (by decide) (fun c17 => ?_) (fun c17 => ?_)
    · exact bd_sub (hb114 _ hk11 _ hk20 w l0 l1 l3 l4 l5 l6 l7 ol0) [1, 2, 3, 4, 5, 6, 7] rfl
    · refine bd_iload C 0 dX9_splitFull_104 rfl ?_
      refine bd_if_ne C 114 dX9_splitFull_106 (by decide) (fun c18 => ?_) (fun c18 => ?_)
      · exact bd_sub (hb114 _ hk11 _ hk20 w l0 l1 l3 l4 l5 l6 l7 ol0) [1, 2, 3, 4, 5, 6, 7] rfl
      · refine bd_iload C 6 dX9_splitFull_109 rfl ?_
        refine bd_goto C 116 dX9_splitFull_111 (by decide) ?_
        exact bd_sub (hb116 _ hk11 _ hk20 w l0 l1 l3 l4 l6 l7 l6 ol0) [1, 2, 3, 4, 6, 7] rfl
  have hb96 : ∀ (k11 : Wd → Nat → Int32 → Int32 → Int32 → Int32 → Int32 → Option (Int32 × Wd)), (∀ (w : Wd) (l0 : Nat) (l1 : Int32) (l3 : Int32) (l4 : Int32) (l5 : Int32) (l6 : Int32) (ol0 : okF F l0 9), BD g G F 10 (qX9_splitFull G F g) 0 0 (k11 w l0 l1 l3 l4 l5 l6) w 11 [(0, .ref l0), (1, .int l1), (3, .int l3), (4, .int l4), (5, .int l5), (6, .int l6)] []) → ∀ (k20 : Wd → Nat → Int32 → Int32 → Int32 → Int32 → Int32 → Int32 → Option (Int32 × Wd)), (∀ (w : Wd) (l0 : Nat) (l1 : Int32) (l3 : Int32) (l4 : Int32) (l5 : Int32) (l6 : Int32) (l7 : Int32) (ol0 : okF F l0 9), BD g G F 10 (qX9_splitFull G F g) 0 0 (k20 w l0 l1 l3 l4 l5 l6 l7) w 20 [(0, .ref l0), (1, .int l1), (3, .int l3), (4, .int l4), (5, .int l5), (6, .int l6), (7, .int l7)] []) → ∀  (w : Wd) (l0 : Nat) (l1 : Int32) (l3 : Int32) (l4 : Int32) (l5 : Int32) (l6 : Int32) (l7 : Int32) (l8 : Int32) (ol0 : okF F l0 9), BD g G F 10 (qX9_splitFull G F g) 0 0 (fX9_splitFull_96 F N k11 k20 w l0 l1 l3 l4 l5 l6 l7 l8) w 96 [(0, .ref l0), (1, .int l1), (3, .int l3), (4, .int l4), (5, .int l5), (6, .int l6), (7, .int l7), (8, .int l8)] [] := by
    intro k11 hk11 k20 hk20
    intro w l0 l1 l3 l4 l5 l6 l7 l8 ol0
    unfold fX9_splitFull_96
    refine bd_iconst C (v := 0) dX9_splitFull_96 (by decide) ?_
    exact bd_sub (hb97 _ hk11 _ hk20 w l0 l1 l3 l4 l5 l6 l7 l8 0 ol0) [0, 1, 2, 3, 4, 5, 6, 7] rfl
  have hb92 : ∀ (k11 : Wd → Nat → Int32 → Int32 → Int32 → Int32 → Int32 → Option (Int32 × Wd)), (∀ (w : Wd) (l0 : Nat) (l1 : Int32) (l3 : Int32) (l4 : Int32) (l5 : Int32) (l6 : Int32) (ol0 : okF F l0 9), BD g G F 10 (qX9_splitFull G F g) 0 0 (k11 w l0 l1 l3 l4 l5 l6) w 11 [(0, .ref l0), (1, .int l1), (3, .int l3), (4, .int l4), (5, .int l5), (6, .int l6)] []) → ∀ (k20 : Wd → Nat → Int32 → Int32 → Int32 → Int32 → Int32 → Int32 → Option (Int32 × Wd)), (∀ (w : Wd) (l0 : Nat) (l1 : Int32) (l3 : Int32) (l4 : Int32) (l5 : Int32) (l6 : Int32) (l7 : Int32) (ol0 : okF F l0 9), BD g G F 10 (qX9_splitFull G F g) 0 0 (k20 w l0 l1 l3 l4 l5 l6 l7) w 20 [(0, .ref l0), (1, .int l1), (3, .int l3), (4, .int l4), (5, .int l5), (6, .int l6), (7, .int l7)] []) → ∀  (w : Wd) (l0 : Nat) (l1 : Int32) (l3 : Int32) (l4 : Int32) (l5 : Int32) (l6 : Int32) (l7 : Int32) (l8 : Int32) (ol0 : okF F l0 9), BD g G F 10 (qX9_splitFull G F g) 0 0 (fX9_splitFull_92 F N k11 k20 w l0 l1 l3 l4 l5 l6 l7 l8) w 92 [(0, .ref l0), (1, .int l1), (3, .int l3), (4, .int l4), (5, .int l5), (6, .int l6), (7, .int l7), (8, .int l8)] [] := by
    intro k11 hk11 k20 hk20
    intro w l0 l1 l3 l4 l5 l6 l7 l8 ol0
    unfold fX9_splitFull_92
    refine bd_iconst C (v := 1) dX9_splitFull_92 (by decide) ?_
    refine bd_goto C 97 dX9_splitFull_93 (by decide) ?_
    exact bd_sub (hb97 _ hk11 _ hk20 w l0 l1 l3 l4 l5 l6 l7 l8 1 ol0) [0, 1, 2, 3, 4, 5, 6, 7] rfl
  have hb46 : ∀ (k11 : Wd → Nat → Int32 → Int32 → Int32 → Int32 → Int32 → Option (Int32 × Wd)), (∀ (w : Wd) (l0 : Nat) (l1 : Int32) (l3 : Int32) (l4 : Int32) (l5 : Int32) (l6 : Int32) (ol0 : okF F l0 9), BD g G F 10 (qX9_splitFull G F g) 0 0 (k11 w l0 l1 l3 l4 l5 l6) w 11 [(0, .ref l0), (1, .int l1), (3, .int l3), (4, .int l4), (5, .int l5), (6, .int l6)] []) → ∀ (k20 : Wd → Nat → Int32 → Int32 → Int32 → Int32 → Int32 → Int32 → Option (Int32 × Wd)), (∀ (w : Wd) (l0 : Nat) (l1 : Int32) (l3 : Int32) (l4 : Int32) (l5 : Int32) (l6 : Int32) (l7 : Int32) (ol0 : okF F l0 9), BD g G F 10 (qX9_splitFull G F g) 0 0 (k20 w l0 l1 l3 l4 l5 l6 l7) w 20 [(0, .ref l0), (1, .int l1), (3, .int l3), (4, .int l4), (5, .int l5), (6, .int l6), (7, .int l7)] []) → ∀  (w : Wd) (l0 : Nat) (l1 : Int32) (l3 : Int32) (l4 : Int32) (l5 : Int32) (l6 : Int32) (l7 : Int32) (s0 : Int32) (ol0 : okF F l0 9), BD g G F 10 (qX9_splitFull G F g) 0 0 (fX9_splitFull_46 F N k11 k20 w l0 l1 l3 l4 l5 l6 l7 s0) w 46 [(0, .ref l0), (1, .int l1), (3, .int l3), (4, .int l4), (5, .int l5), (6, .int l6), (7, .int l7)] [.int s0] := by
    intro k11 hk11 k20 hk20
    intro w l0 l1 l3 l4 l5 l6 l7 s0 ol0
    unfold fX9_splitFull_46
    refine bd_istore C [(8, .int s0), (0, .ref l0), (1, .int l1), (3, .int l3), (4, .int l4), (5, .int l5), (6, .int l6), (7, .int l7)] dX9_splitFull_46 (by decide) rfl ?_
    refine bd_iload C 0 dX9_splitFull_48 rfl ?_
    refine bd_if_eq C 96 dX9_splitFull_50 (by decide) (fun c10 => ?_) (fun c10 => ?_)
    · exact bd_sub (hb96 _ hk11 _ hk20 w l0 l1 l3 l4 l5 l6 l7 s0 ol0) [1, 2, 3, 4, 5, 6, 7, 0] rfl
    · refine bd_aload_n C 1 dX9_splitFull_53 rfl rfl ?_
      refine bd_iload C 6 dX9_splitFull_54 rfl ?_
      refine bd_aload_n C 1 dX9_splitFull_56 rfl rfl ?_
      refine bd_iload C 6 dX9_splitFull_57 rfl ?_
      refine bd_iload C 7 dX9_splitFull_59 rfl ?_
      refine bd_callV (vs := fun (r : Int32) => some (.int r)) (wf := fun _ => w) (st := [.int l6, .ref l0]) (st1 := fun x11 => Value.int x11 :: [.int l6, .ref l0]) C [.int l6, .int l7] (fun r9 e9 => mX9_first C.flag N ol0 e9) mwX9_first miX9_first wd_1522 ol0 (by decide) rfl rfl rfl (Nat.le_of_ble_eq_true rfl) dX9_splitFull_61 ⟨rfl, rfl, Nat.le_of_ble_eq_true rfl, Nat.le_of_ble_eq_true rfl, Nat.le_of_ble_eq_true rfl, Nat.le_of_ble_eq_true rfl⟩ (fun _ => rfl) (fun x11 ex11 => ?_)
      refine bd_aload_n C 1 dX9_splitFull_64 rfl rfl ?_
      refine bd_iload C 6 dX9_splitFull_65 rfl ?_
      refine bd_iload C 7 dX9_splitFull_67 rfl ?_
      refine bd_callV (vs := fun (r : Int32) => some (.int r)) (wf := fun _ => w) (st := [.int x11, .int l6, .ref l0]) (st1 := fun x12 => Value.int x12 :: [.int x11, .int l6, .ref l0]) C [.int l6, .int l7] (fun r9 e9 => mX9_end C.flag N ol0 e9) mwX9_end miX9_end wd_1526 ol0 (by decide) rfl rfl rfl (Nat.le_of_ble_eq_true rfl) dX9_splitFull_69 ⟨rfl, rfl, Nat.le_of_ble_eq_true rfl, Nat.le_of_ble_eq_true rfl, Nat.le_of_ble_eq_true rfl, Nat.le_of_ble_eq_true rfl⟩ (fun _ => rfl) (fun x12 ex12 => ?_)
      refine bd_callV (vs := fun (r : Int32) => some (.int r)) (wf := fun _ => w) (st := []) (st1 := fun x13 => Value.int x13 :: []) C [.int l6, .int x11, .int x12] (fun r9 e9 => mX9_hostOf C.flag N ol0 e9) mwX9_hostOf miX9_hostOf wd_1538 ol0 (by decide) rfl rfl rfl (Nat.le_of_ble_eq_true rfl) dX9_splitFull_72 ⟨rfl, rfl, Nat.le_of_ble_eq_true rfl, Nat.le_of_ble_eq_true rfl, Nat.le_of_ble_eq_true rfl, Nat.le_of_ble_eq_true rfl⟩ (fun _ => rfl) (fun x13 ex13 => ?_)
      refine bd_if_ge C 92 dX9_splitFull_75 (by decide) (fun c14 => ?_) (fun c14 => ?_)
      · exact bd_sub (hb92 _ hk11 _ hk20 w l0 l1 l3 l4 l5 l6 l7 s0 ol0) [1, 2, 3, 4, 5, 6, 7, 0] rfl
      · refine bd_aload_n C 1 dX9_splitFull_78 rfl rfl ?_
        refine bd_iload C 6 dX9_splitFull_79 rfl ?_
        refine bd_iload C 7 dX9_splitFull_81 rfl ?_
        refine bd_iload_n C 3 dX9_splitFull_83 rfl rfl ?_
        refine bd_iload C 4 dX9_splitFull_84 rfl ?_
        refine bd_callV (vs := fun (r : Int32) => some (.int r)) (wf := fun _ => w) (st := []) (st1 := fun x15 => Value.int x15 :: []) C [.int l6, .int l7, .int l3, .int l4] (fun r9 e9 => mX9_isHosted C.flag N ol0 e9) mwX9_isHosted miX9_isHosted wd_1590 ol0 (by decide) rfl rfl rfl (Nat.le_of_ble_eq_true rfl) dX9_splitFull_86 ⟨rfl, rfl, Nat.le_of_ble_eq_true rfl, Nat.le_of_ble_eq_true rfl, Nat.le_of_ble_eq_true rfl, Nat.le_of_ble_eq_true rfl⟩ (fun _ => rfl) (fun x15 ex15 => ?_)
        refine bd_if_eq C 96 dX9_splitFull_89 (by decide) (fun c16 => ?_) (fun c16 => ?_)
        · exact bd_sub (hb96 _ hk11 _ hk20 w l0 l1 l3 l4 l5 l6 l7 s0 ol0) [1, 2, 3, 4, 5, 6, 7, 0] rfl
        · exact bd_sub (hb92 _ hk11 _ hk20 w l0 l1 l3 l4 l5 l6 l7 s0 ol0) [1, 2, 3, 4, 5, 6, 7, 0] rfl
  have hb20 : ∀ (k11 : Wd → Nat → Int32 → Int32 → Int32 → Int32 → Int32 → Option (Int32 × Wd)), (∀ (w : Wd) (l0 : Nat) (l1 : Int32) (l3 : Int32) (l4 : Int32) (l5 : Int32) (l6 : Int32) (ol0 : okF F l0 9), BD g G F 10 (qX9_splitFull G F g) 0 0 (k11 w l0 l1 l3 l4 l5 l6) w 11 [(0, .ref l0), (1, .int l1), (3, .int l3), (4, .int l4), (5, .int l5), (6, .int l6)] []) → ∀ (n : Nat) (w : Wd) (l0 : Nat) (l1 : Int32) (l3 : Int32) (l4 : Int32) (l5 : Int32) (l6 : Int32) (l7 : Int32) (ol0 : okF F l0 9), BD g G F 10 (qX9_splitFull G F g) 0 0 (fX9_splitFull_20 F N k11 n w l0 l1 l3 l4 l5 l6 l7) w 20 [(0, .ref l0), (1, .int l1), (3, .int l3), (4, .int l4), (5, .int l5), (6, .int l6), (7, .int l7)] [] := by
    intro k11 hk11
    intro n
    induction n with
    | zero =>
      intro w l0 l1 l3 l4 l5 l6 l7 ol0
      unfold fX9_splitFull_20
      exact bd_none
    | succ n ih =>
      intro w l0 l1 l3 l4 l5 l6 l7 ol0
      unfold fX9_splitFull_20
      refine bd_iload C 6 dX9_splitFull_20 rfl ?_
      refine bd_aload_n C 0 dX9_splitFull_22 rfl rfl ?_
      refine bd_iload C 5 dX9_splitFull_23 rfl ?_
      refine bd_callV (vs := fun (r : Int32) => some (.int r)) (wf := fun _ => w) (st := [.int l7]) (st1 := fun x6 => Value.int x6 :: [.int l7]) C [.int l6] (fun r9 e9 => mX9_many C.flag N ol0 e9) mwX9_many miX9_many wd_1436 ol0 (by decide) rfl rfl rfl (Nat.le_of_ble_eq_true rfl) dX9_splitFull_25 ⟨rfl, rfl, Nat.le_of_ble_eq_true rfl, Nat.le_of_ble_eq_true rfl, Nat.le_of_ble_eq_true rfl, Nat.le_of_ble_eq_true rfl⟩ (fun _ => rfl) (fun x6 ex6 => ?_)
      refine bd_icmp_ge C 124 dX9_splitFull_28 (by decide) (fun c7 => ?_) (fun c7 => ?_)
      · refine bd_iinc C (v := l6 + (-1)) 5 [(6, .int (l6 + (-1))), (0, .ref l0), (1, .int l1), (3, .int l3), (4, .int l4), (5, .int l5), (7, .int l7)] dX9_splitFull_124 rfl rfl (by decide) rfl ?_
        refine bd_goto C 11 dX9_splitFull_127 (by decide) ?_
        exact bd_sub (hk11 w l0 l1 l3 l4 l5 (l6 + (-1)) ol0) [1, 2, 3, 4, 5, 0] rfl
      · refine bd_aload_n C 0 dX9_splitFull_31 rfl rfl ?_
        refine bd_iload C 5 dX9_splitFull_32 rfl ?_
        refine bd_callV (vs := fun (r : Int32) => some (.int r)) (wf := fun _ => w) (st := []) (st1 := fun x8 => Value.int x8 :: []) C [.int l6] (fun r9 e9 => mX9_parent C.flag N ol0 e9) mwX9_parent miX9_parent wd_1451 ol0 (by decide) rfl rfl rfl (Nat.le_of_ble_eq_true rfl) dX9_splitFull_34 ⟨rfl, rfl, Nat.le_of_ble_eq_true rfl, Nat.le_of_ble_eq_true rfl, Nat.le_of_ble_eq_true rfl, Nat.le_of_ble_eq_true rfl⟩ (fun _ => rfl) (fun x8 ex8 => ?_)
        refine bd_iload_n C 1 dX9_splitFull_37 rfl rfl ?_
        refine bd_icmp_ne C 45 dX9_splitFull_38 (by decide) (fun c9 => ?_) (fun c9 => ?_)
        · refine bd_iconst C (v := 0) dX9_splitFull_45 (by decide) ?_
          exact bd_sub (hb46 _ hk11 _ ih w l0 l1 l3 l4 l5 l6 l7 0 ol0) [0, 1, 2, 3, 4, 5, 6] rfl
        · refine bd_iconst C (v := 1) dX9_splitFull_41 (by decide) ?_
          refine bd_goto C 46 dX9_splitFull_42 (by decide) ?_
          exact bd_sub (hb46 _ hk11 _ ih w l0 l1 l3 l4 l5 l6 l7 1 ol0) [0, 1, 2, 3, 4, 5, 6] rfl
  have hb11 : ∀ (n : Nat) (w : Wd) (l0 : Nat) (l1 : Int32) (l3 : Int32) (l4 : Int32) (l5 : Int32) (l6 : Int32) (ol0 : okF F l0 9), BD g G F 10 (qX9_splitFull G F g) 0 0 (fX9_splitFull_11 F N n w l0 l1 l3 l4 l5 l6) w 11 [(0, .ref l0), (1, .int l1), (3, .int l3), (4, .int l4), (5, .int l5), (6, .int l6)] [] := by
    intro n
    induction n with
    | zero =>
      intro w l0 l1 l3 l4 l5 l6 ol0
      unfold fX9_splitFull_11
      exact bd_none
    | succ n ih =>
      intro w l0 l1 l3 l4 l5 l6 ol0
      unfold fX9_splitFull_11
      refine bd_iload C 5 dX9_splitFull_11 rfl ?_
      refine bd_iload_n C 1 dX9_splitFull_13 rfl rfl ?_
      refine bd_icmp_le C 130 dX9_splitFull_14 (by decide) (fun c1 => ?_) (fun c1 => ?_)
      · refine bd_aload_n C 0 dX9_splitFull_130 rfl rfl ?_
        refine bd_callV (vs := fun _ => none) (wf := fun (r : Wd) => r) (st := []) (st1 := fun p2 => []) C [] (fun r9 e9 => mX9_putBack C.flag N ol0 e9) mwX9_putBack miX9_putBack wd_1574 ol0 (by decide) rfl rfl rfl (Nat.le_of_ble_eq_true rfl) dX9_splitFull_131 ⟨rfl, rfl, Nat.le_of_ble_eq_true rfl, Nat.le_of_ble_eq_true rfl, Nat.le_of_ble_eq_true rfl, Nat.le_of_ble_eq_true rfl⟩ (fun _ => rfl) (fun p2 ep2 => ?_)
        refine bd_iload C 4 dX9_splitFull_134 rfl ?_
        refine bd_if_lt C 149 dX9_splitFull_136 (by decide) (fun c3 => ?_) (fun c3 => ?_)
        · refine bd_aload_n C 0 dX9_splitFull_149 rfl rfl ?_
          refine bd_iconst C (v := 5) dX9_splitFull_150 (by decide) ?_
          refine bd_iconst C (v := 0) dX9_splitFull_151 (by decide) ?_
          refine bd_callV (vs := fun (r : Int32 × Wd) => some (.int r.1)) (wf := fun (r : Int32 × Wd) => r.2) (st := []) (st1 := fun p4 => Value.int p4.1 :: []) C [.int 5, .int 0] (fun r9 e9 => mX9_isRefused C.flag N ol0 e9) mwX9_isRefused miX9_isRefused wd_1514 ol0 (by decide) rfl rfl rfl (Nat.le_of_ble_eq_true rfl) dX9_splitFull_152 ⟨rfl, rfl, Nat.le_of_ble_eq_true rfl, Nat.le_of_ble_eq_true rfl, Nat.le_of_ble_eq_true rfl, Nat.le_of_ble_eq_true rfl⟩ (fun _ => rfl) (fun p4 ep4 => ?_)
          exact bd_sub (hb155 p4.2 l0 p4.1 ol0) [0] rfl
        · refine bd_aload_n C 0 dX9_splitFull_139 rfl rfl ?_
          refine bd_iconst C (v := 4) dX9_splitFull_140 (by decide) ?_
          refine bd_iload C 4 dX9_splitFull_141 rfl ?_
          refine bd_callV (vs := fun (r : Int32 × Wd) => some (.int r.1)) (wf := fun (r : Int32 × Wd) => r.2) (st := []) (st1 := fun p5 => Value.int p5.1 :: []) C [.int 4, .int l5] (fun r9 e9 => mX9_isRefused C.flag N ol0 e9) mwX9_isRefused miX9_isRefused wd_1514 ol0 (by decide) rfl rfl rfl (Nat.le_of_ble_eq_true rfl) dX9_splitFull_143 ⟨rfl, rfl, Nat.le_of_ble_eq_true rfl, Nat.le_of_ble_eq_true rfl, Nat.le_of_ble_eq_true rfl, Nat.le_of_ble_eq_true rfl⟩ (fun _ => rfl) (fun p5 ep5 => ?_)
          refine bd_goto C 155 dX9_splitFull_146 (by decide) ?_
          exact bd_sub (hb155 p5.2 l0 p5.1 ol0) [0] rfl
      · refine bd_iconst C (v := 0) dX9_splitFull_17 (by decide) ?_
        refine bd_istore C [(7, .int 0), (0, .ref l0), (1, .int l1), (3, .int l3), (4, .int l4), (5, .int l5), (6, .int l6)] dX9_splitFull_18 (by decide) rfl ?_
        exact bd_sub (hb20 _ ih N w l0 l1 l3 l4 l5 l6 0 ol0) [1, 2, 3, 4, 5, 6, 0] rfl
  unfold fX9_splitFull
  refine bd_sub (lv' := [(0, .ref l0), (1, .int l1), (2, .int l2), (3, .int l3), (4, .int l4)]) ?_ [0, 1, 2, 3, 4] rfl
  refine bd_iconst C (v := (-1)) dX9_splitFull_0 (by decide) ?_
  refine bd_istore C [(5, .int (-1)), (0, .ref l0), (1, .int l1), (2, .int l2), (3, .int l3), (4, .int l4)] dX9_splitFull_1 (by decide) rfl ?_
  refine bd_aload_n C 1 dX9_splitFull_3 rfl rfl ?_
  refine bd_callV (vs := fun (r : Int32) => some (.int r)) (wf := fun _ => w) (st := []) (st1 := fun x22 => Value.int x22 :: []) C [] (fun r9 e9 => mX9_tiers C.flag N ol0 e9) mwX9_tiers miX9_tiers wd_1391 ol0 (by decide) rfl rfl rfl (Nat.le_of_ble_eq_true rfl) dX9_splitFull_4 ⟨rfl, rfl, Nat.le_of_ble_eq_true rfl, Nat.le_of_ble_eq_true rfl, Nat.le_of_ble_eq_true rfl, Nat.le_of_ble_eq_true rfl⟩ (fun _ => rfl) (fun x22 ex22 => ?_)
  refine bd_iconst C (v := 1) dX9_splitFull_7 (by decide) ?_
  refine bd_isub C dX9_splitFull_8 ?_
  refine bd_bnd (tp := Value.int) (fun v23 ev23 => ?_)
  refine bd_istore C [(6, .int v23), (5, .int (-1)), (0, .ref l0), (1, .int l1), (2, .int l2), (3, .int l3), (4, .int l4)] dX9_splitFull_9 (by decide) rfl ?_
  exact bd_sub (hb11 N w l0 l1 l3 l4 (-1) v23 ol0) [2, 3, 5, 6, 1, 0] rfl
abbrev rmX9_split : Room := { frames := 19, cells := 0, slots := 0, locals := 503 }
abbrev qX9_split (G : Gy) (F : Fr) (g : Bd) : (Int32 × Wd) → State → Prop := fun r => QM G F g 0 0 ((fun (r : Int32 × Wd) => some (.int r.1)) r) ((fun (r : Int32 × Wd) => r.2) r)
set_option maxRecDepth 20000 in
set_option maxHeartbeats 4000000 in
theorem mX9_split {l : Launch} (hf9 : l.stackTraces = false) {G : Gy} {F : Fr} (N : Nat) {w : Wd} {l0 : Nat} {l1 : Int32} {l2 : Int32} {l3 : Int32} {r : Int32 × Wd} (ol0 : okF F l0 9) (e9 : fX9_split F N w l0 l1 l2 l3 = some r) : Met l yX9_split [.code yX9_split cX9_split 11 (some .int)] rmX9_split (PcB G F w [.ref l0, .int l1, .int l2, .int l3]) (QB G F ((fun (r : Int32 × Wd) => some (.int r.1)) r) ((fun (r : Int32 × Wd) => r.2) r)) 0 0 (AF F) := by
  refine bd_met (vs := fun (r : Int32 × Wd) => some (.int r.1)) (wf := fun (r : Int32 × Wd) => r.2) hf9 (by decide) (Nat.le_of_ble_eq_true rfl) e9 (fun g C hret hini => ?_)
  clear e9 r
  have hb147 : ∀  (w : Wd) (l0 : Nat) (l1 : Int32) (l2 : Int32) (l3 : Int32) (l5 : Int32) (l7 : Int64) (s0 : Int32) (ol0 : okF F l0 9), BD g G F 11 (qX9_split G F g) 0 0 (fX9_split_147 F N w l0 l1 l2 l3 l5 l7 s0) w 147 [(0, .ref l0), (1, .int l1), (2, .int l2), (3, .int l3), (5, .int l5), (7, .long l7)] [.int s0] := by
    intro w l0 l1 l2 l3 l5 l7 s0 ol0
    unfold fX9_split_147
    refine bd_istore C [(9, .int s0), (0, .ref l0), (1, .int l1), (2, .int l2), (3, .int l3), (5, .int l5), (7, .long l7)] dX9_split_147 (by decide) rfl ?_
    refine bd_aload_n C 1 dX9_split_149 rfl rfl ?_
    refine bd_gR C fi900 fv900 wd_1241 dX9_split_150 ol0 (fun r19 gr19 hr19 => ?_)
    refine bd_aload_n C 1 dX9_split_153 rfl rfl ?_
    refine bd_iload_n C 2 dX9_split_154 rfl rfl ?_
    refine bd_iload_n C 3 dX9_split_155 rfl rfl ?_
    refine bd_callV (vs := fun (r : Int32) => some (.int r)) (wf := fun _ => w) (st := [.ref r19]) (st1 := fun x20 => Value.int x20 :: [.ref r19]) C [.int l1, .int l2] (fun r9 e9 => mX9_at C.flag N ol0 e9) mwX9_at miX9_at wd_1463 ol0 (by decide) rfl rfl rfl (Nat.le_of_ble_eq_true rfl) dX9_split_156 ⟨rfl, rfl, Nat.le_of_ble_eq_true rfl, Nat.le_of_ble_eq_true rfl, Nat.le_of_ble_eq_true rfl, Nat.le_of_ble_eq_true rfl⟩ (fun _ => rfl) (fun x20 ex20 => ?_)
    refine bd_iconst C (v := 1) dX9_split_159 (by decide) ?_
    refine bd_iadd C dX9_split_160 ?_
    refine bd_iload_n C 4 dX9_split_161 rfl rfl ?_
    refine bd_i2l C dX9_split_162 ?_
    refine bd_last C dX9_split_163 hr19 (fun w21 => ?_)
    refine bd_iload C 0 dX9_split_164 rfl ?_
    refine bd_if_eq C 179 dX9_split_166 (by decide) (fun c22 => ?_) (fun c22 => ?_)
    · refine bd_aload_n C 1 dX9_split_179 rfl rfl ?_
      refine bd_iload_n C 2 dX9_split_180 rfl rfl ?_
      refine bd_iload_n C 4 dX9_split_181 rfl rfl ?_
      refine bd_iload C 5 dX9_split_182 rfl ?_
      refine bd_lload C 6 dX9_split_184 rfl ?_
      refine bd_callV (vs := fun (r : Int32 × Wd) => some (.int r.1)) (wf := fun (r : Int32 × Wd) => r.2) (st := []) (st1 := fun p23 => Value.int p23.1 :: []) C [.int l1, .int l3, .int l5, .long l7] (fun r9 e9 => mX9_putIn C.flag N ol0 e9) mwX9_putIn miX9_putIn wd_1542 ol0 (by decide) rfl rfl rfl (Nat.le_of_ble_eq_true rfl) dX9_split_186 ⟨rfl, rfl, Nat.le_of_ble_eq_true rfl, Nat.le_of_ble_eq_true rfl, Nat.le_of_ble_eq_true rfl, Nat.le_of_ble_eq_true rfl⟩ (fun _ => rfl) (fun p23 ep23 => ?_)
      refine bd_istore C [(10, .int p23.1), (9, .int s0), (0, .ref l0), (1, .int l1), (2, .int l2), (3, .int l3), (5, .int l5), (7, .long l7)] dX9_split_189 (by decide) rfl ?_
      refine bd_aload_n C 2 dX9_split_191 rfl rfl ?_
      refine bd_iconst C (v := 2) dX9_split_192 (by decide) ?_
      refine bd_callV (vs := fun (r : Int32 × Wd) => some (.int r.1)) (wf := fun (r : Int32 × Wd) => r.2) (st := []) (st1 := fun p24 => Value.int p24.1 :: []) C [.int 2] (fun r9 e9 => mX9_stays C.flag N ol0 e9) mwX9_stays miX9_stays wd_1566 ol0 (by decide) rfl rfl rfl (Nat.le_of_ble_eq_true rfl) dX9_split_193 ⟨rfl, rfl, Nat.le_of_ble_eq_true rfl, Nat.le_of_ble_eq_true rfl, Nat.le_of_ble_eq_true rfl, Nat.le_of_ble_eq_true rfl⟩ (fun _ => rfl) (fun p24 ep24 => ?_)
      refine bd_if_ne C 201 dX9_split_196 (by decide) (fun c25 => ?_) (fun c25 => ?_)
      · refine bd_aload_n C 2 dX9_split_201 rfl rfl ?_
        refine bd_callV (vs := fun _ => none) (wf := fun (r : Wd) => r) (st := []) (st1 := fun p26 => []) C [] (fun r9 e9 => mX9_change C.flag N ol0 e9) mwX9_change miX9_change wd_1415 ol0 (by decide) rfl rfl rfl (Nat.le_of_ble_eq_true rfl) dX9_split_202 ⟨rfl, rfl, Nat.le_of_ble_eq_true rfl, Nat.le_of_ble_eq_true rfl, Nat.le_of_ble_eq_true rfl, Nat.le_of_ble_eq_true rfl⟩ (fun _ => rfl) (fun p26 ep26 => ?_)
        refine bd_iload C 0 dX9_split_205 rfl ?_
        refine bd_if_ge C 214 dX9_split_207 (by decide) (fun c27 => ?_) (fun c27 => ?_)
        · refine bd_aload_n C 2 dX9_split_214 rfl rfl ?_
          refine bd_iload_n C 3 dX9_split_215 rfl rfl ?_
          refine bd_callV (vs := fun (r : Int32) => some (.int r)) (wf := fun _ => p26) (st := []) (st1 := fun x28 => Value.int x28 :: []) C [.int l1] (fun r9 e9 => mX9_many C.flag N ol0 e9) mwX9_many miX9_many wd_1436 ol0 (by decide) rfl rfl rfl (Nat.le_of_ble_eq_true rfl) dX9_split_216 ⟨rfl, rfl, Nat.le_of_ble_eq_true rfl, Nat.le_of_ble_eq_true rfl, Nat.le_of_ble_eq_true rfl, Nat.le_of_ble_eq_true rfl⟩ (fun _ => rfl) (fun x28 ex28 => ?_)
          exact bd_iret C hret rfl _ _ rfl rfl dX9_split_219 (Nat.le_refl _) (Nat.le_refl _)
        · refine bd_iconst C (v := 0) dX9_split_210 (by decide) ?_
          refine bd_goto C 219 dX9_split_211 (by decide) ?_
          exact bd_iret C hret rfl _ _ rfl rfl dX9_split_219 (Nat.le_refl _) (Nat.le_refl _)
      · refine bd_iconst C (v := 0) dX9_split_199 (by decide) ?_
        exact bd_iret C hret rfl _ _ rfl rfl dX9_split_200 (Nat.le_refl _) (Nat.le_refl _)
    · refine bd_aload_n C 1 dX9_split_169 rfl rfl ?_
      refine bd_iload_n C 2 dX9_split_170 rfl rfl ?_
      refine bd_iload_n C 3 dX9_split_171 rfl rfl ?_
      refine bd_iload_n C 4 dX9_split_172 rfl rfl ?_
      refine bd_iload C 5 dX9_split_173 rfl ?_
      refine bd_callV (vs := fun (r : Int32 × Wd) => some (.int r.1)) (wf := fun (r : Int32 × Wd) => r.2) (st := []) (st1 := fun p29 => Value.int p29.1 :: []) C [.int l1, .int l2, .int l3, .int l5] (fun r9 e9 => mX9_splitFull C.flag N ol0 e9) mwX9_splitFull miX9_splitFull wd_1586 ol0 (by decide) rfl rfl rfl (Nat.le_of_ble_eq_true rfl) dX9_split_175 ⟨rfl, rfl, Nat.le_of_ble_eq_true rfl, Nat.le_of_ble_eq_true rfl, Nat.le_of_ble_eq_true rfl, Nat.le_of_ble_eq_true rfl⟩ (fun _ => rfl) (fun p29 ep29 => ?_)
      exact bd_iret C hret rfl _ _ rfl rfl dX9_split_178 (Nat.le_refl _) (Nat.le_refl _)
  have hb108 : ∀  (w : Wd) (l0 : Nat) (l1 : Int32) (l2 : Int32) (l3 : Int32) (l5 : Int32) (s0 : Nat) (s1 : Int32) (ol0 : okF F l0 9) (os0 : okF F s0 9), BD g G F 11 (qX9_split G F g) 0 0 (fX9_split_108 F N w l0 l1 l2 l3 l5 s0 s1) w 108 [(0, .ref l0), (1, .int l1), (2, .int l2), (3, .int l3), (5, .int l5)] [.int s1, .ref s0] := by
    intro w l0 l1 l2 l3 l5 s0 s1 ol0 os0
    unfold fX9_split_108
    refine bd_pI C fi906 ftX9 fu906 wd_1247 rfl rfl rfl dX9_split_108 os0 (fun w13 => ?_)
    refine bd_aload_n C 0 dX9_split_111 rfl rfl ?_
    refine bd_gI C fi906 fv906 wd_1247 dX9_split_112 ol0 ?_
    refine bd_if_le C 120 dX9_split_115 (by decide) (fun c14 => ?_) (fun c14 => ?_)
    · refine bd_aload_n C 0 dX9_split_120 rfl rfl ?_
      refine bd_callV (vs := fun _ => none) (wf := fun (r : Wd) => r) (st := []) (st1 := fun p15 => []) C [] (fun r9 e9 => mX9_keepState C.flag N ol0 e9) mwX9_keepState miX9_keepState wd_1410 ol0 (by decide) rfl rfl rfl (Nat.le_of_ble_eq_true rfl) dX9_split_121 ⟨rfl, rfl, Nat.le_of_ble_eq_true rfl, Nat.le_of_ble_eq_true rfl, Nat.le_of_ble_eq_true rfl, Nat.le_of_ble_eq_true rfl⟩ (fun _ => rfl) (fun p15 ep15 => ?_)
      refine bd_aload_n C 0 dX9_split_124 rfl rfl ?_
      refine bd_iload_n C 1 dX9_split_125 rfl rfl ?_
      refine bd_iload_n C 2 dX9_split_126 rfl rfl ?_
      refine bd_callV (vs := fun (r : Int64) => some (.long r)) (wf := fun _ => p15) (st := []) (st1 := fun x16 => Value.long x16 :: []) C [.int l1, .int l2] (fun r9 e9 => mX9_label C.flag N ol0 e9) mwX9_label miX9_label wd_1459 ol0 (by decide) rfl rfl rfl (Nat.le_of_ble_eq_true rfl) dX9_split_127 ⟨rfl, rfl, Nat.le_of_ble_eq_true rfl, Nat.le_of_ble_eq_true rfl, Nat.le_of_ble_eq_true rfl, Nat.le_of_ble_eq_true rfl⟩ (fun _ => rfl) (fun x16 ex16 => ?_)
      refine bd_lstore C [(7, .long x16), (0, .ref l0), (1, .int l1), (2, .int l2), (3, .int l3), (5, .int l5)] dX9_split_130 (by decide) rfl ?_
      refine bd_aload_n C 1 dX9_split_132 rfl rfl ?_
      refine bd_iload_n C 2 dX9_split_133 rfl rfl ?_
      refine bd_callV (vs := fun (r : Int32) => some (.int r)) (wf := fun _ => p15) (st := []) (st1 := fun x17 => Value.int x17 :: []) C [.int l1] (fun r9 e9 => mX9_many C.flag N ol0 e9) mwX9_many miX9_many wd_1436 ol0 (by decide) rfl rfl rfl (Nat.le_of_ble_eq_true rfl) dX9_split_134 ⟨rfl, rfl, Nat.le_of_ble_eq_true rfl, Nat.le_of_ble_eq_true rfl, Nat.le_of_ble_eq_true rfl, Nat.le_of_ble_eq_true rfl⟩ (fun _ => rfl) (fun x17 ex17 => ?_)
      refine bd_bipush C (v := 30) dX9_split_137 (by decide) ?_
      refine bd_icmp_ne C 146 dX9_split_139 (by decide) (fun c18 => ?_) (fun c18 => ?_)
      · refine bd_iconst C (v := 0) dX9_split_146 (by decide) ?_
        exact bd_sub (hb147 p15 l0 l1 l2 l3 l5 x16 0 ol0) [1, 2, 3, 4, 5, 0] rfl
      · refine bd_iconst C (v := 1) dX9_split_142 (by decide) ?_
        refine bd_goto C 147 dX9_split_143 (by decide) ?_
        exact bd_sub (hb147 p15 l0 l1 l2 l3 l5 x16 1 ol0) [1, 2, 3, 4, 5, 0] rfl
    · refine bd_iconst C (v := 0) dX9_split_118 (by decide) ?_
      exact bd_iret C hret rfl _ _ rfl rfl dX9_split_119 (Nat.le_refl _) (Nat.le_refl _)
  have hb92 : ∀  (w : Wd) (l0 : Nat) (l1 : Int32) (l2 : Int32) (l3 : Int32) (l5 : Int32) (l6 : Int32) (ol0 : okF F l0 9), BD g G F 11 (qX9_split G F g) 0 0 (fX9_split_92 F N w l0 l1 l2 l3 l5 l6) w 92 [(0, .ref l0), (1, .int l1), (2, .int l2), (3, .int l3), (5, .int l5), (6, .int l6)] [] := by
    intro w l0 l1 l2 l3 l5 l6 ol0
    unfold fX9_split_92
    refine bd_aload_n C 0 dX9_split_92 rfl rfl ?_
    refine bd_aload_n C 0 dX9_split_93 rfl rfl ?_
    refine bd_iload C 5 dX9_split_94 rfl ?_
    refine bd_iconst C (v := 0) dX9_split_96 (by decide) ?_
    refine bd_callV (vs := fun (r : Int32 × Wd) => some (.int r.1)) (wf := fun (r : Int32 × Wd) => r.2) (st := [.ref l0]) (st1 := fun p11 => Value.int p11.1 :: [.ref l0]) C [.int l6, .int 0] (fun r9 e9 => mX9_isRefused C.flag N ol0 e9) mwX9_isRefused miX9_isRefused wd_1514 ol0 (by decide) rfl rfl rfl (Nat.le_of_ble_eq_true rfl) dX9_split_97 ⟨rfl, rfl, Nat.le_of_ble_eq_true rfl, Nat.le_of_ble_eq_true rfl, Nat.le_of_ble_eq_true rfl, Nat.le_of_ble_eq_true rfl⟩ (fun _ => rfl) (fun p11 ep11 => ?_)
    refine bd_if_eq C 107 dX9_split_100 (by decide) (fun c12 => ?_) (fun c12 => ?_)
    · refine bd_iconst C (v := 0) dX9_split_107 (by decide) ?_
      exact bd_sub (hb108 p11.2 l0 l1 l2 l3 l5 l0 0 ol0 ol0) [0, 1, 2, 3, 4] rfl
    · refine bd_iconst C (v := 2) dX9_split_103 (by decide) ?_
      refine bd_goto C 108 dX9_split_104 (by decide) ?_
      exact bd_sub (hb108 p11.2 l0 l1 l2 l3 l5 l0 2 ol0 ol0) [0, 1, 2, 3, 4] rfl
  have hb89 : ∀  (w : Wd) (l0 : Nat) (l1 : Int32) (l2 : Int32) (l3 : Int32) (l5 : Int32) (ol0 : okF F l0 9), BD g G F 11 (qX9_split G F g) 0 0 (fX9_split_89 F N w l0 l1 l2 l3 l5) w 89 [(0, .ref l0), (1, .int l1), (2, .int l2), (3, .int l3), (5, .int l5)] [] := by
    intro w l0 l1 l2 l3 l5 ol0
    unfold fX9_split_89
    refine bd_iconst C (v := 3) dX9_split_89 (by decide) ?_
    refine bd_istore C [(6, .int 3), (0, .ref l0), (1, .int l1), (2, .int l2), (3, .int l3), (5, .int l5)] dX9_split_90 (by decide) rfl ?_
    exact bd_sub (hb92 w l0 l1 l2 l3 l5 3 ol0) [1, 2, 3, 4, 5, 0] rfl
  have hb15 : ∀  (w : Wd) (l0 : Nat) (l1 : Int32) (l2 : Int32) (l3 : Int32) (s0 : Nat) (s1 : Int32) (ol0 : okF F l0 9) (os0 : okF F s0 9), BD g G F 11 (qX9_split G F g) 0 0 (fX9_split_15 F N w l0 l1 l2 l3 s0 s1) w 15 [(0, .ref l0), (1, .int l1), (2, .int l2), (3, .int l3)] [.int s1, .ref s0] := by
    intro w l0 l1 l2 l3 s0 s1 ol0 os0
    unfold fX9_split_15
    refine bd_pI C fi906 ftX9 fu906 wd_1247 rfl rfl rfl dX9_split_15 os0 (fun w1 => ?_)
    refine bd_aload_n C 0 dX9_split_18 rfl rfl ?_
    refine bd_gI C fi906 fv906 wd_1247 dX9_split_19 ol0 ?_
    refine bd_if_le C 27 dX9_split_22 (by decide) (fun c2 => ?_) (fun c2 => ?_)
    · refine bd_aload_n C 0 dX9_split_27 rfl rfl ?_
      refine bd_iload_n C 1 dX9_split_28 rfl rfl ?_
      refine bd_iload_n C 2 dX9_split_29 rfl rfl ?_
      refine bd_callV (vs := fun (r : Int32) => some (.int r)) (wf := fun _ => w1) (st := []) (st1 := fun x3 => Value.int x3 :: []) C [.int l1, .int l2] (fun r9 e9 => mX9_first C.flag N ol0 e9) mwX9_first miX9_first wd_1522 ol0 (by decide) rfl rfl rfl (Nat.le_of_ble_eq_true rfl) dX9_split_30 ⟨rfl, rfl, Nat.le_of_ble_eq_true rfl, Nat.le_of_ble_eq_true rfl, Nat.le_of_ble_eq_true rfl, Nat.le_of_ble_eq_true rfl⟩ (fun _ => rfl) (fun x3 ex3 => ?_)
      refine bd_istore C [(4, .int x3), (0, .ref l0), (1, .int l1), (2, .int l2), (3, .int l3)] dX9_split_33 (by decide) rfl ?_
      refine bd_aload_n C 1 dX9_split_35 rfl rfl ?_
      refine bd_iload_n C 2 dX9_split_36 rfl rfl ?_
      refine bd_iload_n C 3 dX9_split_37 rfl rfl ?_
      refine bd_callV (vs := fun (r : Int32) => some (.int r)) (wf := fun _ => w1) (st := []) (st1 := fun x4 => Value.int x4 :: []) C [.int l1, .int l2] (fun r9 e9 => mX9_end C.flag N ol0 e9) mwX9_end miX9_end wd_1526 ol0 (by decide) rfl rfl rfl (Nat.le_of_ble_eq_true rfl) dX9_split_38 ⟨rfl, rfl, Nat.le_of_ble_eq_true rfl, Nat.le_of_ble_eq_true rfl, Nat.le_of_ble_eq_true rfl, Nat.le_of_ble_eq_true rfl⟩ (fun _ => rfl) (fun x4 ex4 => ?_)
      refine bd_istore C [(5, .int x4), (4, .int x3), (0, .ref l0), (1, .int l1), (2, .int l2), (3, .int l3)] dX9_split_41 (by decide) rfl ?_
      refine bd_iconst C (v := 0) dX9_split_43 (by decide) ?_
      refine bd_istore C [(6, .int 0), (5, .int x4), (4, .int x3), (0, .ref l0), (1, .int l1), (2, .int l2), (3, .int l3)] dX9_split_44 (by decide) rfl ?_
      refine bd_iload_n C 6 dX9_split_46 rfl rfl ?_
      refine bd_iload C 2 dX9_split_47 rfl ?_
      refine bd_iconst C (v := 1) dX9_split_49 (by decide) ?_
      refine bd_iadd C dX9_split_50 ?_
      refine bd_iload C 1 dX9_split_51 rfl ?_
      refine bd_iconst C (v := 1) dX9_split_53 (by decide) ?_
      refine bd_isub C dX9_split_54 ?_
      refine bd_callS (vs := fun (r : Int32) => some (.int r)) (wf := fun _ => w1) (st := []) (st1 := fun x5 => Value.int x5 :: []) C [.int l3, .int (x3 + 1), .int (x4 - 1)] (fun r9 e9 => mX9_in C.flag N e9) mwX9_in miX9_in wd_1399 rfl rfl (Nat.le_of_ble_eq_true rfl) dX9_split_55 ⟨rfl, rfl, Nat.le_of_ble_eq_true rfl, Nat.le_of_ble_eq_true rfl, Nat.le_of_ble_eq_true rfl, Nat.le_of_ble_eq_true rfl⟩ (fun _ => rfl) (fun x5 ex5 => ?_)
      refine bd_if_ne C 67 dX9_split_58 (by decide) (fun c6 => ?_) (fun c6 => ?_)
      · refine bd_aload_n C 3 dX9_split_67 rfl rfl ?_
        refine bd_iload_n C 4 dX9_split_68 rfl rfl ?_
        refine bd_iload C 2 dX9_split_69 rfl ?_
        refine bd_iload_n C 6 dX9_split_71 rfl rfl ?_
        refine bd_callV (vs := fun (r : Int32) => some (.int r)) (wf := fun _ => w1) (st := []) (st1 := fun x7 => Value.int x7 :: []) C [.int l1, .int x3, .int l3] (fun r9 e9 => mX9_lacksHost C.flag N ol0 e9) mwX9_lacksHost miX9_lacksHost wd_1530 ol0 (by decide) rfl rfl rfl (Nat.le_of_ble_eq_true rfl) dX9_split_72 ⟨rfl, rfl, Nat.le_of_ble_eq_true rfl, Nat.le_of_ble_eq_true rfl, Nat.le_of_ble_eq_true rfl, Nat.le_of_ble_eq_true rfl⟩ (fun _ => rfl) (fun x7 ex7 => ?_)
        refine bd_if_ne C 89 dX9_split_75 (by decide) (fun c8 => ?_) (fun c8 => ?_)
        · exact bd_sub (hb89 w1 l0 l1 l2 l3 x4 ol0) [3, 4, 5, 6, 1] rfl
        · refine bd_aload_n C 3 dX9_split_78 rfl rfl ?_
          refine bd_iload_n C 4 dX9_split_79 rfl rfl ?_
          refine bd_iload_n C 6 dX9_split_80 rfl rfl ?_
          refine bd_iload C 1 dX9_split_81 rfl ?_
          refine bd_callV (vs := fun (r : Int32) => some (.int r)) (wf := fun _ => w1) (st := []) (st1 := fun x9 => Value.int x9 :: []) C [.int l1, .int l3, .int x4] (fun r9 e9 => mX9_lacksHost C.flag N ol0 e9) mwX9_lacksHost miX9_lacksHost wd_1530 ol0 (by decide) rfl rfl rfl (Nat.le_of_ble_eq_true rfl) dX9_split_83 ⟨rfl, rfl, Nat.le_of_ble_eq_true rfl, Nat.le_of_ble_eq_true rfl, Nat.le_of_ble_eq_true rfl, Nat.le_of_ble_eq_true rfl⟩ (fun _ => rfl) (fun x9 ex9 => ?_)
          refine bd_if_eq C 92 dX9_split_86 (by decide) (fun c10 => ?_) (fun c10 => ?_)
          · exact bd_sub (hb92 w1 l0 l1 l2 l3 x4 0 ol0) [3, 4, 5, 6, 1, 0] rfl
          · exact bd_sub (hb89 w1 l0 l1 l2 l3 x4 ol0) [3, 4, 5, 6, 1] rfl
      · refine bd_iconst C (v := 1) dX9_split_61 (by decide) ?_
        refine bd_istore C [(6, .int 1), (5, .int x4), (4, .int x3), (0, .ref l0), (1, .int l1), (2, .int l2), (3, .int l3)] dX9_split_62 (by decide) rfl ?_
        refine bd_goto C 92 dX9_split_64 (by decide) ?_
        exact bd_sub (hb92 w1 l0 l1 l2 l3 x4 1 ol0) [3, 4, 5, 6, 1, 0] rfl
    · refine bd_iconst C (v := 0) dX9_split_25 (by decide) ?_
      exact bd_iret C hret rfl _ _ rfl rfl dX9_split_26 (Nat.le_refl _) (Nat.le_refl _)
  unfold fX9_split
  refine bd_sub (lv' := [(0, .ref l0), (1, .int l1), (2, .int l2), (3, .int l3)]) ?_ [0, 1, 2, 3] rfl
  refine bd_aload_n C 0 dX9_split_0 rfl rfl ?_
  refine bd_aload_n C 0 dX9_split_1 rfl rfl ?_
  refine bd_iload_n C 1 dX9_split_2 rfl rfl ?_
  refine bd_iload_n C 2 dX9_split_3 rfl rfl ?_
  refine bd_callV (vs := fun (r : Int32) => some (.int r)) (wf := fun _ => w) (st := [.ref l0]) (st1 := fun x30 => Value.int x30 :: [.ref l0]) C [.int l1, .int l2] (fun r9 e9 => mX9_isSpan C.flag N ol0 e9) mwX9_isSpan miX9_isSpan wd_1550 ol0 (by decide) rfl rfl rfl (Nat.le_of_ble_eq_true rfl) dX9_split_4 ⟨rfl, rfl, Nat.le_of_ble_eq_true rfl, Nat.le_of_ble_eq_true rfl, Nat.le_of_ble_eq_true rfl, Nat.le_of_ble_eq_true rfl⟩ (fun _ => rfl) (fun x30 ex30 => ?_)
  refine bd_if_eq C 14 dX9_split_7 (by decide) (fun c31 => ?_) (fun c31 => ?_)
  · refine bd_iconst C (v := 1) dX9_split_14 (by decide) ?_
    exact bd_sub (hb15 w l0 l1 l2 l3 l0 1 ol0 ol0) [0, 1, 2, 3] rfl
  · refine bd_iconst C (v := 0) dX9_split_10 (by decide) ?_
    refine bd_goto C 15 dX9_split_11 (by decide) ?_
    exact bd_sub (hb15 w l0 l1 l2 l3 l0 0 ol0 ol0) [0, 1, 2, 3] rfl
abbrev rmX9_join : Room := { frames := 19, cells := 0, slots := 0, locals := 503 }
abbrev qX9_join (G : Gy) (F : Fr) (g : Bd) : (Int32 × Wd) → State → Prop := fun r => QM G F g 0 0 ((fun (r : Int32 × Wd) => some (.int r.1)) r) ((fun (r : Int32 × Wd) => r.2) r)
set_option maxRecDepth 20000 in
set_option maxHeartbeats 4000000 in
theorem mX9_join {l : Launch} (hf9 : l.stackTraces = false) {G : Gy} {F : Fr} (N : Nat) {w : Wd} {l0 : Nat} {l1 : Int32} {l2 : Int32} {r : Int32 × Wd} (ol0 : okF F l0 9) (e9 : fX9_join F N w l0 l1 l2 = some r) : Met l yX9_join [.code yX9_join cX9_join 7 (some .int)] rmX9_join (PcB G F w [.ref l0, .int l1, .int l2]) (QB G F ((fun (r : Int32 × Wd) => some (.int r.1)) r) ((fun (r : Int32 × Wd) => r.2) r)) 0 0 (AF F) := by
  refine bd_met (vs := fun (r : Int32 × Wd) => some (.int r.1)) (wf := fun (r : Int32 × Wd) => r.2) hf9 (by decide) (Nat.le_of_ble_eq_true rfl) e9 (fun g C hret hini => ?_)
  clear e9 r
  have hb114 : ∀  (w : Wd) (l0 : Nat) (l1 : Int32) (l2 : Int32) (l5 : Int32) (s0 : Nat) (s1 : Int32) (ol0 : okF F l0 9) (os0 : okF F s0 9), BD g G F 7 (qX9_join G F g) 0 0 (fX9_join_114 F N w l0 l1 l2 l5 s0 s1) w 114 [(0, .ref l0), (1, .int l1), (2, .int l2), (5, .int l5)] [.int s1, .ref s0] := by
    intro w l0 l1 l2 l5 s0 s1 ol0 os0
    unfold fX9_join_114
    refine bd_pI C fi906 ftX9 fu906 wd_1247 rfl rfl rfl dX9_join_114 os0 (fun w13 => ?_)
    refine bd_aload_n C 0 dX9_join_117 rfl rfl ?_
    refine bd_gI C fi906 fv906 wd_1247 dX9_join_118 ol0 ?_
    refine bd_if_le C 126 dX9_join_121 (by decide) (fun c14 => ?_) (fun c14 => ?_)
    · refine bd_aload_n C 0 dX9_join_126 rfl rfl ?_
      refine bd_callV (vs := fun _ => none) (wf := fun (r : Wd) => r) (st := []) (st1 := fun p15 => []) C [] (fun r9 e9 => mX9_keepState C.flag N ol0 e9) mwX9_keepState miX9_keepState wd_1410 ol0 (by decide) rfl rfl rfl (Nat.le_of_ble_eq_true rfl) dX9_join_127 ⟨rfl, rfl, Nat.le_of_ble_eq_true rfl, Nat.le_of_ble_eq_true rfl, Nat.le_of_ble_eq_true rfl, Nat.le_of_ble_eq_true rfl⟩ (fun _ => rfl) (fun p15 ep15 => ?_)
      refine bd_aload_n C 0 dX9_join_130 rfl rfl ?_
      refine bd_iload_n C 1 dX9_join_131 rfl rfl ?_
      refine bd_iload_n C 2 dX9_join_132 rfl rfl ?_
      refine bd_iconst C (v := 1) dX9_join_133 (by decide) ?_
      refine bd_iadd C dX9_join_134 ?_
      refine bd_callV (vs := fun _ => none) (wf := fun (r : Wd) => r) (st := []) (st1 := fun p16 => []) C [.int l1, .int (l2 + 1)] (fun r9 e9 => mX9_takeOut C.flag N ol0 e9) mwX9_takeOut miX9_takeOut wd_1554 ol0 (by decide) rfl rfl rfl (Nat.le_of_ble_eq_true rfl) dX9_join_135 ⟨rfl, rfl, Nat.le_of_ble_eq_true rfl, Nat.le_of_ble_eq_true rfl, Nat.le_of_ble_eq_true rfl, Nat.le_of_ble_eq_true rfl⟩ (fun _ => rfl) (fun p16 ep16 => ?_)
      refine bd_aload_n C 0 dX9_join_138 rfl rfl ?_
      refine bd_gR C fi900 fv900 wd_1241 dX9_join_139 ol0 (fun r17 gr17 hr17 => ?_)
      refine bd_aload_n C 0 dX9_join_142 rfl rfl ?_
      refine bd_iload_n C 1 dX9_join_143 rfl rfl ?_
      refine bd_iload_n C 2 dX9_join_144 rfl rfl ?_
      refine bd_callV (vs := fun (r : Int32) => some (.int r)) (wf := fun _ => p16) (st := [.ref r17]) (st1 := fun x18 => Value.int x18 :: [.ref r17]) C [.int l1, .int l2] (fun r9 e9 => mX9_at C.flag N ol0 e9) mwX9_at miX9_at wd_1463 ol0 (by decide) rfl rfl rfl (Nat.le_of_ble_eq_true rfl) dX9_join_145 ⟨rfl, rfl, Nat.le_of_ble_eq_true rfl, Nat.le_of_ble_eq_true rfl, Nat.le_of_ble_eq_true rfl, Nat.le_of_ble_eq_true rfl⟩ (fun _ => rfl) (fun x18 ex18 => ?_)
      refine bd_iconst C (v := 1) dX9_join_148 (by decide) ?_
      refine bd_iadd C dX9_join_149 ?_
      refine bd_iload C 3 dX9_join_150 rfl ?_
      refine bd_i2l C dX9_join_152 ?_
      refine bd_last C dX9_join_153 hr17 (fun w19 => ?_)
      refine bd_aload_n C 0 dX9_join_154 rfl rfl ?_
      refine bd_iconst C (v := 2) dX9_join_155 (by decide) ?_
      refine bd_callV (vs := fun (r : Int32 × Wd) => some (.int r.1)) (wf := fun (r : Int32 × Wd) => r.2) (st := []) (st1 := fun p20 => Value.int p20.1 :: []) C [.int 2] (fun r9 e9 => mX9_stays C.flag N ol0 e9) mwX9_stays miX9_stays wd_1566 ol0 (by decide) rfl rfl rfl (Nat.le_of_ble_eq_true rfl) dX9_join_156 ⟨rfl, rfl, Nat.le_of_ble_eq_true rfl, Nat.le_of_ble_eq_true rfl, Nat.le_of_ble_eq_true rfl, Nat.le_of_ble_eq_true rfl⟩ (fun _ => rfl) (fun p20 ep20 => ?_)
      refine bd_if_ne C 164 dX9_join_159 (by decide) (fun c21 => ?_) (fun c21 => ?_)
      · refine bd_aload_n C 0 dX9_join_164 rfl rfl ?_
        refine bd_callV (vs := fun _ => none) (wf := fun (r : Wd) => r) (st := []) (st1 := fun p22 => []) C [] (fun r9 e9 => mX9_change C.flag N ol0 e9) mwX9_change miX9_change wd_1415 ol0 (by decide) rfl rfl rfl (Nat.le_of_ble_eq_true rfl) dX9_join_165 ⟨rfl, rfl, Nat.le_of_ble_eq_true rfl, Nat.le_of_ble_eq_true rfl, Nat.le_of_ble_eq_true rfl, Nat.le_of_ble_eq_true rfl⟩ (fun _ => rfl) (fun p22 ep22 => ?_)
        refine bd_aload_n C 0 dX9_join_168 rfl rfl ?_
        refine bd_iload_n C 1 dX9_join_169 rfl rfl ?_
        refine bd_callV (vs := fun (r : Int32) => some (.int r)) (wf := fun _ => p22) (st := []) (st1 := fun x23 => Value.int x23 :: []) C [.int l1] (fun r9 e9 => mX9_many C.flag N ol0 e9) mwX9_many miX9_many wd_1436 ol0 (by decide) rfl rfl rfl (Nat.le_of_ble_eq_true rfl) dX9_join_170 ⟨rfl, rfl, Nat.le_of_ble_eq_true rfl, Nat.le_of_ble_eq_true rfl, Nat.le_of_ble_eq_true rfl, Nat.le_of_ble_eq_true rfl⟩ (fun _ => rfl) (fun x23 ex23 => ?_)
        exact bd_iret C hret rfl _ _ rfl rfl dX9_join_173 (Nat.le_refl _) (Nat.le_refl _)
      · refine bd_iconst C (v := 0) dX9_join_162 (by decide) ?_
        exact bd_iret C hret rfl _ _ rfl rfl dX9_join_163 (Nat.le_refl _) (Nat.le_refl _)
    · refine bd_iconst C (v := 0) dX9_join_124 (by decide) ?_
      exact bd_iret C hret rfl _ _ rfl rfl dX9_join_125 (Nat.le_refl _) (Nat.le_refl _)
  have hb96 : ∀  (w : Wd) (l0 : Nat) (l1 : Int32) (l2 : Int32) (l5 : Int32) (s0 : Int32) (ol0 : okF F l0 9), BD g G F 7 (qX9_join G F g) 0 0 (fX9_join_96 F N w l0 l1 l2 l5 s0) w 96 [(0, .ref l0), (1, .int l1), (2, .int l2), (5, .int l5)] [.int s0] := by
    intro w l0 l1 l2 l5 s0 ol0
    unfold fX9_join_96
    refine bd_istore C [(6, .int s0), (0, .ref l0), (1, .int l1), (2, .int l2), (5, .int l5)] dX9_join_96 (by decide) rfl ?_
    refine bd_aload_n C 1 dX9_join_98 rfl rfl ?_
    refine bd_aload_n C 1 dX9_join_99 rfl rfl ?_
    refine bd_iload C 0 dX9_join_100 rfl ?_
    refine bd_iconst C (v := 0) dX9_join_102 (by decide) ?_
    refine bd_callV (vs := fun (r : Int32 × Wd) => some (.int r.1)) (wf := fun (r : Int32 × Wd) => r.2) (st := [.ref l0]) (st1 := fun p11 => Value.int p11.1 :: [.ref l0]) C [.int s0, .int 0] (fun r9 e9 => mX9_isRefused C.flag N ol0 e9) mwX9_isRefused miX9_isRefused wd_1514 ol0 (by decide) rfl rfl rfl (Nat.le_of_ble_eq_true rfl) dX9_join_103 ⟨rfl, rfl, Nat.le_of_ble_eq_true rfl, Nat.le_of_ble_eq_true rfl, Nat.le_of_ble_eq_true rfl, Nat.le_of_ble_eq_true rfl⟩ (fun _ => rfl) (fun p11 ep11 => ?_)
    refine bd_if_eq C 113 dX9_join_106 (by decide) (fun c12 => ?_) (fun c12 => ?_)
    · refine bd_iconst C (v := 0) dX9_join_113 (by decide) ?_
      exact bd_sub (hb114 p11.2 l0 l1 l2 l5 l0 0 ol0 ol0) [1, 2, 3, 4] rfl
    · refine bd_iconst C (v := 2) dX9_join_109 (by decide) ?_
      refine bd_goto C 114 dX9_join_110 (by decide) ?_
      exact bd_sub (hb114 p11.2 l0 l1 l2 l5 l0 2 ol0 ol0) [1, 2, 3, 4] rfl
  have hb69 : ∀  (w : Wd) (l0 : Nat) (l1 : Int32) (l2 : Int32) (l3 : Int32) (l4 : Int32) (s0 : Int32) (ol0 : okF F l0 9), BD g G F 7 (qX9_join G F g) 0 0 (fX9_join_69 F N w l0 l1 l2 l3 l4 s0) w 69 [(0, .ref l0), (1, .int l1), (2, .int l2), (3, .int l3), (4, .int l4)] [.int s0] := by
    intro w l0 l1 l2 l3 l4 s0 ol0
    unfold fX9_join_69
    refine bd_istore C [(5, .int s0), (0, .ref l0), (1, .int l1), (2, .int l2), (3, .int l3), (4, .int l4)] dX9_join_69 (by decide) rfl ?_
    refine bd_iload C 5 dX9_join_71 rfl ?_
    refine bd_if_eq C 80 dX9_join_73 (by decide) (fun c8 => ?_) (fun c8 => ?_)
    · refine bd_aload_n C 1 dX9_join_80 rfl rfl ?_
      refine bd_iload_n C 2 dX9_join_81 rfl rfl ?_
      refine bd_iload_n C 4 dX9_join_82 rfl rfl ?_
      refine bd_iload C 0 dX9_join_83 rfl ?_
      refine bd_callV (vs := fun (r : Int32) => some (.int r)) (wf := fun _ => w) (st := []) (st1 := fun x9 => Value.int x9 :: []) C [.int l1, .int l3, .int s0] (fun r9 e9 => mX9_lacksHost C.flag N ol0 e9) mwX9_lacksHost miX9_lacksHost wd_1530 ol0 (by decide) rfl rfl rfl (Nat.le_of_ble_eq_true rfl) dX9_join_85 ⟨rfl, rfl, Nat.le_of_ble_eq_true rfl, Nat.le_of_ble_eq_true rfl, Nat.le_of_ble_eq_true rfl, Nat.le_of_ble_eq_true rfl⟩ (fun _ => rfl) (fun x9 ex9 => ?_)
      refine bd_if_eq C 95 dX9_join_88 (by decide) (fun c10 => ?_) (fun c10 => ?_)
      · refine bd_iconst C (v := 0) dX9_join_95 (by decide) ?_
        exact bd_sub (hb96 w l0 l1 l2 s0 0 ol0) [1, 2, 3, 0] rfl
      · refine bd_iconst C (v := 3) dX9_join_91 (by decide) ?_
        refine bd_goto C 96 dX9_join_92 (by decide) ?_
        exact bd_sub (hb96 w l0 l1 l2 s0 3 ol0) [1, 2, 3, 0] rfl
    · refine bd_iconst C (v := 1) dX9_join_76 (by decide) ?_
      refine bd_goto C 96 dX9_join_77 (by decide) ?_
      exact bd_sub (hb96 w l0 l1 l2 s0 1 ol0) [1, 2, 3, 0] rfl
  have hb50 : ∀  (w : Wd) (l0 : Nat) (l1 : Int32) (l2 : Int32) (l3 : Int32) (s0 : Int32) (ol0 : okF F l0 9), BD g G F 7 (qX9_join G F g) 0 0 (fX9_join_50 F N w l0 l1 l2 l3 s0) w 50 [(0, .ref l0), (1, .int l1), (2, .int l2), (3, .int l3)] [.int s0] := by
    intro w l0 l1 l2 l3 s0 ol0
    unfold fX9_join_50
    refine bd_istore C [(4, .int s0), (0, .ref l0), (1, .int l1), (2, .int l2), (3, .int l3)] dX9_join_50 (by decide) rfl ?_
    refine bd_iload C 0 dX9_join_52 rfl ?_
    refine bd_if_eq C 61 dX9_join_54 (by decide) (fun c6 => ?_) (fun c6 => ?_)
    · refine bd_aload_n C 1 dX9_join_61 rfl rfl ?_
      refine bd_iload_n C 2 dX9_join_62 rfl rfl ?_
      refine bd_iload_n C 3 dX9_join_63 rfl rfl ?_
      refine bd_iconst C (v := 1) dX9_join_64 (by decide) ?_
      refine bd_iadd C dX9_join_65 ?_
      refine bd_callV (vs := fun (r : Int32) => some (.int r)) (wf := fun _ => w) (st := []) (st1 := fun x7 => Value.int x7 :: []) C [.int l1, .int (l2 + 1)] (fun r9 e9 => mX9_end C.flag N ol0 e9) mwX9_end miX9_end wd_1526 ol0 (by decide) rfl rfl rfl (Nat.le_of_ble_eq_true rfl) dX9_join_66 ⟨rfl, rfl, Nat.le_of_ble_eq_true rfl, Nat.le_of_ble_eq_true rfl, Nat.le_of_ble_eq_true rfl, Nat.le_of_ble_eq_true rfl⟩ (fun _ => rfl) (fun x7 ex7 => ?_)
      exact bd_sub (hb69 w l0 l1 l2 l3 s0 x7 ol0) [1, 2, 3, 4, 0] rfl
    · refine bd_iconst C (v := 0) dX9_join_57 (by decide) ?_
      refine bd_goto C 69 dX9_join_58 (by decide) ?_
      exact bd_sub (hb69 w l0 l1 l2 l3 s0 0 ol0) [1, 2, 3, 4, 0] rfl
  have hb15 : ∀  (w : Wd) (l0 : Nat) (l1 : Int32) (l2 : Int32) (s0 : Nat) (s1 : Int32) (ol0 : okF F l0 9) (os0 : okF F s0 9), BD g G F 7 (qX9_join G F g) 0 0 (fX9_join_15 F N w l0 l1 l2 s0 s1) w 15 [(0, .ref l0), (1, .int l1), (2, .int l2)] [.int s1, .ref s0] := by
    intro w l0 l1 l2 s0 s1 ol0 os0
    unfold fX9_join_15
    refine bd_pI C fi906 ftX9 fu906 wd_1247 rfl rfl rfl dX9_join_15 os0 (fun w1 => ?_)
    refine bd_aload_n C 0 dX9_join_18 rfl rfl ?_
    refine bd_gI C fi906 fv906 wd_1247 dX9_join_19 ol0 ?_
    refine bd_if_le C 27 dX9_join_22 (by decide) (fun c2 => ?_) (fun c2 => ?_)
    · refine bd_aload_n C 0 dX9_join_27 rfl rfl ?_
      refine bd_iload_n C 1 dX9_join_28 rfl rfl ?_
      refine bd_iload_n C 2 dX9_join_29 rfl rfl ?_
      refine bd_callV (vs := fun (r : Int32) => some (.int r)) (wf := fun _ => w1) (st := []) (st1 := fun x3 => Value.int x3 :: []) C [.int l1, .int l2] (fun r9 e9 => mX9_first C.flag N ol0 e9) mwX9_first miX9_first wd_1522 ol0 (by decide) rfl rfl rfl (Nat.le_of_ble_eq_true rfl) dX9_join_30 ⟨rfl, rfl, Nat.le_of_ble_eq_true rfl, Nat.le_of_ble_eq_true rfl, Nat.le_of_ble_eq_true rfl, Nat.le_of_ble_eq_true rfl⟩ (fun _ => rfl) (fun x3 ex3 => ?_)
      refine bd_istore_n C [(3, .int x3), (0, .ref l0), (1, .int l1), (2, .int l2)] dX9_join_33 rfl (by decide) rfl ?_
      refine bd_iload_n C 3 dX9_join_34 rfl rfl ?_
      refine bd_aload_n C 1 dX9_join_35 rfl rfl ?_
      refine bd_iload_n C 2 dX9_join_36 rfl rfl ?_
      refine bd_callV (vs := fun (r : Int32) => some (.int r)) (wf := fun _ => w1) (st := [.int l2]) (st1 := fun x4 => Value.int x4 :: [.int l2]) C [.int l1] (fun r9 e9 => mX9_many C.flag N ol0 e9) mwX9_many miX9_many wd_1436 ol0 (by decide) rfl rfl rfl (Nat.le_of_ble_eq_true rfl) dX9_join_37 ⟨rfl, rfl, Nat.le_of_ble_eq_true rfl, Nat.le_of_ble_eq_true rfl, Nat.le_of_ble_eq_true rfl, Nat.le_of_ble_eq_true rfl⟩ (fun _ => rfl) (fun x4 ex4 => ?_)
      refine bd_iconst C (v := 1) dX9_join_40 (by decide) ?_
      refine bd_isub C dX9_join_41 ?_
      refine bd_icmp_ne C 49 dX9_join_42 (by decide) (fun c5 => ?_) (fun c5 => ?_)
      · refine bd_iconst C (v := 0) dX9_join_49 (by decide) ?_
        exact bd_sub (hb50 w1 l0 l1 l2 x3 0 ol0) [1, 2, 3, 0] rfl
      · refine bd_iconst C (v := 1) dX9_join_45 (by decide) ?_
        refine bd_goto C 50 dX9_join_46 (by decide) ?_
        exact bd_sub (hb50 w1 l0 l1 l2 x3 1 ol0) [1, 2, 3, 0] rfl
    · refine bd_iconst C (v := 0) dX9_join_25 (by decide) ?_
      exact bd_iret C hret rfl _ _ rfl rfl dX9_join_26 (Nat.le_refl _) (Nat.le_refl _)
  unfold fX9_join
  refine bd_sub (lv' := [(0, .ref l0), (1, .int l1), (2, .int l2)]) ?_ [0, 1, 2] rfl
  refine bd_aload_n C 0 dX9_join_0 rfl rfl ?_
  refine bd_aload_n C 0 dX9_join_1 rfl rfl ?_
  refine bd_iload_n C 1 dX9_join_2 rfl rfl ?_
  refine bd_iload_n C 2 dX9_join_3 rfl rfl ?_
  refine bd_callV (vs := fun (r : Int32) => some (.int r)) (wf := fun _ => w) (st := [.ref l0]) (st1 := fun x24 => Value.int x24 :: [.ref l0]) C [.int l1, .int l2] (fun r9 e9 => mX9_isSpan C.flag N ol0 e9) mwX9_isSpan miX9_isSpan wd_1550 ol0 (by decide) rfl rfl rfl (Nat.le_of_ble_eq_true rfl) dX9_join_4 ⟨rfl, rfl, Nat.le_of_ble_eq_true rfl, Nat.le_of_ble_eq_true rfl, Nat.le_of_ble_eq_true rfl, Nat.le_of_ble_eq_true rfl⟩ (fun _ => rfl) (fun x24 ex24 => ?_)
  refine bd_if_eq C 14 dX9_join_7 (by decide) (fun c25 => ?_) (fun c25 => ?_)
  · refine bd_iconst C (v := 1) dX9_join_14 (by decide) ?_
    exact bd_sub (hb15 w l0 l1 l2 l0 1 ol0 ol0) [0, 1, 2] rfl
  · refine bd_iconst C (v := 0) dX9_join_10 (by decide) ?_
    refine bd_goto C 15 dX9_join_11 (by decide) ?_
    exact bd_sub (hb15 w l0 l1 l2 l0 0 ol0 ol0) [0, 1, 2] rfl
abbrev rmX9_hosted : Room := { frames := 15, cells := 0, slots := 0, locals := 415 }
abbrev qX9_hosted (G : Gy) (F : Fr) (g : Bd) (w : Wd) : Int32 → State → Prop := fun r => QM G F g 0 0 ((fun (r : Int32) => some (.int r)) r) ((fun _ => w) r)
set_option maxRecDepth 20000 in
set_option maxHeartbeats 4000000 in
theorem mX9_hosted {l : Launch} (hf9 : l.stackTraces = false) {G : Gy} {F : Fr} (N : Nat) {w : Wd} {l0 : Nat} {l1 : Int32} {l2 : Int32} {r : Int32} (ol0 : okF F l0 9) (e9 : fX9_hosted F N w l0 l1 l2 = some r) : Met l yX9_hosted [.code yX9_hosted cX9_hosted 6 (some .int)] rmX9_hosted (PcB G F w [.ref l0, .int l1, .int l2]) (QB G F ((fun (r : Int32) => some (.int r)) r) ((fun _ => w) r)) 0 0 (AF F) := by
  refine bd_met (vs := fun (r : Int32) => some (.int r)) (wf := fun _ => w) hf9 (by decide) (Nat.le_of_ble_eq_true rfl) e9 (fun g C hret hini => ?_)
  clear e9 r
  have hb70 : ∀ (k5 : Nat → Int32 → Int32 → Int32 → Int32 → Option (Int32)), (∀ (l0 : Nat) (l1 : Int32) (l2 : Int32) (l3 : Int32) (l4 : Int32) (ol0 : okF F l0 9), BD g G F 6 (qX9_hosted G F g w) 0 0 (k5 l0 l1 l2 l3 l4) w 5 [(0, .ref l0), (1, .int l1), (2, .int l2), (3, .int l3), (4, .int l4)] []) → ∀ (k17 : Nat → Int32 → Int32 → Int32 → Int32 → Int32 → Option (Int32)), (∀ (l0 : Nat) (l1 : Int32) (l2 : Int32) (l3 : Int32) (l4 : Int32) (l5 : Int32) (ol0 : okF F l0 9), BD g G F 6 (qX9_hosted G F g w) 0 0 (k17 l0 l1 l2 l3 l4 l5) w 17 [(0, .ref l0), (1, .int l1), (2, .int l2), (3, .int l3), (4, .int l4), (5, .int l5)] []) → ∀  (l0 : Nat) (l1 : Int32) (l2 : Int32) (l4 : Int32) (l5 : Int32) (s0 : Int32) (s1 : Int32) (ol0 : okF F l0 9), BD g G F 6 (qX9_hosted G F g w) 0 0 (fX9_hosted_70 F N w k5 k17 l0 l1 l2 l4 l5 s0 s1) w 70 [(0, .ref l0), (1, .int l1), (2, .int l2), (4, .int l4), (5, .int l5)] [.int s1, .int s0] := by
    intro k5 hk5 k17 hk17
    intro l0 l1 l2 l4 l5 s0 s1 ol0
    unfold fX9_hosted_70
    refine bd_iadd C dX9_hosted_70 ?_
    refine bd_bnd (tp := Value.int) (fun v11 ev11 => ?_)
    refine bd_istore_n C [(3, .int v11), (0, .ref l0), (1, .int l1), (2, .int l2), (4, .int l4), (5, .int l5)] dX9_hosted_71 rfl (by decide) rfl ?_
    refine bd_iinc C (v := l5 + 1) 5 [(5, .int (l5 + 1)), (3, .int v11), (0, .ref l0), (1, .int l1), (2, .int l2), (4, .int l4)] dX9_hosted_72 rfl rfl (by decide) rfl ?_
    refine bd_goto C 17 dX9_hosted_75 (by decide) ?_
    exact bd_sub (hk17 l0 l1 l2 v11 l4 (l5 + 1) ol0) [2, 3, 4, 1, 5, 0] rfl
  have hb78 : ∀ (k5 : Nat → Int32 → Int32 → Int32 → Int32 → Option (Int32)), (∀ (l0 : Nat) (l1 : Int32) (l2 : Int32) (l3 : Int32) (l4 : Int32) (ol0 : okF F l0 9), BD g G F 6 (qX9_hosted G F g w) 0 0 (k5 l0 l1 l2 l3 l4) w 5 [(0, .ref l0), (1, .int l1), (2, .int l2), (3, .int l3), (4, .int l4)] []) → ∀  (l0 : Nat) (l1 : Int32) (l2 : Int32) (l3 : Int32) (l4 : Int32) (ol0 : okF F l0 9), BD g G F 6 (qX9_hosted G F g w) 0 0 (fX9_hosted_78 F N w k5 l0 l1 l2 l3 l4) w 78 [(0, .ref l0), (1, .int l1), (2, .int l2), (3, .int l3), (4, .int l4)] [] := by
    intro k5 hk5
    intro l0 l1 l2 l3 l4 ol0
    unfold fX9_hosted_78
    refine bd_iinc C (v := l4 + 1) 4 [(4, .int (l4 + 1)), (0, .ref l0), (1, .int l1), (2, .int l2), (3, .int l3)] dX9_hosted_78 rfl rfl (by decide) rfl ?_
    refine bd_goto C 5 dX9_hosted_81 (by decide) ?_
    exact bd_sub (hk5 l0 l1 l2 l3 (l4 + 1) ol0) [1, 2, 3, 4, 0] rfl
  have hb17 : ∀ (k5 : Nat → Int32 → Int32 → Int32 → Int32 → Option (Int32)), (∀ (l0 : Nat) (l1 : Int32) (l2 : Int32) (l3 : Int32) (l4 : Int32) (ol0 : okF F l0 9), BD g G F 6 (qX9_hosted G F g w) 0 0 (k5 l0 l1 l2 l3 l4) w 5 [(0, .ref l0), (1, .int l1), (2, .int l2), (3, .int l3), (4, .int l4)] []) → ∀ (n : Nat) (l0 : Nat) (l1 : Int32) (l2 : Int32) (l3 : Int32) (l4 : Int32) (l5 : Int32) (ol0 : okF F l0 9), BD g G F 6 (qX9_hosted G F g w) 0 0 (fX9_hosted_17 F N w k5 n l0 l1 l2 l3 l4 l5) w 17 [(0, .ref l0), (1, .int l1), (2, .int l2), (3, .int l3), (4, .int l4), (5, .int l5)] [] := by
    intro k5 hk5
    intro n
    induction n with
    | zero =>
      intro l0 l1 l2 l3 l4 l5 ol0
      unfold fX9_hosted_17
      exact bd_none
    | succ n ih =>
      intro l0 l1 l2 l3 l4 l5 ol0
      unfold fX9_hosted_17
      refine bd_iload C 5 dX9_hosted_17 rfl ?_
      refine bd_aload_n C 0 dX9_hosted_19 rfl rfl ?_
      refine bd_iload C 4 dX9_hosted_20 rfl ?_
      refine bd_callV (vs := fun (r : Int32) => some (.int r)) (wf := fun _ => w) (st := [.int l5]) (st1 := fun x3 => Value.int x3 :: [.int l5]) C [.int l4] (fun r9 e9 => mX9_many C.flag N ol0 e9) mwX9_many miX9_many wd_1436 ol0 (by decide) rfl rfl rfl (Nat.le_of_ble_eq_true rfl) dX9_hosted_22 ⟨rfl, rfl, Nat.le_of_ble_eq_true rfl, Nat.le_of_ble_eq_true rfl, Nat.le_of_ble_eq_true rfl, Nat.le_of_ble_eq_true rfl⟩ (fun _ => rfl) (fun x3 ex3 => ?_)
      refine bd_icmp_ge C 78 dX9_hosted_25 (by decide) (fun c4 => ?_) (fun c4 => ?_)
      · exact bd_sub (hb78 _ hk5 l0 l1 l2 l3 l4 ol0) [0, 1, 2, 3, 4] rfl
      · refine bd_aload_n C 0 dX9_hosted_28 rfl rfl ?_
        refine bd_iload C 4 dX9_hosted_29 rfl ?_
        refine bd_callV (vs := fun (r : Int32) => some (.int r)) (wf := fun _ => w) (st := []) (st1 := fun x5 => Value.int x5 :: []) C [.int l4] (fun r9 e9 => mX9_parent C.flag N ol0 e9) mwX9_parent miX9_parent wd_1451 ol0 (by decide) rfl rfl rfl (Nat.le_of_ble_eq_true rfl) dX9_hosted_31 ⟨rfl, rfl, Nat.le_of_ble_eq_true rfl, Nat.le_of_ble_eq_true rfl, Nat.le_of_ble_eq_true rfl, Nat.le_of_ble_eq_true rfl⟩ (fun _ => rfl) (fun x5 ex5 => ?_)
        refine bd_iload_n C 1 dX9_hosted_34 rfl rfl ?_
        refine bd_icmp_ne C 78 dX9_hosted_35 (by decide) (fun c6 => ?_) (fun c6 => ?_)
        · exact bd_sub (hb78 _ hk5 l0 l1 l2 l3 l4 ol0) [0, 1, 2, 3, 4] rfl
        · refine bd_iload_n C 3 dX9_hosted_38 rfl rfl ?_
          refine bd_aload_n C 0 dX9_hosted_39 rfl rfl ?_
          refine bd_iload C 4 dX9_hosted_40 rfl ?_
          refine bd_aload_n C 0 dX9_hosted_42 rfl rfl ?_
          refine bd_iload C 4 dX9_hosted_43 rfl ?_
          refine bd_iload C 5 dX9_hosted_45 rfl ?_
          refine bd_callV (vs := fun (r : Int32) => some (.int r)) (wf := fun _ => w) (st := [.int l4, .ref l0, .int l3]) (st1 := fun x7 => Value.int x7 :: [.int l4, .ref l0, .int l3]) C [.int l4, .int l5] (fun r9 e9 => mX9_first C.flag N ol0 e9) mwX9_first miX9_first wd_1522 ol0 (by decide) rfl rfl rfl (Nat.le_of_ble_eq_true rfl) dX9_hosted_47 ⟨rfl, rfl, Nat.le_of_ble_eq_true rfl, Nat.le_of_ble_eq_true rfl, Nat.le_of_ble_eq_true rfl, Nat.le_of_ble_eq_true rfl⟩ (fun _ => rfl) (fun x7 ex7 => ?_)
          refine bd_aload_n C 0 dX9_hosted_50 rfl rfl ?_
          refine bd_iload C 4 dX9_hosted_51 rfl ?_
          refine bd_iload C 5 dX9_hosted_53 rfl ?_
          refine bd_callV (vs := fun (r : Int32) => some (.int r)) (wf := fun _ => w) (st := [.int x7, .int l4, .ref l0, .int l3]) (st1 := fun x8 => Value.int x8 :: [.int x7, .int l4, .ref l0, .int l3]) C [.int l4, .int l5] (fun r9 e9 => mX9_end C.flag N ol0 e9) mwX9_end miX9_end wd_1526 ol0 (by decide) rfl rfl rfl (Nat.le_of_ble_eq_true rfl) dX9_hosted_55 ⟨rfl, rfl, Nat.le_of_ble_eq_true rfl, Nat.le_of_ble_eq_true rfl, Nat.le_of_ble_eq_true rfl, Nat.le_of_ble_eq_true rfl⟩ (fun _ => rfl) (fun x8 ex8 => ?_)
          refine bd_callV (vs := fun (r : Int32) => some (.int r)) (wf := fun _ => w) (st := [.int l3]) (st1 := fun x9 => Value.int x9 :: [.int l3]) C [.int l4, .int x7, .int x8] (fun r9 e9 => mX9_hostOf C.flag N ol0 e9) mwX9_hostOf miX9_hostOf wd_1538 ol0 (by decide) rfl rfl rfl (Nat.le_of_ble_eq_true rfl) dX9_hosted_58 ⟨rfl, rfl, Nat.le_of_ble_eq_true rfl, Nat.le_of_ble_eq_true rfl, Nat.le_of_ble_eq_true rfl, Nat.le_of_ble_eq_true rfl⟩ (fun _ => rfl) (fun x9 ex9 => ?_)
          refine bd_iload_n C 2 dX9_hosted_61 rfl rfl ?_
          refine bd_icmp_ne C 69 dX9_hosted_62 (by decide) (fun c10 => ?_) (fun c10 => ?_)
          · refine bd_iconst C (v := 0) dX9_hosted_69 (by decide) ?_
            exact bd_sub (hb70 _ hk5 _ ih l0 l1 l2 l4 l5 l3 0 ol0) [0, 1, 2, 4, 5] rfl
          · refine bd_iconst C (v := 1) dX9_hosted_65 (by decide) ?_
            refine bd_goto C 70 dX9_hosted_66 (by decide) ?_
            exact bd_sub (hb70 _ hk5 _ ih l0 l1 l2 l4 l5 l3 1 ol0) [0, 1, 2, 4, 5] rfl
  have hb5 : ∀ (n : Nat) (l0 : Nat) (l1 : Int32) (l2 : Int32) (l3 : Int32) (l4 : Int32) (ol0 : okF F l0 9), BD g G F 6 (qX9_hosted G F g w) 0 0 (fX9_hosted_5 F N w n l0 l1 l2 l3 l4) w 5 [(0, .ref l0), (1, .int l1), (2, .int l2), (3, .int l3), (4, .int l4)] [] := by
    intro n
    induction n with
    | zero =>
      intro l0 l1 l2 l3 l4 ol0
      unfold fX9_hosted_5
      exact bd_none
    | succ n ih =>
      intro l0 l1 l2 l3 l4 ol0
      unfold fX9_hosted_5
      refine bd_iload C 4 dX9_hosted_5 rfl ?_
      refine bd_aload_n C 0 dX9_hosted_7 rfl rfl ?_
      refine bd_callV (vs := fun (r : Int32) => some (.int r)) (wf := fun _ => w) (st := [.int l4]) (st1 := fun x1 => Value.int x1 :: [.int l4]) C [] (fun r9 e9 => mX9_tiers C.flag N ol0 e9) mwX9_tiers miX9_tiers wd_1391 ol0 (by decide) rfl rfl rfl (Nat.le_of_ble_eq_true rfl) dX9_hosted_8 ⟨rfl, rfl, Nat.le_of_ble_eq_true rfl, Nat.le_of_ble_eq_true rfl, Nat.le_of_ble_eq_true rfl, Nat.le_of_ble_eq_true rfl⟩ (fun _ => rfl) (fun x1 ex1 => ?_)
      refine bd_icmp_ge C 84 dX9_hosted_11 (by decide) (fun c2 => ?_) (fun c2 => ?_)
      · refine bd_iload_n C 3 dX9_hosted_84 rfl rfl ?_
        exact bd_iret C hret rfl _ _ rfl rfl dX9_hosted_85 (Nat.le_refl _) (Nat.le_refl _)
      · refine bd_iconst C (v := 0) dX9_hosted_14 (by decide) ?_
        refine bd_istore C [(5, .int 0), (0, .ref l0), (1, .int l1), (2, .int l2), (3, .int l3), (4, .int l4)] dX9_hosted_15 (by decide) rfl ?_
        exact bd_sub (hb17 _ ih N l0 l1 l2 l3 l4 0 ol0) [1, 2, 3, 4, 5, 0] rfl
  unfold fX9_hosted
  refine bd_sub (lv' := [(0, .ref l0), (1, .int l1), (2, .int l2)]) ?_ [0, 1, 2] rfl
  refine bd_iconst C (v := 0) dX9_hosted_0 (by decide) ?_
  refine bd_istore_n C [(3, .int 0), (0, .ref l0), (1, .int l1), (2, .int l2)] dX9_hosted_1 rfl (by decide) rfl ?_
  refine bd_iconst C (v := 0) dX9_hosted_2 (by decide) ?_
  refine bd_istore C [(4, .int 0), (3, .int 0), (0, .ref l0), (1, .int l1), (2, .int l2)] dX9_hosted_3 (by decide) rfl ?_
  exact bd_sub (hb5 N l0 l1 l2 0 0 ol0) [2, 3, 4, 1, 0] rfl
abbrev rmX9_span : Room := { frames := 16, cells := 0, slots := 0, locals := 440 }
abbrev qX9_span (G : Gy) (F : Fr) (g : Bd) : (Int32 × Wd) → State → Prop := fun r => QM G F g 0 0 ((fun (r : Int32 × Wd) => some (.int r.1)) r) ((fun (r : Int32 × Wd) => r.2) r)
set_option maxRecDepth 20000 in
set_option maxHeartbeats 4000000 in
theorem mX9_span {l : Launch} (hf9 : l.stackTraces = false) {G : Gy} {F : Fr} (N : Nat) {w : Wd} {l0 : Nat} {l1 : Int32} {l2 : Int32} {l3 : Int32} {r : Int32 × Wd} (ol0 : okF F l0 9) (e9 : fX9_span F N w l0 l1 l2 l3 = some r) : Met l yX9_span [.code yX9_span cX9_span 4 (some .int)] rmX9_span (PcB G F w [.ref l0, .int l1, .int l2, .int l3]) (QB G F ((fun (r : Int32 × Wd) => some (.int r.1)) r) ((fun (r : Int32 × Wd) => r.2) r)) 0 0 (AF F) := by
  refine bd_met (vs := fun (r : Int32 × Wd) => some (.int r.1)) (wf := fun (r : Int32 × Wd) => r.2) hf9 (by decide) (Nat.le_of_ble_eq_true rfl) e9 (fun g C hret hini => ?_)
  clear e9 r
  have hb28 : ∀  (w : Wd) (l0 : Nat) (l1 : Int32) (l2 : Int32) (l3 : Int32) (s0 : Nat) (s1 : Int32) (ol0 : okF F l0 9) (os0 : okF F s0 9), BD g G F 4 (qX9_span G F g) 0 0 (fX9_span_28 F N w l0 l1 l2 l3 s0 s1) w 28 [(0, .ref l0), (1, .int l1), (2, .int l2), (3, .int l3)] [.int s1, .ref s0] := by
    intro w l0 l1 l2 l3 s0 s1 ol0 os0
    unfold fX9_span_28
    refine bd_pI C fi906 ftX9 fu906 wd_1247 rfl rfl rfl dX9_span_28 os0 (fun w1 => ?_)
    refine bd_aload_n C 0 dX9_span_31 rfl rfl ?_
    refine bd_gI C fi906 fv906 wd_1247 dX9_span_32 ol0 ?_
    refine bd_if_le C 40 dX9_span_35 (by decide) (fun c2 => ?_) (fun c2 => ?_)
    · refine bd_iload_n C 3 dX9_span_40 rfl rfl ?_
      refine bd_ite (fun c3 => ?_) (fun c3 => ?_)
      · refine bd_tableIn C (off := 31) 72 dX9_span_41 (by rw [c3]; decide) (by rw [c3]; decide) (by rw [c3]; rfl) (by decide) ?_
        refine bd_aload_n C 0 dX9_span_72 rfl rfl ?_
        refine bd_iload_n C 1 dX9_span_73 rfl rfl ?_
        refine bd_iload_n C 2 dX9_span_74 rfl rfl ?_
        refine bd_callV (vs := fun (r : Int32) => some (.int r)) (wf := fun _ => w1) (st := []) (st1 := fun x4 => Value.int x4 :: []) C [.int l1, .int l2] (fun r9 e9 => mX9_first C.flag N ol0 e9) mwX9_first miX9_first wd_1522 ol0 (by decide) rfl rfl rfl (Nat.le_of_ble_eq_true rfl) dX9_span_75 ⟨rfl, rfl, Nat.le_of_ble_eq_true rfl, Nat.le_of_ble_eq_true rfl, Nat.le_of_ble_eq_true rfl, Nat.le_of_ble_eq_true rfl⟩ (fun _ => rfl) (fun x4 ex4 => ?_)
        exact bd_iret C hret rfl _ _ rfl rfl dX9_span_78 (Nat.le_refl _) (Nat.le_refl _)
      · refine bd_ite (fun c5 => ?_) (fun c5 => ?_)
        · refine bd_tableIn C (off := 38) 79 dX9_span_41 (by rw [c5]; decide) (by rw [c5]; decide) (by rw [c5]; rfl) (by decide) ?_
          refine bd_aload_n C 0 dX9_span_79 rfl rfl ?_
          refine bd_iload_n C 1 dX9_span_80 rfl rfl ?_
          refine bd_iload_n C 2 dX9_span_81 rfl rfl ?_
          refine bd_callV (vs := fun (r : Int32) => some (.int r)) (wf := fun _ => w1) (st := []) (st1 := fun x6 => Value.int x6 :: []) C [.int l1, .int l2] (fun r9 e9 => mX9_end C.flag N ol0 e9) mwX9_end miX9_end wd_1526 ol0 (by decide) rfl rfl rfl (Nat.le_of_ble_eq_true rfl) dX9_span_82 ⟨rfl, rfl, Nat.le_of_ble_eq_true rfl, Nat.le_of_ble_eq_true rfl, Nat.le_of_ble_eq_true rfl, Nat.le_of_ble_eq_true rfl⟩ (fun _ => rfl) (fun x6 ex6 => ?_)
          exact bd_iret C hret rfl _ _ rfl rfl dX9_span_85 (Nat.le_refl _) (Nat.le_refl _)
        · refine bd_ite (fun c7 => ?_) (fun c7 => ?_)
          · refine bd_tableIn C (off := 45) 86 dX9_span_41 (by rw [c7]; decide) (by rw [c7]; decide) (by rw [c7]; rfl) (by decide) ?_
            refine bd_aload_n C 0 dX9_span_86 rfl rfl ?_
            refine bd_iload_n C 1 dX9_span_87 rfl rfl ?_
            refine bd_iload_n C 2 dX9_span_88 rfl rfl ?_
            refine bd_callV (vs := fun (r : Int64) => some (.long r)) (wf := fun _ => w1) (st := []) (st1 := fun x8 => Value.long x8 :: []) C [.int l1, .int l2] (fun r9 e9 => mX9_label C.flag N ol0 e9) mwX9_label miX9_label wd_1459 ol0 (by decide) rfl rfl rfl (Nat.le_of_ble_eq_true rfl) dX9_span_89 ⟨rfl, rfl, Nat.le_of_ble_eq_true rfl, Nat.le_of_ble_eq_true rfl, Nat.le_of_ble_eq_true rfl, Nat.le_of_ble_eq_true rfl⟩ (fun _ => rfl) (fun x8 ex8 => ?_)
            refine bd_callS (vs := fun (r : Int32) => some (.int r)) (wf := fun _ => w1) (st := []) (st1 := fun x9 => Value.int x9 :: []) C [.long x8] (fun r9 e9 => mX9_lengthOf C.flag N e9) mwX9_lengthOf miX9_lengthOf wd_1602 rfl rfl (Nat.le_of_ble_eq_true rfl) dX9_span_92 ⟨rfl, rfl, Nat.le_of_ble_eq_true rfl, Nat.le_of_ble_eq_true rfl, Nat.le_of_ble_eq_true rfl, Nat.le_of_ble_eq_true rfl⟩ (fun _ => rfl) (fun x9 ex9 => ?_)
            exact bd_iret C hret rfl _ _ rfl rfl dX9_span_95 (Nat.le_refl _) (Nat.le_refl _)
          · refine bd_ite (fun c10 => ?_) (fun c10 => ?_)
            · refine bd_tableIn C (off := 55) 96 dX9_span_41 (by rw [c10]; decide) (by rw [c10]; decide) (by rw [c10]; rfl) (by decide) ?_
              refine bd_aload_n C 0 dX9_span_96 rfl rfl ?_
              refine bd_iload_n C 1 dX9_span_97 rfl rfl ?_
              refine bd_aload_n C 0 dX9_span_98 rfl rfl ?_
              refine bd_iload_n C 1 dX9_span_99 rfl rfl ?_
              refine bd_iload_n C 2 dX9_span_100 rfl rfl ?_
              refine bd_callV (vs := fun (r : Int32) => some (.int r)) (wf := fun _ => w1) (st := [.int l1, .ref l0]) (st1 := fun x11 => Value.int x11 :: [.int l1, .ref l0]) C [.int l1, .int l2] (fun r9 e9 => mX9_first C.flag N ol0 e9) mwX9_first miX9_first wd_1522 ol0 (by decide) rfl rfl rfl (Nat.le_of_ble_eq_true rfl) dX9_span_101 ⟨rfl, rfl, Nat.le_of_ble_eq_true rfl, Nat.le_of_ble_eq_true rfl, Nat.le_of_ble_eq_true rfl, Nat.le_of_ble_eq_true rfl⟩ (fun _ => rfl) (fun x11 ex11 => ?_)
              refine bd_aload_n C 0 dX9_span_104 rfl rfl ?_
              refine bd_iload_n C 1 dX9_span_105 rfl rfl ?_
              refine bd_iload_n C 2 dX9_span_106 rfl rfl ?_
              refine bd_callV (vs := fun (r : Int32) => some (.int r)) (wf := fun _ => w1) (st := [.int x11, .int l1, .ref l0]) (st1 := fun x12 => Value.int x12 :: [.int x11, .int l1, .ref l0]) C [.int l1, .int l2] (fun r9 e9 => mX9_end C.flag N ol0 e9) mwX9_end miX9_end wd_1526 ol0 (by decide) rfl rfl rfl (Nat.le_of_ble_eq_true rfl) dX9_span_107 ⟨rfl, rfl, Nat.le_of_ble_eq_true rfl, Nat.le_of_ble_eq_true rfl, Nat.le_of_ble_eq_true rfl, Nat.le_of_ble_eq_true rfl⟩ (fun _ => rfl) (fun x12 ex12 => ?_)
              refine bd_callV (vs := fun (r : Int32) => some (.int r)) (wf := fun _ => w1) (st := []) (st1 := fun x13 => Value.int x13 :: []) C [.int l1, .int x11, .int x12] (fun r9 e9 => mX9_hostOf C.flag N ol0 e9) mwX9_hostOf miX9_hostOf wd_1538 ol0 (by decide) rfl rfl rfl (Nat.le_of_ble_eq_true rfl) dX9_span_110 ⟨rfl, rfl, Nat.le_of_ble_eq_true rfl, Nat.le_of_ble_eq_true rfl, Nat.le_of_ble_eq_true rfl, Nat.le_of_ble_eq_true rfl⟩ (fun _ => rfl) (fun x13 ex13 => ?_)
              exact bd_iret C hret rfl _ _ rfl rfl dX9_span_113 (Nat.le_refl _) (Nat.le_refl _)
            · refine bd_tableOut C 114 dX9_span_41 (tbl_out 4 _ (fun j hj => by match j, hj with | 0, _ => exact c3 | 1, _ => exact c5 | 2, _ => exact c7 | 3, _ => exact c10) (by decide)) (by decide) ?_
              refine bd_aload_n C 0 dX9_span_114 rfl rfl ?_
              refine bd_iload_n C 1 dX9_span_115 rfl rfl ?_
              refine bd_iload_n C 2 dX9_span_116 rfl rfl ?_
              refine bd_callV (vs := fun (r : Int32) => some (.int r)) (wf := fun _ => w1) (st := []) (st1 := fun x14 => Value.int x14 :: []) C [.int l1, .int l2] (fun r9 e9 => mX9_hosted C.flag N ol0 e9) mwX9_hosted miX9_hosted wd_1605 ol0 (by decide) rfl rfl rfl (Nat.le_of_ble_eq_true rfl) dX9_span_117 ⟨rfl, rfl, Nat.le_of_ble_eq_true rfl, Nat.le_of_ble_eq_true rfl, Nat.le_of_ble_eq_true rfl, Nat.le_of_ble_eq_true rfl⟩ (fun _ => rfl) (fun x14 ex14 => ?_)
              exact bd_iret C hret rfl _ _ rfl rfl dX9_span_120 (Nat.le_refl _) (Nat.le_refl _)
    · refine bd_iconst C (v := 0) dX9_span_38 (by decide) ?_
      exact bd_iret C hret rfl _ _ rfl rfl dX9_span_39 (Nat.le_refl _) (Nat.le_refl _)
  unfold fX9_span
  refine bd_sub (lv' := [(0, .ref l0), (1, .int l1), (2, .int l2), (3, .int l3)]) ?_ [0, 1, 2, 3] rfl
  refine bd_aload_n C 0 dX9_span_0 rfl rfl ?_
  refine bd_aload_n C 0 dX9_span_1 rfl rfl ?_
  refine bd_iload_n C 1 dX9_span_2 rfl rfl ?_
  refine bd_iload_n C 2 dX9_span_3 rfl rfl ?_
  refine bd_callV (vs := fun (r : Int32) => some (.int r)) (wf := fun _ => w) (st := [.ref l0]) (st1 := fun x15 => Value.int x15 :: [.ref l0]) C [.int l1, .int l2] (fun r9 e9 => mX9_isSpan C.flag N ol0 e9) mwX9_isSpan miX9_isSpan wd_1550 ol0 (by decide) rfl rfl rfl (Nat.le_of_ble_eq_true rfl) dX9_span_4 ⟨rfl, rfl, Nat.le_of_ble_eq_true rfl, Nat.le_of_ble_eq_true rfl, Nat.le_of_ble_eq_true rfl, Nat.le_of_ble_eq_true rfl⟩ (fun _ => rfl) (fun x15 ex15 => ?_)
  refine bd_if_ne C 14 dX9_span_7 (by decide) (fun c16 => ?_) (fun c16 => ?_)
  · refine bd_iload_n C 3 dX9_span_14 rfl rfl ?_
    refine bd_iconst C (v := 0) dX9_span_15 (by decide) ?_
    refine bd_iconst C (v := 4) dX9_span_16 (by decide) ?_
    refine bd_callS (vs := fun (r : Int32) => some (.int r)) (wf := fun _ => w) (st := [.ref l0]) (st1 := fun x17 => Value.int x17 :: [.ref l0]) C [.int l3, .int 0, .int 4] (fun r9 e9 => mX9_in C.flag N e9) mwX9_in miX9_in wd_1399 rfl rfl (Nat.le_of_ble_eq_true rfl) dX9_span_17 ⟨rfl, rfl, Nat.le_of_ble_eq_true rfl, Nat.le_of_ble_eq_true rfl, Nat.le_of_ble_eq_true rfl, Nat.le_of_ble_eq_true rfl⟩ (fun _ => rfl) (fun x17 ex17 => ?_)
    refine bd_if_ne C 27 dX9_span_20 (by decide) (fun c18 => ?_) (fun c18 => ?_)
    · refine bd_iconst C (v := 0) dX9_span_27 (by decide) ?_
      exact bd_sub (hb28 w l0 l1 l2 l3 l0 0 ol0 ol0) [0, 1, 2, 3] rfl
    · refine bd_iconst C (v := 2) dX9_span_23 (by decide) ?_
      refine bd_goto C 28 dX9_span_24 (by decide) ?_
      exact bd_sub (hb28 w l0 l1 l2 l3 l0 2 ol0 ol0) [0, 1, 2, 3] rfl
  · refine bd_iconst C (v := 1) dX9_span_10 (by decide) ?_
    refine bd_goto C 28 dX9_span_11 (by decide) ?_
    exact bd_sub (hb28 w l0 l1 l2 l3 l0 1 ol0 ol0) [0, 1, 2, 3] rfl
abbrev rmX9_letter : Room := { frames := 14, cells := 0, slots := 0, locals := 386 }
abbrev qX9_letter (G : Gy) (F : Fr) (g : Bd) : (Int32 × Wd) → State → Prop := fun r => QM G F g 0 0 ((fun (r : Int32 × Wd) => some (.int r.1)) r) ((fun (r : Int32 × Wd) => r.2) r)
set_option maxRecDepth 20000 in
set_option maxHeartbeats 4000000 in
theorem mX9_letter {l : Launch} (hf9 : l.stackTraces = false) {G : Gy} {F : Fr} (N : Nat) {w : Wd} {l0 : Nat} {l1 : Int32} {l2 : Int32} {l3 : Int32} {r : Int32 × Wd} (ol0 : okF F l0 9) (e9 : fX9_letter F N w l0 l1 l2 l3 = some r) : Met l yX9_letter [.code yX9_letter cX9_letter 6 (some .char)] rmX9_letter (PcB G F w [.ref l0, .int l1, .int l2, .int l3]) (QB G F ((fun (r : Int32 × Wd) => some (.int r.1)) r) ((fun (r : Int32 × Wd) => r.2) r)) 0 0 (AF F) := by
  refine bd_met (vs := fun (r : Int32 × Wd) => some (.int r.1)) (wf := fun (r : Int32 × Wd) => r.2) hf9 (by decide) (Nat.le_of_ble_eq_true rfl) e9 (fun g C hret hini => ?_)
  clear e9 r
  have hb38 : ∀  (w : Wd) (l0 : Nat) (l1 : Int32) (l2 : Int32) (l3 : Int32) (s0 : Nat) (s1 : Int32) (ol0 : okF F l0 9) (os0 : okF F s0 9), BD g G F 6 (qX9_letter G F g) 0 0 (fX9_letter_38 F N w l0 l1 l2 l3 s0 s1) w 38 [(0, .ref l0), (1, .int l1), (2, .int l2), (3, .int l3)] [.int s1, .ref s0] := by
    intro w l0 l1 l2 l3 s0 s1 ol0 os0
    unfold fX9_letter_38
    refine bd_pI C fi906 ftX9 fu906 wd_1247 rfl rfl rfl dX9_letter_38 os0 (fun w1 => ?_)
    refine bd_aload_n C 0 dX9_letter_41 rfl rfl ?_
    refine bd_gI C fi906 fv906 wd_1247 dX9_letter_42 ol0 ?_
    refine bd_if_le C 50 dX9_letter_45 (by decide) (fun c2 => ?_) (fun c2 => ?_)
    · refine bd_aload_n C 0 dX9_letter_50 rfl rfl ?_
      refine bd_iload_n C 1 dX9_letter_51 rfl rfl ?_
      refine bd_iload_n C 2 dX9_letter_52 rfl rfl ?_
      refine bd_callV (vs := fun (r : Int64) => some (.long r)) (wf := fun _ => w1) (st := []) (st1 := fun x3 => Value.long x3 :: []) C [.int l1, .int l2] (fun r9 e9 => mX9_label C.flag N ol0 e9) mwX9_label miX9_label wd_1459 ol0 (by decide) rfl rfl rfl (Nat.le_of_ble_eq_true rfl) dX9_letter_53 ⟨rfl, rfl, Nat.le_of_ble_eq_true rfl, Nat.le_of_ble_eq_true rfl, Nat.le_of_ble_eq_true rfl, Nat.le_of_ble_eq_true rfl⟩ (fun _ => rfl) (fun x3 ex3 => ?_)
      refine bd_lstore C [(4, .long x3), (0, .ref l0), (1, .int l1), (2, .int l2), (3, .int l3)] dX9_letter_56 (by decide) rfl ?_
      refine bd_lload C 0 dX9_letter_58 rfl ?_
      refine bd_bipush C (v := 7) dX9_letter_60 (by decide) ?_
      refine bd_lload C 0 dX9_letter_62 rfl ?_
      refine bd_callS (vs := fun (r : Int32) => some (.int r)) (wf := fun _ => w1) (st := [.int 7, .long x3]) (st1 := fun x4 => Value.int x4 :: [.int 7, .long x3]) C [.long x3] (fun r9 e9 => mX9_lengthOf C.flag N e9) mwX9_lengthOf miX9_lengthOf wd_1602 rfl rfl (Nat.le_of_ble_eq_true rfl) dX9_letter_64 ⟨rfl, rfl, Nat.le_of_ble_eq_true rfl, Nat.le_of_ble_eq_true rfl, Nat.le_of_ble_eq_true rfl, Nat.le_of_ble_eq_true rfl⟩ (fun _ => rfl) (fun x4 ex4 => ?_)
      refine bd_iconst C (v := 1) dX9_letter_67 (by decide) ?_
      refine bd_isub C dX9_letter_68 ?_
      refine bd_iload_n C 4 dX9_letter_69 rfl rfl ?_
      refine bd_isub C dX9_letter_70 ?_
      refine bd_imul C dX9_letter_71 ?_
      refine bd_lushr C dX9_letter_72 ?_
      refine bd_ldc2 C (v := 127) wd_1613 dX9_letter_73 ?_
      refine bd_land C dX9_letter_76 ?_
      refine bd_l2i C dX9_letter_77 ?_
      refine bd_i2c C dX9_letter_78 ?_
      refine bd_ckC (fun cz5 => ?_)
      exact bd_zret C hret rfl _ _ (nar_c cz5) rfl rfl dX9_letter_79 (Nat.le_refl _) (Nat.le_refl _)
    · refine bd_iconst C (v := 0) dX9_letter_48 (by decide) ?_
      exact bd_zret C hret rfl _ _ rfl rfl rfl dX9_letter_49 (Nat.le_refl _) (Nat.le_refl _)
  unfold fX9_letter
  refine bd_sub (lv' := [(0, .ref l0), (1, .int l1), (2, .int l2), (3, .int l3)]) ?_ [0, 1, 2, 3] rfl
  refine bd_aload_n C 0 dX9_letter_0 rfl rfl ?_
  refine bd_aload_n C 0 dX9_letter_1 rfl rfl ?_
  refine bd_iload_n C 1 dX9_letter_2 rfl rfl ?_
  refine bd_iload_n C 2 dX9_letter_3 rfl rfl ?_
  refine bd_callV (vs := fun (r : Int32) => some (.int r)) (wf := fun _ => w) (st := [.ref l0]) (st1 := fun x6 => Value.int x6 :: [.ref l0]) C [.int l1, .int l2] (fun r9 e9 => mX9_isSpan C.flag N ol0 e9) mwX9_isSpan miX9_isSpan wd_1550 ol0 (by decide) rfl rfl rfl (Nat.le_of_ble_eq_true rfl) dX9_letter_4 ⟨rfl, rfl, Nat.le_of_ble_eq_true rfl, Nat.le_of_ble_eq_true rfl, Nat.le_of_ble_eq_true rfl, Nat.le_of_ble_eq_true rfl⟩ (fun _ => rfl) (fun x6 ex6 => ?_)
  refine bd_if_ne C 14 dX9_letter_7 (by decide) (fun c7 => ?_) (fun c7 => ?_)
  · refine bd_iload_n C 3 dX9_letter_14 rfl rfl ?_
    refine bd_iconst C (v := 0) dX9_letter_15 (by decide) ?_
    refine bd_aload_n C 0 dX9_letter_16 rfl rfl ?_
    refine bd_iload_n C 1 dX9_letter_17 rfl rfl ?_
    refine bd_iload_n C 2 dX9_letter_18 rfl rfl ?_
    refine bd_callV (vs := fun (r : Int64) => some (.long r)) (wf := fun _ => w) (st := [.int 0, .int l3, .ref l0]) (st1 := fun x8 => Value.long x8 :: [.int 0, .int l3, .ref l0]) C [.int l1, .int l2] (fun r9 e9 => mX9_label C.flag N ol0 e9) mwX9_label miX9_label wd_1459 ol0 (by decide) rfl rfl rfl (Nat.le_of_ble_eq_true rfl) dX9_letter_19 ⟨rfl, rfl, Nat.le_of_ble_eq_true rfl, Nat.le_of_ble_eq_true rfl, Nat.le_of_ble_eq_true rfl, Nat.le_of_ble_eq_true rfl⟩ (fun _ => rfl) (fun x8 ex8 => ?_)
    refine bd_callS (vs := fun (r : Int32) => some (.int r)) (wf := fun _ => w) (st := [.int 0, .int l3, .ref l0]) (st1 := fun x9 => Value.int x9 :: [.int 0, .int l3, .ref l0]) C [.long x8] (fun r9 e9 => mX9_lengthOf C.flag N e9) mwX9_lengthOf miX9_lengthOf wd_1602 rfl rfl (Nat.le_of_ble_eq_true rfl) dX9_letter_22 ⟨rfl, rfl, Nat.le_of_ble_eq_true rfl, Nat.le_of_ble_eq_true rfl, Nat.le_of_ble_eq_true rfl, Nat.le_of_ble_eq_true rfl⟩ (fun _ => rfl) (fun x9 ex9 => ?_)
    refine bd_iconst C (v := 1) dX9_letter_25 (by decide) ?_
    refine bd_isub C dX9_letter_26 ?_
    refine bd_callS (vs := fun (r : Int32) => some (.int r)) (wf := fun _ => w) (st := [.ref l0]) (st1 := fun x10 => Value.int x10 :: [.ref l0]) C [.int l3, .int 0, .int (x9 - 1)] (fun r9 e9 => mX9_in C.flag N e9) mwX9_in miX9_in wd_1399 rfl rfl (Nat.le_of_ble_eq_true rfl) dX9_letter_27 ⟨rfl, rfl, Nat.le_of_ble_eq_true rfl, Nat.le_of_ble_eq_true rfl, Nat.le_of_ble_eq_true rfl, Nat.le_of_ble_eq_true rfl⟩ (fun _ => rfl) (fun x10 ex10 => ?_)
    refine bd_if_ne C 37 dX9_letter_30 (by decide) (fun c11 => ?_) (fun c11 => ?_)
    · refine bd_iconst C (v := 0) dX9_letter_37 (by decide) ?_
      exact bd_sub (hb38 w l0 l1 l2 l3 l0 0 ol0 ol0) [0, 1, 2, 3] rfl
    · refine bd_iconst C (v := 2) dX9_letter_33 (by decide) ?_
      refine bd_goto C 38 dX9_letter_34 (by decide) ?_
      exact bd_sub (hb38 w l0 l1 l2 l3 l0 2 ol0 ol0) [0, 1, 2, 3] rfl
  · refine bd_iconst C (v := 1) dX9_letter_10 (by decide) ?_
    refine bd_goto C 38 dX9_letter_11 (by decide) ?_
    exact bd_sub (hb38 w l0 l1 l2 l3 l0 1 ol0 ol0) [0, 1, 2, 3] rfl
abbrev rmX9_spanAt : Room := { frames := 14, cells := 0, slots := 0, locals := 386 }
abbrev qX9_spanAt (G : Gy) (F : Fr) (g : Bd) : (Int32 × Wd) → State → Prop := fun r => QM G F g 0 0 ((fun (r : Int32 × Wd) => some (.int r.1)) r) ((fun (r : Int32 × Wd) => r.2) r)
set_option maxRecDepth 20000 in
set_option maxHeartbeats 4000000 in
theorem mX9_spanAt {l : Launch} (hf9 : l.stackTraces = false) {G : Gy} {F : Fr} (N : Nat) {w : Wd} {l0 : Nat} {l1 : Int32} {l2 : Int32} {r : Int32 × Wd} (ol0 : okF F l0 9) (e9 : fX9_spanAt F N w l0 l1 l2 = some r) : Met l yX9_spanAt [.code yX9_spanAt cX9_spanAt 5 (some .int)] rmX9_spanAt (PcB G F w [.ref l0, .int l1, .int l2]) (QB G F ((fun (r : Int32 × Wd) => some (.int r.1)) r) ((fun (r : Int32 × Wd) => r.2) r)) 0 0 (AF F) := by
  refine bd_met (vs := fun (r : Int32 × Wd) => some (.int r.1)) (wf := fun (r : Int32 × Wd) => r.2) hf9 (by decide) (Nat.le_of_ble_eq_true rfl) e9 (fun g C hret hini => ?_)
  clear e9 r
  have hb75 : ∀  (w : Wd) (l0 : Nat) (l3 : Int32) (ol0 : okF F l0 9), BD g G F 5 (qX9_spanAt G F g) 0 0 (fX9_spanAt_75 F N w l0 l3) w 75 [(0, .ref l0), (3, .int l3)] [] := by
    intro w l0 l3 ol0
    unfold fX9_spanAt_75
    refine bd_aload_n C 0 dX9_spanAt_75 rfl rfl ?_
    refine bd_gI C fi906 fv906 wd_1247 dX9_spanAt_76 ol0 ?_
    refine bd_if_le C 86 dX9_spanAt_79 (by decide) (fun c9 => ?_) (fun c9 => ?_)
    · refine bd_iload_n C 1 dX9_spanAt_86 rfl rfl ?_
      exact bd_iret C hret rfl _ _ rfl rfl dX9_spanAt_87 (Nat.le_refl _) (Nat.le_refl _)
    · refine bd_iconst C (v := 0) dX9_spanAt_82 (by decide) ?_
      refine bd_goto C 87 dX9_spanAt_83 (by decide) ?_
      exact bd_iret C hret rfl _ _ rfl rfl dX9_spanAt_87 (Nat.le_refl _) (Nat.le_refl _)
  have hb68 : ∀ (k22 : Wd → Nat → Int32 → Int32 → Int32 → Int32 → Option (Int32 × Wd)), (∀ (w : Wd) (l0 : Nat) (l1 : Int32) (l2 : Int32) (l3 : Int32) (l4 : Int32) (ol0 : okF F l0 9), BD g G F 5 (qX9_spanAt G F g) 0 0 (k22 w l0 l1 l2 l3 l4) w 22 [(0, .ref l0), (1, .int l1), (2, .int l2), (3, .int l3), (4, .int l4)] []) → ∀  (w : Wd) (l0 : Nat) (l1 : Int32) (l2 : Int32) (l4 : Int32) (s0 : Int32) (ol0 : okF F l0 9), BD g G F 5 (qX9_spanAt G F g) 0 0 (fX9_spanAt_68 F N k22 w l0 l1 l2 l4 s0) w 68 [(0, .ref l0), (1, .int l1), (2, .int l2), (4, .int l4)] [.int s0] := by
    intro k22 hk22
    intro w l0 l1 l2 l4 s0 ol0
    unfold fX9_spanAt_68
    refine bd_istore_n C [(3, .int s0), (0, .ref l0), (1, .int l1), (2, .int l2), (4, .int l4)] dX9_spanAt_68 rfl (by decide) rfl ?_
    refine bd_iinc C (v := l4 + 1) 4 [(4, .int (l4 + 1)), (3, .int s0), (0, .ref l0), (1, .int l1), (2, .int l2)] dX9_spanAt_69 rfl rfl (by decide) rfl ?_
    refine bd_goto C 22 dX9_spanAt_72 (by decide) ?_
    exact bd_sub (hk22 w l0 l1 l2 s0 (l4 + 1) ol0) [2, 3, 4, 1, 0] rfl
  have hb22 : ∀ (n : Nat) (w : Wd) (l0 : Nat) (l1 : Int32) (l2 : Int32) (l3 : Int32) (l4 : Int32) (ol0 : okF F l0 9), BD g G F 5 (qX9_spanAt G F g) 0 0 (fX9_spanAt_22 F N n w l0 l1 l2 l3 l4) w 22 [(0, .ref l0), (1, .int l1), (2, .int l2), (3, .int l3), (4, .int l4)] [] := by
    intro n
    induction n with
    | zero =>
      intro w l0 l1 l2 l3 l4 ol0
      unfold fX9_spanAt_22
      exact bd_none
    | succ n ih =>
      intro w l0 l1 l2 l3 l4 ol0
      unfold fX9_spanAt_22
      refine bd_aload_n C 0 dX9_spanAt_22 rfl rfl ?_
      refine bd_gI C fi906 fv906 wd_1247 dX9_spanAt_23 ol0 ?_
      refine bd_if_ne C 75 dX9_spanAt_26 (by decide) (fun c2 => ?_) (fun c2 => ?_)
      · exact bd_sub (hb75 w l0 l3 ol0) [0, 3] rfl
      · refine bd_iload C 4 dX9_spanAt_29 rfl ?_
        refine bd_aload_n C 0 dX9_spanAt_31 rfl rfl ?_
        refine bd_iload_n C 1 dX9_spanAt_32 rfl rfl ?_
        refine bd_callV (vs := fun (r : Int32) => some (.int r)) (wf := fun _ => w) (st := [.int l4]) (st1 := fun x3 => Value.int x3 :: [.int l4]) C [.int l1] (fun r9 e9 => mX9_many C.flag N ol0 e9) mwX9_many miX9_many wd_1436 ol0 (by decide) rfl rfl rfl (Nat.le_of_ble_eq_true rfl) dX9_spanAt_33 ⟨rfl, rfl, Nat.le_of_ble_eq_true rfl, Nat.le_of_ble_eq_true rfl, Nat.le_of_ble_eq_true rfl, Nat.le_of_ble_eq_true rfl⟩ (fun _ => rfl) (fun x3 ex3 => ?_)
        refine bd_icmp_ge C 75 dX9_spanAt_36 (by decide) (fun c4 => ?_) (fun c4 => ?_)
        · exact bd_sub (hb75 w l0 l3 ol0) [0, 3] rfl
        · refine bd_iload_n C 2 dX9_spanAt_39 rfl rfl ?_
          refine bd_aload_n C 0 dX9_spanAt_40 rfl rfl ?_
          refine bd_iload_n C 1 dX9_spanAt_41 rfl rfl ?_
          refine bd_iload C 4 dX9_spanAt_42 rfl ?_
          refine bd_callV (vs := fun (r : Int32) => some (.int r)) (wf := fun _ => w) (st := [.int l2]) (st1 := fun x5 => Value.int x5 :: [.int l2]) C [.int l1, .int l4] (fun r9 e9 => mX9_first C.flag N ol0 e9) mwX9_first miX9_first wd_1522 ol0 (by decide) rfl rfl rfl (Nat.le_of_ble_eq_true rfl) dX9_spanAt_44 ⟨rfl, rfl, Nat.le_of_ble_eq_true rfl, Nat.le_of_ble_eq_true rfl, Nat.le_of_ble_eq_true rfl, Nat.le_of_ble_eq_true rfl⟩ (fun _ => rfl) (fun x5 ex5 => ?_)
          refine bd_aload_n C 0 dX9_spanAt_47 rfl rfl ?_
          refine bd_iload_n C 1 dX9_spanAt_48 rfl rfl ?_
          refine bd_iload C 4 dX9_spanAt_49 rfl ?_
          refine bd_callV (vs := fun (r : Int32) => some (.int r)) (wf := fun _ => w) (st := [.int x5, .int l2]) (st1 := fun x6 => Value.int x6 :: [.int x5, .int l2]) C [.int l1, .int l4] (fun r9 e9 => mX9_end C.flag N ol0 e9) mwX9_end miX9_end wd_1526 ol0 (by decide) rfl rfl rfl (Nat.le_of_ble_eq_true rfl) dX9_spanAt_51 ⟨rfl, rfl, Nat.le_of_ble_eq_true rfl, Nat.le_of_ble_eq_true rfl, Nat.le_of_ble_eq_true rfl, Nat.le_of_ble_eq_true rfl⟩ (fun _ => rfl) (fun x6 ex6 => ?_)
          refine bd_iconst C (v := 1) dX9_spanAt_54 (by decide) ?_
          refine bd_isub C dX9_spanAt_55 ?_
          refine bd_callS (vs := fun (r : Int32) => some (.int r)) (wf := fun _ => w) (st := []) (st1 := fun x7 => Value.int x7 :: []) C [.int l2, .int x5, .int (x6 - 1)] (fun r9 e9 => mX9_in C.flag N e9) mwX9_in miX9_in wd_1399 rfl rfl (Nat.le_of_ble_eq_true rfl) dX9_spanAt_56 ⟨rfl, rfl, Nat.le_of_ble_eq_true rfl, Nat.le_of_ble_eq_true rfl, Nat.le_of_ble_eq_true rfl, Nat.le_of_ble_eq_true rfl⟩ (fun _ => rfl) (fun x7 ex7 => ?_)
          refine bd_if_eq C 67 dX9_spanAt_59 (by decide) (fun c8 => ?_) (fun c8 => ?_)
          · refine bd_iload_n C 3 dX9_spanAt_67 rfl rfl ?_
            exact bd_sub (hb68 _ ih w l0 l1 l2 l4 l3 ol0) [0, 1, 2, 4] rfl
          · refine bd_iload C 4 dX9_spanAt_62 rfl ?_
            refine bd_goto C 68 dX9_spanAt_64 (by decide) ?_
            exact bd_sub (hb68 _ ih w l0 l1 l2 l4 l4 ol0) [0, 1, 2, 4] rfl
  have hb14 : ∀  (w : Wd) (l0 : Nat) (l1 : Int32) (l2 : Int32) (s0 : Nat) (s1 : Int32) (ol0 : okF F l0 9) (os0 : okF F s0 9), BD g G F 5 (qX9_spanAt G F g) 0 0 (fX9_spanAt_14 F N w l0 l1 l2 s0 s1) w 14 [(0, .ref l0), (1, .int l1), (2, .int l2)] [.int s1, .ref s0] := by
    intro w l0 l1 l2 s0 s1 ol0 os0
    unfold fX9_spanAt_14
    refine bd_pI C fi906 ftX9 fu906 wd_1247 rfl rfl rfl dX9_spanAt_14 os0 (fun w1 => ?_)
    refine bd_iconst C (v := (-1)) dX9_spanAt_17 (by decide) ?_
    refine bd_istore_n C [(3, .int (-1)), (0, .ref l0), (1, .int l1), (2, .int l2)] dX9_spanAt_18 rfl (by decide) rfl ?_
    refine bd_iconst C (v := 0) dX9_spanAt_19 (by decide) ?_
    refine bd_istore C [(4, .int 0), (3, .int (-1)), (0, .ref l0), (1, .int l1), (2, .int l2)] dX9_spanAt_20 (by decide) rfl ?_
    exact bd_sub (hb22 N w1 l0 l1 l2 (-1) 0 ol0) [2, 3, 4, 1, 0] rfl
  unfold fX9_spanAt
  refine bd_sub (lv' := [(0, .ref l0), (1, .int l1), (2, .int l2)]) ?_ [0, 1, 2] rfl
  refine bd_aload_n C 0 dX9_spanAt_0 rfl rfl ?_
  refine bd_aload_n C 0 dX9_spanAt_1 rfl rfl ?_
  refine bd_iload_n C 1 dX9_spanAt_2 rfl rfl ?_
  refine bd_callV (vs := fun (r : Int32) => some (.int r)) (wf := fun _ => w) (st := [.ref l0]) (st1 := fun x10 => Value.int x10 :: [.ref l0]) C [.int l1] (fun r9 e9 => mX9_isTier C.flag N ol0 e9) mwX9_isTier miX9_isTier wd_1402 ol0 (by decide) rfl rfl rfl (Nat.le_of_ble_eq_true rfl) dX9_spanAt_3 ⟨rfl, rfl, Nat.le_of_ble_eq_true rfl, Nat.le_of_ble_eq_true rfl, Nat.le_of_ble_eq_true rfl, Nat.le_of_ble_eq_true rfl⟩ (fun _ => rfl) (fun x10 ex10 => ?_)
  refine bd_if_eq C 13 dX9_spanAt_6 (by decide) (fun c11 => ?_) (fun c11 => ?_)
  · refine bd_iconst C (v := 1) dX9_spanAt_13 (by decide) ?_
    exact bd_sub (hb14 w l0 l1 l2 l0 1 ol0 ol0) [0, 1, 2] rfl
  · refine bd_iconst C (v := 0) dX9_spanAt_9 (by decide) ?_
    refine bd_goto C 14 dX9_spanAt_10 (by decide) ?_
    exact bd_sub (hb14 w l0 l1 l2 l0 0 ol0 ol0) [0, 1, 2] rfl
abbrev rmX9_refusal : Room := { frames := 10, cells := 0, slots := 0, locals := 300 }
abbrev qX9_refusal (G : Gy) (F : Fr) (g : Bd) : (Int32 × Wd) → State → Prop := fun r => QM G F g 0 0 ((fun (r : Int32 × Wd) => some (.int r.1)) r) ((fun (r : Int32 × Wd) => r.2) r)
set_option maxRecDepth 20000 in
set_option maxHeartbeats 4000000 in
theorem mX9_refusal {l : Launch} (hf9 : l.stackTraces = false) {G : Gy} {F : Fr} (N : Nat) {w : Wd} {l0 : Nat} {l1 : Int32} {r : Int32 × Wd} (ol0 : okF F l0 9) (e9 : fX9_refusal F N w l0 l1 = some r) : Met l yX9_refusal [.code yX9_refusal cX9_refusal 2 (some .int)] rmX9_refusal (PcB G F w [.ref l0, .int l1]) (QB G F ((fun (r : Int32 × Wd) => some (.int r.1)) r) ((fun (r : Int32 × Wd) => r.2) r)) 0 0 (AF F) := by
  refine bd_met (vs := fun (r : Int32 × Wd) => some (.int r.1)) (wf := fun (r : Int32 × Wd) => r.2) hf9 (by decide) (Nat.le_of_ble_eq_true rfl) e9 (fun g C hret hini => ?_)
  clear e9 r
  have hb13 : ∀  (w : Wd) (l0 : Nat) (l1 : Int32) (s0 : Nat) (s1 : Int32) (ol0 : okF F l0 9) (os0 : okF F s0 9), BD g G F 2 (qX9_refusal G F g) 0 0 (fX9_refusal_13 F N w l0 l1 s0 s1) w 13 [(0, .ref l0), (1, .int l1)] [.int s1, .ref s0] := by
    intro w l0 l1 s0 s1 ol0 os0
    unfold fX9_refusal_13
    refine bd_pI C fi906 ftX9 fu906 wd_1247 rfl rfl rfl dX9_refusal_13 os0 (fun w1 => ?_)
    refine bd_iload_n C 1 dX9_refusal_16 rfl rfl ?_
    refine bd_if_eq C 27 dX9_refusal_17 (by decide) (fun c2 => ?_) (fun c2 => ?_)
    · refine bd_aload_n C 0 dX9_refusal_27 rfl rfl ?_
      refine bd_gI C fi913 fv913 wd_1254 dX9_refusal_28 ol0 ?_
      exact bd_iret C hret rfl _ _ rfl rfl dX9_refusal_31 (Nat.le_refl _) (Nat.le_refl _)
    · refine bd_aload_n C 0 dX9_refusal_20 rfl rfl ?_
      refine bd_gI C fi912 fv912 wd_1253 dX9_refusal_21 ol0 ?_
      refine bd_goto C 31 dX9_refusal_24 (by decide) ?_
      exact bd_iret C hret rfl _ _ rfl rfl dX9_refusal_31 (Nat.le_refl _) (Nat.le_refl _)
  unfold fX9_refusal
  refine bd_sub (lv' := [(0, .ref l0), (1, .int l1)]) ?_ [0, 1] rfl
  refine bd_aload_n C 0 dX9_refusal_0 rfl rfl ?_
  refine bd_aload_n C 0 dX9_refusal_1 rfl rfl ?_
  refine bd_gI C fi912 fv912 wd_1253 dX9_refusal_2 ol0 ?_
  refine bd_if_ne C 12 dX9_refusal_5 (by decide) (fun c3 => ?_) (fun c3 => ?_)
  · refine bd_iconst C (v := 0) dX9_refusal_12 (by decide) ?_
    exact bd_sub (hb13 w l0 l1 l0 0 ol0 ol0) [0, 1] rfl
  · refine bd_iconst C (v := 1) dX9_refusal_8 (by decide) ?_
    refine bd_goto C 13 dX9_refusal_9 (by decide) ?_
    exact bd_sub (hb13 w l0 l1 l0 1 ol0 ol0) [0, 1] rfl
abbrev rmX9_cell : Room := { frames := 10, cells := 0, slots := 0, locals := 300 }
abbrev qX9_cell (G : Gy) (F : Fr) (g : Bd) (w : Wd) : Int32 → State → Prop := fun r => QM G F g 0 0 ((fun (r : Int32) => some (.int r)) r) ((fun _ => w) r)
set_option maxRecDepth 20000 in
set_option maxHeartbeats 4000000 in
theorem mX9_cell {l : Launch} (hf9 : l.stackTraces = false) {G : Gy} {F : Fr} (N : Nat) {w : Wd} {l0 : Int32} {l1 : Int32} {r : Int32} (e9 : fX9_cell F N w l0 l1 = some r) : Met l yX9_cell [.code yX9_cell cX9_cell 2 (some .int)] rmX9_cell (PcB G F w [.int l0, .int l1]) (QB G F ((fun (r : Int32) => some (.int r)) r) ((fun _ => w) r)) 0 0 (AF F) := by
  refine bd_met (vs := fun (r : Int32) => some (.int r)) (wf := fun _ => w) hf9 (by decide) (Nat.le_of_ble_eq_true rfl) e9 (fun g C hret hini => ?_)
  clear e9 r
  unfold fX9_cell
  refine bd_sub (lv' := [(0, .int l0), (1, .int l1)]) ?_ [0, 1] rfl
  refine bd_bipush C (v := 31) dX9_cell_0 (by decide) ?_
  refine bd_iload_n C 0 dX9_cell_2 rfl rfl ?_
  refine bd_imul C dX9_cell_3 ?_
  refine bd_iload_n C 1 dX9_cell_4 rfl rfl ?_
  refine bd_iadd C dX9_cell_5 ?_
  exact bd_iret C hret rfl _ _ rfl rfl dX9_cell_6 (Nat.le_refl _) (Nat.le_refl _)
abbrev rmX9_distance : Room := { frames := 14, cells := 0, slots := 0, locals := 386 }
abbrev qX9_distance (G : Gy) (F : Fr) (g : Bd) (w : Wd) : Int32 → State → Prop := fun r => QM G F g 0 0 ((fun (r : Int32) => some (.int r)) r) ((fun _ => w) r)
set_option maxRecDepth 20000 in
set_option maxHeartbeats 4000000 in
theorem mX9_distance {l : Launch} (hf9 : l.stackTraces = false) {G : Gy} {F : Fr} (N : Nat) {w : Wd} {l0 : Nat} {l1 : Int32} {l2 : Int32} {l3 : Int32} {l4 : Int32} {r : Int32} (ol0 : okF F l0 9) (e9 : fX9_distance F N w l0 l1 l2 l3 l4 = some r) : Met l yX9_distance [.code yX9_distance cX9_distance 5 (some .int)] rmX9_distance (PcB G F w [.ref l0, .int l1, .int l2, .int l3, .int l4]) (QB G F ((fun (r : Int32) => some (.int r)) r) ((fun _ => w) r)) 0 0 (AF F) := by
  refine bd_met (vs := fun (r : Int32) => some (.int r)) (wf := fun _ => w) hf9 (by decide) (Nat.le_of_ble_eq_true rfl) e9 (fun g C hret hini => ?_)
  clear e9 r
  unfold fX9_distance
  refine bd_sub (lv' := [(0, .ref l0), (1, .int l1), (2, .int l2), (3, .int l3), (4, .int l4)]) ?_ [0, 1, 2, 3, 4] rfl
  refine bd_aload_n C 0 dX9_distance_0 rfl rfl ?_
  refine bd_iload_n C 1 dX9_distance_1 rfl rfl ?_
  refine bd_iload_n C 2 dX9_distance_2 rfl rfl ?_
  refine bd_callV (vs := fun (r : Int32) => some (.int r)) (wf := fun _ => w) (st := []) (st1 := fun x1 => Value.int x1 :: []) C [.int l1, .int l2] (fun r9 e9 => mX9_first C.flag N ol0 e9) mwX9_first miX9_first wd_1522 ol0 (by decide) rfl rfl rfl (Nat.le_of_ble_eq_true rfl) dX9_distance_3 ⟨rfl, rfl, Nat.le_of_ble_eq_true rfl, Nat.le_of_ble_eq_true rfl, Nat.le_of_ble_eq_true rfl, Nat.le_of_ble_eq_true rfl⟩ (fun _ => rfl) (fun x1 ex1 => ?_)
  refine bd_aload_n C 0 dX9_distance_6 rfl rfl ?_
  refine bd_iload_n C 3 dX9_distance_7 rfl rfl ?_
  refine bd_iload C 4 dX9_distance_8 rfl ?_
  refine bd_callV (vs := fun (r : Int32) => some (.int r)) (wf := fun _ => w) (st := [.int x1]) (st1 := fun x2 => Value.int x2 :: [.int x1]) C [.int l3, .int l4] (fun r9 e9 => mX9_first C.flag N ol0 e9) mwX9_first miX9_first wd_1522 ol0 (by decide) rfl rfl rfl (Nat.le_of_ble_eq_true rfl) dX9_distance_10 ⟨rfl, rfl, Nat.le_of_ble_eq_true rfl, Nat.le_of_ble_eq_true rfl, Nat.le_of_ble_eq_true rfl, Nat.le_of_ble_eq_true rfl⟩ (fun _ => rfl) (fun x2 ex2 => ?_)
  refine bd_isub C dX9_distance_13 ?_
  refine bd_mabs C wd_1641 wd_951 wd_104 wd_952 dX9_distance_14 ⟨Nat.le_of_ble_eq_true rfl, Nat.le_of_ble_eq_true rfl, Nat.zero_le _, Nat.zero_le _⟩ ?_
  refine bd_aload_n C 0 dX9_distance_17 rfl rfl ?_
  refine bd_iload_n C 1 dX9_distance_18 rfl rfl ?_
  refine bd_iload_n C 2 dX9_distance_19 rfl rfl ?_
  refine bd_callV (vs := fun (r : Int32) => some (.int r)) (wf := fun _ => w) (st := [.int (iabs (x1 - x2))]) (st1 := fun x3 => Value.int x3 :: [.int (iabs (x1 - x2))]) C [.int l1, .int l2] (fun r9 e9 => mX9_end C.flag N ol0 e9) mwX9_end miX9_end wd_1526 ol0 (by decide) rfl rfl rfl (Nat.le_of_ble_eq_true rfl) dX9_distance_20 ⟨rfl, rfl, Nat.le_of_ble_eq_true rfl, Nat.le_of_ble_eq_true rfl, Nat.le_of_ble_eq_true rfl, Nat.le_of_ble_eq_true rfl⟩ (fun _ => rfl) (fun x3 ex3 => ?_)
  refine bd_aload_n C 0 dX9_distance_23 rfl rfl ?_
  refine bd_iload_n C 3 dX9_distance_24 rfl rfl ?_
  refine bd_iload C 4 dX9_distance_25 rfl ?_
  refine bd_callV (vs := fun (r : Int32) => some (.int r)) (wf := fun _ => w) (st := [.int x3, .int (iabs (x1 - x2))]) (st1 := fun x4 => Value.int x4 :: [.int x3, .int (iabs (x1 - x2))]) C [.int l3, .int l4] (fun r9 e9 => mX9_end C.flag N ol0 e9) mwX9_end miX9_end wd_1526 ol0 (by decide) rfl rfl rfl (Nat.le_of_ble_eq_true rfl) dX9_distance_27 ⟨rfl, rfl, Nat.le_of_ble_eq_true rfl, Nat.le_of_ble_eq_true rfl, Nat.le_of_ble_eq_true rfl, Nat.le_of_ble_eq_true rfl⟩ (fun _ => rfl) (fun x4 ex4 => ?_)
  refine bd_isub C dX9_distance_30 ?_
  refine bd_mabs C wd_1641 wd_951 wd_104 wd_952 dX9_distance_31 ⟨Nat.le_of_ble_eq_true rfl, Nat.le_of_ble_eq_true rfl, Nat.zero_le _, Nat.zero_le _⟩ ?_
  refine bd_iadd C dX9_distance_34 ?_
  exact bd_iret C hret rfl _ _ rfl rfl dX9_distance_35 (Nat.le_refl _) (Nat.le_refl _)
abbrev rmX9_isBestPair : Room := { frames := 15, cells := 0, slots := 0, locals := 410 }
abbrev qX9_isBestPair (G : Gy) (F : Fr) (g : Bd) (w : Wd) : Int32 → State → Prop := fun r => QM G F g 0 0 ((fun (r : Int32) => some (.int r)) r) ((fun _ => w) r)
set_option maxRecDepth 20000 in
set_option maxHeartbeats 4000000 in
theorem mX9_isBestPair {l : Launch} (hf9 : l.stackTraces = false) {G : Gy} {F : Fr} (N : Nat) {w : Wd} {l0 : Nat} {l1 : Int32} {l2 : Int32} {l3 : Int32} {l4 : Int32} {l5 : Int32} {r : Int32} (ol0 : okF F l0 9) (e9 : fX9_isBestPair F N w l0 l1 l2 l3 l4 l5 = some r) : Met l yX9_isBestPair [.code yX9_isBestPair cX9_isBestPair 8 (some .boolean)] rmX9_isBestPair (PcB G F w [.ref l0, .int l1, .int l2, .int l3, .int l4, .int l5]) (QB G F ((fun (r : Int32) => some (.int r)) r) ((fun _ => w) r)) 0 0 (AF F) := by
  refine bd_met (vs := fun (r : Int32) => some (.int r)) (wf := fun _ => w) hf9 (by decide) (Nat.le_of_ble_eq_true rfl) e9 (fun g C hret hini => ?_)
  clear e9 r
  unfold fX9_isBestPair
  refine bd_sub (lv' := [(0, .ref l0), (1, .int l1), (2, .int l2), (3, .int l3), (4, .int l4), (5, .int l5)]) ?_ [0, 1, 2, 3, 4, 5] rfl
  refine bd_aload_n C 0 dX9_isBestPair_0 rfl rfl ?_
  refine bd_iload_n C 1 dX9_isBestPair_1 rfl rfl ?_
  refine bd_iload_n C 2 dX9_isBestPair_2 rfl rfl ?_
  refine bd_iload_n C 3 dX9_isBestPair_3 rfl rfl ?_
  refine bd_iload C 4 dX9_isBestPair_4 rfl ?_
  refine bd_callV (vs := fun (r : Int32) => some (.int r)) (wf := fun _ => w) (st := []) (st1 := fun x1 => Value.int x1 :: []) C [.int l1, .int l2, .int l3, .int l4] (fun r9 e9 => mX9_distance C.flag N ol0 e9) mwX9_distance miX9_distance wd_1637 ol0 (by decide) rfl rfl rfl (Nat.le_of_ble_eq_true rfl) dX9_isBestPair_6 ⟨rfl, rfl, Nat.le_of_ble_eq_true rfl, Nat.le_of_ble_eq_true rfl, Nat.le_of_ble_eq_true rfl, Nat.le_of_ble_eq_true rfl⟩ (fun _ => rfl) (fun x1 ex1 => ?_)
  refine bd_istore C [(6, .int x1), (0, .ref l0), (1, .int l1), (2, .int l2), (3, .int l3), (4, .int l4), (5, .int l5)] dX9_isBestPair_9 (by decide) rfl ?_
  refine bd_iload_n C 3 dX9_isBestPair_11 rfl rfl ?_
  refine bd_iconst C (v := 1) dX9_isBestPair_12 (by decide) ?_
  refine bd_iadd C dX9_isBestPair_13 ?_
  refine bd_iload C 5 dX9_isBestPair_14 rfl ?_
  refine bd_iconst C (v := 1) dX9_isBestPair_16 (by decide) ?_
  refine bd_iadd C dX9_isBestPair_17 ?_
  refine bd_callS (vs := fun (r : Int32) => some (.int r)) (wf := fun _ => w) (st := []) (st1 := fun x2 => Value.int x2 :: []) C [.int (l2 + 1), .int (l4 + 1)] (fun r9 e9 => mX9_cell C.flag N e9) mwX9_cell miX9_cell wd_1630 rfl rfl (Nat.le_of_ble_eq_true rfl) dX9_isBestPair_18 ⟨rfl, rfl, Nat.le_of_ble_eq_true rfl, Nat.le_of_ble_eq_true rfl, Nat.le_of_ble_eq_true rfl, Nat.le_of_ble_eq_true rfl⟩ (fun _ => rfl) (fun x2 ex2 => ?_)
  refine bd_istore C [(7, .int x2), (6, .int x1), (0, .ref l0), (1, .int l1), (2, .int l2), (3, .int l3), (4, .int l4), (5, .int l5)] dX9_isBestPair_21 (by decide) rfl ?_
  refine bd_iload C 1 dX9_isBestPair_23 rfl ?_
  refine bd_i2l C dX9_isBestPair_25 ?_
  refine bd_aload_n C 2 dX9_isBestPair_26 rfl rfl ?_
  refine bd_gR C fi900 fv900 wd_1241 dX9_isBestPair_27 ol0 (fun r3 gr3 hr3 => ?_)
  refine bd_iconst C (v := 2) dX9_isBestPair_30 (by decide) ?_
  refine bd_lald C dX9_isBestPair_31 hr3 (fun x4 => ?_)
  refine bd_lcmp C dX9_isBestPair_32 ?_
  refine bd_if_gt C 79 dX9_isBestPair_33 (by decide) (fun c5 => ?_) (fun c5 => ?_)
  · refine bd_iconst C (v := 0) dX9_isBestPair_79 (by decide) ?_
    exact bd_zret C hret rfl _ _ rfl rfl rfl dX9_isBestPair_80 (Nat.le_refl _) (Nat.le_refl _)
  · refine bd_aload_n C 2 dX9_isBestPair_36 rfl rfl ?_
    refine bd_gR C fi914 fv914 wd_1255 dX9_isBestPair_37 ol0 (fun r6 gr6 hr6 => ?_)
    refine bd_iload C 0 dX9_isBestPair_40 rfl ?_
    refine bd_iald C dX9_isBestPair_42 hr6 (fun x7 => ?_)
    refine bd_iconst C (v := 1) dX9_isBestPair_43 (by decide) ?_
    refine bd_iadd C dX9_isBestPair_44 ?_
    refine bd_aload_n C 2 dX9_isBestPair_45 rfl rfl ?_
    refine bd_gR C fi914 fv914 wd_1255 dX9_isBestPair_46 ol0 (fun r8 gr8 hr8 => ?_)
    refine bd_iload C 7 dX9_isBestPair_49 rfl ?_
    refine bd_iald C dX9_isBestPair_51 hr8 (fun x9 => ?_)
    refine bd_icmp_ne C 79 dX9_isBestPair_52 (by decide) (fun c10 => ?_) (fun c10 => ?_)
    · refine bd_iconst C (v := 0) dX9_isBestPair_79 (by decide) ?_
      exact bd_zret C hret rfl _ _ rfl rfl rfl dX9_isBestPair_80 (Nat.le_refl _) (Nat.le_refl _)
    · refine bd_aload_n C 2 dX9_isBestPair_55 rfl rfl ?_
      refine bd_gR C fi915 fv915 wd_1256 dX9_isBestPair_56 ol0 (fun r11 gr11 hr11 => ?_)
      refine bd_iload C 0 dX9_isBestPair_59 rfl ?_
      refine bd_iald C dX9_isBestPair_61 hr11 (fun x12 => ?_)
      refine bd_iload C 1 dX9_isBestPair_62 rfl ?_
      refine bd_iadd C dX9_isBestPair_64 ?_
      refine bd_aload_n C 2 dX9_isBestPair_65 rfl rfl ?_
      refine bd_gR C fi915 fv915 wd_1256 dX9_isBestPair_66 ol0 (fun r13 gr13 hr13 => ?_)
      refine bd_iload C 7 dX9_isBestPair_69 rfl ?_
      refine bd_iald C dX9_isBestPair_71 hr13 (fun x14 => ?_)
      refine bd_icmp_ne C 79 dX9_isBestPair_72 (by decide) (fun c15 => ?_) (fun c15 => ?_)
      · refine bd_iconst C (v := 0) dX9_isBestPair_79 (by decide) ?_
        exact bd_zret C hret rfl _ _ rfl rfl rfl dX9_isBestPair_80 (Nat.le_refl _) (Nat.le_refl _)
      · refine bd_iconst C (v := 1) dX9_isBestPair_75 (by decide) ?_
        refine bd_goto C 80 dX9_isBestPair_76 (by decide) ?_
        exact bd_zret C hret rfl _ _ rfl rfl rfl dX9_isBestPair_80 (Nat.le_refl _) (Nat.le_refl _)
abbrev rmX9_take : Room := { frames := 10, cells := 0, slots := 0, locals := 300 }
abbrev qX9_take (G : Gy) (F : Fr) (g : Bd) : Wd → State → Prop := fun r => QM G F g 0 0 ((fun _ => none) r) ((fun (r : Wd) => r) r)
set_option maxRecDepth 20000 in
set_option maxHeartbeats 4000000 in
theorem mX9_take {l : Launch} (hf9 : l.stackTraces = false) {G : Gy} {F : Fr} (N : Nat) {w : Wd} {l0 : Nat} {l1 : Int32} {l2 : Int32} {l3 : Int32} {l4 : Int32} {r : Wd} (ol0 : okF F l0 9) (e9 : fX9_take F N w l0 l1 l2 l3 l4 = some r) : Met l yX9_take [.code yX9_take cX9_take 7 none] rmX9_take (PcB G F w [.ref l0, .int l1, .int l2, .int l3, .int l4]) (QB G F ((fun _ => none) r) ((fun (r : Wd) => r) r)) 0 0 (AF F) := by
  refine bd_met (vs := fun _ => none) (wf := fun (r : Wd) => r) hf9 (by decide) (Nat.le_of_ble_eq_true rfl) e9 (fun g C hret hini => ?_)
  clear e9 r
  have hb54 : ∀  (w : Wd) (l0 : Nat) (l1 : Int32) (l5 : Int32) (l6 : Int32) (ol0 : okF F l0 9), BD g G F 7 (qX9_take G F g) 0 0 (fX9_take_54 F N w l0 l1 l5 l6) w 54 [(0, .ref l0), (1, .int l1), (5, .int l5), (6, .int l6)] [] := by
    intro w l0 l1 l5 l6 ol0
    unfold fX9_take_54
    refine bd_aload_n C 0 dX9_take_54 rfl rfl ?_
    refine bd_gR C fi914 fv914 wd_1255 dX9_take_55 ol0 (fun r1 gr1 hr1 => ?_)
    refine bd_iload_n C 1 dX9_take_58 rfl rfl ?_
    refine bd_iload C 2 dX9_take_59 rfl ?_
    refine bd_iast C dX9_take_61 hr1 (fun w2 => ?_)
    refine bd_aload_n C 0 dX9_take_62 rfl rfl ?_
    refine bd_gR C fi915 fv915 wd_1256 dX9_take_63 ol0 (fun r3 gr3 hr3 => ?_)
    refine bd_iload_n C 1 dX9_take_66 rfl rfl ?_
    refine bd_iload C 3 dX9_take_67 rfl ?_
    refine bd_iast C dX9_take_69 hr3 (fun w4 => ?_)
    exact bd_vret C hret rfl _ _ rfl rfl dX9_take_70 (Nat.le_refl _) (Nat.le_refl _)
  unfold fX9_take
  refine bd_sub (lv' := [(0, .ref l0), (1, .int l1), (2, .int l2), (3, .int l3), (4, .int l4)]) ?_ [0, 1, 2, 3, 4] rfl
  refine bd_aload_n C 0 dX9_take_0 rfl rfl ?_
  refine bd_gR C fi914 fv914 wd_1255 dX9_take_1 ol0 (fun r5 gr5 hr5 => ?_)
  refine bd_iload_n C 2 dX9_take_4 rfl rfl ?_
  refine bd_iald C dX9_take_5 hr5 (fun x6 => ?_)
  refine bd_iload_n C 3 dX9_take_6 rfl rfl ?_
  refine bd_iadd C dX9_take_7 ?_
  refine bd_bnd (tp := Value.int) (fun v7 ev7 => ?_)
  refine bd_istore C [(5, .int v7), (0, .ref l0), (1, .int l1), (2, .int l2), (3, .int l3), (4, .int l4)] dX9_take_8 (by decide) rfl ?_
  refine bd_aload_n C 1 dX9_take_10 rfl rfl ?_
  refine bd_gR C fi915 fv915 wd_1256 dX9_take_11 ol0 (fun r8 gr8 hr8 => ?_)
  refine bd_iload_n C 3 dX9_take_14 rfl rfl ?_
  refine bd_iald C dX9_take_15 hr8 (fun x9 => ?_)
  refine bd_iload C 5 dX9_take_16 rfl ?_
  refine bd_iadd C dX9_take_18 ?_
  refine bd_bnd (tp := Value.int) (fun v10 ev10 => ?_)
  refine bd_istore C [(6, .int v10), (5, .int v7), (0, .ref l0), (1, .int l1), (2, .int l2), (3, .int l3), (4, .int l4)] dX9_take_19 (by decide) rfl ?_
  refine bd_iload C 1 dX9_take_21 rfl ?_
  refine bd_aload_n C 2 dX9_take_23 rfl rfl ?_
  refine bd_gR C fi914 fv914 wd_1255 dX9_take_24 ol0 (fun r11 gr11 hr11 => ?_)
  refine bd_iload_n C 3 dX9_take_27 rfl rfl ?_
  refine bd_iald C dX9_take_28 hr11 (fun x12 => ?_)
  refine bd_icmp_gt C 54 dX9_take_29 (by decide) (fun c13 => ?_) (fun c13 => ?_)
  · exact bd_sub (hb54 w l0 l1 v7 v10 ol0) [2, 3, 1, 0] rfl
  · refine bd_iload C 1 dX9_take_32 rfl ?_
    refine bd_aload_n C 2 dX9_take_34 rfl rfl ?_
    refine bd_gR C fi914 fv914 wd_1255 dX9_take_35 ol0 (fun r14 gr14 hr14 => ?_)
    refine bd_iload_n C 3 dX9_take_38 rfl rfl ?_
    refine bd_iald C dX9_take_39 hr14 (fun x15 => ?_)
    refine bd_icmp_ne C 70 dX9_take_40 (by decide) (fun c16 => ?_) (fun c16 => ?_)
    · exact bd_vret C hret rfl _ _ rfl rfl dX9_take_70 (Nat.le_refl _) (Nat.le_refl _)
    · refine bd_iload C 0 dX9_take_43 rfl ?_
      refine bd_aload_n C 2 dX9_take_45 rfl rfl ?_
      refine bd_gR C fi915 fv915 wd_1256 dX9_take_46 ol0 (fun r17 gr17 hr17 => ?_)
      refine bd_iload_n C 3 dX9_take_49 rfl rfl ?_
      refine bd_iald C dX9_take_50 hr17 (fun x18 => ?_)
      refine bd_icmp_ge C 70 dX9_take_51 (by decide) (fun c19 => ?_) (fun c19 => ?_)
      · exact bd_vret C hret rfl _ _ rfl rfl dX9_take_70 (Nat.le_refl _) (Nat.le_refl _)
      · exact bd_sub (hb54 w l0 l1 v7 v10 ol0) [2, 3, 1, 0] rfl
abbrev rmX9_align : Room := { frames := 15, cells := 0, slots := 0, locals := 410 }
abbrev qX9_align (G : Gy) (F : Fr) (g : Bd) : Wd → State → Prop := fun r => QM G F g 0 0 ((fun _ => none) r) ((fun (r : Wd) => r) r)
set_option maxRecDepth 20000 in
set_option maxHeartbeats 4000000 in
theorem mX9_align {l : Launch} (hf9 : l.stackTraces = false) {G : Gy} {F : Fr} (N : Nat) {w : Wd} {l0 : Nat} {l1 : Int32} {l2 : Int32} {r : Wd} (ol0 : okF F l0 9) (e9 : fX9_align F N w l0 l1 l2 = some r) : Met l yX9_align [.code yX9_align cX9_align 7 none] rmX9_align (PcB G F w [.ref l0, .int l1, .int l2]) (QB G F ((fun _ => none) r) ((fun (r : Wd) => r) r)) 0 0 (AF F) := by
  refine bd_met (vs := fun _ => none) (wf := fun (r : Wd) => r) hf9 (by decide) (Nat.le_of_ble_eq_true rfl) e9 (fun g C hret hini => ?_)
  clear e9 r
  have hb140 : ∀ (k6 : Wd → Nat → Int32 → Int32 → Int32 → Option (Wd)), (∀ (w : Wd) (l0 : Nat) (l1 : Int32) (l2 : Int32) (l3 : Int32) (ol0 : okF F l0 9), BD g G F 7 (qX9_align G F g) 0 0 (k6 w l0 l1 l2 l3) w 6 [(0, .ref l0), (1, .int l1), (2, .int l2), (3, .int l3)] []) → ∀ (k17 : Wd → Nat → Int32 → Int32 → Int32 → Int32 → Option (Wd)), (∀ (w : Wd) (l0 : Nat) (l1 : Int32) (l2 : Int32) (l3 : Int32) (l4 : Int32) (ol0 : okF F l0 9), BD g G F 7 (qX9_align G F g) 0 0 (k17 w l0 l1 l2 l3 l4) w 17 [(0, .ref l0), (1, .int l1), (2, .int l2), (3, .int l3), (4, .int l4)] []) → ∀  (w : Wd) (l0 : Nat) (l1 : Int32) (l2 : Int32) (l3 : Int32) (l4 : Int32) (ol0 : okF F l0 9), BD g G F 7 (qX9_align G F g) 0 0 (fX9_align_140 F N k6 k17 w l0 l1 l2 l3 l4) w 140 [(0, .ref l0), (1, .int l1), (2, .int l2), (3, .int l3), (4, .int l4)] [] := by
    intro k6 hk6 k17 hk17
    intro w l0 l1 l2 l3 l4 ol0
    unfold fX9_align_140
    refine bd_iinc C (v := l4 + (-1)) 4 [(4, .int (l4 + (-1))), (0, .ref l0), (1, .int l1), (2, .int l2), (3, .int l3)] dX9_align_140 rfl rfl (by decide) rfl ?_
    refine bd_goto C 17 dX9_align_143 (by decide) ?_
    exact bd_sub (hk17 w l0 l1 l2 l3 (l4 + (-1)) ol0) [1, 2, 3, 4, 0] rfl
  have hb17 : ∀ (k6 : Wd → Nat → Int32 → Int32 → Int32 → Option (Wd)), (∀ (w : Wd) (l0 : Nat) (l1 : Int32) (l2 : Int32) (l3 : Int32) (ol0 : okF F l0 9), BD g G F 7 (qX9_align G F g) 0 0 (k6 w l0 l1 l2 l3) w 6 [(0, .ref l0), (1, .int l1), (2, .int l2), (3, .int l3)] []) → ∀ (n : Nat) (w : Wd) (l0 : Nat) (l1 : Int32) (l2 : Int32) (l3 : Int32) (l4 : Int32) (ol0 : okF F l0 9), BD g G F 7 (qX9_align G F g) 0 0 (fX9_align_17 F N k6 n w l0 l1 l2 l3 l4) w 17 [(0, .ref l0), (1, .int l1), (2, .int l2), (3, .int l3), (4, .int l4)] [] := by
    intro k6 hk6
    intro n
    induction n with
    | zero =>
      intro w l0 l1 l2 l3 l4 ol0
      unfold fX9_align_17
      exact bd_none
    | succ n ih =>
      intro w l0 l1 l2 l3 l4 ol0
      unfold fX9_align_17
      refine bd_iload C 4 dX9_align_17 rfl ?_
      refine bd_if_lt C 146 dX9_align_19 (by decide) (fun c3 => ?_) (fun c3 => ?_)
      · refine bd_iinc C (v := l3 + (-1)) 3 [(3, .int (l3 + (-1))), (0, .ref l0), (1, .int l1), (2, .int l2), (4, .int l4)] dX9_align_146 rfl rfl (by decide) rfl ?_
        refine bd_goto C 6 dX9_align_149 (by decide) ?_
        exact bd_sub (hk6 w l0 l1 l2 (l3 + (-1)) ol0) [1, 2, 3, 0] rfl
      · refine bd_iload_n C 3 dX9_align_22 rfl rfl ?_
        refine bd_iload C 4 dX9_align_23 rfl ?_
        refine bd_callS (vs := fun (r : Int32) => some (.int r)) (wf := fun _ => w) (st := []) (st1 := fun x4 => Value.int x4 :: []) C [.int l3, .int l4] (fun r9 e9 => mX9_cell C.flag N e9) mwX9_cell miX9_cell wd_1630 rfl rfl (Nat.le_of_ble_eq_true rfl) dX9_align_25 ⟨rfl, rfl, Nat.le_of_ble_eq_true rfl, Nat.le_of_ble_eq_true rfl, Nat.le_of_ble_eq_true rfl, Nat.le_of_ble_eq_true rfl⟩ (fun _ => rfl) (fun x4 ex4 => ?_)
        refine bd_istore C [(5, .int x4), (0, .ref l0), (1, .int l1), (2, .int l2), (3, .int l3), (4, .int l4)] dX9_align_28 (by decide) rfl ?_
        refine bd_aload_n C 1 dX9_align_30 rfl rfl ?_
        refine bd_gR C fi914 fv914 wd_1255 dX9_align_31 ol0 (fun r5 gr5 hr5 => ?_)
        refine bd_iload C 0 dX9_align_34 rfl ?_
        refine bd_iconst C (v := 0) dX9_align_36 (by decide) ?_
        refine bd_iast C dX9_align_37 hr5 (fun w6 => ?_)
        refine bd_aload_n C 1 dX9_align_38 rfl rfl ?_
        refine bd_gR C fi915 fv915 wd_1256 dX9_align_39 ol0 (fun r7 gr7 hr7 => ?_)
        refine bd_iload C 0 dX9_align_42 rfl ?_
        refine bd_iconst C (v := 0) dX9_align_44 (by decide) ?_
        refine bd_iast C dX9_align_45 hr7 (fun w8 => ?_)
        refine bd_iload_n C 4 dX9_align_46 rfl rfl ?_
        refine bd_aload_n C 1 dX9_align_47 rfl rfl ?_
        refine bd_iload_n C 2 dX9_align_48 rfl rfl ?_
        refine bd_callV (vs := fun (r : Int32) => some (.int r)) (wf := fun _ => w8) (st := [.int l3]) (st1 := fun x9 => Value.int x9 :: [.int l3]) C [.int l1] (fun r9 e9 => mX9_many C.flag N ol0 e9) mwX9_many miX9_many wd_1436 ol0 (by decide) rfl rfl rfl (Nat.le_of_ble_eq_true rfl) dX9_align_49 ⟨rfl, rfl, Nat.le_of_ble_eq_true rfl, Nat.le_of_ble_eq_true rfl, Nat.le_of_ble_eq_true rfl, Nat.le_of_ble_eq_true rfl⟩ (fun _ => rfl) (fun x9 ex9 => ?_)
        refine bd_icmp_ge C 140 dX9_align_52 (by decide) (fun c10 => ?_) (fun c10 => ?_)
        · exact bd_sub (hb140 _ hk6 _ ih w8 l0 l1 l2 l3 l4 ol0) [1, 2, 3, 4, 5] rfl
        · refine bd_iload C 5 dX9_align_55 rfl ?_
          refine bd_aload_n C 1 dX9_align_57 rfl rfl ?_
          refine bd_iload_n C 3 dX9_align_58 rfl rfl ?_
          refine bd_callV (vs := fun (r : Int32) => some (.int r)) (wf := fun _ => w8) (st := [.int l4]) (st1 := fun x11 => Value.int x11 :: [.int l4]) C [.int l2] (fun r9 e9 => mX9_many C.flag N ol0 e9) mwX9_many miX9_many wd_1436 ol0 (by decide) rfl rfl rfl (Nat.le_of_ble_eq_true rfl) dX9_align_59 ⟨rfl, rfl, Nat.le_of_ble_eq_true rfl, Nat.le_of_ble_eq_true rfl, Nat.le_of_ble_eq_true rfl, Nat.le_of_ble_eq_true rfl⟩ (fun _ => rfl) (fun x11 ex11 => ?_)
          refine bd_icmp_ge C 140 dX9_align_62 (by decide) (fun c12 => ?_) (fun c12 => ?_)
          · exact bd_sub (hb140 _ hk6 _ ih w8 l0 l1 l2 l3 l4 ol0) [1, 2, 3, 4, 5] rfl
          · refine bd_aload_n C 1 dX9_align_65 rfl rfl ?_
            refine bd_iload C 0 dX9_align_66 rfl ?_
            refine bd_iload_n C 4 dX9_align_68 rfl rfl ?_
            refine bd_iconst C (v := 1) dX9_align_69 (by decide) ?_
            refine bd_iadd C dX9_align_70 ?_
            refine bd_iload C 5 dX9_align_71 rfl ?_
            refine bd_callS (vs := fun (r : Int32) => some (.int r)) (wf := fun _ => w8) (st := [.int x4, .ref l0]) (st1 := fun x13 => Value.int x13 :: [.int x4, .ref l0]) C [.int (l3 + 1), .int l4] (fun r9 e9 => mX9_cell C.flag N e9) mwX9_cell miX9_cell wd_1630 rfl rfl (Nat.le_of_ble_eq_true rfl) dX9_align_73 ⟨rfl, rfl, Nat.le_of_ble_eq_true rfl, Nat.le_of_ble_eq_true rfl, Nat.le_of_ble_eq_true rfl, Nat.le_of_ble_eq_true rfl⟩ (fun _ => rfl) (fun x13 ex13 => ?_)
            refine bd_iconst C (v := 0) dX9_align_76 (by decide) ?_
            refine bd_iconst C (v := 0) dX9_align_77 (by decide) ?_
            refine bd_callV (vs := fun _ => none) (wf := fun (r : Wd) => r) (st := []) (st1 := fun p14 => []) C [.int x4, .int x13, .int 0, .int 0] (fun r9 e9 => mX9_take C.flag N ol0 e9) mwX9_take miX9_take wd_1633 ol0 (by decide) rfl rfl rfl (Nat.le_of_ble_eq_true rfl) dX9_align_78 ⟨rfl, rfl, Nat.le_of_ble_eq_true rfl, Nat.le_of_ble_eq_true rfl, Nat.le_of_ble_eq_true rfl, Nat.le_of_ble_eq_true rfl⟩ (fun _ => rfl) (fun p14 ep14 => ?_)
            refine bd_aload_n C 1 dX9_align_81 rfl rfl ?_
            refine bd_iload C 0 dX9_align_82 rfl ?_
            refine bd_iload_n C 4 dX9_align_84 rfl rfl ?_
            refine bd_iload C 5 dX9_align_85 rfl ?_
            refine bd_iconst C (v := 1) dX9_align_87 (by decide) ?_
            refine bd_iadd C dX9_align_88 ?_
            refine bd_callS (vs := fun (r : Int32) => some (.int r)) (wf := fun _ => p14) (st := [.int x4, .ref l0]) (st1 := fun x15 => Value.int x15 :: [.int x4, .ref l0]) C [.int l3, .int (l4 + 1)] (fun r9 e9 => mX9_cell C.flag N e9) mwX9_cell miX9_cell wd_1630 rfl rfl (Nat.le_of_ble_eq_true rfl) dX9_align_89 ⟨rfl, rfl, Nat.le_of_ble_eq_true rfl, Nat.le_of_ble_eq_true rfl, Nat.le_of_ble_eq_true rfl, Nat.le_of_ble_eq_true rfl⟩ (fun _ => rfl) (fun x15 ex15 => ?_)
            refine bd_iconst C (v := 0) dX9_align_92 (by decide) ?_
            refine bd_iconst C (v := 0) dX9_align_93 (by decide) ?_
            refine bd_callV (vs := fun _ => none) (wf := fun (r : Wd) => r) (st := []) (st1 := fun p16 => []) C [.int x4, .int x15, .int 0, .int 0] (fun r9 e9 => mX9_take C.flag N ol0 e9) mwX9_take miX9_take wd_1633 ol0 (by decide) rfl rfl rfl (Nat.le_of_ble_eq_true rfl) dX9_align_94 ⟨rfl, rfl, Nat.le_of_ble_eq_true rfl, Nat.le_of_ble_eq_true rfl, Nat.le_of_ble_eq_true rfl, Nat.le_of_ble_eq_true rfl⟩ (fun _ => rfl) (fun p16 ep16 => ?_)
            refine bd_aload_n C 1 dX9_align_97 rfl rfl ?_
            refine bd_iload_n C 2 dX9_align_98 rfl rfl ?_
            refine bd_iload_n C 4 dX9_align_99 rfl rfl ?_
            refine bd_iload_n C 3 dX9_align_100 rfl rfl ?_
            refine bd_iload C 5 dX9_align_101 rfl ?_
            refine bd_callV (vs := fun (r : Int32) => some (.int r)) (wf := fun _ => p16) (st := []) (st1 := fun x17 => Value.int x17 :: []) C [.int l1, .int l3, .int l2, .int l4] (fun r9 e9 => mX9_distance C.flag N ol0 e9) mwX9_distance miX9_distance wd_1637 ol0 (by decide) rfl rfl rfl (Nat.le_of_ble_eq_true rfl) dX9_align_103 ⟨rfl, rfl, Nat.le_of_ble_eq_true rfl, Nat.le_of_ble_eq_true rfl, Nat.le_of_ble_eq_true rfl, Nat.le_of_ble_eq_true rfl⟩ (fun _ => rfl) (fun x17 ex17 => ?_)
            refine bd_istore C [(6, .int x17), (5, .int x4), (0, .ref l0), (1, .int l1), (2, .int l2), (3, .int l3), (4, .int l4)] dX9_align_106 (by decide) rfl ?_
            refine bd_iload C 0 dX9_align_108 rfl ?_
            refine bd_i2l C dX9_align_110 ?_
            refine bd_aload_n C 2 dX9_align_111 rfl rfl ?_
            refine bd_gR C fi900 fv900 wd_1241 dX9_align_112 ol0 (fun r18 gr18 hr18 => ?_)
            refine bd_iconst C (v := 2) dX9_align_115 (by decide) ?_
            refine bd_lald C dX9_align_116 hr18 (fun x19 => ?_)
            refine bd_lcmp C dX9_align_117 ?_
            refine bd_if_gt C 140 dX9_align_118 (by decide) (fun c20 => ?_) (fun c20 => ?_)
            · exact bd_sub (hb140 _ hk6 _ ih p16 l0 l1 l2 l3 l4 ol0) [2, 3, 4, 5, 6] rfl
            · refine bd_aload_n C 2 dX9_align_121 rfl rfl ?_
              refine bd_iload C 1 dX9_align_122 rfl ?_
              refine bd_iload_n C 5 dX9_align_124 rfl rfl ?_
              refine bd_iconst C (v := 1) dX9_align_125 (by decide) ?_
              refine bd_iadd C dX9_align_126 ?_
              refine bd_iload C 6 dX9_align_127 rfl ?_
              refine bd_iconst C (v := 1) dX9_align_129 (by decide) ?_
              refine bd_iadd C dX9_align_130 ?_
              refine bd_callS (vs := fun (r : Int32) => some (.int r)) (wf := fun _ => p16) (st := [.int x4, .ref l0]) (st1 := fun x21 => Value.int x21 :: [.int x4, .ref l0]) C [.int (l3 + 1), .int (l4 + 1)] (fun r9 e9 => mX9_cell C.flag N e9) mwX9_cell miX9_cell wd_1630 rfl rfl (Nat.le_of_ble_eq_true rfl) dX9_align_131 ⟨rfl, rfl, Nat.le_of_ble_eq_true rfl, Nat.le_of_ble_eq_true rfl, Nat.le_of_ble_eq_true rfl, Nat.le_of_ble_eq_true rfl⟩ (fun _ => rfl) (fun x21 ex21 => ?_)
              refine bd_iconst C (v := 1) dX9_align_134 (by decide) ?_
              refine bd_iload C 0 dX9_align_135 rfl ?_
              refine bd_callV (vs := fun _ => none) (wf := fun (r : Wd) => r) (st := []) (st1 := fun p22 => []) C [.int x4, .int x21, .int 1, .int x17] (fun r9 e9 => mX9_take C.flag N ol0 e9) mwX9_take miX9_take wd_1633 ol0 (by decide) rfl rfl rfl (Nat.le_of_ble_eq_true rfl) dX9_align_137 ⟨rfl, rfl, Nat.le_of_ble_eq_true rfl, Nat.le_of_ble_eq_true rfl, Nat.le_of_ble_eq_true rfl, Nat.le_of_ble_eq_true rfl⟩ (fun _ => rfl) (fun p22 ep22 => ?_)
              exact bd_sub (hb140 _ hk6 _ ih p22 l0 l1 l2 l3 l4 ol0) [2, 3, 4, 5, 6] rfl
  have hb6 : ∀ (n : Nat) (w : Wd) (l0 : Nat) (l1 : Int32) (l2 : Int32) (l3 : Int32) (ol0 : okF F l0 9), BD g G F 7 (qX9_align G F g) 0 0 (fX9_align_6 F N n w l0 l1 l2 l3) w 6 [(0, .ref l0), (1, .int l1), (2, .int l2), (3, .int l3)] [] := by
    intro n
    induction n with
    | zero =>
      intro w l0 l1 l2 l3 ol0
      unfold fX9_align_6
      exact bd_none
    | succ n ih =>
      intro w l0 l1 l2 l3 ol0
      unfold fX9_align_6
      refine bd_iload_n C 3 dX9_align_6 rfl rfl ?_
      refine bd_if_lt C 152 dX9_align_7 (by decide) (fun c1 => ?_) (fun c1 => ?_)
      · exact bd_vret C hret rfl _ _ rfl rfl dX9_align_152 (Nat.le_refl _) (Nat.le_refl _)
      · refine bd_aload_n C 0 dX9_align_10 rfl rfl ?_
        refine bd_iload_n C 2 dX9_align_11 rfl rfl ?_
        refine bd_callV (vs := fun (r : Int32) => some (.int r)) (wf := fun _ => w) (st := []) (st1 := fun x2 => Value.int x2 :: []) C [.int l2] (fun r9 e9 => mX9_many C.flag N ol0 e9) mwX9_many miX9_many wd_1436 ol0 (by decide) rfl rfl rfl (Nat.le_of_ble_eq_true rfl) dX9_align_12 ⟨rfl, rfl, Nat.le_of_ble_eq_true rfl, Nat.le_of_ble_eq_true rfl, Nat.le_of_ble_eq_true rfl, Nat.le_of_ble_eq_true rfl⟩ (fun _ => rfl) (fun x2 ex2 => ?_)
        refine bd_istore C [(4, .int x2), (0, .ref l0), (1, .int l1), (2, .int l2), (3, .int l3)] dX9_align_15 (by decide) rfl ?_
        exact bd_sub (hb17 _ ih N w l0 l1 l2 l3 x2 ol0) [1, 2, 3, 4, 0] rfl
  unfold fX9_align
  refine bd_sub (lv' := [(0, .ref l0), (1, .int l1), (2, .int l2)]) ?_ [0, 1, 2] rfl
  refine bd_aload_n C 0 dX9_align_0 rfl rfl ?_
  refine bd_iload_n C 1 dX9_align_1 rfl rfl ?_
  refine bd_callV (vs := fun (r : Int32) => some (.int r)) (wf := fun _ => w) (st := []) (st1 := fun x23 => Value.int x23 :: []) C [.int l1] (fun r9 e9 => mX9_many C.flag N ol0 e9) mwX9_many miX9_many wd_1436 ol0 (by decide) rfl rfl rfl (Nat.le_of_ble_eq_true rfl) dX9_align_2 ⟨rfl, rfl, Nat.le_of_ble_eq_true rfl, Nat.le_of_ble_eq_true rfl, Nat.le_of_ble_eq_true rfl, Nat.le_of_ble_eq_true rfl⟩ (fun _ => rfl) (fun x23 ex23 => ?_)
  refine bd_istore_n C [(3, .int x23), (0, .ref l0), (1, .int l1), (2, .int l2)] dX9_align_5 rfl (by decide) rfl ?_
  exact bd_sub (hb6 N w l0 l1 l2 x23 ol0) [1, 2, 3, 0] rfl
abbrev rmX9_aligned : Room := { frames := 16, cells := 0, slots := 0, locals := 437 }
abbrev qX9_aligned (G : Gy) (F : Fr) (g : Bd) : (Int32 × Wd) → State → Prop := fun r => QM G F g 0 0 ((fun (r : Int32 × Wd) => some (.int r.1)) r) ((fun (r : Int32 × Wd) => r.2) r)
set_option maxRecDepth 20000 in
set_option maxHeartbeats 4000000 in
theorem mX9_aligned {l : Launch} (hf9 : l.stackTraces = false) {G : Gy} {F : Fr} (N : Nat) {w : Wd} {l0 : Nat} {l1 : Int32} {l2 : Int32} {l3 : Int32} {r : Int32 × Wd} (ol0 : okF F l0 9) (e9 : fX9_aligned F N w l0 l1 l2 l3 = some r) : Met l yX9_aligned [.code yX9_aligned cX9_aligned 8 (some .int)] rmX9_aligned (PcB G F w [.ref l0, .int l1, .int l2, .int l3]) (QB G F ((fun (r : Int32 × Wd) => some (.int r.1)) r) ((fun (r : Int32 × Wd) => r.2) r)) 0 0 (AF F) := by
  refine bd_met (vs := fun (r : Int32 × Wd) => some (.int r.1)) (wf := fun (r : Int32 × Wd) => r.2) hf9 (by decide) (Nat.le_of_ble_eq_true rfl) e9 (fun g C hret hini => ?_)
  clear e9 r
  have hb136 : ∀ (k58 : Wd → Nat → Int32 → Int32 → Int32 → Int32 → Int32 → Int32 → Option (Int32 × Wd)), (∀ (w : Wd) (l0 : Nat) (l1 : Int32) (l2 : Int32) (l3 : Int32) (l4 : Int32) (l5 : Int32) (l6 : Int32) (ol0 : okF F l0 9), BD g G F 8 (qX9_aligned G F g) 0 0 (k58 w l0 l1 l2 l3 l4 l5 l6) w 58 [(0, .ref l0), (1, .int l1), (2, .int l2), (3, .int l3), (4, .int l4), (5, .int l5), (6, .int l6)] []) → ∀  (w : Wd) (l0 : Nat) (l1 : Int32) (l2 : Int32) (l3 : Int32) (l5 : Int32) (l6 : Int32) (s0 : Int32) (ol0 : okF F l0 9), BD g G F 8 (qX9_aligned G F g) 0 0 (fX9_aligned_136 F N k58 w l0 l1 l2 l3 l5 l6 s0) w 136 [(0, .ref l0), (1, .int l1), (2, .int l2), (3, .int l3), (5, .int l5), (6, .int l6)] [.int s0] := by
    intro k58 hk58
    intro w l0 l1 l2 l3 l5 l6 s0 ol0
    unfold fX9_aligned_136
    refine bd_istore C [(4, .int s0), (0, .ref l0), (1, .int l1), (2, .int l2), (3, .int l3), (5, .int l5), (6, .int l6)] dX9_aligned_136 (by decide) rfl ?_
    refine bd_iinc C (v := l6 + 1) 6 [(6, .int (l6 + 1)), (4, .int s0), (0, .ref l0), (1, .int l1), (2, .int l2), (3, .int l3), (5, .int l5)] dX9_aligned_138 rfl rfl (by decide) rfl ?_
    refine bd_goto C 58 dX9_aligned_141 (by decide) ?_
    exact bd_sub (hk58 w l0 l1 l2 l3 s0 l5 (l6 + 1) ol0) [2, 3, 4, 5, 1, 6, 0] rfl
  have hb120 : ∀ (k58 : Wd → Nat → Int32 → Int32 → Int32 → Int32 → Int32 → Int32 → Option (Int32 × Wd)), (∀ (w : Wd) (l0 : Nat) (l1 : Int32) (l2 : Int32) (l3 : Int32) (l4 : Int32) (l5 : Int32) (l6 : Int32) (ol0 : okF F l0 9), BD g G F 8 (qX9_aligned G F g) 0 0 (k58 w l0 l1 l2 l3 l4 l5 l6) w 58 [(0, .ref l0), (1, .int l1), (2, .int l2), (3, .int l3), (4, .int l4), (5, .int l5), (6, .int l6)] []) → ∀  (w : Wd) (l0 : Nat) (l1 : Int32) (l2 : Int32) (l3 : Int32) (l4 : Int32) (l6 : Int32) (s0 : Int32) (ol0 : okF F l0 9), BD g G F 8 (qX9_aligned G F g) 0 0 (fX9_aligned_120 F N k58 w l0 l1 l2 l3 l4 l6 s0) w 120 [(0, .ref l0), (1, .int l1), (2, .int l2), (3, .int l3), (4, .int l4), (6, .int l6)] [.int s0] := by
    intro k58 hk58
    intro w l0 l1 l2 l3 l4 l6 s0 ol0
    unfold fX9_aligned_120
    refine bd_istore C [(5, .int s0), (0, .ref l0), (1, .int l1), (2, .int l2), (3, .int l3), (4, .int l4), (6, .int l6)] dX9_aligned_120 (by decide) rfl ?_
    refine bd_iload C 0 dX9_aligned_122 rfl ?_
    refine bd_if_ge C 132 dX9_aligned_124 (by decide) (fun c12 => ?_) (fun c12 => ?_)
    · refine bd_iload C 0 dX9_aligned_132 rfl ?_
      refine bd_iconst C (v := 1) dX9_aligned_134 (by decide) ?_
      refine bd_iadd C dX9_aligned_135 ?_
      exact bd_sub (hb136 _ hk58 w l0 l1 l2 l3 s0 l6 (s0 + 1) ol0) [1, 2, 3, 4, 0, 6] rfl
    · refine bd_iload C 5 dX9_aligned_127 rfl ?_
      refine bd_goto C 136 dX9_aligned_129 (by decide) ?_
      exact bd_sub (hb136 _ hk58 w l0 l1 l2 l3 s0 l6 l4 ol0) [1, 2, 3, 4, 0, 6] rfl
  have hb104 : ∀ (k58 : Wd → Nat → Int32 → Int32 → Int32 → Int32 → Int32 → Int32 → Option (Int32 × Wd)), (∀ (w : Wd) (l0 : Nat) (l1 : Int32) (l2 : Int32) (l3 : Int32) (l4 : Int32) (l5 : Int32) (l6 : Int32) (ol0 : okF F l0 9), BD g G F 8 (qX9_aligned G F g) 0 0 (k58 w l0 l1 l2 l3 l4 l5 l6) w 58 [(0, .ref l0), (1, .int l1), (2, .int l2), (3, .int l3), (4, .int l4), (5, .int l5), (6, .int l6)] []) → ∀  (w : Wd) (l0 : Nat) (l1 : Int32) (l2 : Int32) (l3 : Int32) (l4 : Int32) (l6 : Int32) (l7 : Int32) (ol0 : okF F l0 9), BD g G F 8 (qX9_aligned G F g) 0 0 (fX9_aligned_104 F N k58 w l0 l1 l2 l3 l4 l6 l7) w 104 [(0, .ref l0), (1, .int l1), (2, .int l2), (3, .int l3), (4, .int l4), (6, .int l6), (7, .int l7)] [] := by
    intro k58 hk58
    intro w l0 l1 l2 l3 l4 l6 l7 ol0
    unfold fX9_aligned_104
    refine bd_iload C 6 dX9_aligned_104 rfl ?_
    refine bd_aload_n C 0 dX9_aligned_106 rfl rfl ?_
    refine bd_iload_n C 2 dX9_aligned_107 rfl rfl ?_
    refine bd_callV (vs := fun (r : Int32) => some (.int r)) (wf := fun _ => w) (st := [.int l7]) (st1 := fun x10 => Value.int x10 :: [.int l7]) C [.int l2] (fun r9 e9 => mX9_many C.flag N ol0 e9) mwX9_many miX9_many wd_1436 ol0 (by decide) rfl rfl rfl (Nat.le_of_ble_eq_true rfl) dX9_aligned_108 ⟨rfl, rfl, Nat.le_of_ble_eq_true rfl, Nat.le_of_ble_eq_true rfl, Nat.le_of_ble_eq_true rfl, Nat.le_of_ble_eq_true rfl⟩ (fun _ => rfl) (fun x10 ex10 => ?_)
    refine bd_icmp_ge C 119 dX9_aligned_111 (by decide) (fun c11 => ?_) (fun c11 => ?_)
    · refine bd_iconst C (v := (-1)) dX9_aligned_119 (by decide) ?_
      exact bd_sub (hb120 _ hk58 w l0 l1 l2 l3 l4 l6 (-1) ol0) [0, 1, 2, 3, 4, 5] rfl
    · refine bd_iload C 6 dX9_aligned_114 rfl ?_
      refine bd_goto C 120 dX9_aligned_116 (by decide) ?_
      exact bd_sub (hb120 _ hk58 w l0 l1 l2 l3 l4 l6 l7 ol0) [0, 1, 2, 3, 4, 5] rfl
  have hb68 : ∀ (k58 : Wd → Nat → Int32 → Int32 → Int32 → Int32 → Int32 → Int32 → Option (Int32 × Wd)), (∀ (w : Wd) (l0 : Nat) (l1 : Int32) (l2 : Int32) (l3 : Int32) (l4 : Int32) (l5 : Int32) (l6 : Int32) (ol0 : okF F l0 9), BD g G F 8 (qX9_aligned G F g) 0 0 (k58 w l0 l1 l2 l3 l4 l5 l6) w 58 [(0, .ref l0), (1, .int l1), (2, .int l2), (3, .int l3), (4, .int l4), (5, .int l5), (6, .int l6)] []) → ∀ (n : Nat) (w : Wd) (l0 : Nat) (l1 : Int32) (l2 : Int32) (l3 : Int32) (l4 : Int32) (l6 : Int32) (l7 : Int32) (ol0 : okF F l0 9), BD g G F 8 (qX9_aligned G F g) 0 0 (fX9_aligned_68 F N k58 n w l0 l1 l2 l3 l4 l6 l7) w 68 [(0, .ref l0), (1, .int l1), (2, .int l2), (3, .int l3), (4, .int l4), (6, .int l6), (7, .int l7)] [] := by
    intro k58 hk58
    intro n
    induction n with
    | zero =>
      intro w l0 l1 l2 l3 l4 l6 l7 ol0
      unfold fX9_aligned_68
      exact bd_none
    | succ n ih =>
      intro w l0 l1 l2 l3 l4 l6 l7 ol0
      unfold fX9_aligned_68
      refine bd_iload C 6 dX9_aligned_68 rfl ?_
      refine bd_aload_n C 0 dX9_aligned_70 rfl rfl ?_
      refine bd_iload_n C 2 dX9_aligned_71 rfl rfl ?_
      refine bd_callV (vs := fun (r : Int32) => some (.int r)) (wf := fun _ => w) (st := [.int l7]) (st1 := fun x5 => Value.int x5 :: [.int l7]) C [.int l2] (fun r9 e9 => mX9_many C.flag N ol0 e9) mwX9_many miX9_many wd_1436 ol0 (by decide) rfl rfl rfl (Nat.le_of_ble_eq_true rfl) dX9_aligned_72 ⟨rfl, rfl, Nat.le_of_ble_eq_true rfl, Nat.le_of_ble_eq_true rfl, Nat.le_of_ble_eq_true rfl, Nat.le_of_ble_eq_true rfl⟩ (fun _ => rfl) (fun x5 ex5 => ?_)
      refine bd_icmp_ge C 104 dX9_aligned_75 (by decide) (fun c6 => ?_) (fun c6 => ?_)
      · exact bd_sub (hb104 _ hk58 w l0 l1 l2 l3 l4 l6 l7 ol0) [0, 1, 2, 3, 4, 5, 6] rfl
      · refine bd_aload_n C 0 dX9_aligned_78 rfl rfl ?_
        refine bd_iload_n C 1 dX9_aligned_79 rfl rfl ?_
        refine bd_iload C 5 dX9_aligned_80 rfl ?_
        refine bd_iload_n C 2 dX9_aligned_82 rfl rfl ?_
        refine bd_iload C 6 dX9_aligned_83 rfl ?_
        refine bd_iload C 5 dX9_aligned_85 rfl ?_
        refine bd_iload C 4 dX9_aligned_87 rfl ?_
        refine bd_callS (vs := fun (r : Int32) => some (.int r)) (wf := fun _ => w) (st := [.int l7, .int l2, .int l6, .int l1, .ref l0]) (st1 := fun x7 => Value.int x7 :: [.int l7, .int l2, .int l6, .int l1, .ref l0]) C [.int l6, .int l4] (fun r9 e9 => mX9_cell C.flag N e9) mwX9_cell miX9_cell wd_1630 rfl rfl (Nat.le_of_ble_eq_true rfl) dX9_aligned_89 ⟨rfl, rfl, Nat.le_of_ble_eq_true rfl, Nat.le_of_ble_eq_true rfl, Nat.le_of_ble_eq_true rfl, Nat.le_of_ble_eq_true rfl⟩ (fun _ => rfl) (fun x7 ex7 => ?_)
        refine bd_callV (vs := fun (r : Int32) => some (.int r)) (wf := fun _ => w) (st := []) (st1 := fun x8 => Value.int x8 :: []) C [.int l1, .int l6, .int l2, .int l7, .int x7] (fun r9 e9 => mX9_isBestPair C.flag N ol0 e9) mwX9_isBestPair miX9_isBestPair wd_1642 ol0 (by decide) rfl rfl rfl (Nat.le_of_ble_eq_true rfl) dX9_aligned_92 ⟨rfl, rfl, Nat.le_of_ble_eq_true rfl, Nat.le_of_ble_eq_true rfl, Nat.le_of_ble_eq_true rfl, Nat.le_of_ble_eq_true rfl⟩ (fun _ => rfl) (fun x8 ex8 => ?_)
        refine bd_if_ne C 104 dX9_aligned_95 (by decide) (fun c9 => ?_) (fun c9 => ?_)
        · exact bd_sub (hb104 _ hk58 w l0 l1 l2 l3 l4 l6 l7 ol0) [0, 1, 2, 3, 4, 5, 6] rfl
        · refine bd_iinc C (v := l7 + 1) 6 [(7, .int (l7 + 1)), (0, .ref l0), (1, .int l1), (2, .int l2), (3, .int l3), (4, .int l4), (6, .int l6)] dX9_aligned_98 rfl rfl (by decide) rfl ?_
          refine bd_goto C 68 dX9_aligned_101 (by decide) ?_
          exact bd_sub (ih w l0 l1 l2 l3 l4 l6 (l7 + 1) ol0) [1, 2, 3, 4, 5, 6, 0] rfl
  have hb58 : ∀ (n : Nat) (w : Wd) (l0 : Nat) (l1 : Int32) (l2 : Int32) (l3 : Int32) (l4 : Int32) (l5 : Int32) (l6 : Int32) (ol0 : okF F l0 9), BD g G F 8 (qX9_aligned G F g) 0 0 (fX9_aligned_58 F N n w l0 l1 l2 l3 l4 l5 l6) w 58 [(0, .ref l0), (1, .int l1), (2, .int l2), (3, .int l3), (4, .int l4), (5, .int l5), (6, .int l6)] [] := by
    intro n
    induction n with
    | zero =>
      intro w l0 l1 l2 l3 l4 l5 l6 ol0
      unfold fX9_aligned_58
      exact bd_none
    | succ n ih =>
      intro w l0 l1 l2 l3 l4 l5 l6 ol0
      unfold fX9_aligned_58
      refine bd_iload C 6 dX9_aligned_58 rfl ?_
      refine bd_iload_n C 3 dX9_aligned_60 rfl rfl ?_
      refine bd_icmp_gt C 144 dX9_aligned_61 (by decide) (fun c4 => ?_) (fun c4 => ?_)
      · refine bd_iload C 5 dX9_aligned_144 rfl ?_
        exact bd_iret C hret rfl _ _ rfl rfl dX9_aligned_146 (Nat.le_refl _) (Nat.le_refl _)
      · refine bd_iload C 4 dX9_aligned_64 rfl ?_
        refine bd_istore C [(7, .int l4), (0, .ref l0), (1, .int l1), (2, .int l2), (3, .int l3), (4, .int l4), (5, .int l5), (6, .int l6)] dX9_aligned_66 (by decide) rfl ?_
        exact bd_sub (hb68 _ ih N w l0 l1 l2 l3 l4 l6 l4 ol0) [1, 2, 3, 4, 5, 7, 0] rfl
  have hb31 : ∀  (w : Wd) (l0 : Nat) (l1 : Int32) (l2 : Int32) (l3 : Int32) (s0 : Nat) (s1 : Int32) (ol0 : okF F l0 9) (os0 : okF F s0 9), BD g G F 8 (qX9_aligned G F g) 0 0 (fX9_aligned_31 F N w l0 l1 l2 l3 s0 s1) w 31 [(0, .ref l0), (1, .int l1), (2, .int l2), (3, .int l3)] [.int s1, .ref s0] := by
    intro w l0 l1 l2 l3 s0 s1 ol0 os0
    unfold fX9_aligned_31
    refine bd_pI C fi906 ftX9 fu906 wd_1247 rfl rfl rfl dX9_aligned_31 os0 (fun w1 => ?_)
    refine bd_aload_n C 0 dX9_aligned_34 rfl rfl ?_
    refine bd_gI C fi906 fv906 wd_1247 dX9_aligned_35 ol0 ?_
    refine bd_if_le C 43 dX9_aligned_38 (by decide) (fun c2 => ?_) (fun c2 => ?_)
    · refine bd_aload_n C 0 dX9_aligned_43 rfl rfl ?_
      refine bd_iload_n C 1 dX9_aligned_44 rfl rfl ?_
      refine bd_iload_n C 2 dX9_aligned_45 rfl rfl ?_
      refine bd_callV (vs := fun _ => none) (wf := fun (r : Wd) => r) (st := []) (st1 := fun p3 => []) C [.int l1, .int l2] (fun r9 e9 => mX9_align C.flag N ol0 e9) mwX9_align miX9_align wd_1626 ol0 (by decide) rfl rfl rfl (Nat.le_of_ble_eq_true rfl) dX9_aligned_46 ⟨rfl, rfl, Nat.le_of_ble_eq_true rfl, Nat.le_of_ble_eq_true rfl, Nat.le_of_ble_eq_true rfl, Nat.le_of_ble_eq_true rfl⟩ (fun _ => rfl) (fun p3 ep3 => ?_)
      refine bd_iconst C (v := 0) dX9_aligned_49 (by decide) ?_
      refine bd_istore C [(4, .int 0), (0, .ref l0), (1, .int l1), (2, .int l2), (3, .int l3)] dX9_aligned_50 (by decide) rfl ?_
      refine bd_iconst C (v := (-1)) dX9_aligned_52 (by decide) ?_
      refine bd_istore C [(5, .int (-1)), (4, .int 0), (0, .ref l0), (1, .int l1), (2, .int l2), (3, .int l3)] dX9_aligned_53 (by decide) rfl ?_
      refine bd_iconst C (v := 0) dX9_aligned_55 (by decide) ?_
      refine bd_istore C [(6, .int 0), (5, .int (-1)), (4, .int 0), (0, .ref l0), (1, .int l1), (2, .int l2), (3, .int l3)] dX9_aligned_56 (by decide) rfl ?_
      exact bd_sub (hb58 N p3 l0 l1 l2 l3 0 (-1) 0 ol0) [3, 4, 5, 6, 2, 1, 0] rfl
    · refine bd_iconst C (v := 0) dX9_aligned_41 (by decide) ?_
      exact bd_iret C hret rfl _ _ rfl rfl dX9_aligned_42 (Nat.le_refl _) (Nat.le_refl _)
  have hb30 : ∀  (w : Wd) (l0 : Nat) (l1 : Int32) (l2 : Int32) (l3 : Int32) (s0 : Nat) (ol0 : okF F l0 9) (os0 : okF F s0 9), BD g G F 8 (qX9_aligned G F g) 0 0 (fX9_aligned_30 F N w l0 l1 l2 l3 s0) w 30 [(0, .ref l0), (1, .int l1), (2, .int l2), (3, .int l3)] [.ref s0] := by
    intro w l0 l1 l2 l3 s0 ol0 os0
    unfold fX9_aligned_30
    refine bd_iconst C (v := 1) dX9_aligned_30 (by decide) ?_
    exact bd_sub (hb31 w l0 l1 l2 l3 s0 1 ol0 os0) [0, 1, 2, 3] rfl
  unfold fX9_aligned
  refine bd_sub (lv' := [(0, .ref l0), (1, .int l1), (2, .int l2), (3, .int l3)]) ?_ [0, 1, 2, 3] rfl
  refine bd_aload_n C 0 dX9_aligned_0 rfl rfl ?_
  refine bd_aload_n C 0 dX9_aligned_1 rfl rfl ?_
  refine bd_iload_n C 1 dX9_aligned_2 rfl rfl ?_
  refine bd_callV (vs := fun (r : Int32) => some (.int r)) (wf := fun _ => w) (st := [.ref l0]) (st1 := fun x13 => Value.int x13 :: [.ref l0]) C [.int l1] (fun r9 e9 => mX9_isTier C.flag N ol0 e9) mwX9_isTier miX9_isTier wd_1402 ol0 (by decide) rfl rfl rfl (Nat.le_of_ble_eq_true rfl) dX9_aligned_3 ⟨rfl, rfl, Nat.le_of_ble_eq_true rfl, Nat.le_of_ble_eq_true rfl, Nat.le_of_ble_eq_true rfl, Nat.le_of_ble_eq_true rfl⟩ (fun _ => rfl) (fun x13 ex13 => ?_)
  refine bd_if_eq C 30 dX9_aligned_6 (by decide) (fun c14 => ?_) (fun c14 => ?_)
  · exact bd_sub (hb30 w l0 l1 l2 l3 l0 ol0 ol0) [0, 1, 2, 3] rfl
  · refine bd_aload_n C 0 dX9_aligned_9 rfl rfl ?_
    refine bd_iload_n C 2 dX9_aligned_10 rfl rfl ?_
    refine bd_callV (vs := fun (r : Int32) => some (.int r)) (wf := fun _ => w) (st := [.ref l0]) (st1 := fun x15 => Value.int x15 :: [.ref l0]) C [.int l2] (fun r9 e9 => mX9_isTier C.flag N ol0 e9) mwX9_isTier miX9_isTier wd_1402 ol0 (by decide) rfl rfl rfl (Nat.le_of_ble_eq_true rfl) dX9_aligned_11 ⟨rfl, rfl, Nat.le_of_ble_eq_true rfl, Nat.le_of_ble_eq_true rfl, Nat.le_of_ble_eq_true rfl, Nat.le_of_ble_eq_true rfl⟩ (fun _ => rfl) (fun x15 ex15 => ?_)
    refine bd_if_eq C 30 dX9_aligned_14 (by decide) (fun c16 => ?_) (fun c16 => ?_)
    · exact bd_sub (hb30 w l0 l1 l2 l3 l0 ol0 ol0) [0, 1, 2, 3] rfl
    · refine bd_aload_n C 0 dX9_aligned_17 rfl rfl ?_
      refine bd_iload_n C 1 dX9_aligned_18 rfl rfl ?_
      refine bd_iload_n C 3 dX9_aligned_19 rfl rfl ?_
      refine bd_callV (vs := fun (r : Int32) => some (.int r)) (wf := fun _ => w) (st := [.ref l0]) (st1 := fun x17 => Value.int x17 :: [.ref l0]) C [.int l1, .int l3] (fun r9 e9 => mX9_isSpan C.flag N ol0 e9) mwX9_isSpan miX9_isSpan wd_1550 ol0 (by decide) rfl rfl rfl (Nat.le_of_ble_eq_true rfl) dX9_aligned_20 ⟨rfl, rfl, Nat.le_of_ble_eq_true rfl, Nat.le_of_ble_eq_true rfl, Nat.le_of_ble_eq_true rfl, Nat.le_of_ble_eq_true rfl⟩ (fun _ => rfl) (fun x17 ex17 => ?_)
      refine bd_if_eq C 30 dX9_aligned_23 (by decide) (fun c18 => ?_) (fun c18 => ?_)
      · exact bd_sub (hb30 w l0 l1 l2 l3 l0 ol0 ol0) [0, 1, 2, 3] rfl
      · refine bd_iconst C (v := 0) dX9_aligned_26 (by decide) ?_
        refine bd_goto C 31 dX9_aligned_27 (by decide) ?_
        exact bd_sub (hb31 w l0 l1 l2 l3 l0 0 ol0 ol0) [0, 1, 2, 3] rfl
abbrev rmX9_alignment : Room := { frames := 16, cells := 0, slots := 0, locals := 436 }
abbrev qX9_alignment (G : Gy) (F : Fr) (g : Bd) : (Int32 × Wd) → State → Prop := fun r => QM G F g 0 0 ((fun (r : Int32 × Wd) => some (.int r.1)) r) ((fun (r : Int32 × Wd) => r.2) r)
set_option maxRecDepth 20000 in
set_option maxHeartbeats 4000000 in
theorem mX9_alignment {l : Launch} (hf9 : l.stackTraces = false) {G : Gy} {F : Fr} (N : Nat) {w : Wd} {l0 : Nat} {l1 : Int32} {l2 : Int32} {l3 : Int32} {r : Int32 × Wd} (ol0 : okF F l0 9) (e9 : fX9_alignment F N w l0 l1 l2 l3 = some r) : Met l yX9_alignment [.code yX9_alignment cX9_alignment 4 (some .int)] rmX9_alignment (PcB G F w [.ref l0, .int l1, .int l2, .int l3]) (QB G F ((fun (r : Int32 × Wd) => some (.int r.1)) r) ((fun (r : Int32 × Wd) => r.2) r)) 0 0 (AF F) := by
  refine bd_met (vs := fun (r : Int32 × Wd) => some (.int r.1)) (wf := fun (r : Int32 × Wd) => r.2) hf9 (by decide) (Nat.le_of_ble_eq_true rfl) e9 (fun g C hret hini => ?_)
  clear e9 r
  have hb22 : ∀  (w : Wd) (l0 : Nat) (l1 : Int32) (l2 : Int32) (l3 : Int32) (s0 : Nat) (s1 : Int32) (ol0 : okF F l0 9) (os0 : okF F s0 9), BD g G F 4 (qX9_alignment G F g) 0 0 (fX9_alignment_22 F N w l0 l1 l2 l3 s0 s1) w 22 [(0, .ref l0), (1, .int l1), (2, .int l2), (3, .int l3)] [.int s1, .ref s0] := by
    intro w l0 l1 l2 l3 s0 s1 ol0 os0
    unfold fX9_alignment_22
    refine bd_pI C fi906 ftX9 fu906 wd_1247 rfl rfl rfl dX9_alignment_22 os0 (fun w1 => ?_)
    refine bd_aload_n C 0 dX9_alignment_25 rfl rfl ?_
    refine bd_gI C fi906 fv906 wd_1247 dX9_alignment_26 ol0 ?_
    refine bd_if_le C 34 dX9_alignment_29 (by decide) (fun c2 => ?_) (fun c2 => ?_)
    · refine bd_aload_n C 0 dX9_alignment_34 rfl rfl ?_
      refine bd_iload_n C 1 dX9_alignment_35 rfl rfl ?_
      refine bd_iload_n C 2 dX9_alignment_36 rfl rfl ?_
      refine bd_callV (vs := fun _ => none) (wf := fun (r : Wd) => r) (st := []) (st1 := fun p3 => []) C [.int l1, .int l2] (fun r9 e9 => mX9_align C.flag N ol0 e9) mwX9_align miX9_align wd_1626 ol0 (by decide) rfl rfl rfl (Nat.le_of_ble_eq_true rfl) dX9_alignment_37 ⟨rfl, rfl, Nat.le_of_ble_eq_true rfl, Nat.le_of_ble_eq_true rfl, Nat.le_of_ble_eq_true rfl, Nat.le_of_ble_eq_true rfl⟩ (fun _ => rfl) (fun p3 ep3 => ?_)
      refine bd_iload_n C 3 dX9_alignment_40 rfl rfl ?_
      refine bd_if_eq C 53 dX9_alignment_41 (by decide) (fun c4 => ?_) (fun c4 => ?_)
      · refine bd_aload_n C 0 dX9_alignment_53 rfl rfl ?_
        refine bd_gR C fi915 fv915 wd_1256 dX9_alignment_54 ol0 (fun r5 gr5 hr5 => ?_)
        refine bd_iconst C (v := 0) dX9_alignment_57 (by decide) ?_
        refine bd_iald C dX9_alignment_58 hr5 (fun x6 => ?_)
        exact bd_iret C hret rfl _ _ rfl rfl dX9_alignment_59 (Nat.le_refl _) (Nat.le_refl _)
      · refine bd_aload_n C 0 dX9_alignment_44 rfl rfl ?_
        refine bd_gR C fi914 fv914 wd_1255 dX9_alignment_45 ol0 (fun r7 gr7 hr7 => ?_)
        refine bd_iconst C (v := 0) dX9_alignment_48 (by decide) ?_
        refine bd_iald C dX9_alignment_49 hr7 (fun x8 => ?_)
        refine bd_goto C 59 dX9_alignment_50 (by decide) ?_
        exact bd_iret C hret rfl _ _ rfl rfl dX9_alignment_59 (Nat.le_refl _) (Nat.le_refl _)
    · refine bd_iconst C (v := 0) dX9_alignment_32 (by decide) ?_
      exact bd_iret C hret rfl _ _ rfl rfl dX9_alignment_33 (Nat.le_refl _) (Nat.le_refl _)
  have hb21 : ∀  (w : Wd) (l0 : Nat) (l1 : Int32) (l2 : Int32) (l3 : Int32) (s0 : Nat) (ol0 : okF F l0 9) (os0 : okF F s0 9), BD g G F 4 (qX9_alignment G F g) 0 0 (fX9_alignment_21 F N w l0 l1 l2 l3 s0) w 21 [(0, .ref l0), (1, .int l1), (2, .int l2), (3, .int l3)] [.ref s0] := by
    intro w l0 l1 l2 l3 s0 ol0 os0
    unfold fX9_alignment_21
    refine bd_iconst C (v := 1) dX9_alignment_21 (by decide) ?_
    exact bd_sub (hb22 w l0 l1 l2 l3 s0 1 ol0 os0) [0, 1, 2, 3] rfl
  unfold fX9_alignment
  refine bd_sub (lv' := [(0, .ref l0), (1, .int l1), (2, .int l2), (3, .int l3)]) ?_ [0, 1, 2, 3] rfl
  refine bd_aload_n C 0 dX9_alignment_0 rfl rfl ?_
  refine bd_aload_n C 0 dX9_alignment_1 rfl rfl ?_
  refine bd_iload_n C 1 dX9_alignment_2 rfl rfl ?_
  refine bd_callV (vs := fun (r : Int32) => some (.int r)) (wf := fun _ => w) (st := [.ref l0]) (st1 := fun x9 => Value.int x9 :: [.ref l0]) C [.int l1] (fun r9 e9 => mX9_isTier C.flag N ol0 e9) mwX9_isTier miX9_isTier wd_1402 ol0 (by decide) rfl rfl rfl (Nat.le_of_ble_eq_true rfl) dX9_alignment_3 ⟨rfl, rfl, Nat.le_of_ble_eq_true rfl, Nat.le_of_ble_eq_true rfl, Nat.le_of_ble_eq_true rfl, Nat.le_of_ble_eq_true rfl⟩ (fun _ => rfl) (fun x9 ex9 => ?_)
  refine bd_if_eq C 21 dX9_alignment_6 (by decide) (fun c10 => ?_) (fun c10 => ?_)
  · exact bd_sub (hb21 w l0 l1 l2 l3 l0 ol0 ol0) [0, 1, 2, 3] rfl
  · refine bd_aload_n C 0 dX9_alignment_9 rfl rfl ?_
    refine bd_iload_n C 2 dX9_alignment_10 rfl rfl ?_
    refine bd_callV (vs := fun (r : Int32) => some (.int r)) (wf := fun _ => w) (st := [.ref l0]) (st1 := fun x11 => Value.int x11 :: [.ref l0]) C [.int l2] (fun r9 e9 => mX9_isTier C.flag N ol0 e9) mwX9_isTier miX9_isTier wd_1402 ol0 (by decide) rfl rfl rfl (Nat.le_of_ble_eq_true rfl) dX9_alignment_11 ⟨rfl, rfl, Nat.le_of_ble_eq_true rfl, Nat.le_of_ble_eq_true rfl, Nat.le_of_ble_eq_true rfl, Nat.le_of_ble_eq_true rfl⟩ (fun _ => rfl) (fun x11 ex11 => ?_)
    refine bd_if_eq C 21 dX9_alignment_14 (by decide) (fun c12 => ?_) (fun c12 => ?_)
    · exact bd_sub (hb21 w l0 l1 l2 l3 l0 ol0 ol0) [0, 1, 2, 3] rfl
    · refine bd_iconst C (v := 0) dX9_alignment_17 (by decide) ?_
      refine bd_goto C 22 dX9_alignment_18 (by decide) ?_
      exact bd_sub (hb22 w l0 l1 l2 l3 l0 0 ol0 ol0) [0, 1, 2, 3] rfl
abbrev rmX9_readTierNumber : Room := { frames := 11, cells := 0, slots := 0, locals := 322 }
abbrev qX9_readTierNumber (G : Gy) (F : Fr) (g : Bd) : (Int32 × Wd) → State → Prop := fun r => QM G F g 0 0 ((fun (r : Int32 × Wd) => some (.int r.1)) r) ((fun (r : Int32 × Wd) => r.2) r)
set_option maxRecDepth 20000 in
set_option maxHeartbeats 4000000 in
theorem mX9_readTierNumber {l : Launch} (hf9 : l.stackTraces = false) {G : Gy} {F : Fr} (N : Nat) {w : Wd} {l0 : Nat} {r : Int32 × Wd} (ol0 : okF F l0 9) (e9 : fX9_readTierNumber F N w l0 = some r) : Met l yX9_readTierNumber [.code yX9_readTierNumber cX9_readTierNumber 1 (some .int)] rmX9_readTierNumber (PcB G F w [.ref l0]) (QB G F ((fun (r : Int32 × Wd) => some (.int r.1)) r) ((fun (r : Int32 × Wd) => r.2) r)) 0 0 (AF F) := by
  refine bd_met (vs := fun (r : Int32 × Wd) => some (.int r.1)) (wf := fun (r : Int32 × Wd) => r.2) hf9 (by decide) (Nat.le_of_ble_eq_true rfl) e9 (fun g C hret hini => ?_)
  clear e9 r
  have hb34 : ∀  (w : Wd) (l0 : Nat) (s0 : Nat) (s1 : Int32) (ol0 : okF F l0 9) (os0 : okF F s0 9), BD g G F 1 (qX9_readTierNumber G F g) 0 0 (fX9_readTierNumber_34 F N w l0 s0 s1) w 34 [(0, .ref l0)] [.int s1, .ref s0] := by
    intro w l0 s0 s1 ol0 os0
    unfold fX9_readTierNumber_34
    refine bd_ckZ (fun cz1 => ?_)
    refine bd_pI C fi910 ftX9 fu910 wd_1251 rfl (nar_z cz1) (fit_z cz1) dX9_readTierNumber_34 os0 (fun w3 => ?_)
    refine bd_aload_n C 0 dX9_readTierNumber_37 rfl rfl ?_
    refine bd_gI C fi910 fv910 wd_1251 dX9_readTierNumber_38 ol0 ?_
    refine bd_if_eq C 46 dX9_readTierNumber_41 (by decide) (fun c4 => ?_) (fun c4 => ?_)
    · refine bd_aload_n C 0 dX9_readTierNumber_46 rfl rfl ?_
      refine bd_dup C dX9_readTierNumber_47 rfl ?_
      refine bd_gI C fi909 fv909 wd_1250 dX9_readTierNumber_48 ol0 ?_
      refine bd_iconst C (v := 1) dX9_readTierNumber_51 (by decide) ?_
      refine bd_iadd C dX9_readTierNumber_52 ?_
      refine bd_pI C fi909 ftX9 fu909 wd_1250 rfl rfl rfl dX9_readTierNumber_53 ol0 (fun w5 => ?_)
      refine bd_aload_n C 0 dX9_readTierNumber_56 rfl rfl ?_
      refine bd_gR C fi907 fv907 wd_1248 dX9_readTierNumber_57 ol0 (fun r6 gr6 hr6 => ?_)
      refine bd_aload_n C 0 dX9_readTierNumber_60 rfl rfl ?_
      refine bd_gI C fi909 fv909 wd_1250 dX9_readTierNumber_61 ol0 ?_
      refine bd_iconst C (v := 1) dX9_readTierNumber_64 (by decide) ?_
      refine bd_isub C dX9_readTierNumber_65 ?_
      refine bd_iald C dX9_readTierNumber_66 hr6 (fun x7 => ?_)
      refine bd_bipush C (v := 48) dX9_readTierNumber_67 (by decide) ?_
      refine bd_isub C dX9_readTierNumber_69 ?_
      exact bd_iret C hret rfl _ _ rfl rfl dX9_readTierNumber_70 (Nat.le_refl _) (Nat.le_refl _)
    · refine bd_iconst C (v := 0) dX9_readTierNumber_44 (by decide) ?_
      exact bd_iret C hret rfl _ _ rfl rfl dX9_readTierNumber_45 (Nat.le_refl _) (Nat.le_refl _)
  have hb29 : ∀  (w : Wd) (l0 : Nat) (s0 : Nat) (ol0 : okF F l0 9) (os0 : okF F s0 9), BD g G F 1 (qX9_readTierNumber G F g) 0 0 (fX9_readTierNumber_29 F N w l0 s0) w 29 [(0, .ref l0)] [.ref s0] := by
    intro w l0 s0 ol0 os0
    unfold fX9_readTierNumber_29
    refine bd_iconst C (v := 1) dX9_readTierNumber_29 (by decide) ?_
    refine bd_goto C 34 dX9_readTierNumber_30 (by decide) ?_
    exact bd_sub (hb34 w l0 s0 1 ol0 os0) [0] rfl
  unfold fX9_readTierNumber
  refine bd_sub (lv' := [(0, .ref l0)]) ?_ [0] rfl
  refine bd_aload_n C 0 dX9_readTierNumber_0 rfl rfl ?_
  refine bd_aload_n C 0 dX9_readTierNumber_1 rfl rfl ?_
  refine bd_gI C fi910 fv910 wd_1251 dX9_readTierNumber_2 ol0 ?_
  refine bd_if_ne C 29 dX9_readTierNumber_5 (by decide) (fun c8 => ?_) (fun c8 => ?_)
  · exact bd_sub (hb29 w l0 l0 ol0 ol0) [0] rfl
  · refine bd_aload_n C 0 dX9_readTierNumber_8 rfl rfl ?_
    refine bd_callV (vs := fun (r : Int32) => some (.int r)) (wf := fun _ => w) (st := [.ref l0]) (st1 := fun x9 => Value.int x9 :: [.ref l0]) C [] (fun r9 e9 => mX9_here C.flag N ol0 e9) mwX9_here miX9_here wd_1491 ol0 (by decide) rfl rfl rfl (Nat.le_of_ble_eq_true rfl) dX9_readTierNumber_9 ⟨rfl, rfl, Nat.le_of_ble_eq_true rfl, Nat.le_of_ble_eq_true rfl, Nat.le_of_ble_eq_true rfl, Nat.le_of_ble_eq_true rfl⟩ (fun _ => rfl) (fun x9 ex9 => ?_)
    refine bd_bipush C (v := 48) dX9_readTierNumber_12 (by decide) ?_
    refine bd_bipush C (v := 48) dX9_readTierNumber_14 (by decide) ?_
    refine bd_aload_n C 0 dX9_readTierNumber_16 rfl rfl ?_
    refine bd_callV (vs := fun (r : Int32) => some (.int r)) (wf := fun _ => w) (st := [.int 48, .int 48, .int x9, .ref l0]) (st1 := fun x10 => Value.int x10 :: [.int 48, .int 48, .int x9, .ref l0]) C [] (fun r9 e9 => mX9_tiers C.flag N ol0 e9) mwX9_tiers miX9_tiers wd_1391 ol0 (by decide) rfl rfl rfl (Nat.le_of_ble_eq_true rfl) dX9_readTierNumber_17 ⟨rfl, rfl, Nat.le_of_ble_eq_true rfl, Nat.le_of_ble_eq_true rfl, Nat.le_of_ble_eq_true rfl, Nat.le_of_ble_eq_true rfl⟩ (fun _ => rfl) (fun x10 ex10 => ?_)
    refine bd_iadd C dX9_readTierNumber_20 ?_
    refine bd_iconst C (v := 1) dX9_readTierNumber_21 (by decide) ?_
    refine bd_isub C dX9_readTierNumber_22 ?_
    refine bd_callS (vs := fun (r : Int32) => some (.int r)) (wf := fun _ => w) (st := [.ref l0]) (st1 := fun x11 => Value.int x11 :: [.ref l0]) C [.int x9, .int 48, .int ((48 + x10) - 1)] (fun r9 e9 => mX9_in C.flag N e9) mwX9_in miX9_in wd_1399 rfl rfl (Nat.le_of_ble_eq_true rfl) dX9_readTierNumber_23 ⟨rfl, rfl, Nat.le_of_ble_eq_true rfl, Nat.le_of_ble_eq_true rfl, Nat.le_of_ble_eq_true rfl, Nat.le_of_ble_eq_true rfl⟩ (fun _ => rfl) (fun x11 ex11 => ?_)
    refine bd_if_ne C 33 dX9_readTierNumber_26 (by decide) (fun c12 => ?_) (fun c12 => ?_)
    · refine bd_iconst C (v := 0) dX9_readTierNumber_33 (by decide) ?_
      exact bd_sub (hb34 w l0 l0 0 ol0 ol0) [0] rfl
    · exact bd_sub (hb29 w l0 l0 ol0 ol0) [0] rfl
abbrev rmX9_sign : Room := { frames := 11, cells := 0, slots := 0, locals := 320 }
abbrev qX9_sign (G : Gy) (F : Fr) (g : Bd) : Wd → State → Prop := fun r => QM G F g 0 0 ((fun _ => none) r) ((fun (r : Wd) => r) r)
set_option maxRecDepth 20000 in
set_option maxHeartbeats 4000000 in
theorem mX9_sign {l : Launch} (hf9 : l.stackTraces = false) {G : Gy} {F : Fr} (N : Nat) {w : Wd} {l0 : Nat} {l1 : Int32} {r : Wd} (ol0 : okF F l0 9) (e9 : fX9_sign F N w l0 l1 = some r) : Met l yX9_sign [.code yX9_sign cX9_sign 2 none] rmX9_sign (PcB G F w [.ref l0, .int l1]) (QB G F ((fun _ => none) r) ((fun (r : Wd) => r) r)) 0 0 (AF F) := by
  refine bd_met (vs := fun _ => none) (wf := fun (r : Wd) => r) hf9 (by decide) (Nat.le_of_ble_eq_true rfl) e9 (fun g C hret hini => ?_)
  clear e9 r
  have hb21 : ∀  (w : Wd) (l0 : Nat) (s0 : Nat) (s1 : Int32) (ol0 : okF F l0 9) (os0 : okF F s0 9), BD g G F 2 (qX9_sign G F g) 0 0 (fX9_sign_21 F N w l0 s0 s1) w 21 [(0, .ref l0)] [.int s1, .ref s0] := by
    intro w l0 s0 s1 ol0 os0
    unfold fX9_sign_21
    refine bd_ckZ (fun cz1 => ?_)
    refine bd_pI C fi910 ftX9 fu910 wd_1251 rfl (nar_z cz1) (fit_z cz1) dX9_sign_21 os0 (fun w3 => ?_)
    refine bd_aload_n C 0 dX9_sign_24 rfl rfl ?_
    refine bd_dup C dX9_sign_25 rfl ?_
    refine bd_gI C fi909 fv909 wd_1250 dX9_sign_26 ol0 ?_
    refine bd_aload_n C 0 dX9_sign_29 rfl rfl ?_
    refine bd_gI C fi910 fv910 wd_1251 dX9_sign_30 ol0 ?_
    refine bd_if_eq C 40 dX9_sign_33 (by decide) (fun c4 => ?_) (fun c4 => ?_)
    · refine bd_iconst C (v := 1) dX9_sign_40 (by decide) ?_
      refine bd_iadd C dX9_sign_41 ?_
      refine bd_pI C fi909 ftX9 fu909 wd_1250 rfl rfl rfl dX9_sign_42 ol0 (fun w5 => ?_)
      exact bd_vret C hret rfl _ _ rfl rfl dX9_sign_45 (Nat.le_refl _) (Nat.le_refl _)
    · refine bd_iconst C (v := 0) dX9_sign_36 (by decide) ?_
      refine bd_goto C 41 dX9_sign_37 (by decide) ?_
      refine bd_iadd C dX9_sign_41 ?_
      refine bd_pI C fi909 ftX9 fu909 wd_1250 rfl rfl rfl dX9_sign_42 ol0 (fun w6 => ?_)
      exact bd_vret C hret rfl _ _ rfl rfl dX9_sign_45 (Nat.le_refl _) (Nat.le_refl _)
  have hb16 : ∀  (w : Wd) (l0 : Nat) (s0 : Nat) (ol0 : okF F l0 9) (os0 : okF F s0 9), BD g G F 2 (qX9_sign G F g) 0 0 (fX9_sign_16 F N w l0 s0) w 16 [(0, .ref l0)] [.ref s0] := by
    intro w l0 s0 ol0 os0
    unfold fX9_sign_16
    refine bd_iconst C (v := 1) dX9_sign_16 (by decide) ?_
    refine bd_goto C 21 dX9_sign_17 (by decide) ?_
    exact bd_sub (hb21 w l0 s0 1 ol0 os0) [0] rfl
  unfold fX9_sign
  refine bd_sub (lv' := [(0, .ref l0), (1, .int l1)]) ?_ [0, 1] rfl
  refine bd_aload_n C 0 dX9_sign_0 rfl rfl ?_
  refine bd_aload_n C 0 dX9_sign_1 rfl rfl ?_
  refine bd_gI C fi910 fv910 wd_1251 dX9_sign_2 ol0 ?_
  refine bd_if_ne C 16 dX9_sign_5 (by decide) (fun c7 => ?_) (fun c7 => ?_)
  · exact bd_sub (hb16 w l0 l0 ol0 ol0) [0] rfl
  · refine bd_aload_n C 0 dX9_sign_8 rfl rfl ?_
    refine bd_callV (vs := fun (r : Int32) => some (.int r)) (wf := fun _ => w) (st := [.ref l0]) (st1 := fun x8 => Value.int x8 :: [.ref l0]) C [] (fun r9 e9 => mX9_here C.flag N ol0 e9) mwX9_here miX9_here wd_1491 ol0 (by decide) rfl rfl rfl (Nat.le_of_ble_eq_true rfl) dX9_sign_9 ⟨rfl, rfl, Nat.le_of_ble_eq_true rfl, Nat.le_of_ble_eq_true rfl, Nat.le_of_ble_eq_true rfl, Nat.le_of_ble_eq_true rfl⟩ (fun _ => rfl) (fun x8 ex8 => ?_)
    refine bd_iload_n C 1 dX9_sign_12 rfl rfl ?_
    refine bd_icmp_eq C 20 dX9_sign_13 (by decide) (fun c9 => ?_) (fun c9 => ?_)
    · refine bd_iconst C (v := 0) dX9_sign_20 (by decide) ?_
      exact bd_sub (hb21 w l0 l0 0 ol0 ol0) [0] rfl
    · exact bd_sub (hb16 w l0 l0 ol0 ol0) [0] rfl
abbrev rmX9_readPart : Room := { frames := 13, cells := 0, slots := 0, locals := 368 }
abbrev qX9_readPart (G : Gy) (F : Fr) (g : Bd) : Wd → State → Prop := fun r => QM G F g 0 0 ((fun _ => none) r) ((fun (r : Wd) => r) r)
set_option maxRecDepth 20000 in
set_option maxHeartbeats 4000000 in
theorem mX9_readPart {l : Launch} (hf9 : l.stackTraces = false) {G : Gy} {F : Fr} (N : Nat) {w : Wd} {l0 : Nat} {r : Wd} (ol0 : okF F l0 9) (e9 : fX9_readPart F N w l0 = some r) : Met l yX9_readPart [.code yX9_readPart cX9_readPart 2 none] rmX9_readPart (PcB G F w [.ref l0]) (QB G F ((fun _ => none) r) ((fun (r : Wd) => r) r)) 0 0 (AF F) := by
  refine bd_met (vs := fun _ => none) (wf := fun (r : Wd) => r) hf9 (by decide) (Nat.le_of_ble_eq_true rfl) e9 (fun g C hret hini => ?_)
  clear e9 r
  have hb89 : ∀  (w : Wd) (l0 : Nat) (ol0 : okF F l0 9), BD g G F 2 (qX9_readPart G F g) 0 0 (fX9_readPart_89 F N w l0) w 89 [(0, .ref l0)] [] := by
    intro w l0 ol0
    unfold fX9_readPart_89
    refine bd_aload_n C 0 dX9_readPart_89 rfl rfl ?_
    refine bd_dup C dX9_readPart_90 rfl ?_
    refine bd_gI C fi924 fv924 wd_1265 dX9_readPart_91 ol0 ?_
    refine bd_iconst C (v := 1) dX9_readPart_94 (by decide) ?_
    refine bd_iadd C dX9_readPart_95 ?_
    refine bd_pI C fi924 ftX9 fu924 wd_1265 rfl rfl rfl dX9_readPart_96 ol0 (fun w6 => ?_)
    exact bd_vret C hret rfl _ _ rfl rfl dX9_readPart_99 (Nat.le_refl _) (Nat.le_refl _)
  have hb85 : ∀  (w : Wd) (l0 : Nat) (s0 : Nat) (s1 : Int32) (s2 : Nat) (s3 : Int32) (ol0 : okF F l0 9) (os0 : okF F s0 12) (os2 : okF F s2 9), BD g G F 2 (qX9_readPart G F g) 0 0 (fX9_readPart_85 F N w l0 s0 s1 s2 s3) w 85 [(0, .ref l0)] [.int s3, .ref s2, .int s1, .ref s0] := by
    intro w l0 s0 s1 s2 s3 ol0 os0 os2
    unfold fX9_readPart_85
    refine bd_callV (vs := fun (r : Int64 × Wd) => some (.long r.1)) (wf := fun (r : Int64 × Wd) => r.2) (st := [.int s1, .ref s0]) (st1 := fun p4 => Value.long p4.1 :: [.int s1, .ref s0]) C [.int s3] (fun r9 e9 => mX9_readLabel C.flag N os2 e9) mwX9_readLabel miX9_readLabel wd_1487 os2 (by decide) rfl rfl rfl (Nat.le_of_ble_eq_true rfl) dX9_readPart_85 ⟨rfl, rfl, Nat.le_of_ble_eq_true rfl, Nat.le_of_ble_eq_true rfl, Nat.le_of_ble_eq_true rfl, Nat.le_of_ble_eq_true rfl⟩ (fun _ => rfl) (fun p4 ep4 => ?_)
    refine bd_last C dX9_readPart_88 os0 (fun w5 => ?_)
    exact bd_sub (hb89 w5 l0 ol0) [0] rfl
  have hb60 : ∀  (w : Wd) (l0 : Nat) (l1 : Int32) (ol0 : okF F l0 9), BD g G F 2 (qX9_readPart G F g) 0 0 (fX9_readPart_60 F N w l0 l1) w 60 [(0, .ref l0), (1, .int l1)] [] := by
    intro w l0 l1 ol0
    unfold fX9_readPart_60
    refine bd_aload_n C 0 dX9_readPart_60 rfl rfl ?_
    refine bd_gR C fi922 fv922 wd_1263 dX9_readPart_61 ol0 (fun r1 gr1 hr1 => ?_)
    refine bd_aload_n C 0 dX9_readPart_64 rfl rfl ?_
    refine bd_gI C fi924 fv924 wd_1265 dX9_readPart_65 ol0 ?_
    refine bd_aload_n C 0 dX9_readPart_68 rfl rfl ?_
    refine bd_aload_n C 0 dX9_readPart_69 rfl rfl ?_
    refine bd_gI C fi910 fv910 wd_1251 dX9_readPart_70 ol0 ?_
    refine bd_if_eq C 80 dX9_readPart_73 (by decide) (fun c2 => ?_) (fun c2 => ?_)
    · refine bd_aload_n C 0 dX9_readPart_80 rfl rfl ?_
      refine bd_iload_n C 1 dX9_readPart_81 rfl rfl ?_
      refine bd_callV (vs := fun (r : Int32) => some (.int r)) (wf := fun _ => w) (st := [.ref l0, .int (gI w 924 l0), .ref r1]) (st1 := fun x3 => Value.int x3 :: [.ref l0, .int (gI w 924 l0), .ref r1]) C [.int l1] (fun r9 e9 => mX9_kind C.flag N ol0 e9) mwX9_kind miX9_kind wd_1483 ol0 (by decide) rfl rfl rfl (Nat.le_of_ble_eq_true rfl) dX9_readPart_82 ⟨rfl, rfl, Nat.le_of_ble_eq_true rfl, Nat.le_of_ble_eq_true rfl, Nat.le_of_ble_eq_true rfl, Nat.le_of_ble_eq_true rfl⟩ (fun _ => rfl) (fun x3 ex3 => ?_)
      exact bd_sub (hb85 w l0 r1 (gI w 924 l0) l0 x3 ol0 hr1 ol0) [0] rfl
    · refine bd_iconst C (v := 0) dX9_readPart_76 (by decide) ?_
      refine bd_goto C 85 dX9_readPart_77 (by decide) ?_
      exact bd_sub (hb85 w l0 r1 (gI w 924 l0) l0 0 ol0 hr1 ol0) [0] rfl
  unfold fX9_readPart
  refine bd_sub (lv' := [(0, .ref l0)]) ?_ [0] rfl
  refine bd_aload_n C 0 dX9_readPart_0 rfl rfl ?_
  refine bd_callV (vs := fun (r : Int32 × Wd) => some (.int r.1)) (wf := fun (r : Int32 × Wd) => r.2) (st := []) (st1 := fun p7 => Value.int p7.1 :: []) C [] (fun r9 e9 => mX9_readTierNumber C.flag N ol0 e9) mwX9_readTierNumber miX9_readTierNumber wd_1662 ol0 (by decide) rfl rfl rfl (Nat.le_of_ble_eq_true rfl) dX9_readPart_1 ⟨rfl, rfl, Nat.le_of_ble_eq_true rfl, Nat.le_of_ble_eq_true rfl, Nat.le_of_ble_eq_true rfl, Nat.le_of_ble_eq_true rfl⟩ (fun _ => rfl) (fun p7 ep7 => ?_)
  refine bd_istore_n C [(1, .int p7.1), (0, .ref l0)] dX9_readPart_4 rfl (by decide) rfl ?_
  refine bd_aload_n C 1 dX9_readPart_5 rfl rfl ?_
  refine bd_bipush C (v := 61) dX9_readPart_6 (by decide) ?_
  refine bd_callV (vs := fun _ => none) (wf := fun (r : Wd) => r) (st := []) (st1 := fun p8 => []) C [.int 61] (fun r9 e9 => mX9_sign C.flag N ol0 e9) mwX9_sign miX9_sign wd_1666 ol0 (by decide) rfl rfl rfl (Nat.le_of_ble_eq_true rfl) dX9_readPart_8 ⟨rfl, rfl, Nat.le_of_ble_eq_true rfl, Nat.le_of_ble_eq_true rfl, Nat.le_of_ble_eq_true rfl, Nat.le_of_ble_eq_true rfl⟩ (fun _ => rfl) (fun p8 ep8 => ?_)
  refine bd_aload_n C 1 dX9_readPart_11 rfl rfl ?_
  refine bd_gR C fi921 fv921 wd_1262 dX9_readPart_12 ol0 (fun r9 gr9 hr9 => ?_)
  refine bd_aload_n C 1 dX9_readPart_15 rfl rfl ?_
  refine bd_gI C fi924 fv924 wd_1265 dX9_readPart_16 ol0 ?_
  refine bd_iload_n C 0 dX9_readPart_19 rfl rfl ?_
  refine bd_iast C dX9_readPart_20 hr9 (fun w10 => ?_)
  refine bd_aload_n C 1 dX9_readPart_21 rfl rfl ?_
  refine bd_gI C fi910 fv910 wd_1251 dX9_readPart_22 ol0 ?_
  refine bd_if_ne C 60 dX9_readPart_25 (by decide) (fun c11 => ?_) (fun c11 => ?_)
  · exact bd_sub (hb60 w10 l0 p7.1 ol0) [1, 0] rfl
  · refine bd_aload_n C 1 dX9_readPart_28 rfl rfl ?_
    refine bd_callV (vs := fun (r : Int32) => some (.int r)) (wf := fun _ => w10) (st := []) (st1 := fun x12 => Value.int x12 :: []) C [] (fun r9 e9 => mX9_here C.flag N ol0 e9) mwX9_here miX9_here wd_1491 ol0 (by decide) rfl rfl rfl (Nat.le_of_ble_eq_true rfl) dX9_readPart_29 ⟨rfl, rfl, Nat.le_of_ble_eq_true rfl, Nat.le_of_ble_eq_true rfl, Nat.le_of_ble_eq_true rfl, Nat.le_of_ble_eq_true rfl⟩ (fun _ => rfl) (fun x12 ex12 => ?_)
    refine bd_bipush C (v := 42) dX9_readPart_32 (by decide) ?_
    refine bd_icmp_ne C 60 dX9_readPart_34 (by decide) (fun c13 => ?_) (fun c13 => ?_)
    · exact bd_sub (hb60 w10 l0 p7.1 ol0) [1, 0] rfl
    · refine bd_aload_n C 1 dX9_readPart_37 rfl rfl ?_
      refine bd_dup C dX9_readPart_38 rfl ?_
      refine bd_gI C fi909 fv909 wd_1250 dX9_readPart_39 ol0 ?_
      refine bd_iconst C (v := 1) dX9_readPart_42 (by decide) ?_
      refine bd_iadd C dX9_readPart_43 ?_
      refine bd_pI C fi909 ftX9 fu909 wd_1250 rfl rfl rfl dX9_readPart_44 ol0 (fun w14 => ?_)
      refine bd_aload_n C 1 dX9_readPart_47 rfl rfl ?_
      refine bd_gR C fi922 fv922 wd_1263 dX9_readPart_48 ol0 (fun r15 gr15 hr15 => ?_)
      refine bd_aload_n C 1 dX9_readPart_51 rfl rfl ?_
      refine bd_gI C fi924 fv924 wd_1265 dX9_readPart_52 ol0 ?_
      refine bd_lconst C (v := 0) dX9_readPart_55 (by decide) ?_
      refine bd_last C dX9_readPart_56 hr15 (fun w16 => ?_)
      refine bd_goto C 89 dX9_readPart_57 (by decide) ?_
      exact bd_sub (hb89 w16 l0 ol0) [1] rfl
abbrev rmX9_isPatternWrong : Room := { frames := 14, cells := 0, slots := 0, locals := 389 }
abbrev qX9_isPatternWrong (G : Gy) (F : Fr) (g : Bd) : (Int32 × Wd) → State → Prop := fun r => QM G F g 0 0 ((fun (r : Int32 × Wd) => some (.int r.1)) r) ((fun (r : Int32 × Wd) => r.2) r)
set_option maxRecDepth 20000 in
set_option maxHeartbeats 4000000 in
theorem mX9_isPatternWrong {l : Launch} (hf9 : l.stackTraces = false) {G : Gy} {F : Fr} (N : Nat) {w : Wd} {l0 : Nat} {r : Int32 × Wd} (ol0 : okF F l0 9) (e9 : fX9_isPatternWrong F N w l0 = some r) : Met l yX9_isPatternWrong [.code yX9_isPatternWrong cX9_isPatternWrong 1 (some .boolean)] rmX9_isPatternWrong (PcB G F w [.ref l0]) (QB G F ((fun (r : Int32 × Wd) => some (.int r.1)) r) ((fun (r : Int32 × Wd) => r.2) r)) 0 0 (AF F) := by
  refine bd_met (vs := fun (r : Int32 × Wd) => some (.int r.1)) (wf := fun (r : Int32 × Wd) => r.2) hf9 (by decide) (Nat.le_of_ble_eq_true rfl) e9 (fun g C hret hini => ?_)
  clear e9 r
  have hb68 : ∀ (k13 : Wd → Nat → Option (Int32 × Wd)), (∀ (w : Wd) (l0 : Nat) (ol0 : okF F l0 9), BD g G F 1 (qX9_isPatternWrong G F g) 0 0 (k13 w l0) w 13 [(0, .ref l0)] []) → ∀  (w : Wd) (l0 : Nat) (s0 : Nat) (s1 : Int32) (s2 : Int32) (ol0 : okF F l0 9) (os0 : okF F s0 13), BD g G F 1 (qX9_isPatternWrong G F g) 0 0 (fX9_isPatternWrong_68 F N k13 w l0 s0 s1 s2) w 68 [(0, .ref l0)] [.int s2, .int s1, .ref s0] := by
    intro k13 hk13
    intro w l0 s0 s1 s2 ol0 os0
    unfold fX9_isPatternWrong_68
    refine bd_zast C dX9_isPatternWrong_68 os0 (fun w10 => ?_)
    refine bd_aload_n C 0 dX9_isPatternWrong_69 rfl rfl ?_
    refine bd_dup C dX9_isPatternWrong_70 rfl ?_
    refine bd_gI C fi909 fv909 wd_1250 dX9_isPatternWrong_71 ol0 ?_
    refine bd_iconst C (v := 1) dX9_isPatternWrong_74 (by decide) ?_
    refine bd_iadd C dX9_isPatternWrong_75 ?_
    refine bd_pI C fi909 ftX9 fu909 wd_1250 rfl rfl rfl dX9_isPatternWrong_76 ol0 (fun w11 => ?_)
    refine bd_aload_n C 0 dX9_isPatternWrong_79 rfl rfl ?_
    refine bd_callV (vs := fun _ => none) (wf := fun (r : Wd) => r) (st := []) (st1 := fun p12 => []) C [] (fun r9 e9 => mX9_readPart C.flag N ol0 e9) mwX9_readPart miX9_readPart wd_1658 ol0 (by decide) rfl rfl rfl (Nat.le_of_ble_eq_true rfl) dX9_isPatternWrong_80 ⟨rfl, rfl, Nat.le_of_ble_eq_true rfl, Nat.le_of_ble_eq_true rfl, Nat.le_of_ble_eq_true rfl, Nat.le_of_ble_eq_true rfl⟩ (fun _ => rfl) (fun p12 ep12 => ?_)
    refine bd_goto C 13 dX9_isPatternWrong_83 (by decide) ?_
    exact bd_sub (hk13 p12 l0 ol0) [0] rfl
  have hb46 : ∀ (k13 : Wd → Nat → Option (Int32 × Wd)), (∀ (w : Wd) (l0 : Nat) (ol0 : okF F l0 9), BD g G F 1 (qX9_isPatternWrong G F g) 0 0 (k13 w l0) w 13 [(0, .ref l0)] []) → ∀  (w : Wd) (l0 : Nat) (ol0 : okF F l0 9), BD g G F 1 (qX9_isPatternWrong G F g) 0 0 (fX9_isPatternWrong_46 F N k13 w l0) w 46 [(0, .ref l0)] [] := by
    intro k13 hk13
    intro w l0 ol0
    unfold fX9_isPatternWrong_46
    refine bd_aload_n C 0 dX9_isPatternWrong_46 rfl rfl ?_
    refine bd_gR C fi923 fv923 wd_1264 dX9_isPatternWrong_47 ol0 (fun r7 gr7 hr7 => ?_)
    refine bd_aload_n C 0 dX9_isPatternWrong_50 rfl rfl ?_
    refine bd_gI C fi924 fv924 wd_1265 dX9_isPatternWrong_51 ol0 ?_
    refine bd_aload_n C 0 dX9_isPatternWrong_54 rfl rfl ?_
    refine bd_callV (vs := fun (r : Int32) => some (.int r)) (wf := fun _ => w) (st := [.int (gI w 924 l0), .ref r7]) (st1 := fun x8 => Value.int x8 :: [.int (gI w 924 l0), .ref r7]) C [] (fun r9 e9 => mX9_here C.flag N ol0 e9) mwX9_here miX9_here wd_1491 ol0 (by decide) rfl rfl rfl (Nat.le_of_ble_eq_true rfl) dX9_isPatternWrong_55 ⟨rfl, rfl, Nat.le_of_ble_eq_true rfl, Nat.le_of_ble_eq_true rfl, Nat.le_of_ble_eq_true rfl, Nat.le_of_ble_eq_true rfl⟩ (fun _ => rfl) (fun x8 ex8 => ?_)
    refine bd_bipush C (v := 44) dX9_isPatternWrong_58 (by decide) ?_
    refine bd_icmp_ne C 67 dX9_isPatternWrong_60 (by decide) (fun c9 => ?_) (fun c9 => ?_)
    · refine bd_iconst C (v := 0) dX9_isPatternWrong_67 (by decide) ?_
      exact bd_sub (hb68 _ hk13 w l0 r7 (gI w 924 l0) 0 ol0 hr7) [0] rfl
    · refine bd_iconst C (v := 1) dX9_isPatternWrong_63 (by decide) ?_
      refine bd_goto C 68 dX9_isPatternWrong_64 (by decide) ?_
      exact bd_sub (hb68 _ hk13 w l0 r7 (gI w 924 l0) 1 ol0 hr7) [0] rfl
  have hb86 : ∀  (w : Wd) (l0 : Nat) (ol0 : okF F l0 9), BD g G F 1 (qX9_isPatternWrong G F g) 0 0 (fX9_isPatternWrong_86 F N w l0) w 86 [(0, .ref l0)] [] := by
    intro w l0 ol0
    unfold fX9_isPatternWrong_86
    refine bd_aload_n C 0 dX9_isPatternWrong_86 rfl rfl ?_
    refine bd_callV (vs := fun (r : Int32 × Wd) => some (.int r.1)) (wf := fun (r : Int32 × Wd) => r.2) (st := []) (st1 := fun p13 => Value.int p13.1 :: []) C [] (fun r9 e9 => mX9_endText C.flag N ol0 e9) mwX9_endText miX9_endText wd_1499 ol0 (by decide) rfl rfl rfl (Nat.le_of_ble_eq_true rfl) dX9_isPatternWrong_87 ⟨rfl, rfl, Nat.le_of_ble_eq_true rfl, Nat.le_of_ble_eq_true rfl, Nat.le_of_ble_eq_true rfl, Nat.le_of_ble_eq_true rfl⟩ (fun _ => rfl) (fun p13 ep13 => ?_)
    refine bd_ckZ (fun cz14 => ?_)
    exact bd_zret C hret rfl _ _ (nar_z cz14) rfl rfl dX9_isPatternWrong_90 (Nat.le_refl _) (Nat.le_refl _)
  have hb13 : ∀ (n : Nat) (w : Wd) (l0 : Nat) (ol0 : okF F l0 9), BD g G F 1 (qX9_isPatternWrong G F g) 0 0 (fX9_isPatternWrong_13 F N n w l0) w 13 [(0, .ref l0)] [] := by
    intro n
    induction n with
    | zero =>
      intro w l0 ol0
      unfold fX9_isPatternWrong_13
      exact bd_none
    | succ n ih =>
      intro w l0 ol0
      unfold fX9_isPatternWrong_13
      refine bd_aload_n C 0 dX9_isPatternWrong_13 rfl rfl ?_
      refine bd_gI C fi910 fv910 wd_1251 dX9_isPatternWrong_14 ol0 ?_
      refine bd_if_ne C 86 dX9_isPatternWrong_17 (by decide) (fun c1 => ?_) (fun c1 => ?_)
      · exact bd_sub (hb86 w l0 ol0) [0] rfl
      · refine bd_aload_n C 0 dX9_isPatternWrong_20 rfl rfl ?_
        refine bd_gI C fi924 fv924 wd_1265 dX9_isPatternWrong_21 ol0 ?_
        refine bd_iconst C (v := 4) dX9_isPatternWrong_24 (by decide) ?_
        refine bd_icmp_ge C 86 dX9_isPatternWrong_25 (by decide) (fun c2 => ?_) (fun c2 => ?_)
        · exact bd_sub (hb86 w l0 ol0) [0] rfl
        · refine bd_aload_n C 0 dX9_isPatternWrong_28 rfl rfl ?_
          refine bd_callV (vs := fun (r : Int32) => some (.int r)) (wf := fun _ => w) (st := []) (st1 := fun x3 => Value.int x3 :: []) C [] (fun r9 e9 => mX9_here C.flag N ol0 e9) mwX9_here miX9_here wd_1491 ol0 (by decide) rfl rfl rfl (Nat.le_of_ble_eq_true rfl) dX9_isPatternWrong_29 ⟨rfl, rfl, Nat.le_of_ble_eq_true rfl, Nat.le_of_ble_eq_true rfl, Nat.le_of_ble_eq_true rfl, Nat.le_of_ble_eq_true rfl⟩ (fun _ => rfl) (fun x3 ex3 => ?_)
          refine bd_bipush C (v := 44) dX9_isPatternWrong_32 (by decide) ?_
          refine bd_icmp_eq C 46 dX9_isPatternWrong_34 (by decide) (fun c4 => ?_) (fun c4 => ?_)
          · exact bd_sub (hb46 _ ih w l0 ol0) [0] rfl
          · refine bd_aload_n C 0 dX9_isPatternWrong_37 rfl rfl ?_
            refine bd_callV (vs := fun (r : Int32) => some (.int r)) (wf := fun _ => w) (st := []) (st1 := fun x5 => Value.int x5 :: []) C [] (fun r9 e9 => mX9_here C.flag N ol0 e9) mwX9_here miX9_here wd_1491 ol0 (by decide) rfl rfl rfl (Nat.le_of_ble_eq_true rfl) dX9_isPatternWrong_38 ⟨rfl, rfl, Nat.le_of_ble_eq_true rfl, Nat.le_of_ble_eq_true rfl, Nat.le_of_ble_eq_true rfl, Nat.le_of_ble_eq_true rfl⟩ (fun _ => rfl) (fun x5 ex5 => ?_)
            refine bd_bipush C (v := 38) dX9_isPatternWrong_41 (by decide) ?_
            refine bd_icmp_ne C 86 dX9_isPatternWrong_43 (by decide) (fun c6 => ?_) (fun c6 => ?_)
            · exact bd_sub (hb86 w l0 ol0) [0] rfl
            · exact bd_sub (hb46 _ ih w l0 ol0) [0] rfl
  unfold fX9_isPatternWrong
  refine bd_sub (lv' := [(0, .ref l0)]) ?_ [0] rfl
  refine bd_aload_n C 0 dX9_isPatternWrong_0 rfl rfl ?_
  refine bd_callV (vs := fun _ => none) (wf := fun (r : Wd) => r) (st := []) (st1 := fun p15 => []) C [] (fun r9 e9 => mX9_beginText C.flag N ol0 e9) mwX9_beginText miX9_beginText wd_1479 ol0 (by decide) rfl rfl rfl (Nat.le_of_ble_eq_true rfl) dX9_isPatternWrong_1 ⟨rfl, rfl, Nat.le_of_ble_eq_true rfl, Nat.le_of_ble_eq_true rfl, Nat.le_of_ble_eq_true rfl, Nat.le_of_ble_eq_true rfl⟩ (fun _ => rfl) (fun p15 ep15 => ?_)
  refine bd_aload_n C 0 dX9_isPatternWrong_4 rfl rfl ?_
  refine bd_iconst C (v := 0) dX9_isPatternWrong_5 (by decide) ?_
  refine bd_pI C fi924 ftX9 fu924 wd_1265 rfl rfl rfl dX9_isPatternWrong_6 ol0 (fun w16 => ?_)
  refine bd_aload_n C 0 dX9_isPatternWrong_9 rfl rfl ?_
  refine bd_callV (vs := fun _ => none) (wf := fun (r : Wd) => r) (st := []) (st1 := fun p17 => []) C [] (fun r9 e9 => mX9_readPart C.flag N ol0 e9) mwX9_readPart miX9_readPart wd_1658 ol0 (by decide) rfl rfl rfl (Nat.le_of_ble_eq_true rfl) dX9_isPatternWrong_10 ⟨rfl, rfl, Nat.le_of_ble_eq_true rfl, Nat.le_of_ble_eq_true rfl, Nat.le_of_ble_eq_true rfl, Nat.le_of_ble_eq_true rfl⟩ (fun _ => rfl) (fun p17 ep17 => ?_)
  exact bd_sub (hb13 N p17 l0 ol0) [0] rfl
abbrev rmX9_isFitting : Room := { frames := 14, cells := 0, slots := 0, locals := 386 }
abbrev qX9_isFitting (G : Gy) (F : Fr) (g : Bd) (w : Wd) : Int32 → State → Prop := fun r => QM G F g 0 0 ((fun (r : Int32) => some (.int r)) r) ((fun _ => w) r)
set_option maxRecDepth 20000 in
set_option maxHeartbeats 4000000 in
theorem mX9_isFitting {l : Launch} (hf9 : l.stackTraces = false) {G : Gy} {F : Fr} (N : Nat) {w : Wd} {l0 : Nat} {l1 : Int32} {l2 : Int32} {r : Int32} (ol0 : okF F l0 9) (e9 : fX9_isFitting F N w l0 l1 l2 = some r) : Met l yX9_isFitting [.code yX9_isFitting cX9_isFitting 6 (some .boolean)] rmX9_isFitting (PcB G F w [.ref l0, .int l1, .int l2]) (QB G F ((fun (r : Int32) => some (.int r)) r) ((fun _ => w) r)) 0 0 (AF F) := by
  refine bd_met (vs := fun (r : Int32) => some (.int r)) (wf := fun _ => w) hf9 (by decide) (Nat.le_of_ble_eq_true rfl) e9 (fun g C hret hini => ?_)
  clear e9 r
  have hb57 : BD g G F 6 (qX9_isFitting G F g w) 0 0 (fX9_isFitting_57 F N w) w 57 [] [] := by
    unfold fX9_isFitting_57
    refine bd_iconst C (v := 1) dX9_isFitting_57 (by decide) ?_
    refine bd_goto C 62 dX9_isFitting_58 (by decide) ?_
    exact bd_zret C hret rfl _ _ rfl rfl rfl dX9_isFitting_62 (Nat.le_refl _) (Nat.le_refl _)
  unfold fX9_isFitting
  refine bd_sub (lv' := [(0, .ref l0), (1, .int l1), (2, .int l2)]) ?_ [0, 1, 2] rfl
  refine bd_aload_n C 0 dX9_isFitting_0 rfl rfl ?_
  refine bd_gR C fi917 fv917 wd_1258 dX9_isFitting_1 ol0 (fun r1 gr1 hr1 => ?_)
  refine bd_iload_n C 1 dX9_isFitting_4 rfl rfl ?_
  refine bd_iald C dX9_isFitting_5 hr1 (fun x2 => ?_)
  refine bd_istore_n C [(3, .int x2), (0, .ref l0), (1, .int l1), (2, .int l2)] dX9_isFitting_6 rfl (by decide) rfl ?_
  refine bd_aload_n C 1 dX9_isFitting_7 rfl rfl ?_
  refine bd_iload_n C 0 dX9_isFitting_8 rfl rfl ?_
  refine bd_iload_n C 3 dX9_isFitting_9 rfl rfl ?_
  refine bd_callV (vs := fun (r : Int64) => some (.long r)) (wf := fun _ => w) (st := []) (st1 := fun x3 => Value.long x3 :: []) C [.int x2, .int l2] (fun r9 e9 => mX9_label C.flag N ol0 e9) mwX9_label miX9_label wd_1459 ol0 (by decide) rfl rfl rfl (Nat.le_of_ble_eq_true rfl) dX9_isFitting_10 ⟨rfl, rfl, Nat.le_of_ble_eq_true rfl, Nat.le_of_ble_eq_true rfl, Nat.le_of_ble_eq_true rfl, Nat.le_of_ble_eq_true rfl⟩ (fun _ => rfl) (fun x3 ex3 => ?_)
  refine bd_lstore C [(4, .long x3), (3, .int x2), (0, .ref l0), (1, .int l1), (2, .int l2)] dX9_isFitting_13 (by decide) rfl ?_
  refine bd_aload_n C 2 dX9_isFitting_15 rfl rfl ?_
  refine bd_gR C fi919 fv919 wd_1260 dX9_isFitting_16 ol0 (fun r4 gr4 hr4 => ?_)
  refine bd_iload_n C 3 dX9_isFitting_19 rfl rfl ?_
  refine bd_lald C dX9_isFitting_20 hr4 (fun x5 => ?_)
  refine bd_lconst C (v := 0) dX9_isFitting_21 (by decide) ?_
  refine bd_lcmp C dX9_isFitting_22 ?_
  refine bd_if_eq C 57 dX9_isFitting_23 (by decide) (fun c6 => ?_) (fun c6 => ?_)
  · exact bd_sub (hb57) [] rfl
  · refine bd_lload C 0 dX9_isFitting_26 rfl ?_
    refine bd_aload_n C 2 dX9_isFitting_28 rfl rfl ?_
    refine bd_gR C fi919 fv919 wd_1260 dX9_isFitting_29 ol0 (fun r7 gr7 hr7 => ?_)
    refine bd_iload_n C 3 dX9_isFitting_32 rfl rfl ?_
    refine bd_lald C dX9_isFitting_33 hr7 (fun x8 => ?_)
    refine bd_lcmp C dX9_isFitting_34 ?_
    refine bd_if_eq C 57 dX9_isFitting_35 (by decide) (fun c9 => ?_) (fun c9 => ?_)
    · exact bd_sub (hb57) [] rfl
    · refine bd_aload_n C 2 dX9_isFitting_38 rfl rfl ?_
      refine bd_gR C fi918 fv918 wd_1259 dX9_isFitting_39 ol0 (fun r10 gr10 hr10 => ?_)
      refine bd_iload_n C 3 dX9_isFitting_42 rfl rfl ?_
      refine bd_iald C dX9_isFitting_43 hr10 (fun x11 => ?_)
      refine bd_iconst C (v := 1) dX9_isFitting_44 (by decide) ?_
      refine bd_icmp_ne C 61 dX9_isFitting_45 (by decide) (fun c12 => ?_) (fun c12 => ?_)
      · refine bd_iconst C (v := 0) dX9_isFitting_61 (by decide) ?_
        exact bd_zret C hret rfl _ _ rfl rfl rfl dX9_isFitting_62 (Nat.le_refl _) (Nat.le_refl _)
      · refine bd_lload C 0 dX9_isFitting_48 rfl ?_
        refine bd_ldc2 C (v := 98) wd_1678 dX9_isFitting_50 ?_
        refine bd_lcmp C dX9_isFitting_53 ?_
        refine bd_if_ne C 61 dX9_isFitting_54 (by decide) (fun c13 => ?_) (fun c13 => ?_)
        · refine bd_iconst C (v := 0) dX9_isFitting_61 (by decide) ?_
          exact bd_zret C hret rfl _ _ rfl rfl rfl dX9_isFitting_62 (Nat.le_refl _) (Nat.le_refl _)
        · exact bd_sub (hb57) [] rfl
abbrev rmX9_isLinked : Room := { frames := 14, cells := 0, slots := 0, locals := 386 }
abbrev qX9_isLinked (G : Gy) (F : Fr) (g : Bd) (w : Wd) : Int32 → State → Prop := fun r => QM G F g 0 0 ((fun (r : Int32) => some (.int r)) r) ((fun _ => w) r)
set_option maxRecDepth 20000 in
set_option maxHeartbeats 4000000 in
theorem mX9_isLinked {l : Launch} (hf9 : l.stackTraces = false) {G : Gy} {F : Fr} (N : Nat) {w : Wd} {l0 : Nat} {l1 : Int32} {l2 : Int32} {r : Int32} (ol0 : okF F l0 9) (e9 : fX9_isLinked F N w l0 l1 l2 = some r) : Met l yX9_isLinked [.code yX9_isLinked cX9_isLinked 7 (some .boolean)] rmX9_isLinked (PcB G F w [.ref l0, .int l1, .int l2]) (QB G F ((fun (r : Int32) => some (.int r)) r) ((fun _ => w) r)) 0 0 (AF F) := by
  refine bd_met (vs := fun (r : Int32) => some (.int r)) (wf := fun _ => w) hf9 (by decide) (Nat.le_of_ble_eq_true rfl) e9 (fun g C hret hini => ?_)
  clear e9 r
  have hb109 : BD g G F 7 (qX9_isLinked G F g w) 0 0 (fX9_isLinked_109 F N w) w 109 [] [] := by
    unfold fX9_isLinked_109
    refine bd_iconst C (v := 0) dX9_isLinked_109 (by decide) ?_
    refine bd_goto C 131 dX9_isLinked_110 (by decide) ?_
    exact bd_zret C hret rfl _ _ rfl rfl rfl dX9_isLinked_131 (Nat.le_refl _) (Nat.le_refl _)
  unfold fX9_isLinked
  refine bd_sub (lv' := [(0, .ref l0), (1, .int l1), (2, .int l2)]) ?_ [0, 1, 2] rfl
  refine bd_iload_n C 1 dX9_isLinked_0 rfl rfl ?_
  refine bd_if_ne C 6 dX9_isLinked_1 (by decide) (fun c1 => ?_) (fun c1 => ?_)
  · refine bd_aload_n C 0 dX9_isLinked_6 rfl rfl ?_
    refine bd_aload_n C 0 dX9_isLinked_7 rfl rfl ?_
    refine bd_gR C fi917 fv917 wd_1258 dX9_isLinked_8 ol0 (fun r2 gr2 hr2 => ?_)
    refine bd_iload_n C 1 dX9_isLinked_11 rfl rfl ?_
    refine bd_iald C dX9_isLinked_12 hr2 (fun x3 => ?_)
    refine bd_iload_n C 2 dX9_isLinked_13 rfl rfl ?_
    refine bd_callV (vs := fun (r : Int32) => some (.int r)) (wf := fun _ => w) (st := []) (st1 := fun x4 => Value.int x4 :: []) C [.int x3, .int l2] (fun r9 e9 => mX9_first C.flag N ol0 e9) mwX9_first miX9_first wd_1522 ol0 (by decide) rfl rfl rfl (Nat.le_of_ble_eq_true rfl) dX9_isLinked_14 ⟨rfl, rfl, Nat.le_of_ble_eq_true rfl, Nat.le_of_ble_eq_true rfl, Nat.le_of_ble_eq_true rfl, Nat.le_of_ble_eq_true rfl⟩ (fun _ => rfl) (fun x4 ex4 => ?_)
    refine bd_istore_n C [(3, .int x4), (0, .ref l0), (1, .int l1), (2, .int l2)] dX9_isLinked_17 rfl (by decide) rfl ?_
    refine bd_aload_n C 1 dX9_isLinked_18 rfl rfl ?_
    refine bd_aload_n C 1 dX9_isLinked_19 rfl rfl ?_
    refine bd_gR C fi917 fv917 wd_1258 dX9_isLinked_20 ol0 (fun r5 gr5 hr5 => ?_)
    refine bd_iload_n C 2 dX9_isLinked_23 rfl rfl ?_
    refine bd_iald C dX9_isLinked_24 hr5 (fun x6 => ?_)
    refine bd_iload_n C 3 dX9_isLinked_25 rfl rfl ?_
    refine bd_callV (vs := fun (r : Int32) => some (.int r)) (wf := fun _ => w) (st := []) (st1 := fun x7 => Value.int x7 :: []) C [.int x6, .int l2] (fun r9 e9 => mX9_end C.flag N ol0 e9) mwX9_end miX9_end wd_1526 ol0 (by decide) rfl rfl rfl (Nat.le_of_ble_eq_true rfl) dX9_isLinked_26 ⟨rfl, rfl, Nat.le_of_ble_eq_true rfl, Nat.le_of_ble_eq_true rfl, Nat.le_of_ble_eq_true rfl, Nat.le_of_ble_eq_true rfl⟩ (fun _ => rfl) (fun x7 ex7 => ?_)
    refine bd_istore C [(4, .int x7), (3, .int x4), (0, .ref l0), (1, .int l1), (2, .int l2)] dX9_isLinked_29 (by decide) rfl ?_
    refine bd_aload_n C 2 dX9_isLinked_31 rfl rfl ?_
    refine bd_aload_n C 2 dX9_isLinked_32 rfl rfl ?_
    refine bd_gR C fi917 fv917 wd_1258 dX9_isLinked_33 ol0 (fun r8 gr8 hr8 => ?_)
    refine bd_iload_n C 3 dX9_isLinked_36 rfl rfl ?_
    refine bd_iconst C (v := 1) dX9_isLinked_37 (by decide) ?_
    refine bd_isub C dX9_isLinked_38 ?_
    refine bd_iald C dX9_isLinked_39 hr8 (fun x9 => ?_)
    refine bd_aload_n C 2 dX9_isLinked_40 rfl rfl ?_
    refine bd_gR C fi925 fv925 wd_1266 dX9_isLinked_41 ol0 (fun r10 gr10 hr10 => ?_)
    refine bd_iload_n C 3 dX9_isLinked_44 rfl rfl ?_
    refine bd_iconst C (v := 1) dX9_isLinked_45 (by decide) ?_
    refine bd_isub C dX9_isLinked_46 ?_
    refine bd_iald C dX9_isLinked_47 hr10 (fun x11 => ?_)
    refine bd_callV (vs := fun (r : Int32) => some (.int r)) (wf := fun _ => w) (st := []) (st1 := fun x12 => Value.int x12 :: []) C [.int x9, .int x11] (fun r9 e9 => mX9_first C.flag N ol0 e9) mwX9_first miX9_first wd_1522 ol0 (by decide) rfl rfl rfl (Nat.le_of_ble_eq_true rfl) dX9_isLinked_48 ⟨rfl, rfl, Nat.le_of_ble_eq_true rfl, Nat.le_of_ble_eq_true rfl, Nat.le_of_ble_eq_true rfl, Nat.le_of_ble_eq_true rfl⟩ (fun _ => rfl) (fun x12 ex12 => ?_)
    refine bd_istore C [(5, .int x12), (4, .int x7), (3, .int x4), (0, .ref l0), (1, .int l1), (2, .int l2)] dX9_isLinked_51 (by decide) rfl ?_
    refine bd_aload_n C 3 dX9_isLinked_53 rfl rfl ?_
    refine bd_aload_n C 3 dX9_isLinked_54 rfl rfl ?_
    refine bd_gR C fi917 fv917 wd_1258 dX9_isLinked_55 ol0 (fun r13 gr13 hr13 => ?_)
    refine bd_iload_n C 4 dX9_isLinked_58 rfl rfl ?_
    refine bd_iconst C (v := 1) dX9_isLinked_59 (by decide) ?_
    refine bd_isub C dX9_isLinked_60 ?_
    refine bd_iald C dX9_isLinked_61 hr13 (fun x14 => ?_)
    refine bd_aload_n C 3 dX9_isLinked_62 rfl rfl ?_
    refine bd_gR C fi925 fv925 wd_1266 dX9_isLinked_63 ol0 (fun r15 gr15 hr15 => ?_)
    refine bd_iload_n C 4 dX9_isLinked_66 rfl rfl ?_
    refine bd_iconst C (v := 1) dX9_isLinked_67 (by decide) ?_
    refine bd_isub C dX9_isLinked_68 ?_
    refine bd_iald C dX9_isLinked_69 hr15 (fun x16 => ?_)
    refine bd_callV (vs := fun (r : Int32) => some (.int r)) (wf := fun _ => w) (st := []) (st1 := fun x17 => Value.int x17 :: []) C [.int x14, .int x16] (fun r9 e9 => mX9_end C.flag N ol0 e9) mwX9_end miX9_end wd_1526 ol0 (by decide) rfl rfl rfl (Nat.le_of_ble_eq_true rfl) dX9_isLinked_70 ⟨rfl, rfl, Nat.le_of_ble_eq_true rfl, Nat.le_of_ble_eq_true rfl, Nat.le_of_ble_eq_true rfl, Nat.le_of_ble_eq_true rfl⟩ (fun _ => rfl) (fun x17 ex17 => ?_)
    refine bd_istore C [(6, .int x17), (5, .int x12), (4, .int x7), (3, .int x4), (0, .ref l0), (1, .int l1), (2, .int l2)] dX9_isLinked_73 (by decide) rfl ?_
    refine bd_aload_n C 4 dX9_isLinked_75 rfl rfl ?_
    refine bd_gR C fi920 fv920 wd_1261 dX9_isLinked_76 ol0 (fun r18 gr18 hr18 => ?_)
    refine bd_iload_n C 5 dX9_isLinked_79 rfl rfl ?_
    refine bd_zald C dX9_isLinked_80 hr18 (fun x19 => ?_)
    refine bd_if_eq C 113 dX9_isLinked_81 (by decide) (fun c20 => ?_) (fun c20 => ?_)
    · refine bd_iload_n C 3 dX9_isLinked_113 rfl rfl ?_
      refine bd_iload C 0 dX9_isLinked_114 rfl ?_
      refine bd_icmp_ge C 130 dX9_isLinked_116 (by decide) (fun c21 => ?_) (fun c21 => ?_)
      · refine bd_iconst C (v := 0) dX9_isLinked_130 (by decide) ?_
        exact bd_zret C hret rfl _ _ rfl rfl rfl dX9_isLinked_131 (Nat.le_refl _) (Nat.le_refl _)
      · refine bd_iload C 1 dX9_isLinked_119 rfl ?_
        refine bd_iload C 2 dX9_isLinked_121 rfl ?_
        refine bd_icmp_ge C 130 dX9_isLinked_123 (by decide) (fun c22 => ?_) (fun c22 => ?_)
        · refine bd_iconst C (v := 0) dX9_isLinked_130 (by decide) ?_
          exact bd_zret C hret rfl _ _ rfl rfl rfl dX9_isLinked_131 (Nat.le_refl _) (Nat.le_refl _)
        · refine bd_iconst C (v := 1) dX9_isLinked_126 (by decide) ?_
          refine bd_goto C 131 dX9_isLinked_127 (by decide) ?_
          exact bd_zret C hret rfl _ _ rfl rfl rfl dX9_isLinked_131 (Nat.le_refl _) (Nat.le_refl _)
    · refine bd_iload_n C 3 dX9_isLinked_84 rfl rfl ?_
      refine bd_iload C 0 dX9_isLinked_85 rfl ?_
      refine bd_icmp_lt C 109 dX9_isLinked_87 (by decide) (fun c23 => ?_) (fun c23 => ?_)
      · exact bd_sub (hb109) [] rfl
      · refine bd_iload_n C 3 dX9_isLinked_90 rfl rfl ?_
        refine bd_iload C 0 dX9_isLinked_91 rfl ?_
        refine bd_isub C dX9_isLinked_93 ?_
        refine bd_i2l C dX9_isLinked_94 ?_
        refine bd_aload_n C 4 dX9_isLinked_95 rfl rfl ?_
        refine bd_gR C fi900 fv900 wd_1241 dX9_isLinked_96 ol0 (fun r24 gr24 hr24 => ?_)
        refine bd_iconst C (v := 3) dX9_isLinked_99 (by decide) ?_
        refine bd_lald C dX9_isLinked_100 hr24 (fun x25 => ?_)
        refine bd_lcmp C dX9_isLinked_101 ?_
        refine bd_if_gt C 109 dX9_isLinked_102 (by decide) (fun c26 => ?_) (fun c26 => ?_)
        · exact bd_sub (hb109) [] rfl
        · refine bd_iconst C (v := 1) dX9_isLinked_105 (by decide) ?_
          refine bd_goto C 131 dX9_isLinked_106 (by decide) ?_
          exact bd_zret C hret rfl _ _ rfl rfl rfl dX9_isLinked_131 (Nat.le_refl _) (Nat.le_refl _)
  · refine bd_iconst C (v := 1) dX9_isLinked_4 (by decide) ?_
    exact bd_zret C hret rfl _ _ rfl rfl rfl dX9_isLinked_5 (Nat.le_refl _) (Nat.le_refl _)
abbrev rmX9_match (d : Nat) : Room := { frames := 30 + d, cells := 0, slots := 0, locals := 1000 + 100 * d }
theorem rwm (d : Nat) {rm : Room} {maxL : Nat} (h1 : rm.cells = 0) (h2 : rm.slots = 0) (h3 : rm.frames + 1 ≤ 30) (h4 : 8 + (maxL + 11) + rm.locals ≤ 1000) : RW (rmX9_match (d + 1)) rm maxL 0 0 0 0 :=
  ⟨h1, h2, Nat.le_trans h3 (by show 30 ≤ 30 + (d + 1); omega), Nat.le_trans h4 (by show 1000 ≤ 1000 + 100 * (d + 1); omega), Nat.le_refl _, Nat.le_refl _⟩
theorem rwm_rec (d : Nat) {maxL : Nat} (h : maxL ≤ 20) : RW (rmX9_match (d + 1)) (rmX9_match d) maxL 0 0 0 0 :=
  ⟨rfl, rfl, by show 30 + d + 1 ≤ 30 + (d + 1); omega, by show 8 + (maxL + 11) + (1000 + 100 * d) ≤ 1000 + 100 * (d + 1); omega, Nat.le_refl _, Nat.le_refl _⟩
abbrev qX9_match (G : Gy) (F : Fr) (g : Bd) : Wd → State → Prop := fun r => QM G F g 0 0 ((fun _ => none) r) ((fun (r : Wd) => r) r)
set_option maxRecDepth 20000 in
set_option maxHeartbeats 4000000 in
theorem mX9_match_b {l : Launch} (hf9 : l.stackTraces = false) {G : Gy} {F : Fr} (N d : Nat) {w : Wd} {rc : Wd → Nat → Int32 → Option Wd} (hrc : ∀ {l : Launch}, l.stackTraces = false → ∀ {w : Wd} {l0 : Nat} {l1 : Int32} {r : Wd}, okF F l0 9 → rc w l0 l1 = some r → Met l yX9_match [.code yX9_match cX9_match 5 none] (rmX9_match d) (PcB G F w [.ref l0, .int l1]) (QB G F none r) 0 0 (AF F)) {l0 : Nat} {l1 : Int32} {r : Wd} (ol0 : okF F l0 9) (e9 : fX9_match_b F N rc w l0 l1 = some r) : Met l yX9_match [.code yX9_match cX9_match 5 none] (rmX9_match (d + 1)) (PcB G F w [.ref l0, .int l1]) (QB G F ((fun _ => none) r) ((fun (r : Wd) => r) r)) 0 0 (AF F) := by
  refine bd_met (vs := fun _ => none) (wf := fun (r : Wd) => r) hf9 (by decide) (Nat.le_of_ble_eq_true rfl) e9 (fun g C hret hini => ?_)
  clear e9 r
  have hb33 : ∀  (w : Wd) (l0 : Nat) (ol0 : okF F l0 9), BD g G F 5 (qX9_match G F g) 0 0 (fX9_match_33 F N rc w l0) w 33 [(0, .ref l0)] [] := by
    intro w l0 ol0
    unfold fX9_match_33
    refine bd_aload_n C 0 dX9_match_33 rfl rfl ?_
    refine bd_dup C dX9_match_34 rfl ?_
    refine bd_gI C fi927 fv927 wd_1268 dX9_match_35 ol0 ?_
    refine bd_iconst C (v := 1) dX9_match_38 (by decide) ?_
    refine bd_iadd C dX9_match_39 ?_
    refine bd_pI C fi927 ftX9 fu927 wd_1268 rfl rfl rfl dX9_match_40 ol0 (fun w1 => ?_)
    exact bd_vret C hret rfl _ _ rfl rfl dX9_match_43 (Nat.le_refl _) (Nat.le_refl _)
  have hb141 : ∀ (k82 : Wd → Nat → Int32 → Int32 → Int32 → Int32 → Option (Wd)), (∀ (w : Wd) (l0 : Nat) (l1 : Int32) (l2 : Int32) (l3 : Int32) (l4 : Int32) (ol0 : okF F l0 9), BD g G F 5 (qX9_match G F g) 0 0 (k82 w l0 l1 l2 l3 l4) w 82 [(0, .ref l0), (1, .int l1), (2, .int l2), (3, .int l3), (4, .int l4)] []) → ∀  (w : Wd) (l0 : Nat) (l1 : Int32) (l2 : Int32) (l3 : Int32) (l4 : Int32) (ol0 : okF F l0 9), BD g G F 5 (qX9_match G F g) 0 0 (fX9_match_141 F N rc k82 w l0 l1 l2 l3 l4) w 141 [(0, .ref l0), (1, .int l1), (2, .int l2), (3, .int l3), (4, .int l4)] [] := by
    intro k82 hk82
    intro w l0 l1 l2 l3 l4 ol0
    unfold fX9_match_141
    refine bd_iinc C (v := l4 + 1) 4 [(4, .int (l4 + 1)), (0, .ref l0), (1, .int l1), (2, .int l2), (3, .int l3)] dX9_match_141 rfl rfl (by decide) rfl ?_
    refine bd_goto C 82 dX9_match_144 (by decide) ?_
    exact bd_sub (hk82 w l0 l1 l2 l3 (l4 + 1) ol0) [1, 2, 3, 4, 0] rfl
  have hb82 : ∀ (n : Nat) (w : Wd) (l0 : Nat) (l1 : Int32) (l2 : Int32) (l3 : Int32) (l4 : Int32) (ol0 : okF F l0 9), BD g G F 5 (qX9_match G F g) 0 0 (fX9_match_82 F N rc n w l0 l1 l2 l3 l4) w 82 [(0, .ref l0), (1, .int l1), (2, .int l2), (3, .int l3), (4, .int l4)] [] := by
    intro n
    induction n with
    | zero =>
      intro w l0 l1 l2 l3 l4 ol0
      unfold fX9_match_82
      exact bd_none
    | succ n ih =>
      intro w l0 l1 l2 l3 l4 ol0
      unfold fX9_match_82
      refine bd_iload_n C 3 dX9_match_82 rfl rfl ?_
      refine bd_if_eq C 147 dX9_match_83 (by decide) (fun c2 => ?_) (fun c2 => ?_)
      · exact bd_vret C hret rfl _ _ rfl rfl dX9_match_147 (Nat.le_refl _) (Nat.le_refl _)
      · refine bd_iload C 4 dX9_match_86 rfl ?_
        refine bd_aload_n C 0 dX9_match_88 rfl rfl ?_
        refine bd_iload_n C 2 dX9_match_89 rfl rfl ?_
        refine bd_callV (vs := fun (r : Int32) => some (.int r)) (wf := fun _ => w) (st := [.int l4]) (st1 := fun x3 => Value.int x3 :: [.int l4]) C [.int l2] (fun r9 e9 => mX9_many C.flag N ol0 e9) mwX9_many miX9_many wd_1436 ol0 (by decide) rfl rfl rfl (Nat.le_of_ble_eq_true rfl) dX9_match_90 (rwm d rfl rfl (Nat.le_of_ble_eq_true rfl) (Nat.le_of_ble_eq_true rfl)) (fun _ => rfl) (fun x3 ex3 => ?_)
        refine bd_icmp_ge C 147 dX9_match_93 (by decide) (fun c4 => ?_) (fun c4 => ?_)
        · exact bd_vret C hret rfl _ _ rfl rfl dX9_match_147 (Nat.le_refl _) (Nat.le_refl _)
        · refine bd_aload_n C 0 dX9_match_96 rfl rfl ?_
          refine bd_gI C fi927 fv927 wd_1268 dX9_match_97 ol0 ?_
          refine bd_sipush C (v := 1000) dX9_match_100 (by decide) ?_
          refine bd_icmp_ge C 147 dX9_match_103 (by decide) (fun c5 => ?_) (fun c5 => ?_)
          · exact bd_vret C hret rfl _ _ rfl rfl dX9_match_147 (Nat.le_refl _) (Nat.le_refl _)
          · refine bd_aload_n C 0 dX9_match_106 rfl rfl ?_
            refine bd_iload_n C 1 dX9_match_107 rfl rfl ?_
            refine bd_iload C 4 dX9_match_108 rfl ?_
            refine bd_callV (vs := fun (r : Int32) => some (.int r)) (wf := fun _ => w) (st := []) (st1 := fun x6 => Value.int x6 :: []) C [.int l1, .int l4] (fun r9 e9 => mX9_isFitting C.flag N ol0 e9) mwX9_isFitting miX9_isFitting wd_1674 ol0 (by decide) rfl rfl rfl (Nat.le_of_ble_eq_true rfl) dX9_match_110 (rwm d rfl rfl (Nat.le_of_ble_eq_true rfl) (Nat.le_of_ble_eq_true rfl)) (fun _ => rfl) (fun x6 ex6 => ?_)
            refine bd_if_eq C 141 dX9_match_113 (by decide) (fun c7 => ?_) (fun c7 => ?_)
            · exact bd_sub (hb141 _ ih w l0 l1 l2 l3 l4 ol0) [0, 1, 2, 3, 4] rfl
            · refine bd_aload_n C 0 dX9_match_116 rfl rfl ?_
              refine bd_iload_n C 1 dX9_match_117 rfl rfl ?_
              refine bd_iload C 4 dX9_match_118 rfl ?_
              refine bd_callV (vs := fun (r : Int32) => some (.int r)) (wf := fun _ => w) (st := []) (st1 := fun x8 => Value.int x8 :: []) C [.int l1, .int l4] (fun r9 e9 => mX9_isLinked C.flag N ol0 e9) mwX9_isLinked miX9_isLinked wd_1679 ol0 (by decide) rfl rfl rfl (Nat.le_of_ble_eq_true rfl) dX9_match_120 (rwm d rfl rfl (Nat.le_of_ble_eq_true rfl) (Nat.le_of_ble_eq_true rfl)) (fun _ => rfl) (fun x8 ex8 => ?_)
              refine bd_if_eq C 141 dX9_match_123 (by decide) (fun c9 => ?_) (fun c9 => ?_)
              · exact bd_sub (hb141 _ ih w l0 l1 l2 l3 l4 ol0) [0, 1, 2, 3, 4] rfl
              · refine bd_aload_n C 0 dX9_match_126 rfl rfl ?_
                refine bd_gR C fi925 fv925 wd_1266 dX9_match_127 ol0 (fun r10 gr10 hr10 => ?_)
                refine bd_iload_n C 1 dX9_match_130 rfl rfl ?_
                refine bd_iload C 4 dX9_match_131 rfl ?_
                refine bd_iast C dX9_match_133 hr10 (fun w11 => ?_)
                refine bd_aload_n C 0 dX9_match_134 rfl rfl ?_
                refine bd_iload_n C 1 dX9_match_135 rfl rfl ?_
                refine bd_iconst C (v := 1) dX9_match_136 (by decide) ?_
                refine bd_iadd C dX9_match_137 ?_
                refine bd_callV (vs := fun _ => none) (wf := fun (r : Wd) => r) (st := []) (st1 := fun p12 => []) C [.int (l1 + 1)] (fun r9 e9 => hrc C.flag ol0 e9) mwX9_match miX9_match wd_1670 ol0 (by decide) rfl rfl rfl (Nat.le_of_ble_eq_true rfl) dX9_match_138 (rwm_rec d (by decide)) (fun _ => rfl) (fun p12 ep12 => ?_)
                exact bd_sub (hb141 _ ih p12 l0 l1 l2 l3 l4 ol0) [0, 1, 2, 3, 4] rfl
  have hb78 : ∀  (w : Wd) (l0 : Nat) (l1 : Int32) (l2 : Int32) (s0 : Int32) (ol0 : okF F l0 9), BD g G F 5 (qX9_match G F g) 0 0 (fX9_match_78 F N rc w l0 l1 l2 s0) w 78 [(0, .ref l0), (1, .int l1), (2, .int l2)] [.int s0] := by
    intro w l0 l1 l2 s0 ol0
    unfold fX9_match_78
    refine bd_istore_n C [(3, .int s0), (0, .ref l0), (1, .int l1), (2, .int l2)] dX9_match_78 rfl (by decide) rfl ?_
    refine bd_iconst C (v := 0) dX9_match_79 (by decide) ?_
    refine bd_istore C [(4, .int 0), (3, .int s0), (0, .ref l0), (1, .int l1), (2, .int l2)] dX9_match_80 (by decide) rfl ?_
    exact bd_sub (hb82 N w l0 l1 l2 s0 0 ol0) [2, 3, 4, 1, 0] rfl
  have hb77 : ∀  (w : Wd) (l0 : Nat) (l1 : Int32) (l2 : Int32) (ol0 : okF F l0 9), BD g G F 5 (qX9_match G F g) 0 0 (fX9_match_77 F N rc w l0 l1 l2) w 77 [(0, .ref l0), (1, .int l1), (2, .int l2)] [] := by
    intro w l0 l1 l2 ol0
    unfold fX9_match_77
    refine bd_iconst C (v := 0) dX9_match_77 (by decide) ?_
    exact bd_sub (hb78 w l0 l1 l2 0 ol0) [0, 1, 2] rfl
  unfold fX9_match_b
  refine bd_sub (lv' := [(0, .ref l0), (1, .int l1)]) ?_ [0, 1] rfl
  refine bd_iload_n C 1 dX9_match_0 rfl rfl ?_
  refine bd_aload_n C 0 dX9_match_1 rfl rfl ?_
  refine bd_gI C fi916 fv916 wd_1257 dX9_match_2 ol0 ?_
  refine bd_icmp_ne C 44 dX9_match_5 (by decide) (fun c13 => ?_) (fun c13 => ?_)
  · refine bd_aload_n C 0 dX9_match_44 rfl rfl ?_
    refine bd_gR C fi917 fv917 wd_1258 dX9_match_45 ol0 (fun r14 gr14 hr14 => ?_)
    refine bd_iload_n C 1 dX9_match_48 rfl rfl ?_
    refine bd_iald C dX9_match_49 hr14 (fun x15 => ?_)
    refine bd_istore_n C [(2, .int x15), (0, .ref l0), (1, .int l1)] dX9_match_50 rfl (by decide) rfl ?_
    refine bd_aload_n C 1 dX9_match_51 rfl rfl ?_
    refine bd_iload_n C 0 dX9_match_52 rfl rfl ?_
    refine bd_callV (vs := fun (r : Int32) => some (.int r)) (wf := fun _ => w) (st := []) (st1 := fun x16 => Value.int x16 :: []) C [.int x15] (fun r9 e9 => mX9_isTier C.flag N ol0 e9) mwX9_isTier miX9_isTier wd_1402 ol0 (by decide) rfl rfl rfl (Nat.le_of_ble_eq_true rfl) dX9_match_53 (rwm d rfl rfl (Nat.le_of_ble_eq_true rfl) (Nat.le_of_ble_eq_true rfl)) (fun _ => rfl) (fun x16 ex16 => ?_)
    refine bd_if_eq C 77 dX9_match_56 (by decide) (fun c17 => ?_) (fun c17 => ?_)
    · exact bd_sub (hb77 w l0 l1 x15 ol0) [1, 2, 0] rfl
    · refine bd_aload_n C 1 dX9_match_59 rfl rfl ?_
      refine bd_iload_n C 0 dX9_match_60 rfl rfl ?_
      refine bd_callV (vs := fun (r : Int32) => some (.int r)) (wf := fun _ => w) (st := []) (st1 := fun x18 => Value.int x18 :: []) C [.int x15] (fun r9 e9 => mX9_kind C.flag N ol0 e9) mwX9_kind miX9_kind wd_1483 ol0 (by decide) rfl rfl rfl (Nat.le_of_ble_eq_true rfl) dX9_match_61 (rwm d rfl rfl (Nat.le_of_ble_eq_true rfl) (Nat.le_of_ble_eq_true rfl)) (fun _ => rfl) (fun x18 ex18 => ?_)
      refine bd_aload_n C 1 dX9_match_64 rfl rfl ?_
      refine bd_gR C fi918 fv918 wd_1259 dX9_match_65 ol0 (fun r19 gr19 hr19 => ?_)
      refine bd_iload_n C 2 dX9_match_68 rfl rfl ?_
      refine bd_iald C dX9_match_69 hr19 (fun x20 => ?_)
      refine bd_icmp_ne C 77 dX9_match_70 (by decide) (fun c21 => ?_) (fun c21 => ?_)
      · exact bd_sub (hb77 w l0 l1 x15 ol0) [1, 2, 0] rfl
      · refine bd_iconst C (v := 1) dX9_match_73 (by decide) ?_
        refine bd_goto C 78 dX9_match_74 (by decide) ?_
        exact bd_sub (hb78 w l0 l1 x15 1 ol0) [1, 2, 0] rfl
  · refine bd_aload_n C 0 dX9_match_8 rfl rfl ?_
    refine bd_gI C fi927 fv927 wd_1268 dX9_match_9 ol0 ?_
    refine bd_aload_n C 0 dX9_match_12 rfl rfl ?_
    refine bd_gI C fi928 fv928 wd_1269 dX9_match_13 ol0 ?_
    refine bd_icmp_ne C 33 dX9_match_16 (by decide) (fun c22 => ?_) (fun c22 => ?_)
    · exact bd_sub (hb33 w l0 ol0) [0] rfl
    · refine bd_aload_n C 0 dX9_match_19 rfl rfl ?_
      refine bd_gR C fi925 fv925 wd_1266 dX9_match_20 ol0 (fun r23 gr23 hr23 => ?_)
      refine bd_iconst C (v := 0) dX9_match_23 (by decide) ?_
      refine bd_aload_n C 0 dX9_match_24 rfl rfl ?_
      refine bd_gR C fi926 fv926 wd_1267 dX9_match_25 ol0 (fun r24 gr24 hr24 => ?_)
      refine bd_iconst C (v := 0) dX9_match_28 (by decide) ?_
      refine bd_iconst C (v := 4) dX9_match_29 (by decide) ?_
      refine bd_copyI C wd_1414 wd_474 wd_473 wd_103 dX9_match_30 hr23 hr24 ⟨Nat.le_of_ble_eq_true rfl, Nat.le_of_ble_eq_true rfl⟩ (fun w25 => ?_)
      exact bd_sub (hb33 w25 l0 ol0) [0] rfl
theorem mX9_match {l : Launch} (hf9 : l.stackTraces = false) {G : Gy} {F : Fr} (N : Nat) (d : Nat) : ∀ {w : Wd} {l0 : Nat} {l1 : Int32} {r : Wd}, okF F l0 9 → fX9_match F N d w l0 l1 = some r → Met l yX9_match [.code yX9_match cX9_match 5 none] (rmX9_match d) (PcB G F w [.ref l0, .int l1]) (QB G F none r) 0 0 (AF F) := by
  induction d generalizing l with
  | zero => intro w l0 l1 r _ h; exact absurd h (by unfold fX9_match; simp)
  | succ d ih =>
    intro w l0 l1 r h1 h2
    exact mX9_match_b hf9 N d (fun a => ih a) h1 (by unfold fX9_match at h2; exact h2)
abbrev rmX9_search : Room := { frames := 37, cells := 0, slots := 0, locals := 1624 }
abbrev qX9_search (G : Gy) (F : Fr) (g : Bd) : (Int32 × Wd) → State → Prop := fun r => QM G F g 0 0 ((fun (r : Int32 × Wd) => some (.int r.1)) r) ((fun (r : Int32 × Wd) => r.2) r)
set_option maxRecDepth 20000 in
set_option maxHeartbeats 4000000 in
theorem mX9_search {l : Launch} (hf9 : l.stackTraces = false) {G : Gy} {F : Fr} (N : Nat) {w : Wd} {l0 : Nat} {r : Int32 × Wd} (ol0 : okF F l0 9) (e9 : fX9_search F N w l0 = some r) : Met l yX9_search [.code yX9_search cX9_search 2 (some .int)] rmX9_search (PcB G F w [.ref l0]) (QB G F ((fun (r : Int32 × Wd) => some (.int r.1)) r) ((fun (r : Int32 × Wd) => r.2) r)) 0 0 (AF F) := by
  refine bd_met (vs := fun (r : Int32 × Wd) => some (.int r.1)) (wf := fun (r : Int32 × Wd) => r.2) hf9 (by decide) (Nat.le_of_ble_eq_true rfl) e9 (fun g C hret hini => ?_)
  clear e9 r
  have hb35 : ∀ (n : Nat) (w : Wd) (l0 : Nat) (l1 : Int32) (ol0 : okF F l0 9), BD g G F 2 (qX9_search G F g) 0 0 (fX9_search_35 F N n w l0 l1) w 35 [(0, .ref l0), (1, .int l1)] [] := by
    intro n
    induction n with
    | zero =>
      intro w l0 l1 ol0
      unfold fX9_search_35
      exact bd_none
    | succ n ih =>
      intro w l0 l1 ol0
      unfold fX9_search_35
      refine bd_iload_n C 1 dX9_search_35 rfl rfl ?_
      refine bd_aload_n C 0 dX9_search_36 rfl rfl ?_
      refine bd_gI C fi916 fv916 wd_1257 dX9_search_37 ol0 ?_
      refine bd_icmp_ge C 101 dX9_search_40 (by decide) (fun c4 => ?_) (fun c4 => ?_)
      · refine bd_aload_n C 0 dX9_search_101 rfl rfl ?_
        refine bd_iconst C (v := 0) dX9_search_102 (by decide) ?_
        refine bd_pI C fi927 ftX9 fu927 wd_1268 rfl rfl rfl dX9_search_103 ol0 (fun w5 => ?_)
        refine bd_aload_n C 0 dX9_search_106 rfl rfl ?_
        refine bd_iconst C (v := (-1)) dX9_search_107 (by decide) ?_
        refine bd_pI C fi928 ftX9 fu928 wd_1269 rfl rfl rfl dX9_search_108 ol0 (fun w6 => ?_)
        refine bd_aload_n C 0 dX9_search_111 rfl rfl ?_
        refine bd_iconst C (v := 0) dX9_search_112 (by decide) ?_
        refine bd_callV (vs := fun _ => none) (wf := fun (r : Wd) => r) (st := []) (st1 := fun p7 => []) C [.int 0] (fun r9 e9 => mX9_match C.flag N 6 ol0 e9) mwX9_match miX9_match wd_1670 ol0 (by decide) rfl rfl rfl (Nat.le_of_ble_eq_true rfl) dX9_search_113 ⟨rfl, rfl, Nat.le_of_ble_eq_true rfl, Nat.le_of_ble_eq_true rfl, Nat.le_of_ble_eq_true rfl, Nat.le_of_ble_eq_true rfl⟩ (fun _ => rfl) (fun p7 ep7 => ?_)
        refine bd_aload_n C 0 dX9_search_116 rfl rfl ?_
        refine bd_gI C fi927 fv927 wd_1268 dX9_search_117 ol0 ?_
        exact bd_iret C hret rfl _ _ rfl rfl dX9_search_120 (Nat.le_refl _) (Nat.le_refl _)
      · refine bd_aload_n C 0 dX9_search_43 rfl rfl ?_
        refine bd_gR C fi917 fv917 wd_1258 dX9_search_44 ol0 (fun r8 gr8 hr8 => ?_)
        refine bd_iload_n C 1 dX9_search_47 rfl rfl ?_
        refine bd_aload_n C 0 dX9_search_48 rfl rfl ?_
        refine bd_gR C fi921 fv921 wd_1262 dX9_search_49 ol0 (fun r9 gr9 hr9 => ?_)
        refine bd_iload_n C 1 dX9_search_52 rfl rfl ?_
        refine bd_iald C dX9_search_53 hr9 (fun x10 => ?_)
        refine bd_iast C dX9_search_54 hr8 (fun w11 => ?_)
        refine bd_aload_n C 0 dX9_search_55 rfl rfl ?_
        refine bd_gR C fi918 fv918 wd_1259 dX9_search_56 ol0 (fun r12 gr12 hr12 => ?_)
        refine bd_iload_n C 1 dX9_search_59 rfl rfl ?_
        refine bd_aload_n C 0 dX9_search_60 rfl rfl ?_
        refine bd_aload_n C 0 dX9_search_61 rfl rfl ?_
        refine bd_gR C fi921 fv921 wd_1262 dX9_search_62 ol0 (fun r13 gr13 hr13 => ?_)
        refine bd_iload_n C 1 dX9_search_65 rfl rfl ?_
        refine bd_iald C dX9_search_66 hr13 (fun x14 => ?_)
        refine bd_callV (vs := fun (r : Int32) => some (.int r)) (wf := fun _ => w11) (st := [.int l1, .ref r12]) (st1 := fun x15 => Value.int x15 :: [.int l1, .ref r12]) C [.int x14] (fun r9 e9 => mX9_kind C.flag N ol0 e9) mwX9_kind miX9_kind wd_1483 ol0 (by decide) rfl rfl rfl (Nat.le_of_ble_eq_true rfl) dX9_search_67 ⟨rfl, rfl, Nat.le_of_ble_eq_true rfl, Nat.le_of_ble_eq_true rfl, Nat.le_of_ble_eq_true rfl, Nat.le_of_ble_eq_true rfl⟩ (fun _ => rfl) (fun x15 ex15 => ?_)
        refine bd_iast C dX9_search_70 hr12 (fun w16 => ?_)
        refine bd_aload_n C 0 dX9_search_71 rfl rfl ?_
        refine bd_gR C fi919 fv919 wd_1260 dX9_search_72 ol0 (fun r17 gr17 hr17 => ?_)
        refine bd_iload_n C 1 dX9_search_75 rfl rfl ?_
        refine bd_aload_n C 0 dX9_search_76 rfl rfl ?_
        refine bd_gR C fi922 fv922 wd_1263 dX9_search_77 ol0 (fun r18 gr18 hr18 => ?_)
        refine bd_iload_n C 1 dX9_search_80 rfl rfl ?_
        refine bd_lald C dX9_search_81 hr18 (fun x19 => ?_)
        refine bd_last C dX9_search_82 hr17 (fun w20 => ?_)
        refine bd_aload_n C 0 dX9_search_83 rfl rfl ?_
        refine bd_gR C fi920 fv920 wd_1261 dX9_search_84 ol0 (fun r21 gr21 hr21 => ?_)
        refine bd_iload_n C 1 dX9_search_87 rfl rfl ?_
        refine bd_aload_n C 0 dX9_search_88 rfl rfl ?_
        refine bd_gR C fi923 fv923 wd_1264 dX9_search_89 ol0 (fun r22 gr22 hr22 => ?_)
        refine bd_iload_n C 1 dX9_search_92 rfl rfl ?_
        refine bd_zald C dX9_search_93 hr22 (fun x23 => ?_)
        refine bd_zast C dX9_search_94 hr21 (fun w24 => ?_)
        refine bd_iinc C (v := l1 + 1) 1 [(1, .int (l1 + 1)), (0, .ref l0)] dX9_search_95 rfl rfl (by decide) rfl ?_
        refine bd_goto C 35 dX9_search_98 (by decide) ?_
        exact bd_sub (ih w24 l0 (l1 + 1) ol0) [1, 0] rfl
  have hb13 : ∀  (w : Wd) (l0 : Nat) (s0 : Nat) (s1 : Int32) (ol0 : okF F l0 9) (os0 : okF F s0 9), BD g G F 2 (qX9_search G F g) 0 0 (fX9_search_13 F N w l0 s0 s1) w 13 [(0, .ref l0)] [.int s1, .ref s0] := by
    intro w l0 s0 s1 ol0 os0
    unfold fX9_search_13
    refine bd_pI C fi906 ftX9 fu906 wd_1247 rfl rfl rfl dX9_search_13 os0 (fun w1 => ?_)
    refine bd_aload_n C 0 dX9_search_16 rfl rfl ?_
    refine bd_gI C fi906 fv906 wd_1247 dX9_search_17 ol0 ?_
    refine bd_if_le C 25 dX9_search_20 (by decide) (fun c2 => ?_) (fun c2 => ?_)
    · refine bd_aload_n C 0 dX9_search_25 rfl rfl ?_
      refine bd_aload_n C 0 dX9_search_26 rfl rfl ?_
      refine bd_gI C fi924 fv924 wd_1265 dX9_search_27 ol0 ?_
      refine bd_pI C fi916 ftX9 fu916 wd_1257 rfl rfl rfl dX9_search_30 ol0 (fun w3 => ?_)
      refine bd_iconst C (v := 0) dX9_search_33 (by decide) ?_
      refine bd_istore_n C [(1, .int 0), (0, .ref l0)] dX9_search_34 rfl (by decide) rfl ?_
      exact bd_sub (hb35 N w3 l0 0 ol0) [1, 0] rfl
    · refine bd_iconst C (v := 0) dX9_search_23 (by decide) ?_
      exact bd_iret C hret rfl _ _ rfl rfl dX9_search_24 (Nat.le_refl _) (Nat.le_refl _)
  unfold fX9_search
  refine bd_sub (lv' := [(0, .ref l0)]) ?_ [0] rfl
  refine bd_aload_n C 0 dX9_search_0 rfl rfl ?_
  refine bd_aload_n C 0 dX9_search_1 rfl rfl ?_
  refine bd_callV (vs := fun (r : Int32 × Wd) => some (.int r.1)) (wf := fun (r : Int32 × Wd) => r.2) (st := [.ref l0]) (st1 := fun p25 => Value.int p25.1 :: [.ref l0]) C [] (fun r9 e9 => mX9_isPatternWrong C.flag N ol0 e9) mwX9_isPatternWrong miX9_isPatternWrong wd_1654 ol0 (by decide) rfl rfl rfl (Nat.le_of_ble_eq_true rfl) dX9_search_2 ⟨rfl, rfl, Nat.le_of_ble_eq_true rfl, Nat.le_of_ble_eq_true rfl, Nat.le_of_ble_eq_true rfl, Nat.le_of_ble_eq_true rfl⟩ (fun _ => rfl) (fun p25 ep25 => ?_)
  refine bd_if_eq C 12 dX9_search_5 (by decide) (fun c26 => ?_) (fun c26 => ?_)
  · refine bd_iconst C (v := 0) dX9_search_12 (by decide) ?_
    exact bd_sub (hb13 p25.2 l0 l0 0 ol0 ol0) [0] rfl
  · refine bd_iconst C (v := 1) dX9_search_8 (by decide) ?_
    refine bd_goto C 13 dX9_search_9 (by decide) ?_
    exact bd_sub (hb13 p25.2 l0 l0 1 ol0 ol0) [0] rfl
abbrev rmX9_match_ : Room := { frames := 37, cells := 0, slots := 0, locals := 1624 }
abbrev qX9_match_ (G : Gy) (F : Fr) (g : Bd) : (Int32 × Wd) → State → Prop := fun r => QM G F g 0 0 ((fun (r : Int32 × Wd) => some (.int r.1)) r) ((fun (r : Int32 × Wd) => r.2) r)
set_option maxRecDepth 20000 in
set_option maxHeartbeats 4000000 in
theorem mX9_match_ {l : Launch} (hf9 : l.stackTraces = false) {G : Gy} {F : Fr} (N : Nat) {w : Wd} {l0 : Nat} {l1 : Int32} {l2 : Int32} {r : Int32 × Wd} (ol0 : okF F l0 9) (e9 : fX9_match_ F N w l0 l1 l2 = some r) : Met l yX9_match_ [.code yX9_match_ cX9_match_ 3 (some .int)] rmX9_match_ (PcB G F w [.ref l0, .int l1, .int l2]) (QB G F ((fun (r : Int32 × Wd) => some (.int r.1)) r) ((fun (r : Int32 × Wd) => r.2) r)) 0 0 (AF F) := by
  refine bd_met (vs := fun (r : Int32 × Wd) => some (.int r.1)) (wf := fun (r : Int32 × Wd) => r.2) hf9 (by decide) (Nat.le_of_ble_eq_true rfl) e9 (fun g C hret hini => ?_)
  clear e9 r
  have hb83 : ∀  (w : Wd) (l0 : Nat) (l2 : Int32) (s0 : Nat) (s1 : Int32) (ol0 : okF F l0 9) (os0 : okF F s0 9), BD g G F 3 (qX9_match_ G F g) 0 0 (fX9_match__83 F N w l0 l2 s0 s1) w 83 [(0, .ref l0), (2, .int l2)] [.int s1, .ref s0] := by
    intro w l0 l2 s0 s1 ol0 os0
    unfold fX9_match__83
    refine bd_pI C fi906 ftX9 fu906 wd_1247 rfl rfl rfl dX9_match__83 os0 (fun w7 => ?_)
    refine bd_aload_n C 0 dX9_match__86 rfl rfl ?_
    refine bd_gI C fi906 fv906 wd_1247 dX9_match__87 ol0 ?_
    refine bd_if_le C 97 dX9_match__90 (by decide) (fun c8 => ?_) (fun c8 => ?_)
    · refine bd_aload_n C 0 dX9_match__97 rfl rfl ?_
      refine bd_gR C fi926 fv926 wd_1267 dX9_match__98 ol0 (fun r9 gr9 hr9 => ?_)
      refine bd_iload_n C 1 dX9_match__101 rfl rfl ?_
      refine bd_iald C dX9_match__102 hr9 (fun x10 => ?_)
      exact bd_iret C hret rfl _ _ rfl rfl dX9_match__103 (Nat.le_refl _) (Nat.le_refl _)
    · refine bd_iconst C (v := 0) dX9_match__93 (by decide) ?_
      refine bd_goto C 103 dX9_match__94 (by decide) ?_
      exact bd_iret C hret rfl _ _ rfl rfl dX9_match__103 (Nat.le_refl _) (Nat.le_refl _)
  have hb42 : ∀  (w : Wd) (l0 : Nat) (l1 : Int32) (l2 : Int32) (s0 : Nat) (s1 : Int32) (ol0 : okF F l0 9) (os0 : okF F s0 9), BD g G F 3 (qX9_match_ G F g) 0 0 (fX9_match__42 F N w l0 l1 l2 s0 s1) w 42 [(0, .ref l0), (1, .int l1), (2, .int l2)] [.int s1, .ref s0] := by
    intro w l0 l1 l2 s0 s1 ol0 os0
    unfold fX9_match__42
    refine bd_pI C fi906 ftX9 fu906 wd_1247 rfl rfl rfl dX9_match__42 os0 (fun w1 => ?_)
    refine bd_aload_n C 0 dX9_match__45 rfl rfl ?_
    refine bd_gI C fi906 fv906 wd_1247 dX9_match__46 ol0 ?_
    refine bd_if_le C 54 dX9_match__49 (by decide) (fun c2 => ?_) (fun c2 => ?_)
    · refine bd_aload_n C 0 dX9_match__54 rfl rfl ?_
      refine bd_iconst C (v := 0) dX9_match__55 (by decide) ?_
      refine bd_pI C fi927 ftX9 fu927 wd_1268 rfl rfl rfl dX9_match__56 ol0 (fun w3 => ?_)
      refine bd_aload_n C 0 dX9_match__59 rfl rfl ?_
      refine bd_iload_n C 1 dX9_match__60 rfl rfl ?_
      refine bd_pI C fi928 ftX9 fu928 wd_1269 rfl rfl rfl dX9_match__61 ol0 (fun w4 => ?_)
      refine bd_aload_n C 0 dX9_match__64 rfl rfl ?_
      refine bd_iconst C (v := 0) dX9_match__65 (by decide) ?_
      refine bd_callV (vs := fun _ => none) (wf := fun (r : Wd) => r) (st := []) (st1 := fun p5 => []) C [.int 0] (fun r9 e9 => mX9_match C.flag N 6 ol0 e9) mwX9_match miX9_match wd_1670 ol0 (by decide) rfl rfl rfl (Nat.le_of_ble_eq_true rfl) dX9_match__66 ⟨rfl, rfl, Nat.le_of_ble_eq_true rfl, Nat.le_of_ble_eq_true rfl, Nat.le_of_ble_eq_true rfl, Nat.le_of_ble_eq_true rfl⟩ (fun _ => rfl) (fun p5 ep5 => ?_)
      refine bd_aload_n C 0 dX9_match__69 rfl rfl ?_
      refine bd_aload_n C 0 dX9_match__70 rfl rfl ?_
      refine bd_gI C fi927 fv927 wd_1268 dX9_match__71 ol0 ?_
      refine bd_iload_n C 1 dX9_match__74 rfl rfl ?_
      refine bd_icmp_gt C 82 dX9_match__75 (by decide) (fun c6 => ?_) (fun c6 => ?_)
      · refine bd_iconst C (v := 0) dX9_match__82 (by decide) ?_
        exact bd_sub (hb83 p5 l0 l2 l0 0 ol0 ol0) [0, 2] rfl
      · refine bd_iconst C (v := 2) dX9_match__78 (by decide) ?_
        refine bd_goto C 83 dX9_match__79 (by decide) ?_
        exact bd_sub (hb83 p5 l0 l2 l0 2 ol0 ol0) [0, 2] rfl
    · refine bd_iconst C (v := 0) dX9_match__52 (by decide) ?_
      exact bd_iret C hret rfl _ _ rfl rfl dX9_match__53 (Nat.le_refl _) (Nat.le_refl _)
  have hb37 : ∀  (w : Wd) (l0 : Nat) (l1 : Int32) (l2 : Int32) (s0 : Nat) (ol0 : okF F l0 9) (os0 : okF F s0 9), BD g G F 3 (qX9_match_ G F g) 0 0 (fX9_match__37 F N w l0 l1 l2 s0) w 37 [(0, .ref l0), (1, .int l1), (2, .int l2)] [.ref s0] := by
    intro w l0 l1 l2 s0 ol0 os0
    unfold fX9_match__37
    refine bd_iconst C (v := 2) dX9_match__37 (by decide) ?_
    refine bd_goto C 42 dX9_match__38 (by decide) ?_
    exact bd_sub (hb42 w l0 l1 l2 s0 2 ol0 os0) [0, 1, 2] rfl
  unfold fX9_match_
  refine bd_sub (lv' := [(0, .ref l0), (1, .int l1), (2, .int l2)]) ?_ [0, 1, 2] rfl
  refine bd_aload_n C 0 dX9_match__0 rfl rfl ?_
  refine bd_aload_n C 0 dX9_match__1 rfl rfl ?_
  refine bd_gI C fi916 fv916 wd_1257 dX9_match__2 ol0 ?_
  refine bd_if_ne C 12 dX9_match__5 (by decide) (fun c11 => ?_) (fun c11 => ?_)
  · refine bd_iload_n C 1 dX9_match__12 rfl rfl ?_
    refine bd_iconst C (v := 0) dX9_match__13 (by decide) ?_
    refine bd_sipush C (v := 999) dX9_match__14 (by decide) ?_
    refine bd_callS (vs := fun (r : Int32) => some (.int r)) (wf := fun _ => w) (st := [.ref l0]) (st1 := fun x12 => Value.int x12 :: [.ref l0]) C [.int l1, .int 0, .int 999] (fun r9 e9 => mX9_in C.flag N e9) mwX9_in miX9_in wd_1399 rfl rfl (Nat.le_of_ble_eq_true rfl) dX9_match__17 ⟨rfl, rfl, Nat.le_of_ble_eq_true rfl, Nat.le_of_ble_eq_true rfl, Nat.le_of_ble_eq_true rfl, Nat.le_of_ble_eq_true rfl⟩ (fun _ => rfl) (fun x12 ex12 => ?_)
    refine bd_if_eq C 37 dX9_match__20 (by decide) (fun c13 => ?_) (fun c13 => ?_)
    · exact bd_sub (hb37 w l0 l1 l2 l0 ol0 ol0) [0, 1, 2] rfl
    · refine bd_iload_n C 2 dX9_match__23 rfl rfl ?_
      refine bd_iconst C (v := 0) dX9_match__24 (by decide) ?_
      refine bd_aload_n C 0 dX9_match__25 rfl rfl ?_
      refine bd_gI C fi916 fv916 wd_1257 dX9_match__26 ol0 ?_
      refine bd_iconst C (v := 1) dX9_match__29 (by decide) ?_
      refine bd_isub C dX9_match__30 ?_
      refine bd_callS (vs := fun (r : Int32) => some (.int r)) (wf := fun _ => w) (st := [.ref l0]) (st1 := fun x14 => Value.int x14 :: [.ref l0]) C [.int l2, .int 0, .int ((gI w 916 l0) - 1)] (fun r9 e9 => mX9_in C.flag N e9) mwX9_in miX9_in wd_1399 rfl rfl (Nat.le_of_ble_eq_true rfl) dX9_match__31 ⟨rfl, rfl, Nat.le_of_ble_eq_true rfl, Nat.le_of_ble_eq_true rfl, Nat.le_of_ble_eq_true rfl, Nat.le_of_ble_eq_true rfl⟩ (fun _ => rfl) (fun x14 ex14 => ?_)
      refine bd_if_ne C 41 dX9_match__34 (by decide) (fun c15 => ?_) (fun c15 => ?_)
      · refine bd_iconst C (v := 0) dX9_match__41 (by decide) ?_
        exact bd_sub (hb42 w l0 l1 l2 l0 0 ol0 ol0) [0, 1, 2] rfl
      · exact bd_sub (hb37 w l0 l1 l2 l0 ol0 ol0) [0, 1, 2] rfl
  · refine bd_iconst C (v := 1) dX9_match__8 (by decide) ?_
    refine bd_goto C 42 dX9_match__9 (by decide) ?_
    exact bd_sub (hb42 w l0 l1 l2 l0 1 ol0 ol0) [0, 1, 2] rfl
abbrev rmX9_put : Room := { frames := 10, cells := 0, slots := 0, locals := 300 }
abbrev qX9_put (G : Gy) (F : Fr) (g : Bd) : Wd → State → Prop := fun r => QM G F g 0 0 ((fun _ => none) r) ((fun (r : Wd) => r) r)
set_option maxRecDepth 20000 in
set_option maxHeartbeats 4000000 in
theorem mX9_put {l : Launch} (hf9 : l.stackTraces = false) {G : Gy} {F : Fr} (N : Nat) {w : Wd} {l0 : Nat} {l1 : Int32} {l2 : Int32} {l3 : Int64} {l5 : Int32} {r : Wd} (ol0 : okF F l0 9) (e9 : fX9_put F N w l0 l1 l2 l3 l5 = some r) : Met l yX9_put [.code yX9_put cX9_put 6 none] rmX9_put (PcB G F w [.ref l0, .int l1, .int l2, .long l3, .int l5]) (QB G F ((fun _ => none) r) ((fun (r : Wd) => r) r)) 0 0 (AF F) := by
  refine bd_met (vs := fun _ => none) (wf := fun (r : Wd) => r) hf9 (by decide) (Nat.le_of_ble_eq_true rfl) e9 (fun g C hret hini => ?_)
  clear e9 r
  unfold fX9_put
  refine bd_sub (lv' := [(0, .ref l0), (1, .int l1), (2, .int l2), (3, .long l3), (5, .int l5)]) ?_ [0, 1, 2, 3, 4] rfl
  refine bd_aload_n C 0 dX9_put_0 rfl rfl ?_
  refine bd_gR C fi929 fv929 wd_1270 dX9_put_1 ol0 (fun r1 gr1 hr1 => ?_)
  refine bd_aload_n C 0 dX9_put_4 rfl rfl ?_
  refine bd_gI C fi933 fv933 wd_1274 dX9_put_5 ol0 ?_
  refine bd_iload_n C 1 dX9_put_8 rfl rfl ?_
  refine bd_iast C dX9_put_9 hr1 (fun w2 => ?_)
  refine bd_aload_n C 0 dX9_put_10 rfl rfl ?_
  refine bd_gR C fi930 fv930 wd_1271 dX9_put_11 ol0 (fun r3 gr3 hr3 => ?_)
  refine bd_aload_n C 0 dX9_put_14 rfl rfl ?_
  refine bd_gI C fi933 fv933 wd_1274 dX9_put_15 ol0 ?_
  refine bd_iload_n C 2 dX9_put_18 rfl rfl ?_
  refine bd_iast C dX9_put_19 hr3 (fun w4 => ?_)
  refine bd_aload_n C 0 dX9_put_20 rfl rfl ?_
  refine bd_gR C fi931 fv931 wd_1272 dX9_put_21 ol0 (fun r5 gr5 hr5 => ?_)
  refine bd_aload_n C 0 dX9_put_24 rfl rfl ?_
  refine bd_gI C fi933 fv933 wd_1274 dX9_put_25 ol0 ?_
  refine bd_lload_n C 3 dX9_put_28 rfl rfl ?_
  refine bd_last C dX9_put_29 hr5 (fun w6 => ?_)
  refine bd_aload_n C 0 dX9_put_30 rfl rfl ?_
  refine bd_gR C fi932 fv932 wd_1273 dX9_put_31 ol0 (fun r7 gr7 hr7 => ?_)
  refine bd_aload_n C 0 dX9_put_34 rfl rfl ?_
  refine bd_gI C fi933 fv933 wd_1274 dX9_put_35 ol0 ?_
  refine bd_iconst C (v := 1) dX9_put_38 (by decide) ?_
  refine bd_iload C 4 dX9_put_39 rfl ?_
  refine bd_ishl C dX9_put_41 ?_
  refine bd_iast C dX9_put_42 hr7 (fun w8 => ?_)
  refine bd_aload_n C 0 dX9_put_43 rfl rfl ?_
  refine bd_dup C dX9_put_44 rfl ?_
  refine bd_gI C fi933 fv933 wd_1274 dX9_put_45 ol0 ?_
  refine bd_iconst C (v := 1) dX9_put_48 (by decide) ?_
  refine bd_iadd C dX9_put_49 ?_
  refine bd_pI C fi933 ftX9 fu933 wd_1274 rfl rfl rfl dX9_put_50 ol0 (fun w9 => ?_)
  exact bd_vret C hret rfl _ _ rfl rfl dX9_put_53 (Nat.le_refl _) (Nat.le_refl _)
abbrev rmX9_mergeIn : Room := { frames := 11, cells := 0, slots := 0, locals := 325 }
abbrev qX9_mergeIn (G : Gy) (F : Fr) (g : Bd) : Wd → State → Prop := fun r => QM G F g 0 0 ((fun _ => none) r) ((fun (r : Wd) => r) r)
set_option maxRecDepth 20000 in
set_option maxHeartbeats 4000000 in
theorem mX9_mergeIn {l : Launch} (hf9 : l.stackTraces = false) {G : Gy} {F : Fr} (N : Nat) {w : Wd} {l0 : Nat} {l1 : Int32} {l2 : Int32} {l3 : Int64} {l5 : Int32} {r : Wd} (ol0 : okF F l0 9) (e9 : fX9_mergeIn F N w l0 l1 l2 l3 l5 = some r) : Met l yX9_mergeIn [.code yX9_mergeIn cX9_mergeIn 7 none] rmX9_mergeIn (PcB G F w [.ref l0, .int l1, .int l2, .long l3, .int l5]) (QB G F ((fun _ => none) r) ((fun (r : Wd) => r) r)) 0 0 (AF F) := by
  refine bd_met (vs := fun _ => none) (wf := fun (r : Wd) => r) hf9 (by decide) (Nat.le_of_ble_eq_true rfl) e9 (fun g C hret hini => ?_)
  clear e9 r
  have hb24 : ∀  (w : Wd) (l0 : Nat) (l1 : Int32) (l2 : Int32) (l3 : Int64) (l5 : Int32) (ol0 : okF F l0 9), BD g G F 7 (qX9_mergeIn G F g) 0 0 (fX9_mergeIn_24 F N w l0 l1 l2 l3 l5) w 24 [(0, .ref l0), (1, .int l1), (2, .int l2), (3, .long l3), (5, .int l5)] [] := by
    intro w l0 l1 l2 l3 l5 ol0
    unfold fX9_mergeIn_24
    refine bd_aload_n C 0 dX9_mergeIn_24 rfl rfl ?_
    refine bd_iload_n C 1 dX9_mergeIn_25 rfl rfl ?_
    refine bd_iload_n C 2 dX9_mergeIn_26 rfl rfl ?_
    refine bd_lload_n C 3 dX9_mergeIn_27 rfl rfl ?_
    refine bd_iload C 4 dX9_mergeIn_28 rfl ?_
    refine bd_callV (vs := fun _ => none) (wf := fun (r : Wd) => r) (st := []) (st1 := fun p1 => []) C [.int l1, .int l2, .long l3, .int l5] (fun r9 e9 => mX9_put C.flag N ol0 e9) mwX9_put miX9_put wd_1699 ol0 (by decide) rfl rfl rfl (Nat.le_of_ble_eq_true rfl) dX9_mergeIn_30 ⟨rfl, rfl, Nat.le_of_ble_eq_true rfl, Nat.le_of_ble_eq_true rfl, Nat.le_of_ble_eq_true rfl, Nat.le_of_ble_eq_true rfl⟩ (fun _ => rfl) (fun p1 ep1 => ?_)
    refine bd_goto C 132 dX9_mergeIn_33 (by decide) ?_
    exact bd_vret C hret rfl _ _ rfl rfl dX9_mergeIn_132 (Nat.le_refl _) (Nat.le_refl _)
  unfold fX9_mergeIn
  refine bd_sub (lv' := [(0, .ref l0), (1, .int l1), (2, .int l2), (3, .long l3), (5, .int l5)]) ?_ [0, 1, 2, 3, 4] rfl
  refine bd_aload_n C 0 dX9_mergeIn_0 rfl rfl ?_
  refine bd_gI C fi933 fv933 wd_1274 dX9_mergeIn_1 ol0 ?_
  refine bd_iconst C (v := 1) dX9_mergeIn_4 (by decide) ?_
  refine bd_isub C dX9_mergeIn_5 ?_
  refine bd_bnd (tp := Value.int) (fun v2 ev2 => ?_)
  refine bd_istore C [(6, .int v2), (0, .ref l0), (1, .int l1), (2, .int l2), (3, .long l3), (5, .int l5)] dX9_mergeIn_6 (by decide) rfl ?_
  refine bd_iload C 0 dX9_mergeIn_8 rfl ?_
  refine bd_if_lt C 24 dX9_mergeIn_10 (by decide) (fun c3 => ?_) (fun c3 => ?_)
  · exact bd_sub (hb24 w l0 l1 l2 l3 l5 ol0) [1, 2, 3, 4, 5] rfl
  · refine bd_iload_n C 2 dX9_mergeIn_13 rfl rfl ?_
    refine bd_aload_n C 1 dX9_mergeIn_14 rfl rfl ?_
    refine bd_gR C fi930 fv930 wd_1271 dX9_mergeIn_15 ol0 (fun r4 gr4 hr4 => ?_)
    refine bd_iload C 0 dX9_mergeIn_18 rfl ?_
    refine bd_iald C dX9_mergeIn_20 hr4 (fun x5 => ?_)
    refine bd_icmp_lt C 36 dX9_mergeIn_21 (by decide) (fun c6 => ?_) (fun c6 => ?_)
    · refine bd_aload_n C 1 dX9_mergeIn_36 rfl rfl ?_
      refine bd_gR C fi931 fv931 wd_1272 dX9_mergeIn_37 ol0 (fun r7 gr7 hr7 => ?_)
      refine bd_iload C 0 dX9_mergeIn_40 rfl ?_
      refine bd_lald C dX9_mergeIn_42 hr7 (fun x8 => ?_)
      refine bd_lload_n C 4 dX9_mergeIn_43 rfl rfl ?_
      refine bd_lcmp C dX9_mergeIn_44 ?_
      refine bd_if_ne C 83 dX9_mergeIn_45 (by decide) (fun c9 => ?_) (fun c9 => ?_)
      · refine bd_aload_n C 1 dX9_mergeIn_83 rfl rfl ?_
        refine bd_dup C dX9_mergeIn_84 rfl ?_
        refine bd_gI C fi934 fv934 wd_1275 dX9_mergeIn_85 ol0 ?_
        refine bd_iconst C (v := 1) dX9_mergeIn_88 (by decide) ?_
        refine bd_iadd C dX9_mergeIn_89 ?_
        refine bd_pI C fi934 ftX9 fu934 wd_1275 rfl rfl rfl dX9_mergeIn_90 ol0 (fun w10 => ?_)
        refine bd_iload_n C 3 dX9_mergeIn_93 rfl rfl ?_
        refine bd_aload_n C 1 dX9_mergeIn_94 rfl rfl ?_
        refine bd_gR C fi930 fv930 wd_1271 dX9_mergeIn_95 ol0 (fun r11 gr11 hr11 => ?_)
        refine bd_iload C 0 dX9_mergeIn_98 rfl ?_
        refine bd_iald C dX9_mergeIn_100 hr11 (fun x12 => ?_)
        refine bd_icmp_le C 122 dX9_mergeIn_101 (by decide) (fun c13 => ?_) (fun c13 => ?_)
        · refine bd_aload_n C 1 dX9_mergeIn_122 rfl rfl ?_
          refine bd_dup C dX9_mergeIn_123 rfl ?_
          refine bd_gI C fi935 fv935 wd_1276 dX9_mergeIn_124 ol0 ?_
          refine bd_iconst C (v := 1) dX9_mergeIn_127 (by decide) ?_
          refine bd_iadd C dX9_mergeIn_128 ?_
          refine bd_pI C fi935 ftX9 fu935 wd_1276 rfl rfl rfl dX9_mergeIn_129 ol0 (fun w14 => ?_)
          exact bd_vret C hret rfl _ _ rfl rfl dX9_mergeIn_132 (Nat.le_refl _) (Nat.le_refl _)
        · refine bd_aload_n C 1 dX9_mergeIn_104 rfl rfl ?_
          refine bd_aload_n C 1 dX9_mergeIn_105 rfl rfl ?_
          refine bd_gR C fi930 fv930 wd_1271 dX9_mergeIn_106 ol0 (fun r15 gr15 hr15 => ?_)
          refine bd_iload C 0 dX9_mergeIn_109 rfl ?_
          refine bd_iald C dX9_mergeIn_111 hr15 (fun x16 => ?_)
          refine bd_iload_n C 3 dX9_mergeIn_112 rfl rfl ?_
          refine bd_lload_n C 4 dX9_mergeIn_113 rfl rfl ?_
          refine bd_iload C 5 dX9_mergeIn_114 rfl ?_
          refine bd_callV (vs := fun _ => none) (wf := fun (r : Wd) => r) (st := []) (st1 := fun p17 => []) C [.int x16, .int l2, .long l3, .int l5] (fun r9 e9 => mX9_put C.flag N ol0 e9) mwX9_put miX9_put wd_1699 ol0 (by decide) rfl rfl rfl (Nat.le_of_ble_eq_true rfl) dX9_mergeIn_116 ⟨rfl, rfl, Nat.le_of_ble_eq_true rfl, Nat.le_of_ble_eq_true rfl, Nat.le_of_ble_eq_true rfl, Nat.le_of_ble_eq_true rfl⟩ (fun _ => rfl) (fun p17 ep17 => ?_)
          refine bd_goto C 132 dX9_mergeIn_119 (by decide) ?_
          exact bd_vret C hret rfl _ _ rfl rfl dX9_mergeIn_132 (Nat.le_refl _) (Nat.le_refl _)
      · refine bd_aload_n C 1 dX9_mergeIn_48 rfl rfl ?_
        refine bd_gR C fi930 fv930 wd_1271 dX9_mergeIn_49 ol0 (fun r18 gr18 hr18 => ?_)
        refine bd_iload C 0 dX9_mergeIn_52 rfl ?_
        refine bd_aload_n C 1 dX9_mergeIn_54 rfl rfl ?_
        refine bd_gR C fi930 fv930 wd_1271 dX9_mergeIn_55 ol0 (fun r19 gr19 hr19 => ?_)
        refine bd_iload C 0 dX9_mergeIn_58 rfl ?_
        refine bd_iald C dX9_mergeIn_60 hr19 (fun x20 => ?_)
        refine bd_iload_n C 3 dX9_mergeIn_61 rfl rfl ?_
        refine bd_mmax C wd_1703 wd_415 wd_104 wd_416 dX9_mergeIn_62 ⟨Nat.le_of_ble_eq_true rfl, Nat.le_of_ble_eq_true rfl, Nat.zero_le _, Nat.zero_le _⟩ ?_
        refine bd_iast C dX9_mergeIn_65 hr18 (fun w21 => ?_)
        refine bd_aload_n C 1 dX9_mergeIn_66 rfl rfl ?_
        refine bd_gR C fi932 fv932 wd_1273 dX9_mergeIn_67 ol0 (fun r22 gr22 hr22 => ?_)
        refine bd_iload C 0 dX9_mergeIn_70 rfl ?_
        refine bd_dup2 C dX9_mergeIn_72 rfl rfl ?_
        refine bd_iald C dX9_mergeIn_73 hr22 (fun x23 => ?_)
        refine bd_iconst C (v := 1) dX9_mergeIn_74 (by decide) ?_
        refine bd_iload C 5 dX9_mergeIn_75 rfl ?_
        refine bd_ishl C dX9_mergeIn_77 ?_
        refine bd_ior C dX9_mergeIn_78 ?_
        refine bd_iast C dX9_mergeIn_79 hr22 (fun w24 => ?_)
        refine bd_goto C 132 dX9_mergeIn_80 (by decide) ?_
        exact bd_vret C hret rfl _ _ rfl rfl dX9_mergeIn_132 (Nat.le_refl _) (Nat.le_refl _)
    · exact bd_sub (hb24 w l0 l1 l2 l3 l5 ol0) [1, 2, 3, 4, 5] rfl
abbrev rmX9_mergeTier : Room := { frames := 12, cells := 0, slots := 0, locals := 351 }
abbrev qX9_mergeTier (G : Gy) (F : Fr) (g : Bd) : Wd → State → Prop := fun r => QM G F g 0 0 ((fun _ => none) r) ((fun (r : Wd) => r) r)
set_option maxRecDepth 20000 in
set_option maxHeartbeats 4000000 in
theorem mX9_mergeTier {l : Launch} (hf9 : l.stackTraces = false) {G : Gy} {F : Fr} (N : Nat) {w : Wd} {l0 : Nat} {l1 : Int32} {r : Wd} (ol0 : okF F l0 9) (e9 : fX9_mergeTier F N w l0 l1 = some r) : Met l yX9_mergeTier [.code yX9_mergeTier cX9_mergeTier 10 none] rmX9_mergeTier (PcB G F w [.ref l0, .int l1]) (QB G F ((fun _ => none) r) ((fun (r : Wd) => r) r)) 0 0 (AF F) := by
  refine bd_met (vs := fun _ => none) (wf := fun (r : Wd) => r) hf9 (by decide) (Nat.le_of_ble_eq_true rfl) e9 (fun g C hret hini => ?_)
  clear e9 r
  have hb252 : ∀ (k33 : Wd → Nat → Int32 → Int32 → Int32 → Int32 → Option (Wd)), (∀ (w : Wd) (l0 : Nat) (l2 : Int32) (l3 : Int32) (l4 : Int32) (l5 : Int32) (ol0 : okF F l0 9), BD g G F 10 (qX9_mergeTier G F g) 0 0 (k33 w l0 l2 l3 l4 l5) w 33 [(0, .ref l0), (2, .int l2), (3, .int l3), (4, .int l4), (5, .int l5)] []) → ∀  (w : Wd) (l0 : Nat) (l2 : Int32) (l3 : Int32) (l4 : Int32) (s0 : Int32) (s1 : Int32) (ol0 : okF F l0 9), BD g G F 10 (qX9_mergeTier G F g) 0 0 (fX9_mergeTier_252 F N k33 w l0 l2 l3 l4 s0 s1) w 252 [(0, .ref l0), (2, .int l2), (3, .int l3), (4, .int l4)] [.int s1, .int s0] := by
    intro k33 hk33
    intro w l0 l2 l3 l4 s0 s1 ol0
    unfold fX9_mergeTier_252
    refine bd_iadd C dX9_mergeTier_252 ?_
    refine bd_bnd (tp := Value.int) (fun v42 ev42 => ?_)
    refine bd_istore C [(5, .int v42), (0, .ref l0), (2, .int l2), (3, .int l3), (4, .int l4)] dX9_mergeTier_253 (by decide) rfl ?_
    refine bd_goto C 33 dX9_mergeTier_255 (by decide) ?_
    exact bd_sub (hk33 w l0 l2 l3 l4 v42 ol0) [1, 2, 3, 4, 0] rfl
  have hb237 : ∀ (k33 : Wd → Nat → Int32 → Int32 → Int32 → Int32 → Option (Wd)), (∀ (w : Wd) (l0 : Nat) (l2 : Int32) (l3 : Int32) (l4 : Int32) (l5 : Int32) (ol0 : okF F l0 9), BD g G F 10 (qX9_mergeTier G F g) 0 0 (k33 w l0 l2 l3 l4 l5) w 33 [(0, .ref l0), (2, .int l2), (3, .int l3), (4, .int l4), (5, .int l5)] []) → ∀  (w : Wd) (l0 : Nat) (l2 : Int32) (l3 : Int32) (l5 : Int32) (l8 : Int32) (s0 : Int32) (s1 : Int32) (ol0 : okF F l0 9), BD g G F 10 (qX9_mergeTier G F g) 0 0 (fX9_mergeTier_237 F N k33 w l0 l2 l3 l5 l8 s0 s1) w 237 [(0, .ref l0), (2, .int l2), (3, .int l3), (5, .int l5), (8, .int l8)] [.int s1, .int s0] := by
    intro k33 hk33
    intro w l0 l2 l3 l5 l8 s0 s1 ol0
    unfold fX9_mergeTier_237
    refine bd_iadd C dX9_mergeTier_237 ?_
    refine bd_bnd (tp := Value.int) (fun v40 ev40 => ?_)
    refine bd_istore C [(4, .int v40), (0, .ref l0), (2, .int l2), (3, .int l3), (5, .int l5), (8, .int l8)] dX9_mergeTier_238 (by decide) rfl ?_
    refine bd_iload C 4 dX9_mergeTier_240 rfl ?_
    refine bd_iload C 5 dX9_mergeTier_242 rfl ?_
    refine bd_if_eq C 251 dX9_mergeTier_244 (by decide) (fun c41 => ?_) (fun c41 => ?_)
    · refine bd_iconst C (v := 1) dX9_mergeTier_251 (by decide) ?_
      exact bd_sub (hb252 _ hk33 w l0 l2 l3 v40 l5 1 ol0) [1, 2, 3, 0] rfl
    · refine bd_iconst C (v := 0) dX9_mergeTier_247 (by decide) ?_
      refine bd_goto C 252 dX9_mergeTier_248 (by decide) ?_
      exact bd_sub (hb252 _ hk33 w l0 l2 l3 v40 l5 0 ol0) [1, 2, 3, 0] rfl
  have hb222 : ∀ (k33 : Wd → Nat → Int32 → Int32 → Int32 → Int32 → Option (Wd)), (∀ (w : Wd) (l0 : Nat) (l2 : Int32) (l3 : Int32) (l4 : Int32) (l5 : Int32) (ol0 : okF F l0 9), BD g G F 10 (qX9_mergeTier G F g) 0 0 (k33 w l0 l2 l3 l4 l5) w 33 [(0, .ref l0), (2, .int l2), (3, .int l3), (4, .int l4), (5, .int l5)] []) → ∀  (w : Wd) (l0 : Nat) (l2 : Int32) (l3 : Int32) (l4 : Int32) (l5 : Int32) (l8 : Int32) (s0 : Nat) (s1 : Int32) (s2 : Int32) (s3 : Int64) (s4 : Int32) (ol0 : okF F l0 9) (os0 : okF F s0 9), BD g G F 10 (qX9_mergeTier G F g) 0 0 (fX9_mergeTier_222 F N k33 w l0 l2 l3 l4 l5 l8 s0 s1 s2 s3 s4) w 222 [(0, .ref l0), (2, .int l2), (3, .int l3), (4, .int l4), (5, .int l5), (8, .int l8)] [.int s4, .long s3, .int s2, .int s1, .ref s0] := by
    intro k33 hk33
    intro w l0 l2 l3 l4 l5 l8 s0 s1 s2 s3 s4 ol0 os0
    unfold fX9_mergeTier_222
    refine bd_callV (vs := fun _ => none) (wf := fun (r : Wd) => r) (st := []) (st1 := fun p38 => []) C [.int s1, .int s2, .long s3, .int s4] (fun r9 e9 => mX9_mergeIn C.flag N os0 e9) mwX9_mergeIn miX9_mergeIn wd_1695 os0 (by decide) rfl rfl rfl (Nat.le_of_ble_eq_true rfl) dX9_mergeTier_222 ⟨rfl, rfl, Nat.le_of_ble_eq_true rfl, Nat.le_of_ble_eq_true rfl, Nat.le_of_ble_eq_true rfl, Nat.le_of_ble_eq_true rfl⟩ (fun _ => rfl) (fun p38 ep38 => ?_)
    refine bd_iload C 3 dX9_mergeTier_225 rfl ?_
    refine bd_iload C 5 dX9_mergeTier_227 rfl ?_
    refine bd_if_eq C 236 dX9_mergeTier_229 (by decide) (fun c39 => ?_) (fun c39 => ?_)
    · refine bd_iconst C (v := 0) dX9_mergeTier_236 (by decide) ?_
      exact bd_sub (hb237 _ hk33 p38 l0 l2 l3 l5 l8 l4 0 ol0) [0, 1, 2, 4, 5] rfl
    · refine bd_iconst C (v := 1) dX9_mergeTier_232 (by decide) ?_
      refine bd_goto C 237 dX9_mergeTier_233 (by decide) ?_
      exact bd_sub (hb237 _ hk33 p38 l0 l2 l3 l5 l8 l4 1 ol0) [0, 1, 2, 4, 5] rfl
  have hb182 : ∀ (k33 : Wd → Nat → Int32 → Int32 → Int32 → Int32 → Option (Wd)), (∀ (w : Wd) (l0 : Nat) (l2 : Int32) (l3 : Int32) (l4 : Int32) (l5 : Int32) (ol0 : okF F l0 9), BD g G F 10 (qX9_mergeTier G F g) 0 0 (k33 w l0 l2 l3 l4 l5) w 33 [(0, .ref l0), (2, .int l2), (3, .int l3), (4, .int l4), (5, .int l5)] []) → ∀  (w : Wd) (l0 : Nat) (l2 : Int32) (l3 : Int32) (l4 : Int32) (l5 : Int32) (l8 : Int32) (s0 : Int32) (ol0 : okF F l0 9), BD g G F 10 (qX9_mergeTier G F g) 0 0 (fX9_mergeTier_182 F N k33 w l0 l2 l3 l4 l5 l8 s0) w 182 [(0, .ref l0), (2, .int l2), (3, .int l3), (4, .int l4), (5, .int l5), (8, .int l8)] [.int s0] := by
    intro k33 hk33
    intro w l0 l2 l3 l4 l5 l8 s0 ol0
    unfold fX9_mergeTier_182
    refine bd_istore C [(9, .int s0), (0, .ref l0), (2, .int l2), (3, .int l3), (4, .int l4), (5, .int l5), (8, .int l8)] dX9_mergeTier_182 (by decide) rfl ?_
    refine bd_aload_n C 1 dX9_mergeTier_184 rfl rfl ?_
    refine bd_aload_n C 1 dX9_mergeTier_185 rfl rfl ?_
    refine bd_gR C fi900 fv900 wd_1241 dX9_mergeTier_186 ol0 (fun r31 gr31 hr31 => ?_)
    refine bd_iload C 0 dX9_mergeTier_189 rfl ?_
    refine bd_lald C dX9_mergeTier_191 hr31 (fun x32 => ?_)
    refine bd_l2i C dX9_mergeTier_192 ?_
    refine bd_aload_n C 1 dX9_mergeTier_193 rfl rfl ?_
    refine bd_gR C fi900 fv900 wd_1241 dX9_mergeTier_194 ol0 (fun r33 gr33 hr33 => ?_)
    refine bd_iload C 0 dX9_mergeTier_197 rfl ?_
    refine bd_iconst C (v := 1) dX9_mergeTier_199 (by decide) ?_
    refine bd_iadd C dX9_mergeTier_200 ?_
    refine bd_lald C dX9_mergeTier_201 hr33 (fun x34 => ?_)
    refine bd_l2i C dX9_mergeTier_202 ?_
    refine bd_aload_n C 1 dX9_mergeTier_203 rfl rfl ?_
    refine bd_gR C fi900 fv900 wd_1241 dX9_mergeTier_204 ol0 (fun r35 gr35 hr35 => ?_)
    refine bd_iload C 0 dX9_mergeTier_207 rfl ?_
    refine bd_iconst C (v := 2) dX9_mergeTier_209 (by decide) ?_
    refine bd_iadd C dX9_mergeTier_210 ?_
    refine bd_lald C dX9_mergeTier_211 hr35 (fun x36 => ?_)
    refine bd_iload C 6 dX9_mergeTier_212 rfl ?_
    refine bd_if_eq C 221 dX9_mergeTier_214 (by decide) (fun c37 => ?_) (fun c37 => ?_)
    · refine bd_iconst C (v := 1) dX9_mergeTier_221 (by decide) ?_
      exact bd_sub (hb222 _ hk33 w l0 l2 l3 l4 l5 l8 l0 x32.toInt32 x34.toInt32 x36 1 ol0 ol0) [1, 2, 3, 4, 5, 6] rfl
    · refine bd_iconst C (v := 0) dX9_mergeTier_217 (by decide) ?_
      refine bd_goto C 222 dX9_mergeTier_218 (by decide) ?_
      exact bd_sub (hb222 _ hk33 w l0 l2 l3 l4 l5 l8 l0 x32.toInt32 x34.toInt32 x36 0 ol0 ol0) [1, 2, 3, 4, 5, 6] rfl
  have hb168 : ∀ (k33 : Wd → Nat → Int32 → Int32 → Int32 → Int32 → Option (Wd)), (∀ (w : Wd) (l0 : Nat) (l2 : Int32) (l3 : Int32) (l4 : Int32) (l5 : Int32) (ol0 : okF F l0 9), BD g G F 10 (qX9_mergeTier G F g) 0 0 (k33 w l0 l2 l3 l4 l5) w 33 [(0, .ref l0), (2, .int l2), (3, .int l3), (4, .int l4), (5, .int l5)] []) → ∀  (w : Wd) (l0 : Nat) (l2 : Int32) (l3 : Int32) (l4 : Int32) (l5 : Int32) (l6 : Int32) (l7 : Int32) (s0 : Int32) (ol0 : okF F l0 9), BD g G F 10 (qX9_mergeTier G F g) 0 0 (fX9_mergeTier_168 F N k33 w l0 l2 l3 l4 l5 l6 l7 s0) w 168 [(0, .ref l0), (2, .int l2), (3, .int l3), (4, .int l4), (5, .int l5), (6, .int l6), (7, .int l7)] [.int s0] := by
    intro k33 hk33
    intro w l0 l2 l3 l4 l5 l6 l7 s0 ol0
    unfold fX9_mergeTier_168
    refine bd_istore C [(8, .int s0), (0, .ref l0), (2, .int l2), (3, .int l3), (4, .int l4), (5, .int l5), (6, .int l6), (7, .int l7)] dX9_mergeTier_168 (by decide) rfl ?_
    refine bd_iload C 0 dX9_mergeTier_170 rfl ?_
    refine bd_if_eq C 180 dX9_mergeTier_172 (by decide) (fun c30 => ?_) (fun c30 => ?_)
    · refine bd_iload C 7 dX9_mergeTier_180 rfl ?_
      exact bd_sub (hb182 _ hk33 w l0 l2 l3 l4 l5 s0 l7 ol0) [1, 2, 3, 4, 5, 0] rfl
    · refine bd_iload C 6 dX9_mergeTier_175 rfl ?_
      refine bd_goto C 182 dX9_mergeTier_177 (by decide) ?_
      exact bd_sub (hb182 _ hk33 w l0 l2 l3 l4 l5 s0 l6 ol0) [1, 2, 3, 4, 5, 0] rfl
  have hb163 : ∀ (k33 : Wd → Nat → Int32 → Int32 → Int32 → Int32 → Option (Wd)), (∀ (w : Wd) (l0 : Nat) (l2 : Int32) (l3 : Int32) (l4 : Int32) (l5 : Int32) (ol0 : okF F l0 9), BD g G F 10 (qX9_mergeTier G F g) 0 0 (k33 w l0 l2 l3 l4 l5) w 33 [(0, .ref l0), (2, .int l2), (3, .int l3), (4, .int l4), (5, .int l5)] []) → ∀  (w : Wd) (l0 : Nat) (l2 : Int32) (l3 : Int32) (l4 : Int32) (l5 : Int32) (l6 : Int32) (l7 : Int32) (ol0 : okF F l0 9), BD g G F 10 (qX9_mergeTier G F g) 0 0 (fX9_mergeTier_163 F N k33 w l0 l2 l3 l4 l5 l6 l7) w 163 [(0, .ref l0), (2, .int l2), (3, .int l3), (4, .int l4), (5, .int l5), (6, .int l6), (7, .int l7)] [] := by
    intro k33 hk33
    intro w l0 l2 l3 l4 l5 l6 l7 ol0
    unfold fX9_mergeTier_163
    refine bd_iconst C (v := 1) dX9_mergeTier_163 (by decide) ?_
    refine bd_goto C 168 dX9_mergeTier_164 (by decide) ?_
    exact bd_sub (hb168 _ hk33 w l0 l2 l3 l4 l5 l6 l7 1 ol0) [0, 1, 2, 3, 4, 5, 6] rfl
  have hb167 : ∀ (k33 : Wd → Nat → Int32 → Int32 → Int32 → Int32 → Option (Wd)), (∀ (w : Wd) (l0 : Nat) (l2 : Int32) (l3 : Int32) (l4 : Int32) (l5 : Int32) (ol0 : okF F l0 9), BD g G F 10 (qX9_mergeTier G F g) 0 0 (k33 w l0 l2 l3 l4 l5) w 33 [(0, .ref l0), (2, .int l2), (3, .int l3), (4, .int l4), (5, .int l5)] []) → ∀  (w : Wd) (l0 : Nat) (l2 : Int32) (l3 : Int32) (l4 : Int32) (l5 : Int32) (l6 : Int32) (l7 : Int32) (ol0 : okF F l0 9), BD g G F 10 (qX9_mergeTier G F g) 0 0 (fX9_mergeTier_167 F N k33 w l0 l2 l3 l4 l5 l6 l7) w 167 [(0, .ref l0), (2, .int l2), (3, .int l3), (4, .int l4), (5, .int l5), (6, .int l6), (7, .int l7)] [] := by
    intro k33 hk33
    intro w l0 l2 l3 l4 l5 l6 l7 ol0
    unfold fX9_mergeTier_167
    refine bd_iconst C (v := 0) dX9_mergeTier_167 (by decide) ?_
    exact bd_sub (hb168 _ hk33 w l0 l2 l3 l4 l5 l6 l7 0 ol0) [0, 1, 2, 3, 4, 5, 6] rfl
  have hb59 : ∀ (k33 : Wd → Nat → Int32 → Int32 → Int32 → Int32 → Option (Wd)), (∀ (w : Wd) (l0 : Nat) (l2 : Int32) (l3 : Int32) (l4 : Int32) (l5 : Int32) (ol0 : okF F l0 9), BD g G F 10 (qX9_mergeTier G F g) 0 0 (k33 w l0 l2 l3 l4 l5) w 33 [(0, .ref l0), (2, .int l2), (3, .int l3), (4, .int l4), (5, .int l5)] []) → ∀  (w : Wd) (l0 : Nat) (l2 : Int32) (l3 : Int32) (l4 : Int32) (l5 : Int32) (ol0 : okF F l0 9), BD g G F 10 (qX9_mergeTier G F g) 0 0 (fX9_mergeTier_59 F N k33 w l0 l2 l3 l4 l5) w 59 [(0, .ref l0), (2, .int l2), (3, .int l3), (4, .int l4), (5, .int l5)] [] := by
    intro k33 hk33
    intro w l0 l2 l3 l4 l5 ol0
    unfold fX9_mergeTier_59
    refine bd_iload_n C 1 dX9_mergeTier_59 rfl rfl ?_
    refine bd_iconst C (v := 1) dX9_mergeTier_60 (by decide) ?_
    refine bd_iadd C dX9_mergeTier_61 ?_
    refine bd_iconst C (v := 3) dX9_mergeTier_62 (by decide) ?_
    refine bd_iload C 3 dX9_mergeTier_63 rfl ?_
    refine bd_imul C dX9_mergeTier_65 ?_
    refine bd_iadd C dX9_mergeTier_66 ?_
    refine bd_bnd (tp := Value.int) (fun v7 ev7 => ?_)
    refine bd_istore C [(6, .int v7), (0, .ref l0), (2, .int l2), (3, .int l3), (4, .int l4), (5, .int l5)] dX9_mergeTier_67 (by decide) rfl ?_
    refine bd_iload_n C 3 dX9_mergeTier_69 rfl rfl ?_
    refine bd_iconst C (v := 1) dX9_mergeTier_70 (by decide) ?_
    refine bd_iadd C dX9_mergeTier_71 ?_
    refine bd_iconst C (v := 3) dX9_mergeTier_72 (by decide) ?_
    refine bd_iload C 5 dX9_mergeTier_73 rfl ?_
    refine bd_imul C dX9_mergeTier_75 ?_
    refine bd_iadd C dX9_mergeTier_76 ?_
    refine bd_bnd (tp := Value.int) (fun v8 ev8 => ?_)
    refine bd_istore C [(7, .int v8), (6, .int v7), (0, .ref l0), (2, .int l2), (3, .int l3), (4, .int l4), (5, .int l5)] dX9_mergeTier_77 (by decide) rfl ?_
    refine bd_iload C 6 dX9_mergeTier_79 rfl ?_
    refine bd_i2l C dX9_mergeTier_81 ?_
    refine bd_aload_n C 2 dX9_mergeTier_82 rfl rfl ?_
    refine bd_gR C fi900 fv900 wd_1241 dX9_mergeTier_83 ol0 (fun r9 gr9 hr9 => ?_)
    refine bd_iload_n C 4 dX9_mergeTier_86 rfl rfl ?_
    refine bd_lald C dX9_mergeTier_87 hr9 (fun x10 => ?_)
    refine bd_lcmp C dX9_mergeTier_88 ?_
    refine bd_if_eq C 163 dX9_mergeTier_89 (by decide) (fun c11 => ?_) (fun c11 => ?_)
    · exact bd_sub (hb163 _ hk33 w l0 l2 l3 l4 l5 v7 v8 ol0) [2, 3, 4, 5, 6, 1, 0] rfl
    · refine bd_iload C 5 dX9_mergeTier_92 rfl ?_
      refine bd_i2l C dX9_mergeTier_94 ?_
      refine bd_aload_n C 2 dX9_mergeTier_95 rfl rfl ?_
      refine bd_gR C fi900 fv900 wd_1241 dX9_mergeTier_96 ol0 (fun r12 gr12 hr12 => ?_)
      refine bd_iload_n C 3 dX9_mergeTier_99 rfl rfl ?_
      refine bd_lald C dX9_mergeTier_100 hr12 (fun x13 => ?_)
      refine bd_lcmp C dX9_mergeTier_101 ?_
      refine bd_if_ge C 167 dX9_mergeTier_102 (by decide) (fun c14 => ?_) (fun c14 => ?_)
      · exact bd_sub (hb167 _ hk33 w l0 l2 l3 l4 l5 v7 v8 ol0) [2, 3, 4, 5, 6, 1, 0] rfl
      · refine bd_aload_n C 2 dX9_mergeTier_105 rfl rfl ?_
        refine bd_gR C fi900 fv900 wd_1241 dX9_mergeTier_106 ol0 (fun r15 gr15 hr15 => ?_)
        refine bd_iload C 1 dX9_mergeTier_109 rfl ?_
        refine bd_lald C dX9_mergeTier_111 hr15 (fun x16 => ?_)
        refine bd_aload_n C 2 dX9_mergeTier_112 rfl rfl ?_
        refine bd_gR C fi900 fv900 wd_1241 dX9_mergeTier_113 ol0 (fun r17 gr17 hr17 => ?_)
        refine bd_iload C 0 dX9_mergeTier_116 rfl ?_
        refine bd_lald C dX9_mergeTier_118 hr17 (fun x18 => ?_)
        refine bd_lcmp C dX9_mergeTier_119 ?_
        refine bd_if_lt C 163 dX9_mergeTier_120 (by decide) (fun c19 => ?_) (fun c19 => ?_)
        · exact bd_sub (hb163 _ hk33 w l0 l2 l3 l4 l5 v7 v8 ol0) [2, 3, 4, 5, 6, 1, 0] rfl
        · refine bd_aload_n C 2 dX9_mergeTier_123 rfl rfl ?_
          refine bd_gR C fi900 fv900 wd_1241 dX9_mergeTier_124 ol0 (fun r20 gr20 hr20 => ?_)
          refine bd_iload C 1 dX9_mergeTier_127 rfl ?_
          refine bd_lald C dX9_mergeTier_129 hr20 (fun x21 => ?_)
          refine bd_aload_n C 2 dX9_mergeTier_130 rfl rfl ?_
          refine bd_gR C fi900 fv900 wd_1241 dX9_mergeTier_131 ol0 (fun r22 gr22 hr22 => ?_)
          refine bd_iload C 0 dX9_mergeTier_134 rfl ?_
          refine bd_lald C dX9_mergeTier_136 hr22 (fun x23 => ?_)
          refine bd_lcmp C dX9_mergeTier_137 ?_
          refine bd_if_ne C 167 dX9_mergeTier_138 (by decide) (fun c24 => ?_) (fun c24 => ?_)
          · exact bd_sub (hb167 _ hk33 w l0 l2 l3 l4 l5 v7 v8 ol0) [2, 3, 4, 5, 6, 1, 0] rfl
          · refine bd_aload_n C 2 dX9_mergeTier_141 rfl rfl ?_
            refine bd_gR C fi900 fv900 wd_1241 dX9_mergeTier_142 ol0 (fun r25 gr25 hr25 => ?_)
            refine bd_iload C 1 dX9_mergeTier_145 rfl ?_
            refine bd_iconst C (v := 1) dX9_mergeTier_147 (by decide) ?_
            refine bd_iadd C dX9_mergeTier_148 ?_
            refine bd_lald C dX9_mergeTier_149 hr25 (fun x26 => ?_)
            refine bd_aload_n C 2 dX9_mergeTier_150 rfl rfl ?_
            refine bd_gR C fi900 fv900 wd_1241 dX9_mergeTier_151 ol0 (fun r27 gr27 hr27 => ?_)
            refine bd_iload C 0 dX9_mergeTier_154 rfl ?_
            refine bd_iconst C (v := 1) dX9_mergeTier_156 (by decide) ?_
            refine bd_iadd C dX9_mergeTier_157 ?_
            refine bd_lald C dX9_mergeTier_158 hr27 (fun x28 => ?_)
            refine bd_lcmp C dX9_mergeTier_159 ?_
            refine bd_if_gt C 167 dX9_mergeTier_160 (by decide) (fun c29 => ?_) (fun c29 => ?_)
            · exact bd_sub (hb167 _ hk33 w l0 l2 l3 l4 l5 v7 v8 ol0) [2, 3, 4, 5, 6, 1, 0] rfl
            · exact bd_sub (hb163 _ hk33 w l0 l2 l3 l4 l5 v7 v8 ol0) [2, 3, 4, 5, 6, 1, 0] rfl
  have hb33 : ∀ (n : Nat) (w : Wd) (l0 : Nat) (l2 : Int32) (l3 : Int32) (l4 : Int32) (l5 : Int32) (ol0 : okF F l0 9), BD g G F 10 (qX9_mergeTier G F g) 0 0 (fX9_mergeTier_33 F N n w l0 l2 l3 l4 l5) w 33 [(0, .ref l0), (2, .int l2), (3, .int l3), (4, .int l4), (5, .int l5)] [] := by
    intro n
    induction n with
    | zero =>
      intro w l0 l2 l3 l4 l5 ol0
      unfold fX9_mergeTier_33
      exact bd_none
    | succ n ih =>
      intro w l0 l2 l3 l4 l5 ol0
      unfold fX9_mergeTier_33
      refine bd_iload C 3 dX9_mergeTier_33 rfl ?_
      refine bd_i2l C dX9_mergeTier_35 ?_
      refine bd_aload_n C 0 dX9_mergeTier_36 rfl rfl ?_
      refine bd_gR C fi900 fv900 wd_1241 dX9_mergeTier_37 ol0 (fun r1 gr1 hr1 => ?_)
      refine bd_iload_n C 1 dX9_mergeTier_40 rfl rfl ?_
      refine bd_lald C dX9_mergeTier_41 hr1 (fun x2 => ?_)
      refine bd_lcmp C dX9_mergeTier_42 ?_
      refine bd_if_lt C 59 dX9_mergeTier_43 (by decide) (fun c3 => ?_) (fun c3 => ?_)
      · exact bd_sub (hb59 _ ih w l0 l2 l3 l4 l5 ol0) [0, 1, 2, 3, 4] rfl
      · refine bd_iload C 4 dX9_mergeTier_46 rfl ?_
        refine bd_i2l C dX9_mergeTier_48 ?_
        refine bd_aload_n C 0 dX9_mergeTier_49 rfl rfl ?_
        refine bd_gR C fi900 fv900 wd_1241 dX9_mergeTier_50 ol0 (fun r4 gr4 hr4 => ?_)
        refine bd_iload_n C 2 dX9_mergeTier_53 rfl rfl ?_
        refine bd_lald C dX9_mergeTier_54 hr4 (fun x5 => ?_)
        refine bd_lcmp C dX9_mergeTier_55 ?_
        refine bd_if_ge C 258 dX9_mergeTier_56 (by decide) (fun c6 => ?_) (fun c6 => ?_)
        · exact bd_vret C hret rfl _ _ rfl rfl dX9_mergeTier_258 (Nat.le_refl _) (Nat.le_refl _)
        · exact bd_sub (hb59 _ ih w l0 l2 l3 l4 l5 ol0) [0, 1, 2, 3, 4] rfl
  unfold fX9_mergeTier
  refine bd_sub (lv' := [(0, .ref l0), (1, .int l1)]) ?_ [0, 1] rfl
  refine bd_aload_n C 0 dX9_mergeTier_0 rfl rfl ?_
  refine bd_iconst C (v := 0) dX9_mergeTier_1 (by decide) ?_
  refine bd_pI C fi933 ftX9 fu933 wd_1274 rfl rfl rfl dX9_mergeTier_2 ol0 (fun w43 => ?_)
  refine bd_aload_n C 0 dX9_mergeTier_5 rfl rfl ?_
  refine bd_iconst C (v := 0) dX9_mergeTier_6 (by decide) ?_
  refine bd_pI C fi934 ftX9 fu934 wd_1275 rfl rfl rfl dX9_mergeTier_7 ol0 (fun w44 => ?_)
  refine bd_aload_n C 0 dX9_mergeTier_10 rfl rfl ?_
  refine bd_iconst C (v := 0) dX9_mergeTier_11 (by decide) ?_
  refine bd_pI C fi935 ftX9 fu935 wd_1276 rfl rfl rfl dX9_mergeTier_12 ol0 (fun w45 => ?_)
  refine bd_iconst C (v := 0) dX9_mergeTier_15 (by decide) ?_
  refine bd_iload_n C 1 dX9_mergeTier_16 rfl rfl ?_
  refine bd_callS (vs := fun (r : Int32) => some (.int r)) (wf := fun _ => w45) (st := []) (st1 := fun x46 => Value.int x46 :: []) C [.int 0, .int l1] (fun r9 e9 => mX9_row C.flag N e9) mwX9_row miX9_row wd_1444 rfl rfl (Nat.le_of_ble_eq_true rfl) dX9_mergeTier_17 ⟨rfl, rfl, Nat.le_of_ble_eq_true rfl, Nat.le_of_ble_eq_true rfl, Nat.le_of_ble_eq_true rfl, Nat.le_of_ble_eq_true rfl⟩ (fun _ => rfl) (fun x46 ex46 => ?_)
  refine bd_istore_n C [(2, .int x46), (0, .ref l0), (1, .int l1)] dX9_mergeTier_20 rfl (by decide) rfl ?_
  refine bd_iconst C (v := 1) dX9_mergeTier_21 (by decide) ?_
  refine bd_iload_n C 2 dX9_mergeTier_22 rfl rfl ?_
  refine bd_callS (vs := fun (r : Int32) => some (.int r)) (wf := fun _ => w45) (st := []) (st1 := fun x47 => Value.int x47 :: []) C [.int 1, .int l1] (fun r9 e9 => mX9_row C.flag N e9) mwX9_row miX9_row wd_1444 rfl rfl (Nat.le_of_ble_eq_true rfl) dX9_mergeTier_23 ⟨rfl, rfl, Nat.le_of_ble_eq_true rfl, Nat.le_of_ble_eq_true rfl, Nat.le_of_ble_eq_true rfl, Nat.le_of_ble_eq_true rfl⟩ (fun _ => rfl) (fun x47 ex47 => ?_)
  refine bd_istore_n C [(3, .int x47), (2, .int x46), (0, .ref l0), (1, .int l1)] dX9_mergeTier_26 rfl (by decide) rfl ?_
  refine bd_iconst C (v := 0) dX9_mergeTier_27 (by decide) ?_
  refine bd_istore C [(4, .int 0), (3, .int x47), (2, .int x46), (0, .ref l0), (1, .int l1)] dX9_mergeTier_28 (by decide) rfl ?_
  refine bd_iconst C (v := 0) dX9_mergeTier_30 (by decide) ?_
  refine bd_istore C [(5, .int 0), (4, .int 0), (3, .int x47), (2, .int x46), (0, .ref l0), (1, .int l1)] dX9_mergeTier_31 (by decide) rfl ?_
  exact bd_sub (hb33 N w45 l0 x46 x47 0 0 ol0) [4, 3, 2, 1, 0] rfl
abbrev rmX9_merge : Room := { frames := 13, cells := 0, slots := 0, locals := 380 }
abbrev qX9_merge (G : Gy) (F : Fr) (g : Bd) : (Int32 × Wd) → State → Prop := fun r => QM G F g 0 0 ((fun (r : Int32 × Wd) => some (.int r.1)) r) ((fun (r : Int32 × Wd) => r.2) r)
set_option maxRecDepth 20000 in
set_option maxHeartbeats 4000000 in
theorem mX9_merge {l : Launch} (hf9 : l.stackTraces = false) {G : Gy} {F : Fr} (N : Nat) {w : Wd} {l0 : Nat} {l1 : Int32} {l2 : Int32} {r : Int32 × Wd} (ol0 : okF F l0 9) (e9 : fX9_merge F N w l0 l1 l2 = some r) : Met l yX9_merge [.code yX9_merge cX9_merge 6 (some .int)] rmX9_merge (PcB G F w [.ref l0, .int l1, .int l2]) (QB G F ((fun (r : Int32 × Wd) => some (.int r.1)) r) ((fun (r : Int32 × Wd) => r.2) r)) 0 0 (AF F) := by
  refine bd_met (vs := fun (r : Int32 × Wd) => some (.int r.1)) (wf := fun (r : Int32 × Wd) => r.2) hf9 (by decide) (Nat.le_of_ble_eq_true rfl) e9 (fun g C hret hini => ?_)
  clear e9 r
  have hb78 : ∀ (k52 : Wd → Nat → Int32 → Int32 → Int32 → Int32 → Option (Int32 × Wd)), (∀ (w : Wd) (l0 : Nat) (l2 : Int32) (l3 : Int32) (l4 : Int32) (l5 : Int32) (ol0 : okF F l0 9), BD g G F 6 (qX9_merge G F g) 0 0 (k52 w l0 l2 l3 l4 l5) w 52 [(0, .ref l0), (2, .int l2), (3, .int l3), (4, .int l4), (5, .int l5)] []) → ∀  (w : Wd) (l0 : Nat) (l2 : Int32) (l4 : Int32) (l5 : Int32) (s0 : Int32) (s1 : Int32) (ol0 : okF F l0 9), BD g G F 6 (qX9_merge G F g) 0 0 (fX9_merge_78 F N k52 w l0 l2 l4 l5 s0 s1) w 78 [(0, .ref l0), (2, .int l2), (4, .int l4), (5, .int l5)] [.int s1, .int s0] := by
    intro k52 hk52
    intro w l0 l2 l4 l5 s0 s1 ol0
    unfold fX9_merge_78
    refine bd_iadd C dX9_merge_78 ?_
    refine bd_bnd (tp := Value.int) (fun v12 ev12 => ?_)
    refine bd_istore_n C [(3, .int v12), (0, .ref l0), (2, .int l2), (4, .int l4), (5, .int l5)] dX9_merge_79 rfl (by decide) rfl ?_
    refine bd_iload C 3 dX9_merge_80 rfl ?_
    refine bd_aload_n C 1 dX9_merge_82 rfl rfl ?_
    refine bd_gR C fi930 fv930 wd_1271 dX9_merge_83 ol0 (fun r13 gr13 hr13 => ?_)
    refine bd_iload C 4 dX9_merge_86 rfl ?_
    refine bd_iald C dX9_merge_88 hr13 (fun x14 => ?_)
    refine bd_aload_n C 1 dX9_merge_89 rfl rfl ?_
    refine bd_gR C fi929 fv929 wd_1270 dX9_merge_90 ol0 (fun r15 gr15 hr15 => ?_)
    refine bd_iload C 4 dX9_merge_93 rfl ?_
    refine bd_iald C dX9_merge_95 hr15 (fun x16 => ?_)
    refine bd_isub C dX9_merge_96 ?_
    refine bd_iadd C dX9_merge_97 ?_
    refine bd_bnd (tp := Value.int) (fun v17 ev17 => ?_)
    refine bd_istore C [(4, .int v17), (3, .int v12), (0, .ref l0), (2, .int l2), (5, .int l5)] dX9_merge_98 (by decide) rfl ?_
    refine bd_iinc C (v := l5 + 1) 4 [(5, .int (l5 + 1)), (4, .int v17), (3, .int v12), (0, .ref l0), (2, .int l2)] dX9_merge_100 rfl rfl (by decide) rfl ?_
    refine bd_goto C 52 dX9_merge_103 (by decide) ?_
    exact bd_sub (hk52 w l0 l2 v12 v17 (l5 + 1) ol0) [3, 4, 2, 1, 0] rfl
  have hb52 : ∀ (n : Nat) (w : Wd) (l0 : Nat) (l2 : Int32) (l3 : Int32) (l4 : Int32) (l5 : Int32) (ol0 : okF F l0 9), BD g G F 6 (qX9_merge G F g) 0 0 (fX9_merge_52 F N n w l0 l2 l3 l4 l5) w 52 [(0, .ref l0), (2, .int l2), (3, .int l3), (4, .int l4), (5, .int l5)] [] := by
    intro n
    induction n with
    | zero =>
      intro w l0 l2 l3 l4 l5 ol0
      unfold fX9_merge_52
      exact bd_none
    | succ n ih =>
      intro w l0 l2 l3 l4 l5 ol0
      unfold fX9_merge_52
      refine bd_iload C 4 dX9_merge_52 rfl ?_
      refine bd_aload_n C 0 dX9_merge_54 rfl rfl ?_
      refine bd_gI C fi933 fv933 wd_1274 dX9_merge_55 ol0 ?_
      refine bd_icmp_ge C 106 dX9_merge_58 (by decide) (fun c4 => ?_) (fun c4 => ?_)
      · refine bd_iload_n C 1 dX9_merge_106 rfl rfl ?_
        refine bd_if_ne C 117 dX9_merge_107 (by decide) (fun c5 => ?_) (fun c5 => ?_)
        · refine bd_iload_n C 1 dX9_merge_117 rfl rfl ?_
          refine bd_iconst C (v := 1) dX9_merge_118 (by decide) ?_
          refine bd_icmp_ne C 129 dX9_merge_119 (by decide) (fun c6 => ?_) (fun c6 => ?_)
          · refine bd_iload_n C 1 dX9_merge_129 rfl rfl ?_
            refine bd_iconst C (v := 2) dX9_merge_130 (by decide) ?_
            refine bd_icmp_ne C 141 dX9_merge_131 (by decide) (fun c7 => ?_) (fun c7 => ?_)
            · refine bd_iload_n C 1 dX9_merge_141 rfl rfl ?_
              refine bd_iconst C (v := 3) dX9_merge_142 (by decide) ?_
              refine bd_icmp_ne C 150 dX9_merge_143 (by decide) (fun c8 => ?_) (fun c8 => ?_)
              · refine bd_iload C 3 dX9_merge_150 rfl ?_
                exact bd_iret C hret rfl _ _ rfl rfl dX9_merge_152 (Nat.le_refl _) (Nat.le_refl _)
              · refine bd_iload_n C 2 dX9_merge_146 rfl rfl ?_
                refine bd_goto C 152 dX9_merge_147 (by decide) ?_
                exact bd_iret C hret rfl _ _ rfl rfl dX9_merge_152 (Nat.le_refl _) (Nat.le_refl _)
            · refine bd_aload_n C 0 dX9_merge_134 rfl rfl ?_
              refine bd_gI C fi935 fv935 wd_1276 dX9_merge_135 ol0 ?_
              refine bd_goto C 152 dX9_merge_138 (by decide) ?_
              exact bd_iret C hret rfl _ _ rfl rfl dX9_merge_152 (Nat.le_refl _) (Nat.le_refl _)
          · refine bd_aload_n C 0 dX9_merge_122 rfl rfl ?_
            refine bd_gI C fi934 fv934 wd_1275 dX9_merge_123 ol0 ?_
            refine bd_goto C 152 dX9_merge_126 (by decide) ?_
            exact bd_iret C hret rfl _ _ rfl rfl dX9_merge_152 (Nat.le_refl _) (Nat.le_refl _)
        · refine bd_aload_n C 0 dX9_merge_110 rfl rfl ?_
          refine bd_gI C fi933 fv933 wd_1274 dX9_merge_111 ol0 ?_
          refine bd_goto C 152 dX9_merge_114 (by decide) ?_
          exact bd_iret C hret rfl _ _ rfl rfl dX9_merge_152 (Nat.le_refl _) (Nat.le_refl _)
      · refine bd_iload_n C 2 dX9_merge_61 rfl rfl ?_
        refine bd_aload_n C 0 dX9_merge_62 rfl rfl ?_
        refine bd_gR C fi932 fv932 wd_1273 dX9_merge_63 ol0 (fun r9 gr9 hr9 => ?_)
        refine bd_iload C 4 dX9_merge_66 rfl ?_
        refine bd_iald C dX9_merge_68 hr9 (fun x10 => ?_)
        refine bd_iconst C (v := 3) dX9_merge_69 (by decide) ?_
        refine bd_icmp_ne C 77 dX9_merge_70 (by decide) (fun c11 => ?_) (fun c11 => ?_)
        · refine bd_iconst C (v := 0) dX9_merge_77 (by decide) ?_
          exact bd_sub (hb78 _ ih w l0 l2 l4 l5 l3 0 ol0) [0, 1, 3, 4] rfl
        · refine bd_iconst C (v := 1) dX9_merge_73 (by decide) ?_
          refine bd_goto C 78 dX9_merge_74 (by decide) ?_
          exact bd_sub (hb78 _ ih w l0 l2 l4 l5 l3 1 ol0) [0, 1, 3, 4] rfl
  have hb27 : ∀  (w : Wd) (l0 : Nat) (l1 : Int32) (l2 : Int32) (s0 : Nat) (s1 : Int32) (ol0 : okF F l0 9) (os0 : okF F s0 9), BD g G F 6 (qX9_merge G F g) 0 0 (fX9_merge_27 F N w l0 l1 l2 s0 s1) w 27 [(0, .ref l0), (1, .int l1), (2, .int l2)] [.int s1, .ref s0] := by
    intro w l0 l1 l2 s0 s1 ol0 os0
    unfold fX9_merge_27
    refine bd_pI C fi906 ftX9 fu906 wd_1247 rfl rfl rfl dX9_merge_27 os0 (fun w1 => ?_)
    refine bd_aload_n C 0 dX9_merge_30 rfl rfl ?_
    refine bd_gI C fi906 fv906 wd_1247 dX9_merge_31 ol0 ?_
    refine bd_if_le C 39 dX9_merge_34 (by decide) (fun c2 => ?_) (fun c2 => ?_)
    · refine bd_aload_n C 0 dX9_merge_39 rfl rfl ?_
      refine bd_iload_n C 1 dX9_merge_40 rfl rfl ?_
      refine bd_callV (vs := fun _ => none) (wf := fun (r : Wd) => r) (st := []) (st1 := fun p3 => []) C [.int l1] (fun r9 e9 => mX9_mergeTier C.flag N ol0 e9) mwX9_mergeTier miX9_mergeTier wd_1691 ol0 (by decide) rfl rfl rfl (Nat.le_of_ble_eq_true rfl) dX9_merge_41 ⟨rfl, rfl, Nat.le_of_ble_eq_true rfl, Nat.le_of_ble_eq_true rfl, Nat.le_of_ble_eq_true rfl, Nat.le_of_ble_eq_true rfl⟩ (fun _ => rfl) (fun p3 ep3 => ?_)
      refine bd_iconst C (v := 0) dX9_merge_44 (by decide) ?_
      refine bd_istore_n C [(3, .int 0), (0, .ref l0), (1, .int l1), (2, .int l2)] dX9_merge_45 rfl (by decide) rfl ?_
      refine bd_iconst C (v := 0) dX9_merge_46 (by decide) ?_
      refine bd_istore C [(4, .int 0), (3, .int 0), (0, .ref l0), (1, .int l1), (2, .int l2)] dX9_merge_47 (by decide) rfl ?_
      refine bd_iconst C (v := 0) dX9_merge_49 (by decide) ?_
      refine bd_istore C [(5, .int 0), (4, .int 0), (3, .int 0), (0, .ref l0), (1, .int l1), (2, .int l2)] dX9_merge_50 (by decide) rfl ?_
      exact bd_sub (hb52 N p3 l0 l2 0 0 0 ol0) [3, 5, 2, 1, 0] rfl
    · refine bd_iconst C (v := 0) dX9_merge_37 (by decide) ?_
      exact bd_iret C hret rfl _ _ rfl rfl dX9_merge_38 (Nat.le_refl _) (Nat.le_refl _)
  unfold fX9_merge
  refine bd_sub (lv' := [(0, .ref l0), (1, .int l1), (2, .int l2)]) ?_ [0, 1, 2] rfl
  refine bd_aload_n C 0 dX9_merge_0 rfl rfl ?_
  refine bd_aload_n C 0 dX9_merge_1 rfl rfl ?_
  refine bd_iload_n C 1 dX9_merge_2 rfl rfl ?_
  refine bd_callV (vs := fun (r : Int32) => some (.int r)) (wf := fun _ => w) (st := [.ref l0]) (st1 := fun x18 => Value.int x18 :: [.ref l0]) C [.int l1] (fun r9 e9 => mX9_isTier C.flag N ol0 e9) mwX9_isTier miX9_isTier wd_1402 ol0 (by decide) rfl rfl rfl (Nat.le_of_ble_eq_true rfl) dX9_merge_3 ⟨rfl, rfl, Nat.le_of_ble_eq_true rfl, Nat.le_of_ble_eq_true rfl, Nat.le_of_ble_eq_true rfl, Nat.le_of_ble_eq_true rfl⟩ (fun _ => rfl) (fun x18 ex18 => ?_)
  refine bd_if_ne C 13 dX9_merge_6 (by decide) (fun c19 => ?_) (fun c19 => ?_)
  · refine bd_iload_n C 2 dX9_merge_13 rfl rfl ?_
    refine bd_iconst C (v := 0) dX9_merge_14 (by decide) ?_
    refine bd_iconst C (v := 4) dX9_merge_15 (by decide) ?_
    refine bd_callS (vs := fun (r : Int32) => some (.int r)) (wf := fun _ => w) (st := [.ref l0]) (st1 := fun x20 => Value.int x20 :: [.ref l0]) C [.int l2, .int 0, .int 4] (fun r9 e9 => mX9_in C.flag N e9) mwX9_in miX9_in wd_1399 rfl rfl (Nat.le_of_ble_eq_true rfl) dX9_merge_16 ⟨rfl, rfl, Nat.le_of_ble_eq_true rfl, Nat.le_of_ble_eq_true rfl, Nat.le_of_ble_eq_true rfl, Nat.le_of_ble_eq_true rfl⟩ (fun _ => rfl) (fun x20 ex20 => ?_)
    refine bd_if_ne C 26 dX9_merge_19 (by decide) (fun c21 => ?_) (fun c21 => ?_)
    · refine bd_iconst C (v := 0) dX9_merge_26 (by decide) ?_
      exact bd_sub (hb27 w l0 l1 l2 l0 0 ol0 ol0) [0, 1, 2] rfl
    · refine bd_iconst C (v := 2) dX9_merge_22 (by decide) ?_
      refine bd_goto C 27 dX9_merge_23 (by decide) ?_
      exact bd_sub (hb27 w l0 l1 l2 l0 2 ol0 ol0) [0, 1, 2] rfl
  · refine bd_iconst C (v := 1) dX9_merge_9 (by decide) ?_
    refine bd_goto C 27 dX9_merge_10 (by decide) ?_
    exact bd_sub (hb27 w l0 l1 l2 l0 1 ol0 ol0) [0, 1, 2] rfl
abbrev rmX9_merged : Room := { frames := 13, cells := 0, slots := 0, locals := 380 }
abbrev qX9_merged (G : Gy) (F : Fr) (g : Bd) : (Int32 × Wd) → State → Prop := fun r => QM G F g 0 0 ((fun (r : Int32 × Wd) => some (.int r.1)) r) ((fun (r : Int32 × Wd) => r.2) r)
set_option maxRecDepth 20000 in
set_option maxHeartbeats 4000000 in
theorem mX9_merged {l : Launch} (hf9 : l.stackTraces = false) {G : Gy} {F : Fr} (N : Nat) {w : Wd} {l0 : Nat} {l1 : Int32} {l2 : Int32} {l3 : Int32} {r : Int32 × Wd} (ol0 : okF F l0 9) (e9 : fX9_merged F N w l0 l1 l2 l3 = some r) : Met l yX9_merged [.code yX9_merged cX9_merged 4 (some .int)] rmX9_merged (PcB G F w [.ref l0, .int l1, .int l2, .int l3]) (QB G F ((fun (r : Int32 × Wd) => some (.int r.1)) r) ((fun (r : Int32 × Wd) => r.2) r)) 0 0 (AF F) := by
  refine bd_met (vs := fun (r : Int32 × Wd) => some (.int r.1)) (wf := fun (r : Int32 × Wd) => r.2) hf9 (by decide) (Nat.le_of_ble_eq_true rfl) e9 (fun g C hret hini => ?_)
  clear e9 r
  have hb64 : ∀  (w : Wd) (l0 : Nat) (l2 : Int32) (l3 : Int32) (s0 : Nat) (s1 : Int32) (ol0 : okF F l0 9) (os0 : okF F s0 9), BD g G F 4 (qX9_merged G F g) 0 0 (fX9_merged_64 F N w l0 l2 l3 s0 s1) w 64 [(0, .ref l0), (2, .int l2), (3, .int l3)] [.int s1, .ref s0] := by
    intro w l0 l2 l3 s0 s1 ol0 os0
    unfold fX9_merged_64
    refine bd_pI C fi906 ftX9 fu906 wd_1247 rfl rfl rfl dX9_merged_64 os0 (fun w8 => ?_)
    refine bd_aload_n C 0 dX9_merged_67 rfl rfl ?_
    refine bd_gI C fi906 fv906 wd_1247 dX9_merged_68 ol0 ?_
    refine bd_if_le C 76 dX9_merged_71 (by decide) (fun c9 => ?_) (fun c9 => ?_)
    · refine bd_iload_n C 2 dX9_merged_76 rfl rfl ?_
      refine bd_ite (fun c10 => ?_) (fun c10 => ?_)
      · refine bd_tableIn C (off := 27) 104 dX9_merged_77 (by rw [c10]; decide) (by rw [c10]; decide) (by rw [c10]; rfl) (by decide) ?_
        refine bd_aload_n C 0 dX9_merged_104 rfl rfl ?_
        refine bd_gR C fi929 fv929 wd_1270 dX9_merged_105 ol0 (fun r11 gr11 hr11 => ?_)
        refine bd_iload_n C 1 dX9_merged_108 rfl rfl ?_
        refine bd_iald C dX9_merged_109 hr11 (fun x12 => ?_)
        exact bd_iret C hret rfl _ _ rfl rfl dX9_merged_110 (Nat.le_refl _) (Nat.le_refl _)
      · refine bd_ite (fun c13 => ?_) (fun c13 => ?_)
        · refine bd_tableIn C (off := 34) 111 dX9_merged_77 (by rw [c13]; decide) (by rw [c13]; decide) (by rw [c13]; rfl) (by decide) ?_
          refine bd_aload_n C 0 dX9_merged_111 rfl rfl ?_
          refine bd_gR C fi930 fv930 wd_1271 dX9_merged_112 ol0 (fun r14 gr14 hr14 => ?_)
          refine bd_iload_n C 1 dX9_merged_115 rfl rfl ?_
          refine bd_iald C dX9_merged_116 hr14 (fun x15 => ?_)
          exact bd_iret C hret rfl _ _ rfl rfl dX9_merged_117 (Nat.le_refl _) (Nat.le_refl _)
        · refine bd_ite (fun c16 => ?_) (fun c16 => ?_)
          · refine bd_tableIn C (off := 41) 118 dX9_merged_77 (by rw [c16]; decide) (by rw [c16]; decide) (by rw [c16]; rfl) (by decide) ?_
            refine bd_aload_n C 0 dX9_merged_118 rfl rfl ?_
            refine bd_gR C fi932 fv932 wd_1273 dX9_merged_119 ol0 (fun r17 gr17 hr17 => ?_)
            refine bd_iload_n C 1 dX9_merged_122 rfl rfl ?_
            refine bd_iald C dX9_merged_123 hr17 (fun x18 => ?_)
            exact bd_iret C hret rfl _ _ rfl rfl dX9_merged_124 (Nat.le_refl _) (Nat.le_refl _)
          · refine bd_tableOut C 125 dX9_merged_77 (tbl_out 3 _ (fun j hj => by match j, hj with | 0, _ => exact c10 | 1, _ => exact c13 | 2, _ => exact c16) (by decide)) (by decide) ?_
            refine bd_aload_n C 0 dX9_merged_125 rfl rfl ?_
            refine bd_gR C fi931 fv931 wd_1272 dX9_merged_126 ol0 (fun r19 gr19 hr19 => ?_)
            refine bd_iload_n C 1 dX9_merged_129 rfl rfl ?_
            refine bd_lald C dX9_merged_130 hr19 (fun x20 => ?_)
            refine bd_callS (vs := fun (r : Int32) => some (.int r)) (wf := fun _ => w8) (st := []) (st1 := fun x21 => Value.int x21 :: []) C [.long x20] (fun r9 e9 => mX9_lengthOf C.flag N e9) mwX9_lengthOf miX9_lengthOf wd_1602 rfl rfl (Nat.le_of_ble_eq_true rfl) dX9_merged_131 ⟨rfl, rfl, Nat.le_of_ble_eq_true rfl, Nat.le_of_ble_eq_true rfl, Nat.le_of_ble_eq_true rfl, Nat.le_of_ble_eq_true rfl⟩ (fun _ => rfl) (fun x21 ex21 => ?_)
            exact bd_iret C hret rfl _ _ rfl rfl dX9_merged_134 (Nat.le_refl _) (Nat.le_refl _)
    · refine bd_iconst C (v := 0) dX9_merged_74 (by decide) ?_
      exact bd_iret C hret rfl _ _ rfl rfl dX9_merged_75 (Nat.le_refl _) (Nat.le_refl _)
  have hb14 : ∀  (w : Wd) (l0 : Nat) (l1 : Int32) (l2 : Int32) (l3 : Int32) (s0 : Nat) (s1 : Int32) (ol0 : okF F l0 9) (os0 : okF F s0 9), BD g G F 4 (qX9_merged G F g) 0 0 (fX9_merged_14 F N w l0 l1 l2 l3 s0 s1) w 14 [(0, .ref l0), (1, .int l1), (2, .int l2), (3, .int l3)] [.int s1, .ref s0] := by
    intro w l0 l1 l2 l3 s0 s1 ol0 os0
    unfold fX9_merged_14
    refine bd_pI C fi906 ftX9 fu906 wd_1247 rfl rfl rfl dX9_merged_14 os0 (fun w1 => ?_)
    refine bd_aload_n C 0 dX9_merged_17 rfl rfl ?_
    refine bd_gI C fi906 fv906 wd_1247 dX9_merged_18 ol0 ?_
    refine bd_if_le C 26 dX9_merged_21 (by decide) (fun c2 => ?_) (fun c2 => ?_)
    · refine bd_aload_n C 0 dX9_merged_26 rfl rfl ?_
      refine bd_iload_n C 1 dX9_merged_27 rfl rfl ?_
      refine bd_callV (vs := fun _ => none) (wf := fun (r : Wd) => r) (st := []) (st1 := fun p3 => []) C [.int l1] (fun r9 e9 => mX9_mergeTier C.flag N ol0 e9) mwX9_mergeTier miX9_mergeTier wd_1691 ol0 (by decide) rfl rfl rfl (Nat.le_of_ble_eq_true rfl) dX9_merged_28 ⟨rfl, rfl, Nat.le_of_ble_eq_true rfl, Nat.le_of_ble_eq_true rfl, Nat.le_of_ble_eq_true rfl, Nat.le_of_ble_eq_true rfl⟩ (fun _ => rfl) (fun p3 ep3 => ?_)
      refine bd_aload_n C 0 dX9_merged_31 rfl rfl ?_
      refine bd_iload_n C 2 dX9_merged_32 rfl rfl ?_
      refine bd_iconst C (v := 0) dX9_merged_33 (by decide) ?_
      refine bd_aload_n C 0 dX9_merged_34 rfl rfl ?_
      refine bd_gI C fi933 fv933 wd_1274 dX9_merged_35 ol0 ?_
      refine bd_iconst C (v := 1) dX9_merged_38 (by decide) ?_
      refine bd_isub C dX9_merged_39 ?_
      refine bd_callS (vs := fun (r : Int32) => some (.int r)) (wf := fun _ => p3) (st := [.ref l0]) (st1 := fun x4 => Value.int x4 :: [.ref l0]) C [.int l2, .int 0, .int ((gI p3 933 l0) - 1)] (fun r9 e9 => mX9_in C.flag N e9) mwX9_in miX9_in wd_1399 rfl rfl (Nat.le_of_ble_eq_true rfl) dX9_merged_40 ⟨rfl, rfl, Nat.le_of_ble_eq_true rfl, Nat.le_of_ble_eq_true rfl, Nat.le_of_ble_eq_true rfl, Nat.le_of_ble_eq_true rfl⟩ (fun _ => rfl) (fun x4 ex4 => ?_)
      refine bd_if_ne C 50 dX9_merged_43 (by decide) (fun c5 => ?_) (fun c5 => ?_)
      · refine bd_iload_n C 3 dX9_merged_50 rfl rfl ?_
        refine bd_iconst C (v := 0) dX9_merged_51 (by decide) ?_
        refine bd_iconst C (v := 3) dX9_merged_52 (by decide) ?_
        refine bd_callS (vs := fun (r : Int32) => some (.int r)) (wf := fun _ => p3) (st := [.ref l0]) (st1 := fun x6 => Value.int x6 :: [.ref l0]) C [.int l3, .int 0, .int 3] (fun r9 e9 => mX9_in C.flag N e9) mwX9_in miX9_in wd_1399 rfl rfl (Nat.le_of_ble_eq_true rfl) dX9_merged_53 ⟨rfl, rfl, Nat.le_of_ble_eq_true rfl, Nat.le_of_ble_eq_true rfl, Nat.le_of_ble_eq_true rfl, Nat.le_of_ble_eq_true rfl⟩ (fun _ => rfl) (fun x6 ex6 => ?_)
        refine bd_if_ne C 63 dX9_merged_56 (by decide) (fun c7 => ?_) (fun c7 => ?_)
        · refine bd_iconst C (v := 0) dX9_merged_63 (by decide) ?_
          exact bd_sub (hb64 p3 l0 l2 l3 l0 0 ol0 ol0) [0, 2, 3] rfl
        · refine bd_iconst C (v := 3) dX9_merged_59 (by decide) ?_
          refine bd_goto C 64 dX9_merged_60 (by decide) ?_
          exact bd_sub (hb64 p3 l0 l2 l3 l0 3 ol0 ol0) [0, 2, 3] rfl
      · refine bd_iconst C (v := 2) dX9_merged_46 (by decide) ?_
        refine bd_goto C 64 dX9_merged_47 (by decide) ?_
        exact bd_sub (hb64 p3 l0 l2 l3 l0 2 ol0 ol0) [0, 2, 3] rfl
    · refine bd_iconst C (v := 0) dX9_merged_24 (by decide) ?_
      exact bd_iret C hret rfl _ _ rfl rfl dX9_merged_25 (Nat.le_refl _) (Nat.le_refl _)
  unfold fX9_merged
  refine bd_sub (lv' := [(0, .ref l0), (1, .int l1), (2, .int l2), (3, .int l3)]) ?_ [0, 1, 2, 3] rfl
  refine bd_aload_n C 0 dX9_merged_0 rfl rfl ?_
  refine bd_aload_n C 0 dX9_merged_1 rfl rfl ?_
  refine bd_iload_n C 1 dX9_merged_2 rfl rfl ?_
  refine bd_callV (vs := fun (r : Int32) => some (.int r)) (wf := fun _ => w) (st := [.ref l0]) (st1 := fun x22 => Value.int x22 :: [.ref l0]) C [.int l1] (fun r9 e9 => mX9_isTier C.flag N ol0 e9) mwX9_isTier miX9_isTier wd_1402 ol0 (by decide) rfl rfl rfl (Nat.le_of_ble_eq_true rfl) dX9_merged_3 ⟨rfl, rfl, Nat.le_of_ble_eq_true rfl, Nat.le_of_ble_eq_true rfl, Nat.le_of_ble_eq_true rfl, Nat.le_of_ble_eq_true rfl⟩ (fun _ => rfl) (fun x22 ex22 => ?_)
  refine bd_if_eq C 13 dX9_merged_6 (by decide) (fun c23 => ?_) (fun c23 => ?_)
  · refine bd_iconst C (v := 1) dX9_merged_13 (by decide) ?_
    exact bd_sub (hb14 w l0 l1 l2 l3 l0 1 ol0 ol0) [0, 1, 2, 3] rfl
  · refine bd_iconst C (v := 0) dX9_merged_9 (by decide) ?_
    refine bd_goto C 14 dX9_merged_10 (by decide) ?_
    exact bd_sub (hb14 w l0 l1 l2 l3 l0 0 ol0 ol0) [0, 1, 2, 3] rfl
abbrev rmX9_layOut : Room := { frames := 11, cells := 0, slots := 0, locals := 321 }
abbrev qX9_layOut (G : Gy) (F : Fr) (g : Bd) : Wd → State → Prop := fun r => QM G F g 0 0 ((fun _ => none) r) ((fun (r : Wd) => r) r)
set_option maxRecDepth 20000 in
set_option maxHeartbeats 4000000 in
theorem mX9_layOut {l : Launch} (hf9 : l.stackTraces = false) {G : Gy} {F : Fr} (N : Nat) {w : Wd} {l0 : Nat} {l1 : Int32} {r : Wd} (ol0 : okF F l0 9) (e9 : fX9_layOut F N w l0 l1 = some r) : Met l yX9_layOut [.code yX9_layOut cX9_layOut 7 none] rmX9_layOut (PcB G F w [.ref l0, .int l1]) (QB G F ((fun _ => none) r) ((fun (r : Wd) => r) r)) 0 0 (AF F) := by
  refine bd_met (vs := fun _ => none) (wf := fun (r : Wd) => r) hf9 (by decide) (Nat.le_of_ble_eq_true rfl) e9 (fun g C hret hini => ?_)
  clear e9 r
  have hb71 : ∀ (k24 : Wd → Nat → Int32 → Int32 → Option (Wd)), (∀ (w : Wd) (l0 : Nat) (l1 : Int32) (l2 : Int32) (ol0 : okF F l0 9), BD g G F 7 (qX9_layOut G F g) 0 0 (k24 w l0 l1 l2) w 24 [(0, .ref l0), (1, .int l1), (2, .int l2)] []) → ∀ (k38 : Wd → Nat → Int32 → Int32 → Int32 → Int32 → Option (Wd)), (∀ (w : Wd) (l0 : Nat) (l1 : Int32) (l2 : Int32) (l3 : Int32) (l4 : Int32) (ol0 : okF F l0 9), BD g G F 7 (qX9_layOut G F g) 0 0 (k38 w l0 l1 l2 l3 l4) w 38 [(0, .ref l0), (1, .int l1), (2, .int l2), (3, .int l3), (4, .int l4)] []) → ∀ (n : Nat) (w : Wd) (l0 : Nat) (l1 : Int32) (l2 : Int32) (l3 : Int32) (l4 : Int32) (l5 : Int32) (l6 : Int32) (ol0 : okF F l0 9), BD g G F 7 (qX9_layOut G F g) 0 0 (fX9_layOut_71 F N k24 k38 n w l0 l1 l2 l3 l4 l5 l6) w 71 [(0, .ref l0), (1, .int l1), (2, .int l2), (3, .int l3), (4, .int l4), (5, .int l5), (6, .int l6)] [] := by
    intro k24 hk24 k38 hk38
    intro n
    induction n with
    | zero =>
      intro w l0 l1 l2 l3 l4 l5 l6 ol0
      unfold fX9_layOut_71
      exact bd_none
    | succ n ih =>
      intro w l0 l1 l2 l3 l4 l5 l6 ol0
      unfold fX9_layOut_71
      refine bd_iload C 6 dX9_layOut_71 rfl ?_
      refine bd_i2l C dX9_layOut_73 ?_
      refine bd_aload_n C 0 dX9_layOut_74 rfl rfl ?_
      refine bd_gR C fi900 fv900 wd_1241 dX9_layOut_75 ol0 (fun r12 gr12 hr12 => ?_)
      refine bd_iload C 5 dX9_layOut_78 rfl ?_
      refine bd_iconst C (v := 1) dX9_layOut_80 (by decide) ?_
      refine bd_iadd C dX9_layOut_81 ?_
      refine bd_lald C dX9_layOut_82 hr12 (fun x13 => ?_)
      refine bd_lcmp C dX9_layOut_83 ?_
      refine bd_if_ge C 115 dX9_layOut_84 (by decide) (fun c14 => ?_) (fun c14 => ?_)
      · refine bd_iinc C (v := l4 + 1) 4 [(4, .int (l4 + 1)), (0, .ref l0), (1, .int l1), (2, .int l2), (3, .int l3), (5, .int l5), (6, .int l6)] dX9_layOut_115 rfl rfl (by decide) rfl ?_
        refine bd_goto C 38 dX9_layOut_118 (by decide) ?_
        exact bd_sub (hk38 w l0 l1 l2 l3 (l4 + 1) ol0) [1, 2, 3, 4, 0] rfl
      · refine bd_aload_n C 0 dX9_layOut_87 rfl rfl ?_
        refine bd_gR C fi936 fv936 wd_1277 dX9_layOut_88 ol0 (fun r15 gr15 hr15 => ?_)
        refine bd_sipush C (v := 1000) dX9_layOut_91 (by decide) ?_
        refine bd_iload_n C 2 dX9_layOut_94 rfl rfl ?_
        refine bd_imul C dX9_layOut_95 ?_
        refine bd_iload C 6 dX9_layOut_96 rfl ?_
        refine bd_iadd C dX9_layOut_98 ?_
        refine bd_aload_n C 0 dX9_layOut_99 rfl rfl ?_
        refine bd_gR C fi900 fv900 wd_1241 dX9_layOut_100 ol0 (fun r16 gr16 hr16 => ?_)
        refine bd_iload C 5 dX9_layOut_103 rfl ?_
        refine bd_iconst C (v := 2) dX9_layOut_105 (by decide) ?_
        refine bd_iadd C dX9_layOut_106 ?_
        refine bd_lald C dX9_layOut_107 hr16 (fun x17 => ?_)
        refine bd_last C dX9_layOut_108 hr15 (fun w18 => ?_)
        refine bd_iinc C (v := l6 + 1) 6 [(6, .int (l6 + 1)), (0, .ref l0), (1, .int l1), (2, .int l2), (3, .int l3), (4, .int l4), (5, .int l5)] dX9_layOut_109 rfl rfl (by decide) rfl ?_
        refine bd_goto C 71 dX9_layOut_112 (by decide) ?_
        exact bd_sub (ih w18 l0 l1 l2 l3 l4 l5 (l6 + 1) ol0) [1, 2, 3, 4, 5, 6, 0] rfl
  have hb38 : ∀ (k24 : Wd → Nat → Int32 → Int32 → Option (Wd)), (∀ (w : Wd) (l0 : Nat) (l1 : Int32) (l2 : Int32) (ol0 : okF F l0 9), BD g G F 7 (qX9_layOut G F g) 0 0 (k24 w l0 l1 l2) w 24 [(0, .ref l0), (1, .int l1), (2, .int l2)] []) → ∀ (n : Nat) (w : Wd) (l0 : Nat) (l1 : Int32) (l2 : Int32) (l3 : Int32) (l4 : Int32) (ol0 : okF F l0 9), BD g G F 7 (qX9_layOut G F g) 0 0 (fX9_layOut_38 F N k24 n w l0 l1 l2 l3 l4) w 38 [(0, .ref l0), (1, .int l1), (2, .int l2), (3, .int l3), (4, .int l4)] [] := by
    intro k24 hk24
    intro n
    induction n with
    | zero =>
      intro w l0 l1 l2 l3 l4 ol0
      unfold fX9_layOut_38
      exact bd_none
    | succ n ih =>
      intro w l0 l1 l2 l3 l4 ol0
      unfold fX9_layOut_38
      refine bd_iload C 4 dX9_layOut_38 rfl ?_
      refine bd_i2l C dX9_layOut_40 ?_
      refine bd_aload_n C 0 dX9_layOut_41 rfl rfl ?_
      refine bd_gR C fi900 fv900 wd_1241 dX9_layOut_42 ol0 (fun r6 gr6 hr6 => ?_)
      refine bd_iload_n C 3 dX9_layOut_45 rfl rfl ?_
      refine bd_lald C dX9_layOut_46 hr6 (fun x7 => ?_)
      refine bd_lcmp C dX9_layOut_47 ?_
      refine bd_if_ge C 121 dX9_layOut_48 (by decide) (fun c8 => ?_) (fun c8 => ?_)
      · refine bd_iinc C (v := l2 + 1) 2 [(2, .int (l2 + 1)), (0, .ref l0), (1, .int l1), (3, .int l3), (4, .int l4)] dX9_layOut_121 rfl rfl (by decide) rfl ?_
        refine bd_goto C 24 dX9_layOut_124 (by decide) ?_
        exact bd_sub (hk24 w l0 l1 (l2 + 1) ol0) [1, 2, 0] rfl
      · refine bd_iload_n C 3 dX9_layOut_51 rfl rfl ?_
        refine bd_iconst C (v := 1) dX9_layOut_52 (by decide) ?_
        refine bd_iadd C dX9_layOut_53 ?_
        refine bd_iconst C (v := 3) dX9_layOut_54 (by decide) ?_
        refine bd_iload C 4 dX9_layOut_55 rfl ?_
        refine bd_imul C dX9_layOut_57 ?_
        refine bd_iadd C dX9_layOut_58 ?_
        refine bd_bnd (tp := Value.int) (fun v9 ev9 => ?_)
        refine bd_istore C [(5, .int v9), (0, .ref l0), (1, .int l1), (2, .int l2), (3, .int l3), (4, .int l4)] dX9_layOut_59 (by decide) rfl ?_
        refine bd_aload_n C 1 dX9_layOut_61 rfl rfl ?_
        refine bd_gR C fi900 fv900 wd_1241 dX9_layOut_62 ol0 (fun r10 gr10 hr10 => ?_)
        refine bd_iload C 0 dX9_layOut_65 rfl ?_
        refine bd_lald C dX9_layOut_67 hr10 (fun x11 => ?_)
        refine bd_l2i C dX9_layOut_68 ?_
        refine bd_istore C [(6, .int x11.toInt32), (5, .int v9), (0, .ref l0), (1, .int l1), (2, .int l2), (3, .int l3), (4, .int l4)] dX9_layOut_69 (by decide) rfl ?_
        exact bd_sub (hb71 _ hk24 _ ih N w l0 l1 l2 l3 l4 v9 x11.toInt32 ol0) [2, 3, 4, 5, 6, 1, 0] rfl
  have hb24 : ∀ (n : Nat) (w : Wd) (l0 : Nat) (l1 : Int32) (l2 : Int32) (ol0 : okF F l0 9), BD g G F 7 (qX9_layOut G F g) 0 0 (fX9_layOut_24 F N n w l0 l1 l2) w 24 [(0, .ref l0), (1, .int l1), (2, .int l2)] [] := by
    intro n
    induction n with
    | zero =>
      intro w l0 l1 l2 ol0
      unfold fX9_layOut_24
      exact bd_none
    | succ n ih =>
      intro w l0 l1 l2 ol0
      unfold fX9_layOut_24
      refine bd_iload_n C 2 dX9_layOut_24 rfl rfl ?_
      refine bd_iconst C (v := 2) dX9_layOut_25 (by decide) ?_
      refine bd_icmp_ge C 127 dX9_layOut_26 (by decide) (fun c4 => ?_) (fun c4 => ?_)
      · exact bd_vret C hret rfl _ _ rfl rfl dX9_layOut_127 (Nat.le_refl _) (Nat.le_refl _)
      · refine bd_iload_n C 2 dX9_layOut_29 rfl rfl ?_
        refine bd_iload_n C 1 dX9_layOut_30 rfl rfl ?_
        refine bd_callS (vs := fun (r : Int32) => some (.int r)) (wf := fun _ => w) (st := []) (st1 := fun x5 => Value.int x5 :: []) C [.int l2, .int l1] (fun r9 e9 => mX9_row C.flag N e9) mwX9_row miX9_row wd_1444 rfl rfl (Nat.le_of_ble_eq_true rfl) dX9_layOut_31 ⟨rfl, rfl, Nat.le_of_ble_eq_true rfl, Nat.le_of_ble_eq_true rfl, Nat.le_of_ble_eq_true rfl, Nat.le_of_ble_eq_true rfl⟩ (fun _ => rfl) (fun x5 ex5 => ?_)
        refine bd_istore_n C [(3, .int x5), (0, .ref l0), (1, .int l1), (2, .int l2)] dX9_layOut_34 rfl (by decide) rfl ?_
        refine bd_iconst C (v := 0) dX9_layOut_35 (by decide) ?_
        refine bd_istore C [(4, .int 0), (3, .int x5), (0, .ref l0), (1, .int l1), (2, .int l2)] dX9_layOut_36 (by decide) rfl ?_
        exact bd_sub (hb38 _ ih N w l0 l1 l2 x5 0 ol0) [2, 3, 4, 1, 0] rfl
  have hb2 : ∀ (n : Nat) (w : Wd) (l0 : Nat) (l1 : Int32) (l2 : Int32) (ol0 : okF F l0 9), BD g G F 7 (qX9_layOut G F g) 0 0 (fX9_layOut_2 F N n w l0 l1 l2) w 2 [(0, .ref l0), (1, .int l1), (2, .int l2)] [] := by
    intro n
    induction n with
    | zero =>
      intro w l0 l1 l2 ol0
      unfold fX9_layOut_2
      exact bd_none
    | succ n ih =>
      intro w l0 l1 l2 ol0
      unfold fX9_layOut_2
      refine bd_iload_n C 2 dX9_layOut_2 rfl rfl ?_
      refine bd_sipush C (v := 2000) dX9_layOut_3 (by decide) ?_
      refine bd_icmp_ge C 22 dX9_layOut_6 (by decide) (fun c1 => ?_) (fun c1 => ?_)
      · refine bd_iconst C (v := 0) dX9_layOut_22 (by decide) ?_
        refine bd_istore_n C [(2, .int 0), (0, .ref l0), (1, .int l1)] dX9_layOut_23 rfl (by decide) rfl ?_
        exact bd_sub (hb24 N w l0 l1 0 ol0) [1, 2, 0] rfl
      · refine bd_aload_n C 0 dX9_layOut_9 rfl rfl ?_
        refine bd_gR C fi936 fv936 wd_1277 dX9_layOut_10 ol0 (fun r2 gr2 hr2 => ?_)
        refine bd_iload_n C 2 dX9_layOut_13 rfl rfl ?_
        refine bd_lconst C (v := 0) dX9_layOut_14 (by decide) ?_
        refine bd_last C dX9_layOut_15 hr2 (fun w3 => ?_)
        refine bd_iinc C (v := l2 + 1) 2 [(2, .int (l2 + 1)), (0, .ref l0), (1, .int l1)] dX9_layOut_16 rfl rfl (by decide) rfl ?_
        refine bd_goto C 2 dX9_layOut_19 (by decide) ?_
        exact bd_sub (ih w3 l0 l1 (l2 + 1) ol0) [1, 2, 0] rfl
  unfold fX9_layOut
  refine bd_sub (lv' := [(0, .ref l0), (1, .int l1)]) ?_ [0, 1] rfl
  refine bd_iconst C (v := 0) dX9_layOut_0 (by decide) ?_
  refine bd_istore_n C [(2, .int 0), (0, .ref l0), (1, .int l1)] dX9_layOut_1 rfl (by decide) rfl ?_
  exact bd_sub (hb2 N w l0 l1 0 ol0) [1, 2, 0] rfl
abbrev rmX9_compareFrames : Room := { frames := 12, cells := 0, slots := 0, locals := 347 }
abbrev qX9_compareFrames (G : Gy) (F : Fr) (g : Bd) : Wd → State → Prop := fun r => QM G F g 0 0 ((fun _ => none) r) ((fun (r : Wd) => r) r)
set_option maxRecDepth 20000 in
set_option maxHeartbeats 4000000 in
theorem mX9_compareFrames {l : Launch} (hf9 : l.stackTraces = false) {G : Gy} {F : Fr} (N : Nat) {w : Wd} {l0 : Nat} {l1 : Int32} {r : Wd} (ol0 : okF F l0 9) (e9 : fX9_compareFrames F N w l0 l1 = some r) : Met l yX9_compareFrames [.code yX9_compareFrames cX9_compareFrames 8 none] rmX9_compareFrames (PcB G F w [.ref l0, .int l1]) (QB G F ((fun _ => none) r) ((fun (r : Wd) => r) r)) 0 0 (AF F) := by
  refine bd_met (vs := fun _ => none) (wf := fun (r : Wd) => r) hf9 (by decide) (Nat.le_of_ble_eq_true rfl) e9 (fun g C hret hini => ?_)
  clear e9 r
  have hb162 : ∀ (k27 : Wd → Nat → Int32 → Option (Wd)), (∀ (w : Wd) (l0 : Nat) (l2 : Int32) (ol0 : okF F l0 9), BD g G F 8 (qX9_compareFrames G F g) 0 0 (k27 w l0 l2) w 27 [(0, .ref l0), (2, .int l2)] []) → ∀  (w : Wd) (l0 : Nat) (l2 : Int32) (s0 : Nat) (s1 : Int32) (s2 : Int32) (ol0 : okF F l0 9) (os0 : okF F s0 9), BD g G F 8 (qX9_compareFrames G F g) 0 0 (fX9_compareFrames_162 F N k27 w l0 l2 s0 s1 s2) w 162 [(0, .ref l0), (2, .int l2)] [.int s2, .int s1, .ref s0] := by
    intro k27 hk27
    intro w l0 l2 s0 s1 s2 ol0 os0
    unfold fX9_compareFrames_162
    refine bd_iadd C dX9_compareFrames_162 ?_
    refine bd_pI C fi940 ftX9 fu940 wd_1281 rfl rfl rfl dX9_compareFrames_163 os0 (fun w17 => ?_)
    refine bd_iinc C (v := l2 + 1) 1 [(2, .int (l2 + 1)), (0, .ref l0)] dX9_compareFrames_166 rfl rfl (by decide) rfl ?_
    refine bd_goto C 27 dX9_compareFrames_169 (by decide) ?_
    exact bd_sub (hk27 w17 l0 (l2 + 1) ol0) [1, 0] rfl
  have hb141 : ∀ (k27 : Wd → Nat → Int32 → Option (Wd)), (∀ (w : Wd) (l0 : Nat) (l2 : Int32) (ol0 : okF F l0 9), BD g G F 8 (qX9_compareFrames G F g) 0 0 (k27 w l0 l2) w 27 [(0, .ref l0), (2, .int l2)] []) → ∀  (w : Wd) (l0 : Nat) (l2 : Int32) (l3 : Int64) (l5 : Int64) (s0 : Nat) (s1 : Int32) (s2 : Int32) (ol0 : okF F l0 9) (os0 : okF F s0 9), BD g G F 8 (qX9_compareFrames G F g) 0 0 (fX9_compareFrames_141 F N k27 w l0 l2 l3 l5 s0 s1 s2) w 141 [(0, .ref l0), (2, .int l2), (3, .long l3), (5, .long l5)] [.int s2, .int s1, .ref s0] := by
    intro k27 hk27
    intro w l0 l2 l3 l5 s0 s1 s2 ol0 os0
    unfold fX9_compareFrames_141
    refine bd_iadd C dX9_compareFrames_141 ?_
    refine bd_pI C fi939 ftX9 fu939 wd_1280 rfl rfl rfl dX9_compareFrames_142 os0 (fun w15 => ?_)
    refine bd_aload_n C 0 dX9_compareFrames_145 rfl rfl ?_
    refine bd_dup C dX9_compareFrames_146 rfl ?_
    refine bd_gI C fi940 fv940 wd_1281 dX9_compareFrames_147 ol0 ?_
    refine bd_lload_n C 2 dX9_compareFrames_150 rfl rfl ?_
    refine bd_lload C 3 dX9_compareFrames_151 rfl ?_
    refine bd_lcmp C dX9_compareFrames_153 ?_
    refine bd_if_ne C 161 dX9_compareFrames_154 (by decide) (fun c16 => ?_) (fun c16 => ?_)
    · refine bd_iconst C (v := 0) dX9_compareFrames_161 (by decide) ?_
      exact bd_sub (hb162 _ hk27 w15 l0 l2 l0 (gI w15 940 l0) 0 ol0 ol0) [0, 1] rfl
    · refine bd_iconst C (v := 1) dX9_compareFrames_157 (by decide) ?_
      refine bd_goto C 162 dX9_compareFrames_158 (by decide) ?_
      exact bd_sub (hb162 _ hk27 w15 l0 l2 l0 (gI w15 940 l0) 1 ol0 ol0) [0, 1] rfl
  have hb136 : ∀ (k27 : Wd → Nat → Int32 → Option (Wd)), (∀ (w : Wd) (l0 : Nat) (l2 : Int32) (ol0 : okF F l0 9), BD g G F 8 (qX9_compareFrames G F g) 0 0 (k27 w l0 l2) w 27 [(0, .ref l0), (2, .int l2)] []) → ∀  (w : Wd) (l0 : Nat) (l2 : Int32) (l3 : Int64) (l5 : Int64) (s0 : Nat) (s1 : Int32) (ol0 : okF F l0 9) (os0 : okF F s0 9), BD g G F 8 (qX9_compareFrames G F g) 0 0 (fX9_compareFrames_136 F N k27 w l0 l2 l3 l5 s0 s1) w 136 [(0, .ref l0), (2, .int l2), (3, .long l3), (5, .long l5)] [.int s1, .ref s0] := by
    intro k27 hk27
    intro w l0 l2 l3 l5 s0 s1 ol0 os0
    unfold fX9_compareFrames_136
    refine bd_iconst C (v := 1) dX9_compareFrames_136 (by decide) ?_
    refine bd_goto C 141 dX9_compareFrames_137 (by decide) ?_
    exact bd_sub (hb141 _ hk27 w l0 l2 l3 l5 s0 s1 1 ol0 os0) [0, 1, 2, 3] rfl
  have hb114 : ∀ (k27 : Wd → Nat → Int32 → Option (Wd)), (∀ (w : Wd) (l0 : Nat) (l2 : Int32) (ol0 : okF F l0 9), BD g G F 8 (qX9_compareFrames G F g) 0 0 (k27 w l0 l2) w 27 [(0, .ref l0), (2, .int l2)] []) → ∀  (w : Wd) (l0 : Nat) (l2 : Int32) (l3 : Int64) (l5 : Int64) (s0 : Nat) (s1 : Int32) (s2 : Int32) (ol0 : okF F l0 9) (os0 : okF F s0 9), BD g G F 8 (qX9_compareFrames G F g) 0 0 (fX9_compareFrames_114 F N k27 w l0 l2 l3 l5 s0 s1 s2) w 114 [(0, .ref l0), (2, .int l2), (3, .long l3), (5, .long l5)] [.int s2, .int s1, .ref s0] := by
    intro k27 hk27
    intro w l0 l2 l3 l5 s0 s1 s2 ol0 os0
    unfold fX9_compareFrames_114
    refine bd_iadd C dX9_compareFrames_114 ?_
    refine bd_pI C fi938 ftX9 fu938 wd_1279 rfl rfl rfl dX9_compareFrames_115 os0 (fun w12 => ?_)
    refine bd_aload_n C 0 dX9_compareFrames_118 rfl rfl ?_
    refine bd_dup C dX9_compareFrames_119 rfl ?_
    refine bd_gI C fi939 fv939 wd_1280 dX9_compareFrames_120 ol0 ?_
    refine bd_lload_n C 2 dX9_compareFrames_123 rfl rfl ?_
    refine bd_lconst C (v := 0) dX9_compareFrames_124 (by decide) ?_
    refine bd_lcmp C dX9_compareFrames_125 ?_
    refine bd_if_ne C 136 dX9_compareFrames_126 (by decide) (fun c13 => ?_) (fun c13 => ?_)
    · exact bd_sub (hb136 _ hk27 w12 l0 l2 l3 l5 l0 (gI w12 939 l0) ol0 ol0) [0, 1, 2, 3] rfl
    · refine bd_lload C 3 dX9_compareFrames_129 rfl ?_
      refine bd_lconst C (v := 0) dX9_compareFrames_131 (by decide) ?_
      refine bd_lcmp C dX9_compareFrames_132 ?_
      refine bd_if_eq C 140 dX9_compareFrames_133 (by decide) (fun c14 => ?_) (fun c14 => ?_)
      · refine bd_iconst C (v := 0) dX9_compareFrames_140 (by decide) ?_
        exact bd_sub (hb141 _ hk27 w12 l0 l2 l3 l5 l0 (gI w12 939 l0) 0 ol0 ol0) [0, 1, 2, 3] rfl
      · exact bd_sub (hb136 _ hk27 w12 l0 l2 l3 l5 l0 (gI w12 939 l0) ol0 ol0) [0, 1, 2, 3] rfl
  have hb95 : ∀ (k27 : Wd → Nat → Int32 → Option (Wd)), (∀ (w : Wd) (l0 : Nat) (l2 : Int32) (ol0 : okF F l0 9), BD g G F 8 (qX9_compareFrames G F g) 0 0 (k27 w l0 l2) w 27 [(0, .ref l0), (2, .int l2)] []) → ∀  (w : Wd) (l0 : Nat) (l2 : Int32) (l3 : Int64) (l5 : Int64) (l7 : Int32) (s0 : Nat) (s1 : Int32) (s2 : Int32) (ol0 : okF F l0 9) (os0 : okF F s0 9), BD g G F 8 (qX9_compareFrames G F g) 0 0 (fX9_compareFrames_95 F N k27 w l0 l2 l3 l5 l7 s0 s1 s2) w 95 [(0, .ref l0), (2, .int l2), (3, .long l3), (5, .long l5), (7, .int l7)] [.int s2, .int s1, .ref s0] := by
    intro k27 hk27
    intro w l0 l2 l3 l5 l7 s0 s1 s2 ol0 os0
    unfold fX9_compareFrames_95
    refine bd_iadd C dX9_compareFrames_95 ?_
    refine bd_pI C fi937 ftX9 fu937 wd_1278 rfl rfl rfl dX9_compareFrames_96 os0 (fun w10 => ?_)
    refine bd_aload_n C 0 dX9_compareFrames_99 rfl rfl ?_
    refine bd_dup C dX9_compareFrames_100 rfl ?_
    refine bd_gI C fi938 fv938 wd_1279 dX9_compareFrames_101 ol0 ?_
    refine bd_iload C 4 dX9_compareFrames_104 rfl ?_
    refine bd_if_eq C 113 dX9_compareFrames_106 (by decide) (fun c11 => ?_) (fun c11 => ?_)
    · refine bd_iconst C (v := 0) dX9_compareFrames_113 (by decide) ?_
      exact bd_sub (hb114 _ hk27 w10 l0 l2 l3 l5 l0 (gI w10 938 l0) 0 ol0 ol0) [0, 1, 2, 3] rfl
    · refine bd_iconst C (v := 1) dX9_compareFrames_109 (by decide) ?_
      refine bd_goto C 114 dX9_compareFrames_110 (by decide) ?_
      exact bd_sub (hb114 _ hk27 w10 l0 l2 l3 l5 l0 (gI w10 938 l0) 1 ol0 ol0) [0, 1, 2, 3] rfl
  have hb94 : ∀ (k27 : Wd → Nat → Int32 → Option (Wd)), (∀ (w : Wd) (l0 : Nat) (l2 : Int32) (ol0 : okF F l0 9), BD g G F 8 (qX9_compareFrames G F g) 0 0 (k27 w l0 l2) w 27 [(0, .ref l0), (2, .int l2)] []) → ∀  (w : Wd) (l0 : Nat) (l2 : Int32) (l3 : Int64) (l5 : Int64) (l7 : Int32) (s0 : Nat) (s1 : Int32) (ol0 : okF F l0 9) (os0 : okF F s0 9), BD g G F 8 (qX9_compareFrames G F g) 0 0 (fX9_compareFrames_94 F N k27 w l0 l2 l3 l5 l7 s0 s1) w 94 [(0, .ref l0), (2, .int l2), (3, .long l3), (5, .long l5), (7, .int l7)] [.int s1, .ref s0] := by
    intro k27 hk27
    intro w l0 l2 l3 l5 l7 s0 s1 ol0 os0
    unfold fX9_compareFrames_94
    refine bd_iconst C (v := 0) dX9_compareFrames_94 (by decide) ?_
    exact bd_sub (hb95 _ hk27 w l0 l2 l3 l5 l7 s0 s1 0 ol0 os0) [0, 1, 2, 3, 4] rfl
  have hb71 : ∀ (k27 : Wd → Nat → Int32 → Option (Wd)), (∀ (w : Wd) (l0 : Nat) (l2 : Int32) (ol0 : okF F l0 9), BD g G F 8 (qX9_compareFrames G F g) 0 0 (k27 w l0 l2) w 27 [(0, .ref l0), (2, .int l2)] []) → ∀  (w : Wd) (l0 : Nat) (l2 : Int32) (l3 : Int64) (l5 : Int64) (s0 : Int32) (ol0 : okF F l0 9), BD g G F 8 (qX9_compareFrames G F g) 0 0 (fX9_compareFrames_71 F N k27 w l0 l2 l3 l5 s0) w 71 [(0, .ref l0), (2, .int l2), (3, .long l3), (5, .long l5)] [.int s0] := by
    intro k27 hk27
    intro w l0 l2 l3 l5 s0 ol0
    unfold fX9_compareFrames_71
    refine bd_istore C [(7, .int s0), (0, .ref l0), (2, .int l2), (3, .long l3), (5, .long l5)] dX9_compareFrames_71 (by decide) rfl ?_
    refine bd_aload_n C 1 dX9_compareFrames_73 rfl rfl ?_
    refine bd_dup C dX9_compareFrames_74 rfl ?_
    refine bd_gI C fi937 fv937 wd_1278 dX9_compareFrames_75 ol0 ?_
    refine bd_iload C 0 dX9_compareFrames_78 rfl ?_
    refine bd_if_eq C 94 dX9_compareFrames_80 (by decide) (fun c8 => ?_) (fun c8 => ?_)
    · exact bd_sub (hb94 _ hk27 w l0 l2 l3 l5 s0 l0 (gI w 937 l0) ol0 ol0) [1, 2, 3, 4, 0] rfl
    · refine bd_lload_n C 3 dX9_compareFrames_83 rfl rfl ?_
      refine bd_lload C 4 dX9_compareFrames_84 rfl ?_
      refine bd_lcmp C dX9_compareFrames_86 ?_
      refine bd_if_ne C 94 dX9_compareFrames_87 (by decide) (fun c9 => ?_) (fun c9 => ?_)
      · exact bd_sub (hb94 _ hk27 w l0 l2 l3 l5 s0 l0 (gI w 937 l0) ol0 ol0) [1, 2, 3, 4, 0] rfl
      · refine bd_iconst C (v := 1) dX9_compareFrames_90 (by decide) ?_
        refine bd_goto C 95 dX9_compareFrames_91 (by decide) ?_
        exact bd_sub (hb95 _ hk27 w l0 l2 l3 l5 s0 l0 (gI w 937 l0) 1 ol0 ol0) [1, 2, 3, 4, 0] rfl
  have hb70 : ∀ (k27 : Wd → Nat → Int32 → Option (Wd)), (∀ (w : Wd) (l0 : Nat) (l2 : Int32) (ol0 : okF F l0 9), BD g G F 8 (qX9_compareFrames G F g) 0 0 (k27 w l0 l2) w 27 [(0, .ref l0), (2, .int l2)] []) → ∀  (w : Wd) (l0 : Nat) (l2 : Int32) (l3 : Int64) (l5 : Int64) (ol0 : okF F l0 9), BD g G F 8 (qX9_compareFrames G F g) 0 0 (fX9_compareFrames_70 F N k27 w l0 l2 l3 l5) w 70 [(0, .ref l0), (2, .int l2), (3, .long l3), (5, .long l5)] [] := by
    intro k27 hk27
    intro w l0 l2 l3 l5 ol0
    unfold fX9_compareFrames_70
    refine bd_iconst C (v := 0) dX9_compareFrames_70 (by decide) ?_
    exact bd_sub (hb71 _ hk27 w l0 l2 l3 l5 0 ol0) [0, 1, 2, 3] rfl
  have hb27 : ∀ (n : Nat) (w : Wd) (l0 : Nat) (l2 : Int32) (ol0 : okF F l0 9), BD g G F 8 (qX9_compareFrames G F g) 0 0 (fX9_compareFrames_27 F N n w l0 l2) w 27 [(0, .ref l0), (2, .int l2)] [] := by
    intro n
    induction n with
    | zero =>
      intro w l0 l2 ol0
      unfold fX9_compareFrames_27
      exact bd_none
    | succ n ih =>
      intro w l0 l2 ol0
      unfold fX9_compareFrames_27
      refine bd_iload_n C 1 dX9_compareFrames_27 rfl rfl ?_
      refine bd_sipush C (v := 1000) dX9_compareFrames_28 (by decide) ?_
      refine bd_icmp_ge C 172 dX9_compareFrames_31 (by decide) (fun c1 => ?_) (fun c1 => ?_)
      · exact bd_vret C hret rfl _ _ rfl rfl dX9_compareFrames_172 (Nat.le_refl _) (Nat.le_refl _)
      · refine bd_aload_n C 0 dX9_compareFrames_34 rfl rfl ?_
        refine bd_gR C fi936 fv936 wd_1277 dX9_compareFrames_35 ol0 (fun r2 gr2 hr2 => ?_)
        refine bd_iload_n C 1 dX9_compareFrames_38 rfl rfl ?_
        refine bd_lald C dX9_compareFrames_39 hr2 (fun x3 => ?_)
        refine bd_lstore_n C [(3, .long x3), (0, .ref l0), (2, .int l2)] dX9_compareFrames_40 rfl (by decide) rfl ?_
        refine bd_aload_n C 1 dX9_compareFrames_41 rfl rfl ?_
        refine bd_gR C fi936 fv936 wd_1277 dX9_compareFrames_42 ol0 (fun r4 gr4 hr4 => ?_)
        refine bd_sipush C (v := 1000) dX9_compareFrames_45 (by decide) ?_
        refine bd_iload_n C 2 dX9_compareFrames_48 rfl rfl ?_
        refine bd_iadd C dX9_compareFrames_49 ?_
        refine bd_lald C dX9_compareFrames_50 hr4 (fun x5 => ?_)
        refine bd_lstore C [(5, .long x5), (3, .long x3), (0, .ref l0), (2, .int l2)] dX9_compareFrames_51 (by decide) rfl ?_
        refine bd_lload_n C 1 dX9_compareFrames_53 rfl rfl ?_
        refine bd_lconst C (v := 0) dX9_compareFrames_54 (by decide) ?_
        refine bd_lcmp C dX9_compareFrames_55 ?_
        refine bd_if_eq C 70 dX9_compareFrames_56 (by decide) (fun c6 => ?_) (fun c6 => ?_)
        · exact bd_sub (hb70 _ ih w l0 l2 x3 x5 ol0) [2, 3, 1, 0] rfl
        · refine bd_lload C 0 dX9_compareFrames_59 rfl ?_
          refine bd_lconst C (v := 0) dX9_compareFrames_61 (by decide) ?_
          refine bd_lcmp C dX9_compareFrames_62 ?_
          refine bd_if_eq C 70 dX9_compareFrames_63 (by decide) (fun c7 => ?_) (fun c7 => ?_)
          · exact bd_sub (hb70 _ ih w l0 l2 x3 x5 ol0) [2, 3, 1, 0] rfl
          · refine bd_iconst C (v := 1) dX9_compareFrames_66 (by decide) ?_
            refine bd_goto C 71 dX9_compareFrames_67 (by decide) ?_
            exact bd_sub (hb71 _ ih w l0 l2 x3 x5 1 ol0) [2, 3, 1, 0] rfl
  unfold fX9_compareFrames
  refine bd_sub (lv' := [(0, .ref l0), (1, .int l1)]) ?_ [0, 1] rfl
  refine bd_aload_n C 0 dX9_compareFrames_0 rfl rfl ?_
  refine bd_iload_n C 1 dX9_compareFrames_1 rfl rfl ?_
  refine bd_callV (vs := fun _ => none) (wf := fun (r : Wd) => r) (st := []) (st1 := fun p18 => []) C [.int l1] (fun r9 e9 => mX9_layOut C.flag N ol0 e9) mwX9_layOut miX9_layOut wd_1716 ol0 (by decide) rfl rfl rfl (Nat.le_of_ble_eq_true rfl) dX9_compareFrames_2 ⟨rfl, rfl, Nat.le_of_ble_eq_true rfl, Nat.le_of_ble_eq_true rfl, Nat.le_of_ble_eq_true rfl, Nat.le_of_ble_eq_true rfl⟩ (fun _ => rfl) (fun p18 ep18 => ?_)
  refine bd_aload_n C 0 dX9_compareFrames_5 rfl rfl ?_
  refine bd_iconst C (v := 0) dX9_compareFrames_6 (by decide) ?_
  refine bd_pI C fi937 ftX9 fu937 wd_1278 rfl rfl rfl dX9_compareFrames_7 ol0 (fun w19 => ?_)
  refine bd_aload_n C 0 dX9_compareFrames_10 rfl rfl ?_
  refine bd_iconst C (v := 0) dX9_compareFrames_11 (by decide) ?_
  refine bd_pI C fi938 ftX9 fu938 wd_1279 rfl rfl rfl dX9_compareFrames_12 ol0 (fun w20 => ?_)
  refine bd_aload_n C 0 dX9_compareFrames_15 rfl rfl ?_
  refine bd_iconst C (v := 0) dX9_compareFrames_16 (by decide) ?_
  refine bd_pI C fi939 ftX9 fu939 wd_1280 rfl rfl rfl dX9_compareFrames_17 ol0 (fun w21 => ?_)
  refine bd_aload_n C 0 dX9_compareFrames_20 rfl rfl ?_
  refine bd_iconst C (v := 0) dX9_compareFrames_21 (by decide) ?_
  refine bd_pI C fi940 ftX9 fu940 wd_1281 rfl rfl rfl dX9_compareFrames_22 ol0 (fun w22 => ?_)
  refine bd_iconst C (v := 0) dX9_compareFrames_25 (by decide) ?_
  refine bd_istore_n C [(2, .int 0), (0, .ref l0), (1, .int l1)] dX9_compareFrames_26 rfl (by decide) rfl ?_
  exact bd_sub (hb27 N w22 l0 0 ol0) [1, 0] rfl
abbrev rmX9_frames : Room := { frames := 13, cells := 0, slots := 0, locals := 374 }
abbrev qX9_frames (G : Gy) (F : Fr) (g : Bd) : (Int32 × Wd) → State → Prop := fun r => QM G F g 0 0 ((fun (r : Int32 × Wd) => some (.int r.1)) r) ((fun (r : Int32 × Wd) => r.2) r)
set_option maxRecDepth 20000 in
set_option maxHeartbeats 4000000 in
theorem mX9_frames {l : Launch} (hf9 : l.stackTraces = false) {G : Gy} {F : Fr} (N : Nat) {w : Wd} {l0 : Nat} {l1 : Int32} {l2 : Int32} {r : Int32 × Wd} (ol0 : okF F l0 9) (e9 : fX9_frames F N w l0 l1 l2 = some r) : Met l yX9_frames [.code yX9_frames cX9_frames 3 (some .int)] rmX9_frames (PcB G F w [.ref l0, .int l1, .int l2]) (QB G F ((fun (r : Int32 × Wd) => some (.int r.1)) r) ((fun (r : Int32 × Wd) => r.2) r)) 0 0 (AF F) := by
  refine bd_met (vs := fun (r : Int32 × Wd) => some (.int r.1)) (wf := fun (r : Int32 × Wd) => r.2) hf9 (by decide) (Nat.le_of_ble_eq_true rfl) e9 (fun g C hret hini => ?_)
  clear e9 r
  have hb27 : ∀  (w : Wd) (l0 : Nat) (l1 : Int32) (l2 : Int32) (s0 : Nat) (s1 : Int32) (ol0 : okF F l0 9) (os0 : okF F s0 9), BD g G F 3 (qX9_frames G F g) 0 0 (fX9_frames_27 F N w l0 l1 l2 s0 s1) w 27 [(0, .ref l0), (1, .int l1), (2, .int l2)] [.int s1, .ref s0] := by
    intro w l0 l1 l2 s0 s1 ol0 os0
    unfold fX9_frames_27
    refine bd_pI C fi906 ftX9 fu906 wd_1247 rfl rfl rfl dX9_frames_27 os0 (fun w1 => ?_)
    refine bd_aload_n C 0 dX9_frames_30 rfl rfl ?_
    refine bd_gI C fi906 fv906 wd_1247 dX9_frames_31 ol0 ?_
    refine bd_if_le C 39 dX9_frames_34 (by decide) (fun c2 => ?_) (fun c2 => ?_)
    · refine bd_iload_n C 2 dX9_frames_39 rfl rfl ?_
      refine bd_iconst C (v := 2) dX9_frames_40 (by decide) ?_
      refine bd_icmp_ge C 51 dX9_frames_41 (by decide) (fun c3 => ?_) (fun c3 => ?_)
      · refine bd_aload_n C 0 dX9_frames_51 rfl rfl ?_
        refine bd_iload_n C 1 dX9_frames_52 rfl rfl ?_
        refine bd_callV (vs := fun _ => none) (wf := fun (r : Wd) => r) (st := []) (st1 := fun p4 => []) C [.int l1] (fun r9 e9 => mX9_compareFrames C.flag N ol0 e9) mwX9_compareFrames miX9_compareFrames wd_1712 ol0 (by decide) rfl rfl rfl (Nat.le_of_ble_eq_true rfl) dX9_frames_53 ⟨rfl, rfl, Nat.le_of_ble_eq_true rfl, Nat.le_of_ble_eq_true rfl, Nat.le_of_ble_eq_true rfl, Nat.le_of_ble_eq_true rfl⟩ (fun _ => rfl) (fun p4 ep4 => ?_)
        refine bd_iload_n C 2 dX9_frames_56 rfl rfl ?_
        refine bd_iconst C (v := 2) dX9_frames_57 (by decide) ?_
        refine bd_icmp_ne C 68 dX9_frames_58 (by decide) (fun c5 => ?_) (fun c5 => ?_)
        · refine bd_iload_n C 2 dX9_frames_68 rfl rfl ?_
          refine bd_iconst C (v := 3) dX9_frames_69 (by decide) ?_
          refine bd_icmp_ne C 80 dX9_frames_70 (by decide) (fun c6 => ?_) (fun c6 => ?_)
          · refine bd_aload_n C 0 dX9_frames_80 rfl rfl ?_
            refine bd_gI C fi939 fv939 wd_1280 dX9_frames_81 ol0 ?_
            exact bd_iret C hret rfl _ _ rfl rfl dX9_frames_84 (Nat.le_refl _) (Nat.le_refl _)
          · refine bd_aload_n C 0 dX9_frames_73 rfl rfl ?_
            refine bd_gI C fi938 fv938 wd_1279 dX9_frames_74 ol0 ?_
            refine bd_goto C 84 dX9_frames_77 (by decide) ?_
            exact bd_iret C hret rfl _ _ rfl rfl dX9_frames_84 (Nat.le_refl _) (Nat.le_refl _)
        · refine bd_aload_n C 0 dX9_frames_61 rfl rfl ?_
          refine bd_gI C fi937 fv937 wd_1278 dX9_frames_62 ol0 ?_
          refine bd_goto C 84 dX9_frames_65 (by decide) ?_
          exact bd_iret C hret rfl _ _ rfl rfl dX9_frames_84 (Nat.le_refl _) (Nat.le_refl _)
      · refine bd_aload_n C 0 dX9_frames_44 rfl rfl ?_
        refine bd_iload_n C 2 dX9_frames_45 rfl rfl ?_
        refine bd_iload_n C 1 dX9_frames_46 rfl rfl ?_
        refine bd_callV (vs := fun (r : Int32) => some (.int r)) (wf := fun _ => w1) (st := []) (st1 := fun x7 => Value.int x7 :: []) C [.int l2, .int l1] (fun r9 e9 => mX9_framesOf C.flag N ol0 e9) mwX9_framesOf miX9_framesOf wd_1447 ol0 (by decide) rfl rfl rfl (Nat.le_of_ble_eq_true rfl) dX9_frames_47 ⟨rfl, rfl, Nat.le_of_ble_eq_true rfl, Nat.le_of_ble_eq_true rfl, Nat.le_of_ble_eq_true rfl, Nat.le_of_ble_eq_true rfl⟩ (fun _ => rfl) (fun x7 ex7 => ?_)
        exact bd_iret C hret rfl _ _ rfl rfl dX9_frames_50 (Nat.le_refl _) (Nat.le_refl _)
    · refine bd_iconst C (v := 0) dX9_frames_37 (by decide) ?_
      exact bd_iret C hret rfl _ _ rfl rfl dX9_frames_38 (Nat.le_refl _) (Nat.le_refl _)
  unfold fX9_frames
  refine bd_sub (lv' := [(0, .ref l0), (1, .int l1), (2, .int l2)]) ?_ [0, 1, 2] rfl
  refine bd_aload_n C 0 dX9_frames_0 rfl rfl ?_
  refine bd_aload_n C 0 dX9_frames_1 rfl rfl ?_
  refine bd_iload_n C 1 dX9_frames_2 rfl rfl ?_
  refine bd_callV (vs := fun (r : Int32) => some (.int r)) (wf := fun _ => w) (st := [.ref l0]) (st1 := fun x8 => Value.int x8 :: [.ref l0]) C [.int l1] (fun r9 e9 => mX9_isTier C.flag N ol0 e9) mwX9_isTier miX9_isTier wd_1402 ol0 (by decide) rfl rfl rfl (Nat.le_of_ble_eq_true rfl) dX9_frames_3 ⟨rfl, rfl, Nat.le_of_ble_eq_true rfl, Nat.le_of_ble_eq_true rfl, Nat.le_of_ble_eq_true rfl, Nat.le_of_ble_eq_true rfl⟩ (fun _ => rfl) (fun x8 ex8 => ?_)
  refine bd_if_ne C 13 dX9_frames_6 (by decide) (fun c9 => ?_) (fun c9 => ?_)
  · refine bd_iload_n C 2 dX9_frames_13 rfl rfl ?_
    refine bd_iconst C (v := 0) dX9_frames_14 (by decide) ?_
    refine bd_iconst C (v := 4) dX9_frames_15 (by decide) ?_
    refine bd_callS (vs := fun (r : Int32) => some (.int r)) (wf := fun _ => w) (st := [.ref l0]) (st1 := fun x10 => Value.int x10 :: [.ref l0]) C [.int l2, .int 0, .int 4] (fun r9 e9 => mX9_in C.flag N e9) mwX9_in miX9_in wd_1399 rfl rfl (Nat.le_of_ble_eq_true rfl) dX9_frames_16 ⟨rfl, rfl, Nat.le_of_ble_eq_true rfl, Nat.le_of_ble_eq_true rfl, Nat.le_of_ble_eq_true rfl, Nat.le_of_ble_eq_true rfl⟩ (fun _ => rfl) (fun x10 ex10 => ?_)
    refine bd_if_ne C 26 dX9_frames_19 (by decide) (fun c11 => ?_) (fun c11 => ?_)
    · refine bd_iconst C (v := 0) dX9_frames_26 (by decide) ?_
      exact bd_sub (hb27 w l0 l1 l2 l0 0 ol0 ol0) [0, 1, 2] rfl
    · refine bd_iconst C (v := 2) dX9_frames_22 (by decide) ?_
      refine bd_goto C 27 dX9_frames_23 (by decide) ?_
      exact bd_sub (hb27 w l0 l1 l2 l0 2 ol0 ol0) [0, 1, 2] rfl
  · refine bd_iconst C (v := 1) dX9_frames_9 (by decide) ?_
    refine bd_goto C 27 dX9_frames_10 (by decide) ?_
    exact bd_sub (hb27 w l0 l1 l2 l0 1 ol0 ol0) [0, 1, 2] rfl
abbrev rmX9_agreement : Room := { frames := 13, cells := 0, slots := 0, locals := 374 }
abbrev qX9_agreement (G : Gy) (F : Fr) (g : Bd) : (UInt32 × Wd) → State → Prop := fun r => QM G F g 0 0 ((fun (r : UInt32 × Wd) => some (.float r.1)) r) ((fun (r : UInt32 × Wd) => r.2) r)
set_option maxRecDepth 20000 in
set_option maxHeartbeats 4000000 in
theorem mX9_agreement {l : Launch} (hf9 : l.stackTraces = false) {G : Gy} {F : Fr} (N : Nat) {w : Wd} {l0 : Nat} {l1 : Int32} {r : UInt32 × Wd} (ol0 : okF F l0 9) (e9 : fX9_agreement F N w l0 l1 = some r) : Met l yX9_agreement [.code yX9_agreement cX9_agreement 2 (some .float)] rmX9_agreement (PcB G F w [.ref l0, .int l1]) (QB G F ((fun (r : UInt32 × Wd) => some (.float r.1)) r) ((fun (r : UInt32 × Wd) => r.2) r)) 0 0 (AF F) := by
  refine bd_met (vs := fun (r : UInt32 × Wd) => some (.float r.1)) (wf := fun (r : UInt32 × Wd) => r.2) hf9 (by decide) (Nat.le_of_ble_eq_true rfl) e9 (fun g C hret hini => ?_)
  clear e9 r
  have hb44 : ∀  (w : Wd) (l0 : Nat) (s0 : Nat) (s1 : Int32) (ol0 : okF F l0 9) (os0 : okF F s0 9), BD g G F 2 (qX9_agreement G F g) 0 0 (fX9_agreement_44 F N w l0 s0 s1) w 44 [(0, .ref l0)] [.int s1, .ref s0] := by
    intro w l0 s0 s1 ol0 os0
    unfold fX9_agreement_44
    refine bd_pI C fi906 ftX9 fu906 wd_1247 rfl rfl rfl dX9_agreement_44 os0 (fun w5 => ?_)
    refine bd_aload_n C 0 dX9_agreement_47 rfl rfl ?_
    refine bd_gI C fi906 fv906 wd_1247 dX9_agreement_48 ol0 ?_
    refine bd_if_le C 58 dX9_agreement_51 (by decide) (fun c6 => ?_) (fun c6 => ?_)
    · refine bd_aload_n C 0 dX9_agreement_58 rfl rfl ?_
      refine bd_gI C fi937 fv937 wd_1278 dX9_agreement_59 ol0 ?_
      refine bd_i2f C dX9_agreement_62 ?_
      refine bd_aload_n C 0 dX9_agreement_63 rfl rfl ?_
      refine bd_gI C fi939 fv939 wd_1280 dX9_agreement_64 ol0 ?_
      refine bd_i2f C dX9_agreement_67 ?_
      refine bd_fdiv C dX9_agreement_68 (fun v7 => ?_)
      exact bd_fret C hret rfl _ _ rfl rfl dX9_agreement_69 (Nat.le_refl _) (Nat.le_refl _)
    · refine bd_fconst0 C dX9_agreement_54 ?_
      refine bd_goto C 69 dX9_agreement_55 (by decide) ?_
      exact bd_fret C hret rfl _ _ rfl rfl dX9_agreement_69 (Nat.le_refl _) (Nat.le_refl _)
  have hb14 : ∀  (w : Wd) (l0 : Nat) (l1 : Int32) (s0 : Nat) (s1 : Int32) (ol0 : okF F l0 9) (os0 : okF F s0 9), BD g G F 2 (qX9_agreement G F g) 0 0 (fX9_agreement_14 F N w l0 l1 s0 s1) w 14 [(0, .ref l0), (1, .int l1)] [.int s1, .ref s0] := by
    intro w l0 l1 s0 s1 ol0 os0
    unfold fX9_agreement_14
    refine bd_pI C fi906 ftX9 fu906 wd_1247 rfl rfl rfl dX9_agreement_14 os0 (fun w1 => ?_)
    refine bd_aload_n C 0 dX9_agreement_17 rfl rfl ?_
    refine bd_gI C fi906 fv906 wd_1247 dX9_agreement_18 ol0 ?_
    refine bd_if_le C 26 dX9_agreement_21 (by decide) (fun c2 => ?_) (fun c2 => ?_)
    · refine bd_aload_n C 0 dX9_agreement_26 rfl rfl ?_
      refine bd_iload_n C 1 dX9_agreement_27 rfl rfl ?_
      refine bd_callV (vs := fun _ => none) (wf := fun (r : Wd) => r) (st := []) (st1 := fun p3 => []) C [.int l1] (fun r9 e9 => mX9_compareFrames C.flag N ol0 e9) mwX9_compareFrames miX9_compareFrames wd_1712 ol0 (by decide) rfl rfl rfl (Nat.le_of_ble_eq_true rfl) dX9_agreement_28 ⟨rfl, rfl, Nat.le_of_ble_eq_true rfl, Nat.le_of_ble_eq_true rfl, Nat.le_of_ble_eq_true rfl, Nat.le_of_ble_eq_true rfl⟩ (fun _ => rfl) (fun p3 ep3 => ?_)
      refine bd_aload_n C 0 dX9_agreement_31 rfl rfl ?_
      refine bd_aload_n C 0 dX9_agreement_32 rfl rfl ?_
      refine bd_gI C fi939 fv939 wd_1280 dX9_agreement_33 ol0 ?_
      refine bd_if_ne C 43 dX9_agreement_36 (by decide) (fun c4 => ?_) (fun c4 => ?_)
      · refine bd_iconst C (v := 0) dX9_agreement_43 (by decide) ?_
        exact bd_sub (hb44 p3 l0 l0 0 ol0 ol0) [0] rfl
      · refine bd_iconst C (v := 2) dX9_agreement_39 (by decide) ?_
        refine bd_goto C 44 dX9_agreement_40 (by decide) ?_
        exact bd_sub (hb44 p3 l0 l0 2 ol0 ol0) [0] rfl
    · refine bd_fconst0 C dX9_agreement_24 ?_
      exact bd_fret C hret rfl _ _ rfl rfl dX9_agreement_25 (Nat.le_refl _) (Nat.le_refl _)
  unfold fX9_agreement
  refine bd_sub (lv' := [(0, .ref l0), (1, .int l1)]) ?_ [0, 1] rfl
  refine bd_aload_n C 0 dX9_agreement_0 rfl rfl ?_
  refine bd_aload_n C 0 dX9_agreement_1 rfl rfl ?_
  refine bd_iload_n C 1 dX9_agreement_2 rfl rfl ?_
  refine bd_callV (vs := fun (r : Int32) => some (.int r)) (wf := fun _ => w) (st := [.ref l0]) (st1 := fun x8 => Value.int x8 :: [.ref l0]) C [.int l1] (fun r9 e9 => mX9_isTier C.flag N ol0 e9) mwX9_isTier miX9_isTier wd_1402 ol0 (by decide) rfl rfl rfl (Nat.le_of_ble_eq_true rfl) dX9_agreement_3 ⟨rfl, rfl, Nat.le_of_ble_eq_true rfl, Nat.le_of_ble_eq_true rfl, Nat.le_of_ble_eq_true rfl, Nat.le_of_ble_eq_true rfl⟩ (fun _ => rfl) (fun x8 ex8 => ?_)
  refine bd_if_eq C 13 dX9_agreement_6 (by decide) (fun c9 => ?_) (fun c9 => ?_)
  · refine bd_iconst C (v := 1) dX9_agreement_13 (by decide) ?_
    exact bd_sub (hb14 w l0 l1 l0 1 ol0 ol0) [0, 1] rfl
  · refine bd_iconst C (v := 0) dX9_agreement_9 (by decide) ?_
    refine bd_goto C 14 dX9_agreement_10 (by decide) ?_
    exact bd_sub (hb14 w l0 l1 l0 0 ol0 ol0) [0, 1] rfl
abbrev rmX9_labelledAs : Room := { frames := 11, cells := 0, slots := 0, locals := 321 }
abbrev qX9_labelledAs (G : Gy) (F : Fr) (g : Bd) (w : Wd) : Int32 → State → Prop := fun r => QM G F g 0 0 ((fun (r : Int32) => some (.int r)) r) ((fun _ => w) r)
set_option maxRecDepth 20000 in
set_option maxHeartbeats 4000000 in
theorem mX9_labelledAs {l : Launch} (hf9 : l.stackTraces = false) {G : Gy} {F : Fr} (N : Nat) {w : Wd} {l0 : Nat} {l1 : Int32} {l2 : Int32} {l3 : Int64} {r : Int32} (ol0 : okF F l0 9) (e9 : fX9_labelledAs F N w l0 l1 l2 l3 = some r) : Met l yX9_labelledAs [.code yX9_labelledAs cX9_labelledAs 8 (some .int)] rmX9_labelledAs (PcB G F w [.ref l0, .int l1, .int l2, .long l3]) (QB G F ((fun (r : Int32) => some (.int r)) r) ((fun _ => w) r)) 0 0 (AF F) := by
  refine bd_met (vs := fun (r : Int32) => some (.int r)) (wf := fun _ => w) hf9 (by decide) (Nat.le_of_ble_eq_true rfl) e9 (fun g C hret hini => ?_)
  clear e9 r
  have hb82 : ∀ (k13 : Nat → Int64 → Int32 → Int32 → Int32 → Option (Int32)), (∀ (l0 : Nat) (l3 : Int64) (l5 : Int32) (l6 : Int32) (l7 : Int32) (ol0 : okF F l0 9), BD g G F 8 (qX9_labelledAs G F g w) 0 0 (k13 l0 l3 l5 l6 l7) w 13 [(0, .ref l0), (3, .long l3), (5, .int l5), (6, .int l6), (7, .int l7)] []) → ∀  (l0 : Nat) (l3 : Int64) (l5 : Int32) (l7 : Int32) (s0 : Int32) (s1 : Int32) (ol0 : okF F l0 9), BD g G F 8 (qX9_labelledAs G F g w) 0 0 (fX9_labelledAs_82 F N w k13 l0 l3 l5 l7 s0 s1) w 82 [(0, .ref l0), (3, .long l3), (5, .int l5), (7, .int l7)] [.int s1, .int s0] := by
    intro k13 hk13
    intro l0 l3 l5 l7 s0 s1 ol0
    unfold fX9_labelledAs_82
    refine bd_iadd C dX9_labelledAs_82 ?_
    refine bd_bnd (tp := Value.int) (fun v11 ev11 => ?_)
    refine bd_istore C [(6, .int v11), (0, .ref l0), (3, .long l3), (5, .int l5), (7, .int l7)] dX9_labelledAs_83 (by decide) rfl ?_
    refine bd_iinc C (v := l7 + 1) 4 [(7, .int (l7 + 1)), (6, .int v11), (0, .ref l0), (3, .long l3), (5, .int l5)] dX9_labelledAs_85 rfl rfl (by decide) rfl ?_
    refine bd_goto C 13 dX9_labelledAs_88 (by decide) ?_
    exact bd_sub (hk13 l0 l3 l5 v11 (l7 + 1) ol0) [2, 3, 4, 1, 0] rfl
  have hb13 : ∀ (n : Nat) (l0 : Nat) (l3 : Int64) (l5 : Int32) (l6 : Int32) (l7 : Int32) (ol0 : okF F l0 9), BD g G F 8 (qX9_labelledAs G F g w) 0 0 (fX9_labelledAs_13 F N w n l0 l3 l5 l6 l7) w 13 [(0, .ref l0), (3, .long l3), (5, .int l5), (6, .int l6), (7, .int l7)] [] := by
    intro n
    induction n with
    | zero =>
      intro l0 l3 l5 l6 l7 ol0
      unfold fX9_labelledAs_13
      exact bd_none
    | succ n ih =>
      intro l0 l3 l5 l6 l7 ol0
      unfold fX9_labelledAs_13
      refine bd_iload C 4 dX9_labelledAs_13 rfl ?_
      refine bd_i2l C dX9_labelledAs_15 ?_
      refine bd_aload_n C 0 dX9_labelledAs_16 rfl rfl ?_
      refine bd_gR C fi900 fv900 wd_1241 dX9_labelledAs_17 ol0 (fun r1 gr1 hr1 => ?_)
      refine bd_iload C 2 dX9_labelledAs_20 rfl ?_
      refine bd_lald C dX9_labelledAs_22 hr1 (fun x2 => ?_)
      refine bd_lcmp C dX9_labelledAs_23 ?_
      refine bd_if_ge C 91 dX9_labelledAs_24 (by decide) (fun c3 => ?_) (fun c3 => ?_)
      · refine bd_iload C 3 dX9_labelledAs_91 rfl ?_
        exact bd_iret C hret rfl _ _ rfl rfl dX9_labelledAs_93 (Nat.le_refl _) (Nat.le_refl _)
      · refine bd_iload C 3 dX9_labelledAs_27 rfl ?_
        refine bd_aload_n C 0 dX9_labelledAs_29 rfl rfl ?_
        refine bd_gR C fi900 fv900 wd_1241 dX9_labelledAs_30 ol0 (fun r4 gr4 hr4 => ?_)
        refine bd_iload C 2 dX9_labelledAs_33 rfl ?_
        refine bd_iconst C (v := 3) dX9_labelledAs_35 (by decide) ?_
        refine bd_iadd C dX9_labelledAs_36 ?_
        refine bd_iconst C (v := 3) dX9_labelledAs_37 (by decide) ?_
        refine bd_iload C 4 dX9_labelledAs_38 rfl ?_
        refine bd_imul C dX9_labelledAs_40 ?_
        refine bd_iadd C dX9_labelledAs_41 ?_
        refine bd_lald C dX9_labelledAs_42 hr4 (fun x5 => ?_)
        refine bd_lload_n C 1 dX9_labelledAs_43 rfl rfl ?_
        refine bd_lcmp C dX9_labelledAs_44 ?_
        refine bd_if_ne C 81 dX9_labelledAs_45 (by decide) (fun c6 => ?_) (fun c6 => ?_)
        · refine bd_iconst C (v := 0) dX9_labelledAs_81 (by decide) ?_
          exact bd_sub (hb82 _ ih l0 l3 l5 l7 l6 0 ol0) [0, 1, 2, 4] rfl
        · refine bd_aload_n C 0 dX9_labelledAs_48 rfl rfl ?_
          refine bd_gR C fi900 fv900 wd_1241 dX9_labelledAs_49 ol0 (fun r7 gr7 hr7 => ?_)
          refine bd_iload C 2 dX9_labelledAs_52 rfl ?_
          refine bd_iconst C (v := 2) dX9_labelledAs_54 (by decide) ?_
          refine bd_iadd C dX9_labelledAs_55 ?_
          refine bd_iconst C (v := 3) dX9_labelledAs_56 (by decide) ?_
          refine bd_iload C 4 dX9_labelledAs_57 rfl ?_
          refine bd_imul C dX9_labelledAs_59 ?_
          refine bd_iadd C dX9_labelledAs_60 ?_
          refine bd_lald C dX9_labelledAs_61 hr7 (fun x8 => ?_)
          refine bd_aload_n C 0 dX9_labelledAs_62 rfl rfl ?_
          refine bd_gR C fi900 fv900 wd_1241 dX9_labelledAs_63 ol0 (fun r9 gr9 hr9 => ?_)
          refine bd_iload C 2 dX9_labelledAs_66 rfl ?_
          refine bd_iconst C (v := 1) dX9_labelledAs_68 (by decide) ?_
          refine bd_iadd C dX9_labelledAs_69 ?_
          refine bd_iconst C (v := 3) dX9_labelledAs_70 (by decide) ?_
          refine bd_iload C 4 dX9_labelledAs_71 rfl ?_
          refine bd_imul C dX9_labelledAs_73 ?_
          refine bd_iadd C dX9_labelledAs_74 ?_
          refine bd_lald C dX9_labelledAs_75 hr9 (fun x10 => ?_)
          refine bd_lsub C dX9_labelledAs_76 ?_
          refine bd_l2i C dX9_labelledAs_77 ?_
          refine bd_goto C 82 dX9_labelledAs_78 (by decide) ?_
          exact bd_sub (hb82 _ ih l0 l3 l5 l7 l6 ((x8 - x10).toInt32) ol0) [0, 1, 2, 4] rfl
  unfold fX9_labelledAs
  refine bd_sub (lv' := [(0, .ref l0), (1, .int l1), (2, .int l2), (3, .long l3)]) ?_ [0, 1, 2, 3] rfl
  refine bd_iload_n C 1 dX9_labelledAs_0 rfl rfl ?_
  refine bd_iload_n C 2 dX9_labelledAs_1 rfl rfl ?_
  refine bd_callS (vs := fun (r : Int32) => some (.int r)) (wf := fun _ => w) (st := []) (st1 := fun x12 => Value.int x12 :: []) C [.int l1, .int l2] (fun r9 e9 => mX9_row C.flag N e9) mwX9_row miX9_row wd_1444 rfl rfl (Nat.le_of_ble_eq_true rfl) dX9_labelledAs_2 ⟨rfl, rfl, Nat.le_of_ble_eq_true rfl, Nat.le_of_ble_eq_true rfl, Nat.le_of_ble_eq_true rfl, Nat.le_of_ble_eq_true rfl⟩ (fun _ => rfl) (fun x12 ex12 => ?_)
  refine bd_istore C [(5, .int x12), (0, .ref l0), (1, .int l1), (2, .int l2), (3, .long l3)] dX9_labelledAs_5 (by decide) rfl ?_
  refine bd_iconst C (v := 0) dX9_labelledAs_7 (by decide) ?_
  refine bd_istore C [(6, .int 0), (5, .int x12), (0, .ref l0), (1, .int l1), (2, .int l2), (3, .long l3)] dX9_labelledAs_8 (by decide) rfl ?_
  refine bd_iconst C (v := 0) dX9_labelledAs_10 (by decide) ?_
  refine bd_istore C [(7, .int 0), (6, .int 0), (5, .int x12), (0, .ref l0), (1, .int l1), (2, .int l2), (3, .long l3)] dX9_labelledAs_11 (by decide) rfl ?_
  exact bd_sub (hb13 N l0 l3 x12 0 0 ol0) [3, 6, 2, 1, 0] rfl
abbrev rmX9_products : Room := { frames := 12, cells := 0, slots := 0, locals := 348 }
abbrev qX9_products (G : Gy) (F : Fr) (g : Bd) (w : Wd) : Int32 → State → Prop := fun r => QM G F g 0 0 ((fun (r : Int32) => some (.int r)) r) ((fun _ => w) r)
set_option maxRecDepth 20000 in
set_option maxHeartbeats 4000000 in
theorem mX9_products {l : Launch} (hf9 : l.stackTraces = false) {G : Gy} {F : Fr} (N : Nat) {w : Wd} {l0 : Nat} {l1 : Int32} {r : Int32} (ol0 : okF F l0 9) (e9 : fX9_products F N w l0 l1 = some r) : Met l yX9_products [.code yX9_products cX9_products 5 (some .int)] rmX9_products (PcB G F w [.ref l0, .int l1]) (QB G F ((fun (r : Int32) => some (.int r)) r) ((fun _ => w) r)) 0 0 (AF F) := by
  refine bd_met (vs := fun (r : Int32) => some (.int r)) (wf := fun _ => w) hf9 (by decide) (Nat.le_of_ble_eq_true rfl) e9 (fun g C hret hini => ?_)
  clear e9 r
  have hb31 : ∀ (n : Nat) (l0 : Nat) (l1 : Int32) (l2 : Int32) (l3 : Int32) (l4 : Int32) (ol0 : okF F l0 9), BD g G F 5 (qX9_products G F g w) 0 0 (fX9_products_31 F N w n l0 l1 l2 l3 l4) w 31 [(0, .ref l0), (1, .int l1), (2, .int l2), (3, .int l3), (4, .int l4)] [] := by
    intro n
    induction n with
    | zero =>
      intro l0 l1 l2 l3 l4 ol0
      unfold fX9_products_31
      exact bd_none
    | succ n ih =>
      intro l0 l1 l2 l3 l4 ol0
      unfold fX9_products_31
      refine bd_iload C 4 dX9_products_31 rfl ?_
      refine bd_i2l C dX9_products_33 ?_
      refine bd_aload_n C 0 dX9_products_34 rfl rfl ?_
      refine bd_gR C fi900 fv900 wd_1241 dX9_products_35 ol0 (fun r1 gr1 hr1 => ?_)
      refine bd_iload_n C 3 dX9_products_38 rfl rfl ?_
      refine bd_lald C dX9_products_39 hr1 (fun x2 => ?_)
      refine bd_lcmp C dX9_products_40 ?_
      refine bd_if_ge C 101 dX9_products_41 (by decide) (fun c3 => ?_) (fun c3 => ?_)
      · refine bd_iload_n C 2 dX9_products_101 rfl rfl ?_
        exact bd_iret C hret rfl _ _ rfl rfl dX9_products_102 (Nat.le_refl _) (Nat.le_refl _)
      · refine bd_iload_n C 2 dX9_products_44 rfl rfl ?_
        refine bd_aload_n C 0 dX9_products_45 rfl rfl ?_
        refine bd_gR C fi900 fv900 wd_1241 dX9_products_46 ol0 (fun r4 gr4 hr4 => ?_)
        refine bd_iload_n C 3 dX9_products_49 rfl rfl ?_
        refine bd_iconst C (v := 2) dX9_products_50 (by decide) ?_
        refine bd_iadd C dX9_products_51 ?_
        refine bd_iconst C (v := 3) dX9_products_52 (by decide) ?_
        refine bd_iload C 4 dX9_products_53 rfl ?_
        refine bd_imul C dX9_products_55 ?_
        refine bd_iadd C dX9_products_56 ?_
        refine bd_lald C dX9_products_57 hr4 (fun x5 => ?_)
        refine bd_aload_n C 0 dX9_products_58 rfl rfl ?_
        refine bd_gR C fi900 fv900 wd_1241 dX9_products_59 ol0 (fun r6 gr6 hr6 => ?_)
        refine bd_iload_n C 3 dX9_products_62 rfl rfl ?_
        refine bd_iconst C (v := 1) dX9_products_63 (by decide) ?_
        refine bd_iadd C dX9_products_64 ?_
        refine bd_iconst C (v := 3) dX9_products_65 (by decide) ?_
        refine bd_iload C 4 dX9_products_66 rfl ?_
        refine bd_imul C dX9_products_68 ?_
        refine bd_iadd C dX9_products_69 ?_
        refine bd_lald C dX9_products_70 hr6 (fun x7 => ?_)
        refine bd_lsub C dX9_products_71 ?_
        refine bd_l2i C dX9_products_72 ?_
        refine bd_aload_n C 0 dX9_products_73 rfl rfl ?_
        refine bd_iconst C (v := 1) dX9_products_74 (by decide) ?_
        refine bd_iload_n C 1 dX9_products_75 rfl rfl ?_
        refine bd_aload_n C 0 dX9_products_76 rfl rfl ?_
        refine bd_gR C fi900 fv900 wd_1241 dX9_products_77 ol0 (fun r8 gr8 hr8 => ?_)
        refine bd_iload_n C 3 dX9_products_80 rfl rfl ?_
        refine bd_iconst C (v := 3) dX9_products_81 (by decide) ?_
        refine bd_iadd C dX9_products_82 ?_
        refine bd_iconst C (v := 3) dX9_products_83 (by decide) ?_
        refine bd_iload C 4 dX9_products_84 rfl ?_
        refine bd_imul C dX9_products_86 ?_
        refine bd_iadd C dX9_products_87 ?_
        refine bd_lald C dX9_products_88 hr8 (fun x9 => ?_)
        refine bd_callV (vs := fun (r : Int32) => some (.int r)) (wf := fun _ => w) (st := [.int ((x5 - x7).toInt32), .int l2]) (st1 := fun x10 => Value.int x10 :: [.int ((x5 - x7).toInt32), .int l2]) C [.int 1, .int l1, .long x9] (fun r9 e9 => mX9_labelledAs C.flag N ol0 e9) mwX9_labelledAs miX9_labelledAs wd_1732 ol0 (by decide) rfl rfl rfl (Nat.le_of_ble_eq_true rfl) dX9_products_89 ⟨rfl, rfl, Nat.le_of_ble_eq_true rfl, Nat.le_of_ble_eq_true rfl, Nat.le_of_ble_eq_true rfl, Nat.le_of_ble_eq_true rfl⟩ (fun _ => rfl) (fun x10 ex10 => ?_)
        refine bd_imul C dX9_products_92 ?_
        refine bd_iadd C dX9_products_93 ?_
        refine bd_bnd (tp := Value.int) (fun v11 ev11 => ?_)
        refine bd_istore_n C [(2, .int v11), (0, .ref l0), (1, .int l1), (3, .int l3), (4, .int l4)] dX9_products_94 rfl (by decide) rfl ?_
        refine bd_iinc C (v := l4 + 1) 4 [(4, .int (l4 + 1)), (2, .int v11), (0, .ref l0), (1, .int l1), (3, .int l3)] dX9_products_95 rfl rfl (by decide) rfl ?_
        refine bd_goto C 31 dX9_products_98 (by decide) ?_
        exact bd_sub (ih l0 l1 v11 l3 (l4 + 1) ol0) [2, 3, 1, 4, 0] rfl
  unfold fX9_products
  refine bd_sub (lv' := [(0, .ref l0), (1, .int l1)]) ?_ [0, 1] rfl
  refine bd_sipush C (v := 1000) dX9_products_0 (by decide) ?_
  refine bd_aload_n C 0 dX9_products_3 rfl rfl ?_
  refine bd_iconst C (v := 0) dX9_products_4 (by decide) ?_
  refine bd_iload_n C 1 dX9_products_5 rfl rfl ?_
  refine bd_callV (vs := fun (r : Int32) => some (.int r)) (wf := fun _ => w) (st := [.int 1000]) (st1 := fun x12 => Value.int x12 :: [.int 1000]) C [.int 0, .int l1] (fun r9 e9 => mX9_framesOf C.flag N ol0 e9) mwX9_framesOf miX9_framesOf wd_1447 ol0 (by decide) rfl rfl rfl (Nat.le_of_ble_eq_true rfl) dX9_products_6 ⟨rfl, rfl, Nat.le_of_ble_eq_true rfl, Nat.le_of_ble_eq_true rfl, Nat.le_of_ble_eq_true rfl, Nat.le_of_ble_eq_true rfl⟩ (fun _ => rfl) (fun x12 ex12 => ?_)
  refine bd_isub C dX9_products_9 ?_
  refine bd_sipush C (v := 1000) dX9_products_10 (by decide) ?_
  refine bd_aload_n C 0 dX9_products_13 rfl rfl ?_
  refine bd_iconst C (v := 1) dX9_products_14 (by decide) ?_
  refine bd_iload_n C 1 dX9_products_15 rfl rfl ?_
  refine bd_callV (vs := fun (r : Int32) => some (.int r)) (wf := fun _ => w) (st := [.int 1000, .int (1000 - x12)]) (st1 := fun x13 => Value.int x13 :: [.int 1000, .int (1000 - x12)]) C [.int 1, .int l1] (fun r9 e9 => mX9_framesOf C.flag N ol0 e9) mwX9_framesOf miX9_framesOf wd_1447 ol0 (by decide) rfl rfl rfl (Nat.le_of_ble_eq_true rfl) dX9_products_16 ⟨rfl, rfl, Nat.le_of_ble_eq_true rfl, Nat.le_of_ble_eq_true rfl, Nat.le_of_ble_eq_true rfl, Nat.le_of_ble_eq_true rfl⟩ (fun _ => rfl) (fun x13 ex13 => ?_)
  refine bd_isub C dX9_products_19 ?_
  refine bd_imul C dX9_products_20 ?_
  refine bd_bnd (tp := Value.int) (fun v14 ev14 => ?_)
  refine bd_istore_n C [(2, .int v14), (0, .ref l0), (1, .int l1)] dX9_products_21 rfl (by decide) rfl ?_
  refine bd_iconst C (v := 0) dX9_products_22 (by decide) ?_
  refine bd_iload_n C 2 dX9_products_23 rfl rfl ?_
  refine bd_callS (vs := fun (r : Int32) => some (.int r)) (wf := fun _ => w) (st := []) (st1 := fun x15 => Value.int x15 :: []) C [.int 0, .int l1] (fun r9 e9 => mX9_row C.flag N e9) mwX9_row miX9_row wd_1444 rfl rfl (Nat.le_of_ble_eq_true rfl) dX9_products_24 ⟨rfl, rfl, Nat.le_of_ble_eq_true rfl, Nat.le_of_ble_eq_true rfl, Nat.le_of_ble_eq_true rfl, Nat.le_of_ble_eq_true rfl⟩ (fun _ => rfl) (fun x15 ex15 => ?_)
  refine bd_istore_n C [(3, .int x15), (2, .int v14), (0, .ref l0), (1, .int l1)] dX9_products_27 rfl (by decide) rfl ?_
  refine bd_iconst C (v := 0) dX9_products_28 (by decide) ?_
  refine bd_istore C [(4, .int 0), (3, .int x15), (2, .int v14), (0, .ref l0), (1, .int l1)] dX9_products_29 (by decide) rfl ?_
  exact bd_sub (hb31 N l0 l1 v14 x15 0 ol0) [3, 4, 2, 1, 0] rfl
abbrev rmX9_kappa : Room := { frames := 13, cells := 0, slots := 0, locals := 374 }
abbrev qX9_kappa (G : Gy) (F : Fr) (g : Bd) : (UInt64 × Wd) → State → Prop := fun r => QM G F g 0 0 ((fun (r : UInt64 × Wd) => some (.double r.1)) r) ((fun (r : UInt64 × Wd) => r.2) r)
set_option maxRecDepth 20000 in
set_option maxHeartbeats 4000000 in
theorem mX9_kappa {l : Launch} (hf9 : l.stackTraces = false) {G : Gy} {F : Fr} (N : Nat) {w : Wd} {l0 : Nat} {l1 : Int32} {r : UInt64 × Wd} (ol0 : okF F l0 9) (e9 : fX9_kappa F N w l0 l1 = some r) : Met l yX9_kappa [.code yX9_kappa cX9_kappa 7 (some .double)] rmX9_kappa (PcB G F w [.ref l0, .int l1]) (QB G F ((fun (r : UInt64 × Wd) => some (.double r.1)) r) ((fun (r : UInt64 × Wd) => r.2) r)) 0 0 (AF F) := by
  refine bd_met (vs := fun (r : UInt64 × Wd) => some (.double r.1)) (wf := fun (r : UInt64 × Wd) => r.2) hf9 (by decide) (Nat.le_of_ble_eq_true rfl) e9 (fun g C hret hini => ?_)
  clear e9 r
  have hb45 : ∀  (w : Wd) (l0 : Nat) (l1 : Int32) (l2 : Int32) (s0 : Nat) (s1 : Int32) (ol0 : okF F l0 9) (os0 : okF F s0 9), BD g G F 7 (qX9_kappa G F g) 0 0 (fX9_kappa_45 F N w l0 l1 l2 s0 s1) w 45 [(0, .ref l0), (1, .int l1), (2, .int l2)] [.int s1, .ref s0] := by
    intro w l0 l1 l2 s0 s1 ol0 os0
    unfold fX9_kappa_45
    refine bd_pI C fi906 ftX9 fu906 wd_1247 rfl rfl rfl dX9_kappa_45 os0 (fun w5 => ?_)
    refine bd_aload_n C 0 dX9_kappa_48 rfl rfl ?_
    refine bd_gI C fi906 fv906 wd_1247 dX9_kappa_49 ol0 ?_
    refine bd_if_le C 57 dX9_kappa_52 (by decide) (fun c6 => ?_) (fun c6 => ?_)
    · refine bd_aload_n C 0 dX9_kappa_57 rfl rfl ?_
      refine bd_iload_n C 1 dX9_kappa_58 rfl rfl ?_
      refine bd_callV (vs := fun _ => none) (wf := fun (r : Wd) => r) (st := []) (st1 := fun p7 => []) C [.int l1] (fun r9 e9 => mX9_compareFrames C.flag N ol0 e9) mwX9_compareFrames miX9_compareFrames wd_1712 ol0 (by decide) rfl rfl rfl (Nat.le_of_ble_eq_true rfl) dX9_kappa_59 ⟨rfl, rfl, Nat.le_of_ble_eq_true rfl, Nat.le_of_ble_eq_true rfl, Nat.le_of_ble_eq_true rfl, Nat.le_of_ble_eq_true rfl⟩ (fun _ => rfl) (fun p7 ep7 => ?_)
      refine bd_aload_n C 0 dX9_kappa_62 rfl rfl ?_
      refine bd_gI C fi940 fv940 wd_1281 dX9_kappa_63 ol0 ?_
      refine bd_i2d C dX9_kappa_66 ?_
      refine bd_ldc2d C (v := 4652007308841189376) wd_1737 dX9_kappa_67 ?_
      refine bd_ddiv C dX9_kappa_70 (fun v8 => ?_)
      refine bd_dstore_n C [(3, .double v8), (0, .ref l0), (1, .int l1), (2, .int l2)] dX9_kappa_71 rfl (by decide) rfl ?_
      refine bd_iload_n C 3 dX9_kappa_72 rfl rfl ?_
      refine bd_i2d C dX9_kappa_73 ?_
      refine bd_ldc2d C (v := 4696837146684686336) wd_1738 dX9_kappa_74 ?_
      refine bd_ddiv C dX9_kappa_77 (fun v9 => ?_)
      refine bd_dstore C [(5, .double v9), (3, .double v8), (0, .ref l0), (1, .int l1), (2, .int l2)] dX9_kappa_78 (by decide) rfl ?_
      refine bd_dload_n C 1 dX9_kappa_80 rfl rfl ?_
      refine bd_dload C 0 dX9_kappa_81 rfl ?_
      refine bd_dsub C dX9_kappa_83 (fun v10 => ?_)
      refine bd_dconst1 C dX9_kappa_84 ?_
      refine bd_dload C 0 dX9_kappa_85 rfl ?_
      refine bd_dsub C dX9_kappa_87 (fun v11 => ?_)
      refine bd_ddiv C dX9_kappa_88 (fun v12 => ?_)
      exact bd_dret C hret rfl _ _ rfl rfl dX9_kappa_89 (Nat.le_refl _) (Nat.le_refl _)
    · refine bd_dconst0 C dX9_kappa_55 ?_
      exact bd_dret C hret rfl _ _ rfl rfl dX9_kappa_56 (Nat.le_refl _) (Nat.le_refl _)
  have hb14 : ∀  (w : Wd) (l0 : Nat) (l1 : Int32) (s0 : Nat) (s1 : Int32) (ol0 : okF F l0 9) (os0 : okF F s0 9), BD g G F 7 (qX9_kappa G F g) 0 0 (fX9_kappa_14 F N w l0 l1 s0 s1) w 14 [(0, .ref l0), (1, .int l1)] [.int s1, .ref s0] := by
    intro w l0 l1 s0 s1 ol0 os0
    unfold fX9_kappa_14
    refine bd_pI C fi906 ftX9 fu906 wd_1247 rfl rfl rfl dX9_kappa_14 os0 (fun w1 => ?_)
    refine bd_aload_n C 0 dX9_kappa_17 rfl rfl ?_
    refine bd_gI C fi906 fv906 wd_1247 dX9_kappa_18 ol0 ?_
    refine bd_if_le C 26 dX9_kappa_21 (by decide) (fun c2 => ?_) (fun c2 => ?_)
    · refine bd_aload_n C 0 dX9_kappa_26 rfl rfl ?_
      refine bd_iload_n C 1 dX9_kappa_27 rfl rfl ?_
      refine bd_callV (vs := fun (r : Int32) => some (.int r)) (wf := fun _ => w1) (st := []) (st1 := fun x3 => Value.int x3 :: []) C [.int l1] (fun r9 e9 => mX9_products C.flag N ol0 e9) mwX9_products miX9_products wd_1728 ol0 (by decide) rfl rfl rfl (Nat.le_of_ble_eq_true rfl) dX9_kappa_28 ⟨rfl, rfl, Nat.le_of_ble_eq_true rfl, Nat.le_of_ble_eq_true rfl, Nat.le_of_ble_eq_true rfl, Nat.le_of_ble_eq_true rfl⟩ (fun _ => rfl) (fun x3 ex3 => ?_)
      refine bd_istore_n C [(2, .int x3), (0, .ref l0), (1, .int l1)] dX9_kappa_31 rfl (by decide) rfl ?_
      refine bd_aload_n C 1 dX9_kappa_32 rfl rfl ?_
      refine bd_iload_n C 0 dX9_kappa_33 rfl rfl ?_
      refine bd_ldcw C (v := 1000000) wd_1736 dX9_kappa_34 ?_
      refine bd_icmp_ne C 44 dX9_kappa_37 (by decide) (fun c4 => ?_) (fun c4 => ?_)
      · refine bd_iconst C (v := 0) dX9_kappa_44 (by decide) ?_
        exact bd_sub (hb45 w1 l0 l1 x3 l0 0 ol0 ol0) [1, 2, 0] rfl
      · refine bd_iconst C (v := 2) dX9_kappa_40 (by decide) ?_
        refine bd_goto C 45 dX9_kappa_41 (by decide) ?_
        exact bd_sub (hb45 w1 l0 l1 x3 l0 2 ol0 ol0) [1, 2, 0] rfl
    · refine bd_dconst0 C dX9_kappa_24 ?_
      exact bd_dret C hret rfl _ _ rfl rfl dX9_kappa_25 (Nat.le_refl _) (Nat.le_refl _)
  unfold fX9_kappa
  refine bd_sub (lv' := [(0, .ref l0), (1, .int l1)]) ?_ [0, 1] rfl
  refine bd_aload_n C 0 dX9_kappa_0 rfl rfl ?_
  refine bd_aload_n C 0 dX9_kappa_1 rfl rfl ?_
  refine bd_iload_n C 1 dX9_kappa_2 rfl rfl ?_
  refine bd_callV (vs := fun (r : Int32) => some (.int r)) (wf := fun _ => w) (st := [.ref l0]) (st1 := fun x13 => Value.int x13 :: [.ref l0]) C [.int l1] (fun r9 e9 => mX9_isTier C.flag N ol0 e9) mwX9_isTier miX9_isTier wd_1402 ol0 (by decide) rfl rfl rfl (Nat.le_of_ble_eq_true rfl) dX9_kappa_3 ⟨rfl, rfl, Nat.le_of_ble_eq_true rfl, Nat.le_of_ble_eq_true rfl, Nat.le_of_ble_eq_true rfl, Nat.le_of_ble_eq_true rfl⟩ (fun _ => rfl) (fun x13 ex13 => ?_)
  refine bd_if_eq C 13 dX9_kappa_6 (by decide) (fun c14 => ?_) (fun c14 => ?_)
  · refine bd_iconst C (v := 1) dX9_kappa_13 (by decide) ?_
    exact bd_sub (hb14 w l0 l1 l0 1 ol0 ol0) [0, 1] rfl
  · refine bd_iconst C (v := 0) dX9_kappa_9 (by decide) ?_
    refine bd_goto C 14 dX9_kappa_10 (by decide) ?_
    exact bd_sub (hb14 w l0 l1 l0 0 ol0 ol0) [0, 1] rfl
abbrev rmX9_isConsistent : Room := { frames := 10, cells := 0, slots := 0, locals := 300 }
abbrev qX9_isConsistent (G : Gy) (F : Fr) (g : Bd) : (Int32 × Wd) → State → Prop := fun r => QM G F g 0 0 ((fun (r : Int32 × Wd) => some (.int r.1)) r) ((fun (r : Int32 × Wd) => r.2) r)
set_option maxRecDepth 20000 in
set_option maxHeartbeats 4000000 in
theorem mX9_isConsistent {l : Launch} (hf9 : l.stackTraces = false) {G : Gy} {F : Fr} (N : Nat) {w : Wd} {l0 : Nat} {r : Int32 × Wd} (ol0 : okF F l0 9) (e9 : fX9_isConsistent F N w l0 = some r) : Met l yX9_isConsistent [.code yX9_isConsistent cX9_isConsistent 1 (some .boolean)] rmX9_isConsistent (PcB G F w [.ref l0]) (QB G F ((fun (r : Int32 × Wd) => some (.int r.1)) r) ((fun (r : Int32 × Wd) => r.2) r)) 0 0 (AF F) := by
  refine bd_met (vs := fun (r : Int32 × Wd) => some (.int r.1)) (wf := fun (r : Int32 × Wd) => r.2) hf9 (by decide) (Nat.le_of_ble_eq_true rfl) e9 (fun g C hret hini => ?_)
  clear e9 r
  unfold fX9_isConsistent
  refine bd_sub (lv' := [(0, .ref l0)]) ?_ [0] rfl
  refine bd_aload_n C 0 dX9_isConsistent_0 rfl rfl ?_
  refine bd_iconst C (v := 0) dX9_isConsistent_1 (by decide) ?_
  refine bd_pI C fi906 ftX9 fu906 wd_1247 rfl rfl rfl dX9_isConsistent_2 ol0 (fun w1 => ?_)
  refine bd_iconst C (v := 1) dX9_isConsistent_5 (by decide) ?_
  exact bd_zret C hret rfl _ _ rfl rfl rfl dX9_isConsistent_6 (Nat.le_refl _) (Nat.le_refl _)
abbrev rmX9_number : Room := { frames := 11, cells := 0, slots := 0, locals := 322 }
abbrev qX9_number (G : Gy) (F : Fr) (g : Bd) : (Int32 × Wd) → State → Prop := fun r => QM G F g 0 0 ((fun (r : Int32 × Wd) => some (.int r.1)) r) ((fun (r : Int32 × Wd) => r.2) r)
set_option maxRecDepth 20000 in
set_option maxHeartbeats 4000000 in
theorem mX9_number {l : Launch} (hf9 : l.stackTraces = false) {G : Gy} {F : Fr} (N : Nat) {w : Wd} {l0 : Nat} {r : Int32 × Wd} (ol0 : okF F l0 9) (e9 : fX9_number F N w l0 = some r) : Met l yX9_number [.code yX9_number cX9_number 4 (some .int)] rmX9_number (PcB G F w [.ref l0]) (QB G F ((fun (r : Int32 × Wd) => some (.int r.1)) r) ((fun (r : Int32 × Wd) => r.2) r)) 0 0 (AF F) := by
  refine bd_met (vs := fun (r : Int32 × Wd) => some (.int r.1)) (wf := fun (r : Int32 × Wd) => r.2) hf9 (by decide) (Nat.le_of_ble_eq_true rfl) e9 (fun g C hret hini => ?_)
  clear e9 r
  have hb49 : ∀ (n : Nat) (w : Wd) (l0 : Nat) (l1 : Int32) (l2 : Int32) (l3 : Int32) (ol0 : okF F l0 9), BD g G F 4 (qX9_number G F g) 0 0 (fX9_number_49 F N n w l0 l1 l2 l3) w 49 [(0, .ref l0), (1, .int l1), (2, .int l2), (3, .int l3)] [] := by
    intro n
    induction n with
    | zero =>
      intro w l0 l1 l2 l3 ol0
      unfold fX9_number_49
      exact bd_none
    | succ n ih =>
      intro w l0 l1 l2 l3 ol0
      unfold fX9_number_49
      refine bd_iload_n C 3 dX9_number_49 rfl rfl ?_
      refine bd_iload_n C 2 dX9_number_50 rfl rfl ?_
      refine bd_icmp_ge C 104 dX9_number_51 (by decide) (fun c6 => ?_) (fun c6 => ?_)
      · refine bd_iload_n C 1 dX9_number_104 rfl rfl ?_
        exact bd_iret C hret rfl _ _ rfl rfl dX9_number_105 (Nat.le_refl _) (Nat.le_refl _)
      · refine bd_aload_n C 0 dX9_number_54 rfl rfl ?_
        refine bd_gI C fi910 fv910 wd_1251 dX9_number_55 ol0 ?_
        refine bd_if_ne C 104 dX9_number_58 (by decide) (fun c7 => ?_) (fun c7 => ?_)
        · refine bd_iload_n C 1 dX9_number_104 rfl rfl ?_
          exact bd_iret C hret rfl _ _ rfl rfl dX9_number_105 (Nat.le_refl _) (Nat.le_refl _)
        · refine bd_aload_n C 0 dX9_number_61 rfl rfl ?_
          refine bd_callV (vs := fun (r : Int32) => some (.int r)) (wf := fun _ => w) (st := []) (st1 := fun x8 => Value.int x8 :: []) C [] (fun r9 e9 => mX9_here C.flag N ol0 e9) mwX9_here miX9_here wd_1491 ol0 (by decide) rfl rfl rfl (Nat.le_of_ble_eq_true rfl) dX9_number_62 ⟨rfl, rfl, Nat.le_of_ble_eq_true rfl, Nat.le_of_ble_eq_true rfl, Nat.le_of_ble_eq_true rfl, Nat.le_of_ble_eq_true rfl⟩ (fun _ => rfl) (fun x8 ex8 => ?_)
          refine bd_bipush C (v := 48) dX9_number_65 (by decide) ?_
          refine bd_bipush C (v := 57) dX9_number_67 (by decide) ?_
          refine bd_callS (vs := fun (r : Int32) => some (.int r)) (wf := fun _ => w) (st := []) (st1 := fun x9 => Value.int x9 :: []) C [.int x8, .int 48, .int 57] (fun r9 e9 => mX9_in C.flag N e9) mwX9_in miX9_in wd_1399 rfl rfl (Nat.le_of_ble_eq_true rfl) dX9_number_69 ⟨rfl, rfl, Nat.le_of_ble_eq_true rfl, Nat.le_of_ble_eq_true rfl, Nat.le_of_ble_eq_true rfl, Nat.le_of_ble_eq_true rfl⟩ (fun _ => rfl) (fun x9 ex9 => ?_)
          refine bd_if_eq C 104 dX9_number_72 (by decide) (fun c10 => ?_) (fun c10 => ?_)
          · refine bd_iload_n C 1 dX9_number_104 rfl rfl ?_
            exact bd_iret C hret rfl _ _ rfl rfl dX9_number_105 (Nat.le_refl _) (Nat.le_refl _)
          · refine bd_bipush C (v := 10) dX9_number_75 (by decide) ?_
            refine bd_iload_n C 1 dX9_number_77 rfl rfl ?_
            refine bd_imul C dX9_number_78 ?_
            refine bd_aload_n C 0 dX9_number_79 rfl rfl ?_
            refine bd_callV (vs := fun (r : Int32) => some (.int r)) (wf := fun _ => w) (st := [.int (10 * l1)]) (st1 := fun x11 => Value.int x11 :: [.int (10 * l1)]) C [] (fun r9 e9 => mX9_here C.flag N ol0 e9) mwX9_here miX9_here wd_1491 ol0 (by decide) rfl rfl rfl (Nat.le_of_ble_eq_true rfl) dX9_number_80 ⟨rfl, rfl, Nat.le_of_ble_eq_true rfl, Nat.le_of_ble_eq_true rfl, Nat.le_of_ble_eq_true rfl, Nat.le_of_ble_eq_true rfl⟩ (fun _ => rfl) (fun x11 ex11 => ?_)
            refine bd_iadd C dX9_number_83 ?_
            refine bd_bipush C (v := 48) dX9_number_84 (by decide) ?_
            refine bd_isub C dX9_number_86 ?_
            refine bd_bnd (tp := Value.int) (fun v12 ev12 => ?_)
            refine bd_istore_n C [(1, .int v12), (0, .ref l0), (2, .int l2), (3, .int l3)] dX9_number_87 rfl (by decide) rfl ?_
            refine bd_aload_n C 1 dX9_number_88 rfl rfl ?_
            refine bd_dup C dX9_number_89 rfl ?_
            refine bd_gI C fi909 fv909 wd_1250 dX9_number_90 ol0 ?_
            refine bd_iconst C (v := 1) dX9_number_93 (by decide) ?_
            refine bd_iadd C dX9_number_94 ?_
            refine bd_pI C fi909 ftX9 fu909 wd_1250 rfl rfl rfl dX9_number_95 ol0 (fun w13 => ?_)
            refine bd_iinc C (v := l3 + 1) 3 [(3, .int (l3 + 1)), (1, .int v12), (0, .ref l0), (2, .int l2)] dX9_number_98 rfl rfl (by decide) rfl ?_
            refine bd_goto C 49 dX9_number_101 (by decide) ?_
            exact bd_sub (ih w13 l0 v12 l2 (l3 + 1) ol0) [2, 1, 3, 0] rfl
  have hb46 : ∀  (w : Wd) (l0 : Nat) (l1 : Int32) (s0 : Int32) (ol0 : okF F l0 9), BD g G F 4 (qX9_number G F g) 0 0 (fX9_number_46 F N w l0 l1 s0) w 46 [(0, .ref l0), (1, .int l1)] [.int s0] := by
    intro w l0 l1 s0 ol0
    unfold fX9_number_46
    refine bd_istore_n C [(2, .int s0), (0, .ref l0), (1, .int l1)] dX9_number_46 rfl (by decide) rfl ?_
    refine bd_iconst C (v := 0) dX9_number_47 (by decide) ?_
    refine bd_istore_n C [(3, .int 0), (2, .int s0), (0, .ref l0), (1, .int l1)] dX9_number_48 rfl (by decide) rfl ?_
    exact bd_sub (hb49 N w l0 l1 s0 0 ol0) [2, 3, 1, 0] rfl
  have hb27 : ∀  (w : Wd) (l0 : Nat) (s0 : Nat) (s1 : Int32) (ol0 : okF F l0 9) (os0 : okF F s0 9), BD g G F 4 (qX9_number G F g) 0 0 (fX9_number_27 F N w l0 s0 s1) w 27 [(0, .ref l0)] [.int s1, .ref s0] := by
    intro w l0 s0 s1 ol0 os0
    unfold fX9_number_27
    refine bd_ckZ (fun cz1 => ?_)
    refine bd_pI C fi910 ftX9 fu910 wd_1251 rfl (nar_z cz1) (fit_z cz1) dX9_number_27 os0 (fun w3 => ?_)
    refine bd_iconst C (v := 0) dX9_number_30 (by decide) ?_
    refine bd_istore_n C [(1, .int 0), (0, .ref l0)] dX9_number_31 rfl (by decide) rfl ?_
    refine bd_aload_n C 1 dX9_number_32 rfl rfl ?_
    refine bd_callV (vs := fun (r : Int32) => some (.int r)) (wf := fun _ => w3) (st := []) (st1 := fun x4 => Value.int x4 :: []) C [] (fun r9 e9 => mX9_here C.flag N ol0 e9) mwX9_here miX9_here wd_1491 ol0 (by decide) rfl rfl rfl (Nat.le_of_ble_eq_true rfl) dX9_number_33 ⟨rfl, rfl, Nat.le_of_ble_eq_true rfl, Nat.le_of_ble_eq_true rfl, Nat.le_of_ble_eq_true rfl, Nat.le_of_ble_eq_true rfl⟩ (fun _ => rfl) (fun x4 ex4 => ?_)
    refine bd_bipush C (v := 48) dX9_number_36 (by decide) ?_
    refine bd_icmp_ne C 45 dX9_number_38 (by decide) (fun c5 => ?_) (fun c5 => ?_)
    · refine bd_iconst C (v := 4) dX9_number_45 (by decide) ?_
      exact bd_sub (hb46 w3 l0 0 4 ol0) [1, 0] rfl
    · refine bd_iconst C (v := 1) dX9_number_41 (by decide) ?_
      refine bd_goto C 46 dX9_number_42 (by decide) ?_
      exact bd_sub (hb46 w3 l0 0 1 ol0) [1, 0] rfl
  have hb22 : ∀  (w : Wd) (l0 : Nat) (s0 : Nat) (ol0 : okF F l0 9) (os0 : okF F s0 9), BD g G F 4 (qX9_number G F g) 0 0 (fX9_number_22 F N w l0 s0) w 22 [(0, .ref l0)] [.ref s0] := by
    intro w l0 s0 ol0 os0
    unfold fX9_number_22
    refine bd_iconst C (v := 1) dX9_number_22 (by decide) ?_
    refine bd_goto C 27 dX9_number_23 (by decide) ?_
    exact bd_sub (hb27 w l0 s0 1 ol0 os0) [0] rfl
  unfold fX9_number
  refine bd_sub (lv' := [(0, .ref l0)]) ?_ [0] rfl
  refine bd_aload_n C 0 dX9_number_0 rfl rfl ?_
  refine bd_aload_n C 0 dX9_number_1 rfl rfl ?_
  refine bd_gI C fi910 fv910 wd_1251 dX9_number_2 ol0 ?_
  refine bd_if_ne C 22 dX9_number_5 (by decide) (fun c14 => ?_) (fun c14 => ?_)
  · exact bd_sub (hb22 w l0 l0 ol0 ol0) [0] rfl
  · refine bd_aload_n C 0 dX9_number_8 rfl rfl ?_
    refine bd_callV (vs := fun (r : Int32) => some (.int r)) (wf := fun _ => w) (st := [.ref l0]) (st1 := fun x15 => Value.int x15 :: [.ref l0]) C [] (fun r9 e9 => mX9_here C.flag N ol0 e9) mwX9_here miX9_here wd_1491 ol0 (by decide) rfl rfl rfl (Nat.le_of_ble_eq_true rfl) dX9_number_9 ⟨rfl, rfl, Nat.le_of_ble_eq_true rfl, Nat.le_of_ble_eq_true rfl, Nat.le_of_ble_eq_true rfl, Nat.le_of_ble_eq_true rfl⟩ (fun _ => rfl) (fun x15 ex15 => ?_)
    refine bd_bipush C (v := 48) dX9_number_12 (by decide) ?_
    refine bd_bipush C (v := 57) dX9_number_14 (by decide) ?_
    refine bd_callS (vs := fun (r : Int32) => some (.int r)) (wf := fun _ => w) (st := [.ref l0]) (st1 := fun x16 => Value.int x16 :: [.ref l0]) C [.int x15, .int 48, .int 57] (fun r9 e9 => mX9_in C.flag N e9) mwX9_in miX9_in wd_1399 rfl rfl (Nat.le_of_ble_eq_true rfl) dX9_number_16 ⟨rfl, rfl, Nat.le_of_ble_eq_true rfl, Nat.le_of_ble_eq_true rfl, Nat.le_of_ble_eq_true rfl, Nat.le_of_ble_eq_true rfl⟩ (fun _ => rfl) (fun x16 ex16 => ?_)
    refine bd_if_ne C 26 dX9_number_19 (by decide) (fun c17 => ?_) (fun c17 => ?_)
    · refine bd_iconst C (v := 0) dX9_number_26 (by decide) ?_
      exact bd_sub (hb27 w l0 l0 0 ol0 ol0) [0] rfl
    · exact bd_sub (hb22 w l0 l0 ol0 ol0) [0] rfl
abbrev rmX9_readItem : Room := { frames := 13, cells := 0, slots := 0, locals := 368 }
abbrev qX9_readItem (G : Gy) (F : Fr) (g : Bd) : Wd → State → Prop := fun r => QM G F g 0 0 ((fun _ => none) r) ((fun (r : Wd) => r) r)
set_option maxRecDepth 20000 in
set_option maxHeartbeats 4000000 in
theorem mX9_readItem {l : Launch} (hf9 : l.stackTraces = false) {G : Gy} {F : Fr} (N : Nat) {w : Wd} {l0 : Nat} {r : Wd} (ol0 : okF F l0 9) (e9 : fX9_readItem F N w l0 = some r) : Met l yX9_readItem [.code yX9_readItem cX9_readItem 1 none] rmX9_readItem (PcB G F w [.ref l0]) (QB G F ((fun _ => none) r) ((fun (r : Wd) => r) r)) 0 0 (AF F) := by
  refine bd_met (vs := fun _ => none) (wf := fun (r : Wd) => r) hf9 (by decide) (Nat.le_of_ble_eq_true rfl) e9 (fun g C hret hini => ?_)
  clear e9 r
  have hb90 : ∀  (w : Wd) (l0 : Nat) (s0 : Nat) (s1 : Int32) (s2 : Nat) (s3 : Int32) (ol0 : okF F l0 9) (os0 : okF F s0 12) (os2 : okF F s2 9), BD g G F 1 (qX9_readItem G F g) 0 0 (fX9_readItem_90 F N w l0 s0 s1 s2 s3) w 90 [(0, .ref l0)] [.int s3, .ref s2, .int s1, .ref s0] := by
    intro w l0 s0 s1 s2 s3 ol0 os0 os2
    unfold fX9_readItem_90
    refine bd_callV (vs := fun (r : Int64 × Wd) => some (.long r.1)) (wf := fun (r : Int64 × Wd) => r.2) (st := [.int s1, .ref s0]) (st1 := fun p1 => Value.long p1.1 :: [.int s1, .ref s0]) C [.int s3] (fun r9 e9 => mX9_readLabel C.flag N os2 e9) mwX9_readLabel miX9_readLabel wd_1487 os2 (by decide) rfl rfl rfl (Nat.le_of_ble_eq_true rfl) dX9_readItem_90 ⟨rfl, rfl, Nat.le_of_ble_eq_true rfl, Nat.le_of_ble_eq_true rfl, Nat.le_of_ble_eq_true rfl, Nat.le_of_ble_eq_true rfl⟩ (fun _ => rfl) (fun p1 ep1 => ?_)
    refine bd_last C dX9_readItem_93 os0 (fun w2 => ?_)
    refine bd_aload_n C 0 dX9_readItem_94 rfl rfl ?_
    refine bd_dup C dX9_readItem_95 rfl ?_
    refine bd_gI C fi945 fv945 wd_1286 dX9_readItem_96 ol0 ?_
    refine bd_iconst C (v := 1) dX9_readItem_99 (by decide) ?_
    refine bd_iadd C dX9_readItem_100 ?_
    refine bd_pI C fi945 ftX9 fu945 wd_1286 rfl rfl rfl dX9_readItem_101 ol0 (fun w3 => ?_)
    exact bd_vret C hret rfl _ _ rfl rfl dX9_readItem_104 (Nat.le_refl _) (Nat.le_refl _)
  unfold fX9_readItem
  refine bd_sub (lv' := [(0, .ref l0)]) ?_ [0] rfl
  refine bd_aload_n C 0 dX9_readItem_0 rfl rfl ?_
  refine bd_gR C fi941 fv941 wd_1282 dX9_readItem_1 ol0 (fun r4 gr4 hr4 => ?_)
  refine bd_aload_n C 0 dX9_readItem_4 rfl rfl ?_
  refine bd_gI C fi945 fv945 wd_1286 dX9_readItem_5 ol0 ?_
  refine bd_aload_n C 0 dX9_readItem_8 rfl rfl ?_
  refine bd_callV (vs := fun (r : Int32 × Wd) => some (.int r.1)) (wf := fun (r : Int32 × Wd) => r.2) (st := [.int (gI w 945 l0), .ref r4]) (st1 := fun p5 => Value.int p5.1 :: [.int (gI w 945 l0), .ref r4]) C [] (fun r9 e9 => mX9_readTierNumber C.flag N ol0 e9) mwX9_readTierNumber miX9_readTierNumber wd_1662 ol0 (by decide) rfl rfl rfl (Nat.le_of_ble_eq_true rfl) dX9_readItem_9 ⟨rfl, rfl, Nat.le_of_ble_eq_true rfl, Nat.le_of_ble_eq_true rfl, Nat.le_of_ble_eq_true rfl, Nat.le_of_ble_eq_true rfl⟩ (fun _ => rfl) (fun p5 ep5 => ?_)
  refine bd_iast C dX9_readItem_12 hr4 (fun w6 => ?_)
  refine bd_aload_n C 0 dX9_readItem_13 rfl rfl ?_
  refine bd_bipush C (v := 58) dX9_readItem_14 (by decide) ?_
  refine bd_callV (vs := fun _ => none) (wf := fun (r : Wd) => r) (st := []) (st1 := fun p7 => []) C [.int 58] (fun r9 e9 => mX9_sign C.flag N ol0 e9) mwX9_sign miX9_sign wd_1666 ol0 (by decide) rfl rfl rfl (Nat.le_of_ble_eq_true rfl) dX9_readItem_16 ⟨rfl, rfl, Nat.le_of_ble_eq_true rfl, Nat.le_of_ble_eq_true rfl, Nat.le_of_ble_eq_true rfl, Nat.le_of_ble_eq_true rfl⟩ (fun _ => rfl) (fun p7 ep7 => ?_)
  refine bd_aload_n C 0 dX9_readItem_19 rfl rfl ?_
  refine bd_gR C fi942 fv942 wd_1283 dX9_readItem_20 ol0 (fun r8 gr8 hr8 => ?_)
  refine bd_aload_n C 0 dX9_readItem_23 rfl rfl ?_
  refine bd_gI C fi945 fv945 wd_1286 dX9_readItem_24 ol0 ?_
  refine bd_aload_n C 0 dX9_readItem_27 rfl rfl ?_
  refine bd_callV (vs := fun (r : Int32 × Wd) => some (.int r.1)) (wf := fun (r : Int32 × Wd) => r.2) (st := [.int (gI p7 945 l0), .ref r8]) (st1 := fun p9 => Value.int p9.1 :: [.int (gI p7 945 l0), .ref r8]) C [] (fun r9 e9 => mX9_number C.flag N ol0 e9) mwX9_number miX9_number wd_1751 ol0 (by decide) rfl rfl rfl (Nat.le_of_ble_eq_true rfl) dX9_readItem_28 ⟨rfl, rfl, Nat.le_of_ble_eq_true rfl, Nat.le_of_ble_eq_true rfl, Nat.le_of_ble_eq_true rfl, Nat.le_of_ble_eq_true rfl⟩ (fun _ => rfl) (fun p9 ep9 => ?_)
  refine bd_iast C dX9_readItem_31 hr8 (fun w10 => ?_)
  refine bd_aload_n C 0 dX9_readItem_32 rfl rfl ?_
  refine bd_bipush C (v := 45) dX9_readItem_33 (by decide) ?_
  refine bd_callV (vs := fun _ => none) (wf := fun (r : Wd) => r) (st := []) (st1 := fun p11 => []) C [.int 45] (fun r9 e9 => mX9_sign C.flag N ol0 e9) mwX9_sign miX9_sign wd_1666 ol0 (by decide) rfl rfl rfl (Nat.le_of_ble_eq_true rfl) dX9_readItem_35 ⟨rfl, rfl, Nat.le_of_ble_eq_true rfl, Nat.le_of_ble_eq_true rfl, Nat.le_of_ble_eq_true rfl, Nat.le_of_ble_eq_true rfl⟩ (fun _ => rfl) (fun p11 ep11 => ?_)
  refine bd_aload_n C 0 dX9_readItem_38 rfl rfl ?_
  refine bd_gR C fi943 fv943 wd_1284 dX9_readItem_39 ol0 (fun r12 gr12 hr12 => ?_)
  refine bd_aload_n C 0 dX9_readItem_42 rfl rfl ?_
  refine bd_gI C fi945 fv945 wd_1286 dX9_readItem_43 ol0 ?_
  refine bd_aload_n C 0 dX9_readItem_46 rfl rfl ?_
  refine bd_callV (vs := fun (r : Int32 × Wd) => some (.int r.1)) (wf := fun (r : Int32 × Wd) => r.2) (st := [.int (gI p11 945 l0), .ref r12]) (st1 := fun p13 => Value.int p13.1 :: [.int (gI p11 945 l0), .ref r12]) C [] (fun r9 e9 => mX9_number C.flag N ol0 e9) mwX9_number miX9_number wd_1751 ol0 (by decide) rfl rfl rfl (Nat.le_of_ble_eq_true rfl) dX9_readItem_47 ⟨rfl, rfl, Nat.le_of_ble_eq_true rfl, Nat.le_of_ble_eq_true rfl, Nat.le_of_ble_eq_true rfl, Nat.le_of_ble_eq_true rfl⟩ (fun _ => rfl) (fun p13 ep13 => ?_)
  refine bd_iast C dX9_readItem_50 hr12 (fun w14 => ?_)
  refine bd_aload_n C 0 dX9_readItem_51 rfl rfl ?_
  refine bd_bipush C (v := 61) dX9_readItem_52 (by decide) ?_
  refine bd_callV (vs := fun _ => none) (wf := fun (r : Wd) => r) (st := []) (st1 := fun p15 => []) C [.int 61] (fun r9 e9 => mX9_sign C.flag N ol0 e9) mwX9_sign miX9_sign wd_1666 ol0 (by decide) rfl rfl rfl (Nat.le_of_ble_eq_true rfl) dX9_readItem_54 ⟨rfl, rfl, Nat.le_of_ble_eq_true rfl, Nat.le_of_ble_eq_true rfl, Nat.le_of_ble_eq_true rfl, Nat.le_of_ble_eq_true rfl⟩ (fun _ => rfl) (fun p15 ep15 => ?_)
  refine bd_aload_n C 0 dX9_readItem_57 rfl rfl ?_
  refine bd_gR C fi944 fv944 wd_1285 dX9_readItem_58 ol0 (fun r16 gr16 hr16 => ?_)
  refine bd_aload_n C 0 dX9_readItem_61 rfl rfl ?_
  refine bd_gI C fi945 fv945 wd_1286 dX9_readItem_62 ol0 ?_
  refine bd_aload_n C 0 dX9_readItem_65 rfl rfl ?_
  refine bd_aload_n C 0 dX9_readItem_66 rfl rfl ?_
  refine bd_gI C fi910 fv910 wd_1251 dX9_readItem_67 ol0 ?_
  refine bd_if_eq C 77 dX9_readItem_70 (by decide) (fun c17 => ?_) (fun c17 => ?_)
  · refine bd_aload_n C 0 dX9_readItem_77 rfl rfl ?_
    refine bd_aload_n C 0 dX9_readItem_78 rfl rfl ?_
    refine bd_gR C fi941 fv941 wd_1282 dX9_readItem_79 ol0 (fun r18 gr18 hr18 => ?_)
    refine bd_aload_n C 0 dX9_readItem_82 rfl rfl ?_
    refine bd_gI C fi945 fv945 wd_1286 dX9_readItem_83 ol0 ?_
    refine bd_iald C dX9_readItem_86 hr18 (fun x19 => ?_)
    refine bd_callV (vs := fun (r : Int32) => some (.int r)) (wf := fun _ => p15) (st := [.ref l0, .int (gI p15 945 l0), .ref r16]) (st1 := fun x20 => Value.int x20 :: [.ref l0, .int (gI p15 945 l0), .ref r16]) C [.int x19] (fun r9 e9 => mX9_kind C.flag N ol0 e9) mwX9_kind miX9_kind wd_1483 ol0 (by decide) rfl rfl rfl (Nat.le_of_ble_eq_true rfl) dX9_readItem_87 ⟨rfl, rfl, Nat.le_of_ble_eq_true rfl, Nat.le_of_ble_eq_true rfl, Nat.le_of_ble_eq_true rfl, Nat.le_of_ble_eq_true rfl⟩ (fun _ => rfl) (fun x20 ex20 => ?_)
    exact bd_sub (hb90 p15 l0 r16 (gI p15 945 l0) l0 x20 ol0 hr16 ol0) [0] rfl
  · refine bd_iconst C (v := 0) dX9_readItem_73 (by decide) ?_
    refine bd_goto C 90 dX9_readItem_74 (by decide) ?_
    exact bd_sub (hb90 p15 l0 r16 (gI p15 945 l0) l0 0 ol0 hr16 ol0) [0] rfl
abbrev rmX9_read : Room := { frames := 18, cells := 0, slots := 0, locals := 488 }
abbrev qX9_read (G : Gy) (F : Fr) (g : Bd) : (Int32 × Wd) → State → Prop := fun r => QM G F g 0 0 ((fun (r : Int32 × Wd) => some (.int r.1)) r) ((fun (r : Int32 × Wd) => r.2) r)
set_option maxRecDepth 20000 in
set_option maxHeartbeats 4000000 in
theorem mX9_read {l : Launch} (hf9 : l.stackTraces = false) {G : Gy} {F : Fr} (N : Nat) {w : Wd} {l0 : Nat} {r : Int32 × Wd} (ol0 : okF F l0 9) (e9 : fX9_read F N w l0 = some r) : Met l yX9_read [.code yX9_read cX9_read 2 (some .int)] rmX9_read (PcB G F w [.ref l0]) (QB G F ((fun (r : Int32 × Wd) => some (.int r.1)) r) ((fun (r : Int32 × Wd) => r.2) r)) 0 0 (AF F) := by
  refine bd_met (vs := fun (r : Int32 × Wd) => some (.int r.1)) (wf := fun (r : Int32 × Wd) => r.2) hf9 (by decide) (Nat.le_of_ble_eq_true rfl) e9 (fun g C hret hini => ?_)
  clear e9 r
  have hb75 : ∀ (n : Nat) (w : Wd) (l0 : Nat) (l1 : Int32) (ol0 : okF F l0 9), BD g G F 2 (qX9_read G F g) 0 0 (fX9_read_75 F N n w l0 l1) w 75 [(0, .ref l0), (1, .int l1)] [] := by
    intro n
    induction n with
    | zero =>
      intro w l0 l1 ol0
      unfold fX9_read_75
      exact bd_none
    | succ n ih =>
      intro w l0 l1 ol0
      unfold fX9_read_75
      refine bd_iload_n C 1 dX9_read_75 rfl rfl ?_
      refine bd_aload_n C 0 dX9_read_76 rfl rfl ?_
      refine bd_gI C fi945 fv945 wd_1286 dX9_read_77 ol0 ?_
      refine bd_icmp_ge C 136 dX9_read_80 (by decide) (fun c10 => ?_) (fun c10 => ?_)
      · refine bd_aload_n C 0 dX9_read_136 rfl rfl ?_
        refine bd_callV (vs := fun _ => none) (wf := fun (r : Wd) => r) (st := []) (st1 := fun p11 => []) C [] (fun r9 e9 => mX9_change C.flag N ol0 e9) mwX9_change miX9_change wd_1415 ol0 (by decide) rfl rfl rfl (Nat.le_of_ble_eq_true rfl) dX9_read_137 ⟨rfl, rfl, Nat.le_of_ble_eq_true rfl, Nat.le_of_ble_eq_true rfl, Nat.le_of_ble_eq_true rfl, Nat.le_of_ble_eq_true rfl⟩ (fun _ => rfl) (fun p11 ep11 => ?_)
        refine bd_aload_n C 0 dX9_read_140 rfl rfl ?_
        refine bd_gI C fi945 fv945 wd_1286 dX9_read_141 ol0 ?_
        exact bd_iret C hret rfl _ _ rfl rfl dX9_read_144 (Nat.le_refl _) (Nat.le_refl _)
      · refine bd_aload_n C 0 dX9_read_83 rfl rfl ?_
        refine bd_aload_n C 0 dX9_read_84 rfl rfl ?_
        refine bd_gR C fi941 fv941 wd_1282 dX9_read_85 ol0 (fun r12 gr12 hr12 => ?_)
        refine bd_iload_n C 1 dX9_read_88 rfl rfl ?_
        refine bd_iald C dX9_read_89 hr12 (fun x13 => ?_)
        refine bd_aload_n C 0 dX9_read_90 rfl rfl ?_
        refine bd_gR C fi942 fv942 wd_1283 dX9_read_91 ol0 (fun r14 gr14 hr14 => ?_)
        refine bd_iload_n C 1 dX9_read_94 rfl rfl ?_
        refine bd_iald C dX9_read_95 hr14 (fun x15 => ?_)
        refine bd_aload_n C 0 dX9_read_96 rfl rfl ?_
        refine bd_gR C fi943 fv943 wd_1284 dX9_read_97 ol0 (fun r16 gr16 hr16 => ?_)
        refine bd_iload_n C 1 dX9_read_100 rfl rfl ?_
        refine bd_iald C dX9_read_101 hr16 (fun x17 => ?_)
        refine bd_aload_n C 0 dX9_read_102 rfl rfl ?_
        refine bd_gR C fi944 fv944 wd_1285 dX9_read_103 ol0 (fun r18 gr18 hr18 => ?_)
        refine bd_iload_n C 1 dX9_read_106 rfl rfl ?_
        refine bd_lald C dX9_read_107 hr18 (fun x19 => ?_)
        refine bd_callV (vs := fun (r : Int32 × Wd) => some (.int r.1)) (wf := fun (r : Int32 × Wd) => r.2) (st := []) (st1 := fun p20 => Value.int p20.1 :: []) C [.int x13, .int x15, .int x17, .long x19] (fun r9 e9 => mX9_add C.flag N ol0 e9) mwX9_add miX9_add wd_1503 ol0 (by decide) rfl rfl rfl (Nat.le_of_ble_eq_true rfl) dX9_read_108 ⟨rfl, rfl, Nat.le_of_ble_eq_true rfl, Nat.le_of_ble_eq_true rfl, Nat.le_of_ble_eq_true rfl, Nat.le_of_ble_eq_true rfl⟩ (fun _ => rfl) (fun p20 ep20 => ?_)
        refine bd_if_ge C 130 dX9_read_111 (by decide) (fun c21 => ?_) (fun c21 => ?_)
        · refine bd_iinc C (v := l1 + 1) 1 [(1, .int (l1 + 1)), (0, .ref l0)] dX9_read_130 rfl rfl (by decide) rfl ?_
          refine bd_goto C 75 dX9_read_133 (by decide) ?_
          exact bd_sub (ih p20.2 l0 (l1 + 1) ol0) [1, 0] rfl
        · refine bd_aload_n C 0 dX9_read_114 rfl rfl ?_
          refine bd_callV (vs := fun _ => none) (wf := fun (r : Wd) => r) (st := []) (st1 := fun p22 => []) C [] (fun r9 e9 => mX9_putBack C.flag N ol0 e9) mwX9_putBack miX9_putBack wd_1574 ol0 (by decide) rfl rfl rfl (Nat.le_of_ble_eq_true rfl) dX9_read_115 ⟨rfl, rfl, Nat.le_of_ble_eq_true rfl, Nat.le_of_ble_eq_true rfl, Nat.le_of_ble_eq_true rfl, Nat.le_of_ble_eq_true rfl⟩ (fun _ => rfl) (fun p22 ep22 => ?_)
          refine bd_aload_n C 0 dX9_read_118 rfl rfl ?_
          refine bd_iload_n C 1 dX9_read_119 rfl rfl ?_
          refine bd_pI C fi946 ftX9 fu946 wd_1287 rfl rfl rfl dX9_read_120 ol0 (fun w23 => ?_)
          refine bd_aload_n C 0 dX9_read_123 rfl rfl ?_
          refine bd_iconst C (v := 2) dX9_read_124 (by decide) ?_
          refine bd_pI C fi906 ftX9 fu906 wd_1247 rfl rfl rfl dX9_read_125 ol0 (fun w24 => ?_)
          refine bd_iconst C (v := 0) dX9_read_128 (by decide) ?_
          exact bd_iret C hret rfl _ _ rfl rfl dX9_read_129 (Nat.le_refl _) (Nat.le_refl _)
  have hb57 : ∀  (w : Wd) (l0 : Nat) (s0 : Nat) (s1 : Int32) (ol0 : okF F l0 9) (os0 : okF F s0 9), BD g G F 2 (qX9_read G F g) 0 0 (fX9_read_57 F N w l0 s0 s1) w 57 [(0, .ref l0)] [.int s1, .ref s0] := by
    intro w l0 s0 s1 ol0 os0
    unfold fX9_read_57
    refine bd_pI C fi906 ftX9 fu906 wd_1247 rfl rfl rfl dX9_read_57 os0 (fun w7 => ?_)
    refine bd_aload_n C 0 dX9_read_60 rfl rfl ?_
    refine bd_gI C fi906 fv906 wd_1247 dX9_read_61 ol0 ?_
    refine bd_if_le C 69 dX9_read_64 (by decide) (fun c8 => ?_) (fun c8 => ?_)
    · refine bd_aload_n C 0 dX9_read_69 rfl rfl ?_
      refine bd_callV (vs := fun _ => none) (wf := fun (r : Wd) => r) (st := []) (st1 := fun p9 => []) C [] (fun r9 e9 => mX9_keepState C.flag N ol0 e9) mwX9_keepState miX9_keepState wd_1410 ol0 (by decide) rfl rfl rfl (Nat.le_of_ble_eq_true rfl) dX9_read_70 ⟨rfl, rfl, Nat.le_of_ble_eq_true rfl, Nat.le_of_ble_eq_true rfl, Nat.le_of_ble_eq_true rfl, Nat.le_of_ble_eq_true rfl⟩ (fun _ => rfl) (fun p9 ep9 => ?_)
      refine bd_iconst C (v := 0) dX9_read_73 (by decide) ?_
      refine bd_istore_n C [(1, .int 0), (0, .ref l0)] dX9_read_74 rfl (by decide) rfl ?_
      exact bd_sub (hb75 N p9 l0 0 ol0) [1, 0] rfl
    · refine bd_iconst C (v := 0) dX9_read_67 (by decide) ?_
      exact bd_iret C hret rfl _ _ rfl rfl dX9_read_68 (Nat.le_refl _) (Nat.le_refl _)
  have hb44 : ∀  (w : Wd) (l0 : Nat) (ol0 : okF F l0 9), BD g G F 2 (qX9_read G F g) 0 0 (fX9_read_44 F N w l0) w 44 [(0, .ref l0)] [] := by
    intro w l0 ol0
    unfold fX9_read_44
    refine bd_aload_n C 0 dX9_read_44 rfl rfl ?_
    refine bd_aload_n C 0 dX9_read_45 rfl rfl ?_
    refine bd_callV (vs := fun (r : Int32 × Wd) => some (.int r.1)) (wf := fun (r : Int32 × Wd) => r.2) (st := [.ref l0]) (st1 := fun p5 => Value.int p5.1 :: [.ref l0]) C [] (fun r9 e9 => mX9_endText C.flag N ol0 e9) mwX9_endText miX9_endText wd_1499 ol0 (by decide) rfl rfl rfl (Nat.le_of_ble_eq_true rfl) dX9_read_46 ⟨rfl, rfl, Nat.le_of_ble_eq_true rfl, Nat.le_of_ble_eq_true rfl, Nat.le_of_ble_eq_true rfl, Nat.le_of_ble_eq_true rfl⟩ (fun _ => rfl) (fun p5 ep5 => ?_)
    refine bd_if_eq C 56 dX9_read_49 (by decide) (fun c6 => ?_) (fun c6 => ?_)
    · refine bd_iconst C (v := 0) dX9_read_56 (by decide) ?_
      exact bd_sub (hb57 p5.2 l0 l0 0 ol0 ol0) [0] rfl
    · refine bd_iconst C (v := 1) dX9_read_52 (by decide) ?_
      refine bd_goto C 57 dX9_read_53 (by decide) ?_
      exact bd_sub (hb57 p5.2 l0 l0 1 ol0 ol0) [0] rfl
  have hb13 : ∀ (n : Nat) (w : Wd) (l0 : Nat) (ol0 : okF F l0 9), BD g G F 2 (qX9_read G F g) 0 0 (fX9_read_13 F N n w l0) w 13 [(0, .ref l0)] [] := by
    intro n
    induction n with
    | zero =>
      intro w l0 ol0
      unfold fX9_read_13
      exact bd_none
    | succ n ih =>
      intro w l0 ol0
      unfold fX9_read_13
      refine bd_aload_n C 0 dX9_read_13 rfl rfl ?_
      refine bd_gI C fi910 fv910 wd_1251 dX9_read_14 ol0 ?_
      refine bd_if_ne C 44 dX9_read_17 (by decide) (fun c1 => ?_) (fun c1 => ?_)
      · exact bd_sub (hb44 w l0 ol0) [0] rfl
      · refine bd_aload_n C 0 dX9_read_20 rfl rfl ?_
        refine bd_gI C fi909 fv909 wd_1250 dX9_read_21 ol0 ?_
        refine bd_aload_n C 0 dX9_read_24 rfl rfl ?_
        refine bd_gI C fi908 fv908 wd_1249 dX9_read_25 ol0 ?_
        refine bd_icmp_ge C 44 dX9_read_28 (by decide) (fun c2 => ?_) (fun c2 => ?_)
        · exact bd_sub (hb44 w l0 ol0) [0] rfl
        · refine bd_aload_n C 0 dX9_read_31 rfl rfl ?_
          refine bd_bipush C (v := 59) dX9_read_32 (by decide) ?_
          refine bd_callV (vs := fun _ => none) (wf := fun (r : Wd) => r) (st := []) (st1 := fun p3 => []) C [.int 59] (fun r9 e9 => mX9_sign C.flag N ol0 e9) mwX9_sign miX9_sign wd_1666 ol0 (by decide) rfl rfl rfl (Nat.le_of_ble_eq_true rfl) dX9_read_34 ⟨rfl, rfl, Nat.le_of_ble_eq_true rfl, Nat.le_of_ble_eq_true rfl, Nat.le_of_ble_eq_true rfl, Nat.le_of_ble_eq_true rfl⟩ (fun _ => rfl) (fun p3 ep3 => ?_)
          refine bd_aload_n C 0 dX9_read_37 rfl rfl ?_
          refine bd_callV (vs := fun _ => none) (wf := fun (r : Wd) => r) (st := []) (st1 := fun p4 => []) C [] (fun r9 e9 => mX9_readItem C.flag N ol0 e9) mwX9_readItem miX9_readItem wd_1747 ol0 (by decide) rfl rfl rfl (Nat.le_of_ble_eq_true rfl) dX9_read_38 ⟨rfl, rfl, Nat.le_of_ble_eq_true rfl, Nat.le_of_ble_eq_true rfl, Nat.le_of_ble_eq_true rfl, Nat.le_of_ble_eq_true rfl⟩ (fun _ => rfl) (fun p4 ep4 => ?_)
          refine bd_goto C 13 dX9_read_41 (by decide) ?_
          exact bd_sub (ih p4 l0 ol0) [0] rfl
  unfold fX9_read
  refine bd_sub (lv' := [(0, .ref l0)]) ?_ [0] rfl
  refine bd_aload_n C 0 dX9_read_0 rfl rfl ?_
  refine bd_callV (vs := fun _ => none) (wf := fun (r : Wd) => r) (st := []) (st1 := fun p25 => []) C [] (fun r9 e9 => mX9_beginText C.flag N ol0 e9) mwX9_beginText miX9_beginText wd_1479 ol0 (by decide) rfl rfl rfl (Nat.le_of_ble_eq_true rfl) dX9_read_1 ⟨rfl, rfl, Nat.le_of_ble_eq_true rfl, Nat.le_of_ble_eq_true rfl, Nat.le_of_ble_eq_true rfl, Nat.le_of_ble_eq_true rfl⟩ (fun _ => rfl) (fun p25 ep25 => ?_)
  refine bd_aload_n C 0 dX9_read_4 rfl rfl ?_
  refine bd_iconst C (v := 0) dX9_read_5 (by decide) ?_
  refine bd_pI C fi945 ftX9 fu945 wd_1286 rfl rfl rfl dX9_read_6 ol0 (fun w26 => ?_)
  refine bd_aload_n C 0 dX9_read_9 rfl rfl ?_
  refine bd_callV (vs := fun _ => none) (wf := fun (r : Wd) => r) (st := []) (st1 := fun p27 => []) C [] (fun r9 e9 => mX9_readItem C.flag N ol0 e9) mwX9_readItem miX9_readItem wd_1747 ol0 (by decide) rfl rfl rfl (Nat.le_of_ble_eq_true rfl) dX9_read_10 ⟨rfl, rfl, Nat.le_of_ble_eq_true rfl, Nat.le_of_ble_eq_true rfl, Nat.le_of_ble_eq_true rfl, Nat.le_of_ble_eq_true rfl⟩ (fun _ => rfl) (fun p27 ep27 => ?_)
  exact bd_sub (hb13 N p27 l0 ol0) [0] rfl
abbrev rmX9_errorPosition : Room := { frames := 10, cells := 0, slots := 0, locals := 300 }
abbrev qX9_errorPosition (G : Gy) (F : Fr) (g : Bd) : (Int32 × Wd) → State → Prop := fun r => QM G F g 0 0 ((fun (r : Int32 × Wd) => some (.int r.1)) r) ((fun (r : Int32 × Wd) => r.2) r)
set_option maxRecDepth 20000 in
set_option maxHeartbeats 4000000 in
theorem mX9_errorPosition {l : Launch} (hf9 : l.stackTraces = false) {G : Gy} {F : Fr} (N : Nat) {w : Wd} {l0 : Nat} {r : Int32 × Wd} (ol0 : okF F l0 9) (e9 : fX9_errorPosition F N w l0 = some r) : Met l yX9_errorPosition [.code yX9_errorPosition cX9_errorPosition 1 (some .int)] rmX9_errorPosition (PcB G F w [.ref l0]) (QB G F ((fun (r : Int32 × Wd) => some (.int r.1)) r) ((fun (r : Int32 × Wd) => r.2) r)) 0 0 (AF F) := by
  refine bd_met (vs := fun (r : Int32 × Wd) => some (.int r.1)) (wf := fun (r : Int32 × Wd) => r.2) hf9 (by decide) (Nat.le_of_ble_eq_true rfl) e9 (fun g C hret hini => ?_)
  clear e9 r
  have hb13 : ∀  (w : Wd) (l0 : Nat) (s0 : Nat) (s1 : Int32) (ol0 : okF F l0 9) (os0 : okF F s0 9), BD g G F 1 (qX9_errorPosition G F g) 0 0 (fX9_errorPosition_13 F N w l0 s0 s1) w 13 [(0, .ref l0)] [.int s1, .ref s0] := by
    intro w l0 s0 s1 ol0 os0
    unfold fX9_errorPosition_13
    refine bd_pI C fi906 ftX9 fu906 wd_1247 rfl rfl rfl dX9_errorPosition_13 os0 (fun w1 => ?_)
    refine bd_aload_n C 0 dX9_errorPosition_16 rfl rfl ?_
    refine bd_gI C fi906 fv906 wd_1247 dX9_errorPosition_17 ol0 ?_
    refine bd_if_le C 27 dX9_errorPosition_20 (by decide) (fun c2 => ?_) (fun c2 => ?_)
    · refine bd_aload_n C 0 dX9_errorPosition_27 rfl rfl ?_
      refine bd_gI C fi911 fv911 wd_1252 dX9_errorPosition_28 ol0 ?_
      exact bd_iret C hret rfl _ _ rfl rfl dX9_errorPosition_31 (Nat.le_refl _) (Nat.le_refl _)
    · refine bd_iconst C (v := 0) dX9_errorPosition_23 (by decide) ?_
      refine bd_goto C 31 dX9_errorPosition_24 (by decide) ?_
      exact bd_iret C hret rfl _ _ rfl rfl dX9_errorPosition_31 (Nat.le_refl _) (Nat.le_refl _)
  unfold fX9_errorPosition
  refine bd_sub (lv' := [(0, .ref l0)]) ?_ [0] rfl
  refine bd_aload_n C 0 dX9_errorPosition_0 rfl rfl ?_
  refine bd_aload_n C 0 dX9_errorPosition_1 rfl rfl ?_
  refine bd_gI C fi911 fv911 wd_1252 dX9_errorPosition_2 ol0 ?_
  refine bd_if_ge C 12 dX9_errorPosition_5 (by decide) (fun c3 => ?_) (fun c3 => ?_)
  · refine bd_iconst C (v := 0) dX9_errorPosition_12 (by decide) ?_
    exact bd_sub (hb13 w l0 l0 0 ol0 ol0) [0] rfl
  · refine bd_iconst C (v := 1) dX9_errorPosition_8 (by decide) ?_
    refine bd_goto C 13 dX9_errorPosition_9 (by decide) ?_
    exact bd_sub (hb13 w l0 l0 1 ol0 ol0) [0] rfl
abbrev rmX9_refusedItem : Room := { frames := 10, cells := 0, slots := 0, locals := 300 }
abbrev qX9_refusedItem (G : Gy) (F : Fr) (g : Bd) : (Int32 × Wd) → State → Prop := fun r => QM G F g 0 0 ((fun (r : Int32 × Wd) => some (.int r.1)) r) ((fun (r : Int32 × Wd) => r.2) r)
set_option maxRecDepth 20000 in
set_option maxHeartbeats 4000000 in
theorem mX9_refusedItem {l : Launch} (hf9 : l.stackTraces = false) {G : Gy} {F : Fr} (N : Nat) {w : Wd} {l0 : Nat} {r : Int32 × Wd} (ol0 : okF F l0 9) (e9 : fX9_refusedItem F N w l0 = some r) : Met l yX9_refusedItem [.code yX9_refusedItem cX9_refusedItem 1 (some .int)] rmX9_refusedItem (PcB G F w [.ref l0]) (QB G F ((fun (r : Int32 × Wd) => some (.int r.1)) r) ((fun (r : Int32 × Wd) => r.2) r)) 0 0 (AF F) := by
  refine bd_met (vs := fun (r : Int32 × Wd) => some (.int r.1)) (wf := fun (r : Int32 × Wd) => r.2) hf9 (by decide) (Nat.le_of_ble_eq_true rfl) e9 (fun g C hret hini => ?_)
  clear e9 r
  have hb13 : ∀  (w : Wd) (l0 : Nat) (s0 : Nat) (s1 : Int32) (ol0 : okF F l0 9) (os0 : okF F s0 9), BD g G F 1 (qX9_refusedItem G F g) 0 0 (fX9_refusedItem_13 F N w l0 s0 s1) w 13 [(0, .ref l0)] [.int s1, .ref s0] := by
    intro w l0 s0 s1 ol0 os0
    unfold fX9_refusedItem_13
    refine bd_pI C fi906 ftX9 fu906 wd_1247 rfl rfl rfl dX9_refusedItem_13 os0 (fun w1 => ?_)
    refine bd_aload_n C 0 dX9_refusedItem_16 rfl rfl ?_
    refine bd_gI C fi906 fv906 wd_1247 dX9_refusedItem_17 ol0 ?_
    refine bd_if_le C 27 dX9_refusedItem_20 (by decide) (fun c2 => ?_) (fun c2 => ?_)
    · refine bd_aload_n C 0 dX9_refusedItem_27 rfl rfl ?_
      refine bd_gI C fi946 fv946 wd_1287 dX9_refusedItem_28 ol0 ?_
      exact bd_iret C hret rfl _ _ rfl rfl dX9_refusedItem_31 (Nat.le_refl _) (Nat.le_refl _)
    · refine bd_iconst C (v := 0) dX9_refusedItem_23 (by decide) ?_
      refine bd_goto C 31 dX9_refusedItem_24 (by decide) ?_
      exact bd_iret C hret rfl _ _ rfl rfl dX9_refusedItem_31 (Nat.le_refl _) (Nat.le_refl _)
  unfold fX9_refusedItem
  refine bd_sub (lv' := [(0, .ref l0)]) ?_ [0] rfl
  refine bd_aload_n C 0 dX9_refusedItem_0 rfl rfl ?_
  refine bd_aload_n C 0 dX9_refusedItem_1 rfl rfl ?_
  refine bd_gI C fi946 fv946 wd_1287 dX9_refusedItem_2 ol0 ?_
  refine bd_if_ge C 12 dX9_refusedItem_5 (by decide) (fun c3 => ?_) (fun c3 => ?_)
  · refine bd_iconst C (v := 0) dX9_refusedItem_12 (by decide) ?_
    exact bd_sub (hb13 w l0 l0 0 ol0 ol0) [0] rfl
  · refine bd_iconst C (v := 1) dX9_refusedItem_8 (by decide) ?_
    refine bd_goto C 13 dX9_refusedItem_9 (by decide) ?_
    exact bd_sub (hb13 w l0 l0 1 ol0 ol0) [0] rfl
abbrev rmX9_undo : Room := { frames := 10, cells := 0, slots := 0, locals := 300 }
abbrev qX9_undo (G : Gy) (F : Fr) (g : Bd) : (Int32 × Wd) → State → Prop := fun r => QM G F g 0 0 ((fun (r : Int32 × Wd) => some (.int r.1)) r) ((fun (r : Int32 × Wd) => r.2) r)
set_option maxRecDepth 20000 in
set_option maxHeartbeats 4000000 in
theorem mX9_undo {l : Launch} (hf9 : l.stackTraces = false) {G : Gy} {F : Fr} (N : Nat) {w : Wd} {l0 : Nat} {r : Int32 × Wd} (ol0 : okF F l0 9) (e9 : fX9_undo F N w l0 = some r) : Met l yX9_undo [.code yX9_undo cX9_undo 1 (some .int)] rmX9_undo (PcB G F w [.ref l0]) (QB G F ((fun (r : Int32 × Wd) => some (.int r.1)) r) ((fun (r : Int32 × Wd) => r.2) r)) 0 0 (AF F) := by
  refine bd_met (vs := fun (r : Int32 × Wd) => some (.int r.1)) (wf := fun (r : Int32 × Wd) => r.2) hf9 (by decide) (Nat.le_of_ble_eq_true rfl) e9 (fun g C hret hini => ?_)
  clear e9 r
  have hb13 : ∀  (w : Wd) (l0 : Nat) (s0 : Nat) (s1 : Int32) (ol0 : okF F l0 9) (os0 : okF F s0 9), BD g G F 1 (qX9_undo G F g) 0 0 (fX9_undo_13 F N w l0 s0 s1) w 13 [(0, .ref l0)] [.int s1, .ref s0] := by
    intro w l0 s0 s1 ol0 os0
    unfold fX9_undo_13
    refine bd_pI C fi906 ftX9 fu906 wd_1247 rfl rfl rfl dX9_undo_13 os0 (fun w1 => ?_)
    refine bd_aload_n C 0 dX9_undo_16 rfl rfl ?_
    refine bd_gI C fi906 fv906 wd_1247 dX9_undo_17 ol0 ?_
    refine bd_if_le C 25 dX9_undo_20 (by decide) (fun c2 => ?_) (fun c2 => ?_)
    · refine bd_aload_n C 0 dX9_undo_25 rfl rfl ?_
      refine bd_dup C dX9_undo_26 rfl ?_
      refine bd_gI C fi905 fv905 wd_1246 dX9_undo_27 ol0 ?_
      refine bd_iconst C (v := 1) dX9_undo_30 (by decide) ?_
      refine bd_isub C dX9_undo_31 ?_
      refine bd_pI C fi905 ftX9 fu905 wd_1246 rfl rfl rfl dX9_undo_32 ol0 (fun w3 => ?_)
      refine bd_aload_n C 0 dX9_undo_35 rfl rfl ?_
      refine bd_gR C fi904 fv904 wd_1245 dX9_undo_36 ol0 (fun r4 gr4 hr4 => ?_)
      refine bd_sipush C (v := 1114) dX9_undo_39 (by decide) ?_
      refine bd_aload_n C 0 dX9_undo_42 rfl rfl ?_
      refine bd_gI C fi905 fv905 wd_1246 dX9_undo_43 ol0 ?_
      refine bd_imul C dX9_undo_46 ?_
      refine bd_aload_n C 0 dX9_undo_47 rfl rfl ?_
      refine bd_gR C fi900 fv900 wd_1241 dX9_undo_48 ol0 (fun r5 gr5 hr5 => ?_)
      refine bd_iconst C (v := 0) dX9_undo_51 (by decide) ?_
      refine bd_sipush C (v := 1114) dX9_undo_52 (by decide) ?_
      refine bd_copyJ C wd_1414 wd_474 wd_473 wd_103 dX9_undo_55 hr4 hr5 ⟨Nat.le_of_ble_eq_true rfl, Nat.le_of_ble_eq_true rfl⟩ (fun w6 => ?_)
      refine bd_aload_n C 0 dX9_undo_58 rfl rfl ?_
      refine bd_gI C fi905 fv905 wd_1246 dX9_undo_59 ol0 ?_
      exact bd_iret C hret rfl _ _ rfl rfl dX9_undo_62 (Nat.le_refl _) (Nat.le_refl _)
    · refine bd_iconst C (v := 0) dX9_undo_23 (by decide) ?_
      exact bd_iret C hret rfl _ _ rfl rfl dX9_undo_24 (Nat.le_refl _) (Nat.le_refl _)
  unfold fX9_undo
  refine bd_sub (lv' := [(0, .ref l0)]) ?_ [0] rfl
  refine bd_aload_n C 0 dX9_undo_0 rfl rfl ?_
  refine bd_aload_n C 0 dX9_undo_1 rfl rfl ?_
  refine bd_gI C fi905 fv905 wd_1246 dX9_undo_2 ol0 ?_
  refine bd_if_ne C 12 dX9_undo_5 (by decide) (fun c7 => ?_) (fun c7 => ?_)
  · refine bd_iconst C (v := 0) dX9_undo_12 (by decide) ?_
    exact bd_sub (hb13 w l0 l0 0 ol0 ol0) [0] rfl
  · refine bd_iconst C (v := 1) dX9_undo_8 (by decide) ?_
    refine bd_goto C 13 dX9_undo_9 (by decide) ?_
    exact bd_sub (hb13 w l0 l0 1 ol0 ol0) [0] rfl
abbrev rmX9_snapshot : Room := { frames := 11, cells := 0, slots := 0, locals := 320 }
abbrev qX9_snapshot (G : Gy) (F : Fr) (g : Bd) : (Int32 × Wd) → State → Prop := fun r => QM G F g 0 0 ((fun (r : Int32 × Wd) => some (.int r.1)) r) ((fun (r : Int32 × Wd) => r.2) r)
set_option maxRecDepth 20000 in
set_option maxHeartbeats 4000000 in
theorem mX9_snapshot {l : Launch} (hf9 : l.stackTraces = false) {G : Gy} {F : Fr} (N : Nat) {w : Wd} {l0 : Nat} {r : Int32 × Wd} (ol0 : okF F l0 9) (e9 : fX9_snapshot F N w l0 = some r) : Met l yX9_snapshot [.code yX9_snapshot cX9_snapshot 1 (some .int)] rmX9_snapshot (PcB G F w [.ref l0]) (QB G F ((fun (r : Int32 × Wd) => some (.int r.1)) r) ((fun (r : Int32 × Wd) => r.2) r)) 0 0 (AF F) := by
  refine bd_met (vs := fun (r : Int32 × Wd) => some (.int r.1)) (wf := fun (r : Int32 × Wd) => r.2) hf9 (by decide) (Nat.le_of_ble_eq_true rfl) e9 (fun g C hret hini => ?_)
  clear e9 r
  unfold fX9_snapshot
  refine bd_sub (lv' := [(0, .ref l0)]) ?_ [0] rfl
  refine bd_aload_n C 0 dX9_snapshot_0 rfl rfl ?_
  refine bd_iconst C (v := 0) dX9_snapshot_1 (by decide) ?_
  refine bd_pI C fi906 ftX9 fu906 wd_1247 rfl rfl rfl dX9_snapshot_2 ol0 (fun w1 => ?_)
  refine bd_aload_n C 0 dX9_snapshot_5 rfl rfl ?_
  refine bd_gR C fi900 fv900 wd_1241 dX9_snapshot_6 ol0 (fun r2 gr2 hr2 => ?_)
  refine bd_iconst C (v := 0) dX9_snapshot_9 (by decide) ?_
  refine bd_aload_n C 0 dX9_snapshot_10 rfl rfl ?_
  refine bd_gR C fi902 fv902 wd_1243 dX9_snapshot_11 ol0 (fun r3 gr3 hr3 => ?_)
  refine bd_iconst C (v := 0) dX9_snapshot_14 (by decide) ?_
  refine bd_sipush C (v := 1114) dX9_snapshot_15 (by decide) ?_
  refine bd_copyJ C wd_1414 wd_474 wd_473 wd_103 dX9_snapshot_18 hr2 hr3 ⟨Nat.le_of_ble_eq_true rfl, Nat.le_of_ble_eq_true rfl⟩ (fun w4 => ?_)
  refine bd_aload_n C 0 dX9_snapshot_21 rfl rfl ?_
  refine bd_iconst C (v := 1) dX9_snapshot_22 (by decide) ?_
  refine bd_pI C fi903 ftX9 fu903 wd_1244 rfl rfl rfl dX9_snapshot_23 ol0 (fun w5 => ?_)
  refine bd_aload_n C 0 dX9_snapshot_26 rfl rfl ?_
  refine bd_callV (vs := fun (r : Int32) => some (.int r)) (wf := fun _ => w5) (st := []) (st1 := fun x6 => Value.int x6 :: []) C [] (fun r9 e9 => mX9_tiers C.flag N ol0 e9) mwX9_tiers miX9_tiers wd_1391 ol0 (by decide) rfl rfl rfl (Nat.le_of_ble_eq_true rfl) dX9_snapshot_27 ⟨rfl, rfl, Nat.le_of_ble_eq_true rfl, Nat.le_of_ble_eq_true rfl, Nat.le_of_ble_eq_true rfl, Nat.le_of_ble_eq_true rfl⟩ (fun _ => rfl) (fun x6 ex6 => ?_)
  exact bd_iret C hret rfl _ _ rfl rfl dX9_snapshot_30 (Nat.le_refl _) (Nat.le_refl _)
abbrev rmX9_restore : Room := { frames := 11, cells := 0, slots := 0, locals := 320 }
abbrev qX9_restore (G : Gy) (F : Fr) (g : Bd) : (Int32 × Wd) → State → Prop := fun r => QM G F g 0 0 ((fun (r : Int32 × Wd) => some (.int r.1)) r) ((fun (r : Int32 × Wd) => r.2) r)
set_option maxRecDepth 20000 in
set_option maxHeartbeats 4000000 in
theorem mX9_restore {l : Launch} (hf9 : l.stackTraces = false) {G : Gy} {F : Fr} (N : Nat) {w : Wd} {l0 : Nat} {r : Int32 × Wd} (ol0 : okF F l0 9) (e9 : fX9_restore F N w l0 = some r) : Met l yX9_restore [.code yX9_restore cX9_restore 1 (some .int)] rmX9_restore (PcB G F w [.ref l0]) (QB G F ((fun (r : Int32 × Wd) => some (.int r.1)) r) ((fun (r : Int32 × Wd) => r.2) r)) 0 0 (AF F) := by
  refine bd_met (vs := fun (r : Int32 × Wd) => some (.int r.1)) (wf := fun (r : Int32 × Wd) => r.2) hf9 (by decide) (Nat.le_of_ble_eq_true rfl) e9 (fun g C hret hini => ?_)
  clear e9 r
  have hb13 : ∀  (w : Wd) (l0 : Nat) (s0 : Nat) (s1 : Int32) (ol0 : okF F l0 9) (os0 : okF F s0 9), BD g G F 1 (qX9_restore G F g) 0 0 (fX9_restore_13 F N w l0 s0 s1) w 13 [(0, .ref l0)] [.int s1, .ref s0] := by
    intro w l0 s0 s1 ol0 os0
    unfold fX9_restore_13
    refine bd_pI C fi906 ftX9 fu906 wd_1247 rfl rfl rfl dX9_restore_13 os0 (fun w1 => ?_)
    refine bd_aload_n C 0 dX9_restore_16 rfl rfl ?_
    refine bd_gI C fi906 fv906 wd_1247 dX9_restore_17 ol0 ?_
    refine bd_if_le C 25 dX9_restore_20 (by decide) (fun c2 => ?_) (fun c2 => ?_)
    · refine bd_aload_n C 0 dX9_restore_25 rfl rfl ?_
      refine bd_gR C fi902 fv902 wd_1243 dX9_restore_26 ol0 (fun r3 gr3 hr3 => ?_)
      refine bd_iconst C (v := 0) dX9_restore_29 (by decide) ?_
      refine bd_aload_n C 0 dX9_restore_30 rfl rfl ?_
      refine bd_gR C fi900 fv900 wd_1241 dX9_restore_31 ol0 (fun r4 gr4 hr4 => ?_)
      refine bd_iconst C (v := 0) dX9_restore_34 (by decide) ?_
      refine bd_sipush C (v := 1114) dX9_restore_35 (by decide) ?_
      refine bd_copyJ C wd_1414 wd_474 wd_473 wd_103 dX9_restore_38 hr3 hr4 ⟨Nat.le_of_ble_eq_true rfl, Nat.le_of_ble_eq_true rfl⟩ (fun w5 => ?_)
      refine bd_aload_n C 0 dX9_restore_41 rfl rfl ?_
      refine bd_iconst C (v := 0) dX9_restore_42 (by decide) ?_
      refine bd_pI C fi905 ftX9 fu905 wd_1246 rfl rfl rfl dX9_restore_43 ol0 (fun w6 => ?_)
      refine bd_aload_n C 0 dX9_restore_46 rfl rfl ?_
      refine bd_callV (vs := fun (r : Int32) => some (.int r)) (wf := fun _ => w6) (st := []) (st1 := fun x7 => Value.int x7 :: []) C [] (fun r9 e9 => mX9_tiers C.flag N ol0 e9) mwX9_tiers miX9_tiers wd_1391 ol0 (by decide) rfl rfl rfl (Nat.le_of_ble_eq_true rfl) dX9_restore_47 ⟨rfl, rfl, Nat.le_of_ble_eq_true rfl, Nat.le_of_ble_eq_true rfl, Nat.le_of_ble_eq_true rfl, Nat.le_of_ble_eq_true rfl⟩ (fun _ => rfl) (fun x7 ex7 => ?_)
      exact bd_iret C hret rfl _ _ rfl rfl dX9_restore_50 (Nat.le_refl _) (Nat.le_refl _)
    · refine bd_iconst C (v := 0) dX9_restore_23 (by decide) ?_
      exact bd_iret C hret rfl _ _ rfl rfl dX9_restore_24 (Nat.le_refl _) (Nat.le_refl _)
  unfold fX9_restore
  refine bd_sub (lv' := [(0, .ref l0)]) ?_ [0] rfl
  refine bd_aload_n C 0 dX9_restore_0 rfl rfl ?_
  refine bd_aload_n C 0 dX9_restore_1 rfl rfl ?_
  refine bd_gI C fi903 fv903 wd_1244 dX9_restore_2 ol0 ?_
  refine bd_if_eq C 12 dX9_restore_5 (by decide) (fun c8 => ?_) (fun c8 => ?_)
  · refine bd_iconst C (v := 1) dX9_restore_12 (by decide) ?_
    exact bd_sub (hb13 w l0 l0 1 ol0 ol0) [0] rfl
  · refine bd_iconst C (v := 0) dX9_restore_8 (by decide) ?_
    refine bd_goto C 13 dX9_restore_9 (by decide) ?_
    exact bd_sub (hb13 w l0 l0 0 ol0 ol0) [0] rfl
