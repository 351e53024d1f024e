abbrev rmX7_first : Room := { frames := 10, cells := 0, slots := 0, locals := 300 }
abbrev qX7_first (G : Gy) (F : Fr) (g : Bd) (w : Wd) : Int32 → State → Prop := fun r => QM G F g 0 0 ((fun (r : Int32) => some (.int r)) r) ((fun _ => w) r)
set_option maxRecDepth 20000 in
set_option maxHeartbeats 4000000 in
theorem mX7_first {l : Launch} (hf9 : l.stackTraces = false) {G : Gy} {F : Fr} (N : Nat) {w : Wd} {l0 : Nat} {l1 : Int32} {r : Int32} (ol0 : okF F l0 7) (e9 : fX7_first F N w l0 l1 = some r) : Met l yX7_first [.code yX7_first cX7_first 2 (some .int)] rmX7_first (PcB G F w [.ref l0, .int l1]) (QB G F ((fun (r : Int32) => some (.int r)) r) ((fun _ => w) r)) 0 0 (AF F) := by
  refine bd_met (vs := fun (r : Int32) => some (.int r)) (wf := fun _ => w) hf9 (by decide) (Nat.le_of_ble_eq_true rfl) e9 (fun g C hret hini => ?_)
  clear e9 r
  unfold fX7_first
  refine bd_sub (lv' := [(0, .ref l0), (1, .int l1)]) ?_ [0, 1] rfl
  refine bd_iload_n C 1 dX7_first_0 rfl rfl ?_
  refine bd_if_lt C 19 dX7_first_1 (by decide) (fun c1 => ?_) (fun c1 => ?_)
  · refine bd_iconst C (v := 0) dX7_first_19 (by decide) ?_
    exact bd_iret C hret rfl _ _ rfl rfl dX7_first_20 (Nat.le_refl _) (Nat.le_refl _)
  · refine bd_iload_n C 1 dX7_first_4 rfl rfl ?_
    refine bd_bipush C (v := 31) dX7_first_5 (by decide) ?_
    refine bd_icmp_ge C 19 dX7_first_7 (by decide) (fun c2 => ?_) (fun c2 => ?_)
    · refine bd_iconst C (v := 0) dX7_first_19 (by decide) ?_
      exact bd_iret C hret rfl _ _ rfl rfl dX7_first_20 (Nat.le_refl _) (Nat.le_refl _)
    · refine bd_aload_n C 0 dX7_first_10 rfl rfl ?_
      refine bd_gR C fi700 fv700 wd_129 dX7_first_11 ol0 (fun r3 gr3 hr3 => ?_)
      refine bd_iload_n C 1 dX7_first_14 rfl rfl ?_
      refine bd_iald C dX7_first_15 hr3 (fun x4 => ?_)
      refine bd_goto C 20 dX7_first_16 (by decide) ?_
      exact bd_iret C hret rfl _ _ rfl rfl dX7_first_20 (Nat.le_refl _) (Nat.le_refl _)
abbrev rmX7_end : Room := { frames := 10, cells := 0, slots := 0, locals := 300 }
abbrev qX7_end (G : Gy) (F : Fr) (g : Bd) (w : Wd) : Int32 → State → Prop := fun r => QM G F g 0 0 ((fun (r : Int32) => some (.int r)) r) ((fun _ => w) r)
set_option maxRecDepth 20000 in
set_option maxHeartbeats 4000000 in
theorem mX7_end {l : Launch} (hf9 : l.stackTraces = false) {G : Gy} {F : Fr} (N : Nat) {w : Wd} {l0 : Nat} {l1 : Int32} {r : Int32} (ol0 : okF F l0 7) (e9 : fX7_end F N w l0 l1 = some r) : Met l yX7_end [.code yX7_end cX7_end 2 (some .int)] rmX7_end (PcB G F w [.ref l0, .int l1]) (QB G F ((fun (r : Int32) => some (.int r)) r) ((fun _ => w) r)) 0 0 (AF F) := by
  refine bd_met (vs := fun (r : Int32) => some (.int r)) (wf := fun _ => w) hf9 (by decide) (Nat.le_of_ble_eq_true rfl) e9 (fun g C hret hini => ?_)
  clear e9 r
  unfold fX7_end
  refine bd_sub (lv' := [(0, .ref l0), (1, .int l1)]) ?_ [0, 1] rfl
  refine bd_iload_n C 1 dX7_end_0 rfl rfl ?_
  refine bd_if_lt C 19 dX7_end_1 (by decide) (fun c1 => ?_) (fun c1 => ?_)
  · refine bd_iconst C (v := 0) dX7_end_19 (by decide) ?_
    exact bd_iret C hret rfl _ _ rfl rfl dX7_end_20 (Nat.le_refl _) (Nat.le_refl _)
  · refine bd_iload_n C 1 dX7_end_4 rfl rfl ?_
    refine bd_bipush C (v := 31) dX7_end_5 (by decide) ?_
    refine bd_icmp_ge C 19 dX7_end_7 (by decide) (fun c2 => ?_) (fun c2 => ?_)
    · refine bd_iconst C (v := 0) dX7_end_19 (by decide) ?_
      exact bd_iret C hret rfl _ _ rfl rfl dX7_end_20 (Nat.le_refl _) (Nat.le_refl _)
    · refine bd_aload_n C 0 dX7_end_10 rfl rfl ?_
      refine bd_gR C fi701 fv701 wd_130 dX7_end_11 ol0 (fun r3 gr3 hr3 => ?_)
      refine bd_iload_n C 1 dX7_end_14 rfl rfl ?_
      refine bd_iald C dX7_end_15 hr3 (fun x4 => ?_)
      refine bd_goto C 20 dX7_end_16 (by decide) ?_
      exact bd_iret C hret rfl _ _ rfl rfl dX7_end_20 (Nat.le_refl _) (Nat.le_refl _)
abbrev rmX0_distance : Room := { frames := 11, cells := 0, slots := 0, locals := 321 }
abbrev qX0_distance (G : Gy) (F : Fr) (g : Bd) (w : Wd) : Int32 → State → Prop := fun r => QM G F g 0 0 ((fun (r : Int32) => some (.int r)) r) ((fun _ => w) r)
set_option maxRecDepth 20000 in
set_option maxHeartbeats 4000000 in
theorem mX0_distance {l : Launch} (hf9 : l.stackTraces = false) {G : Gy} {F : Fr} (N : Nat) {w : Wd} {l0 : Nat} {l1 : Int32} {l2 : Nat} {l3 : Int32} {r : Int32} (ol0 : okF F l0 7) (ol2 : okF F l2 7) (e9 : fX0_distance F N w l0 l1 l2 l3 = some r) : Met l yX0_distance [.code yX0_distance cX0_distance 4 (some .int)] rmX0_distance (PcB G F w [.ref l0, .int l1, .ref l2, .int l3]) (QB G F ((fun (r : Int32) => some (.int r)) r) ((fun _ => w) r)) 0 0 (AF F) := by
  refine bd_met (vs := fun (r : Int32) => some (.int r)) (wf := fun _ => w) hf9 (by decide) (Nat.le_of_ble_eq_true rfl) e9 (fun g C hret hini => ?_)
  clear e9 r
  unfold fX0_distance
  refine bd_sub (lv' := [(0, .ref l0), (1, .int l1), (2, .ref l2), (3, .int l3)]) ?_ [0, 1, 2, 3] rfl
  refine bd_aload_n C 0 dX0_distance_0 rfl rfl ?_
  refine bd_iload_n C 1 dX0_distance_1 rfl rfl ?_
  refine bd_callV (vs := fun (r : Int32) => some (.int r)) (wf := fun _ => w) (st := []) (st1 := fun x1 => Value.int x1 :: []) C [.int l1] (fun r9 e9 => mX7_first C.flag N ol0 e9) mwX7_first miX7_first wd_949 ol0 (by decide) rfl rfl rfl (Nat.le_of_ble_eq_true rfl) dX0_distance_2 ⟨rfl, rfl, Nat.le_of_ble_eq_true rfl, Nat.le_of_ble_eq_true rfl, Nat.le_of_ble_eq_true rfl, Nat.le_of_ble_eq_true rfl⟩ (fun _ => rfl) (fun x1 ex1 => ?_)
  refine bd_aload_n C 2 dX0_distance_5 rfl rfl ?_
  refine bd_iload_n C 3 dX0_distance_6 rfl rfl ?_
  refine bd_callV (vs := fun (r : Int32) => some (.int r)) (wf := fun _ => w) (st := [.int x1]) (st1 := fun x2 => Value.int x2 :: [.int x1]) C [.int l3] (fun r9 e9 => mX7_first C.flag N ol2 e9) mwX7_first miX7_first wd_949 ol2 (by decide) rfl rfl rfl (Nat.le_of_ble_eq_true rfl) dX0_distance_7 ⟨rfl, rfl, Nat.le_of_ble_eq_true rfl, Nat.le_of_ble_eq_true rfl, Nat.le_of_ble_eq_true rfl, Nat.le_of_ble_eq_true rfl⟩ (fun _ => rfl) (fun x2 ex2 => ?_)
  refine bd_isub C dX0_distance_10 ?_
  refine bd_mabs C wd_950 wd_951 wd_104 wd_952 dX0_distance_11 ⟨Nat.le_of_ble_eq_true rfl, Nat.le_of_ble_eq_true rfl, Nat.zero_le _, Nat.zero_le _⟩ ?_
  refine bd_aload_n C 0 dX0_distance_14 rfl rfl ?_
  refine bd_iload_n C 1 dX0_distance_15 rfl rfl ?_
  refine bd_callV (vs := fun (r : Int32) => some (.int r)) (wf := fun _ => w) (st := [.int (iabs (x1 - x2))]) (st1 := fun x3 => Value.int x3 :: [.int (iabs (x1 - x2))]) C [.int l1] (fun r9 e9 => mX7_end C.flag N ol0 e9) mwX7_end miX7_end wd_953 ol0 (by decide) rfl rfl rfl (Nat.le_of_ble_eq_true rfl) dX0_distance_16 ⟨rfl, rfl, Nat.le_of_ble_eq_true rfl, Nat.le_of_ble_eq_true rfl, Nat.le_of_ble_eq_true rfl, Nat.le_of_ble_eq_true rfl⟩ (fun _ => rfl) (fun x3 ex3 => ?_)
  refine bd_aload_n C 2 dX0_distance_19 rfl rfl ?_
  refine bd_iload_n C 3 dX0_distance_20 rfl rfl ?_
  refine bd_callV (vs := fun (r : Int32) => some (.int r)) (wf := fun _ => w) (st := [.int x3, .int (iabs (x1 - x2))]) (st1 := fun x4 => Value.int x4 :: [.int x3, .int (iabs (x1 - x2))]) C [.int l3] (fun r9 e9 => mX7_end C.flag N ol2 e9) mwX7_end miX7_end wd_953 ol2 (by decide) rfl rfl rfl (Nat.le_of_ble_eq_true rfl) dX0_distance_21 ⟨rfl, rfl, Nat.le_of_ble_eq_true rfl, Nat.le_of_ble_eq_true rfl, Nat.le_of_ble_eq_true rfl, Nat.le_of_ble_eq_true rfl⟩ (fun _ => rfl) (fun x4 ex4 => ?_)
  refine bd_isub C dX0_distance_24 ?_
  refine bd_mabs C wd_950 wd_951 wd_104 wd_952 dX0_distance_25 ⟨Nat.le_of_ble_eq_true rfl, Nat.le_of_ble_eq_true rfl, Nat.zero_le _, Nat.zero_le _⟩ ?_
  refine bd_iadd C dX0_distance_28 ?_
  exact bd_iret C hret rfl _ _ rfl rfl dX0_distance_29 (Nat.le_refl _) (Nat.le_refl _)
abbrev rmX0_worth : Room := { frames := 12, cells := 0, slots := 0, locals := 344 }
abbrev qX0_worth (G : Gy) (F : Fr) (g : Bd) (w : Wd) : Int32 → State → Prop := fun r => QM G F g 0 0 ((fun (r : Int32) => some (.int r)) r) ((fun _ => w) r)
set_option maxRecDepth 20000 in
set_option maxHeartbeats 4000000 in
theorem mX0_worth {l : Launch} (hf9 : l.stackTraces = false) {G : Gy} {F : Fr} (N : Nat) {w : Wd} {l0 : Nat} {l1 : Int32} {l2 : Nat} {l3 : Int32} {l4 : Int32} {r : Int32} (ol0 : okF F l0 7) (ol2 : okF F l2 7) (e9 : fX0_worth F N w l0 l1 l2 l3 l4 = some r) : Met l yX0_worth [.code yX0_worth cX0_worth 6 (some .int)] rmX0_worth (PcB G F w [.ref l0, .int l1, .ref l2, .int l3, .int l4]) (QB G F ((fun (r : Int32) => some (.int r)) r) ((fun _ => w) r)) 0 0 (AF F) := by
  refine bd_met (vs := fun (r : Int32) => some (.int r)) (wf := fun _ => w) hf9 (by decide) (Nat.le_of_ble_eq_true rfl) e9 (fun g C hret hini => ?_)
  clear e9 r
  unfold fX0_worth
  refine bd_sub (lv' := [(0, .ref l0), (1, .int l1), (2, .ref l2), (3, .int l3), (4, .int l4)]) ?_ [0, 1, 2, 3, 4] rfl
  refine bd_aload_n C 0 dX0_worth_0 rfl rfl ?_
  refine bd_iload_n C 1 dX0_worth_1 rfl rfl ?_
  refine bd_aload_n C 2 dX0_worth_2 rfl rfl ?_
  refine bd_iload_n C 3 dX0_worth_3 rfl rfl ?_
  refine bd_callS (vs := fun (r : Int32) => some (.int r)) (wf := fun _ => w) (st := []) (st1 := fun x1 => Value.int x1 :: []) C [.ref l0, .int l1, .ref l2, .int l3] (fun r9 e9 => mX0_distance C.flag N ol0 ol2 e9) mwX0_distance miX0_distance wd_946 rfl rfl (Nat.le_of_ble_eq_true rfl) dX0_worth_4 ⟨rfl, rfl, Nat.le_of_ble_eq_true rfl, Nat.le_of_ble_eq_true rfl, Nat.le_of_ble_eq_true rfl, Nat.le_of_ble_eq_true rfl⟩ (fun _ => rfl) (fun x1 ex1 => ?_)
  refine bd_istore C [(5, .int x1), (0, .ref l0), (1, .int l1), (2, .ref l2), (3, .int l3), (4, .int l4)] dX0_worth_7 (by decide) rfl ?_
  refine bd_iload C 0 dX0_worth_9 rfl ?_
  refine bd_iload C 5 dX0_worth_11 rfl ?_
  refine bd_icmp_gt C 25 dX0_worth_13 (by decide) (fun c2 => ?_) (fun c2 => ?_)
  · refine bd_iconst C (v := 0) dX0_worth_25 (by decide) ?_
    exact bd_iret C hret rfl _ _ rfl rfl dX0_worth_26 (Nat.le_refl _) (Nat.le_refl _)
  · refine bd_sipush C (v := 10000) dX0_worth_16 (by decide) ?_
    refine bd_iload C 0 dX0_worth_19 rfl ?_
    refine bd_isub C dX0_worth_21 ?_
    refine bd_goto C 26 dX0_worth_22 (by decide) ?_
    exact bd_iret C hret rfl _ _ rfl rfl dX0_worth_26 (Nat.le_refl _) (Nat.le_refl _)
abbrev rmX0_bestFrom : Room := { frames := 10, cells := 0, slots := 0, locals := 300 }
abbrev qX0_bestFrom (G : Gy) (F : Fr) (g : Bd) (w : Wd) : Int32 → State → Prop := fun r => QM G F g 0 0 ((fun (r : Int32) => some (.int r)) r) ((fun _ => w) r)
set_option maxRecDepth 20000 in
set_option maxHeartbeats 4000000 in
theorem mX0_bestFrom {l : Launch} (hf9 : l.stackTraces = false) {G : Gy} {F : Fr} (N : Nat) {w : Wd} {l0 : Nat} {l1 : Int32} {l2 : Int32} {r : Int32} (ol0 : okF F l0 0) (e9 : fX0_bestFrom F N w l0 l1 l2 = some r) : Met l yX0_bestFrom [.code yX0_bestFrom cX0_bestFrom 4 (some .int)] rmX0_bestFrom (PcB G F w [.ref l0, .int l1, .int l2]) (QB G F ((fun (r : Int32) => some (.int r)) r) ((fun _ => w) r)) 0 0 (AF F) := by
  refine bd_met (vs := fun (r : Int32) => some (.int r)) (wf := fun _ => w) hf9 (by decide) (Nat.le_of_ble_eq_true rfl) e9 (fun g C hret hini => ?_)
  clear e9 r
  unfold fX0_bestFrom
  refine bd_sub (lv' := [(0, .ref l0), (1, .int l1), (2, .int l2)]) ?_ [0, 1, 2] rfl
  refine bd_iload_n C 1 dX0_bestFrom_0 rfl rfl ?_
  refine bd_bipush C (v := 31) dX0_bestFrom_1 (by decide) ?_
  refine bd_imul C dX0_bestFrom_3 ?_
  refine bd_iload_n C 2 dX0_bestFrom_4 rfl rfl ?_
  refine bd_iadd C dX0_bestFrom_5 ?_
  refine bd_bnd (tp := Value.int) (fun v1 ev1 => ?_)
  refine bd_istore_n C [(3, .int v1), (0, .ref l0), (1, .int l1), (2, .int l2)] dX0_bestFrom_6 rfl (by decide) rfl ?_
  refine bd_iload_n C 0 dX0_bestFrom_7 rfl rfl ?_
  refine bd_if_lt C 29 dX0_bestFrom_8 (by decide) (fun c2 => ?_) (fun c2 => ?_)
  · refine bd_iconst C (v := 0) dX0_bestFrom_29 (by decide) ?_
    exact bd_iret C hret rfl _ _ rfl rfl dX0_bestFrom_30 (Nat.le_refl _) (Nat.le_refl _)
  · refine bd_iload_n C 0 dX0_bestFrom_11 rfl rfl ?_
    refine bd_aload_n C 1 dX0_bestFrom_12 rfl rfl ?_
    refine bd_gR C fi0 fv0 wd_260 dX0_bestFrom_13 ol0 (fun r3 gr3 hr3 => ?_)
    refine bd_alen C dX0_bestFrom_16 hr3 (by decide) 1 rfl ?_
    refine bd_icmp_ge C 29 dX0_bestFrom_17 (by decide) (fun c4 => ?_) (fun c4 => ?_)
    · refine bd_iconst C (v := 0) dX0_bestFrom_29 (by decide) ?_
      exact bd_iret C hret rfl _ _ rfl rfl dX0_bestFrom_30 (Nat.le_refl _) (Nat.le_refl _)
    · refine bd_aload_n C 1 dX0_bestFrom_20 rfl rfl ?_
      refine bd_gR C fi0 fv0 wd_260 dX0_bestFrom_21 ol0 (fun r5 gr5 hr5 => ?_)
      refine bd_iload_n C 0 dX0_bestFrom_24 rfl rfl ?_
      refine bd_iald C dX0_bestFrom_25 hr5 (fun x6 => ?_)
      refine bd_goto C 30 dX0_bestFrom_26 (by decide) ?_
      exact bd_iret C hret rfl _ _ rfl rfl dX0_bestFrom_30 (Nat.le_refl _) (Nat.le_refl _)
abbrev rmX0_fillBest : Room := { frames := 13, cells := 0, slots := 0, locals := 369 }
abbrev qX0_fillBest (G : Gy) (F : Fr) (g : Bd) : Wd → State → Prop := fun r => QM G F g 0 0 ((fun _ => none) r) ((fun (r : Wd) => r) r)
set_option maxRecDepth 20000 in
set_option maxHeartbeats 4000000 in
theorem mX0_fillBest {l : Launch} (hf9 : l.stackTraces = false) {G : Gy} {F : Fr} (N : Nat) {w : Wd} {l0 : Nat} {l1 : Nat} {l2 : Nat} {l3 : Int32} {r : Wd} (ol0 : okF F l0 0) (ol1 : okF F l1 7) (ol2 : okF F l2 7) (e9 : fX0_fillBest F N w l0 l1 l2 l3 = some r) : Met l yX0_fillBest [.code yX0_fillBest cX0_fillBest 8 none] rmX0_fillBest (PcB G F w [.ref l0, .ref l1, .ref l2, .int l3]) (QB G F ((fun _ => none) r) ((fun (r : Wd) => r) r)) 0 0 (AF F) := by
  refine bd_met (vs := fun _ => none) (wf := fun (r : Wd) => r) hf9 (by decide) (Nat.le_of_ble_eq_true rfl) e9 (fun g C hret hini => ?_)
  clear e9 r
  have hb156 : ∀ (k11 : Wd → Nat → Nat → Nat → Int32 → Int32 → Option (Wd)), (∀ (w : Wd) (l0 : Nat) (l1 : Nat) (l2 : Nat) (l3 : Int32) (l4 : Int32) (ol0 : okF F l0 0) (ol1 : okF F l1 7) (ol2 : okF F l2 7), BD g G F 8 (qX0_fillBest G F g) 0 0 (k11 w l0 l1 l2 l3 l4) w 11 [(0, .ref l0), (1, .ref l1), (2, .ref l2), (3, .int l3), (4, .int l4)] []) → ∀ (k27 : Wd → Nat → Nat → Nat → Int32 → Int32 → Int32 → Option (Wd)), (∀ (w : Wd) (l0 : Nat) (l1 : Nat) (l2 : Nat) (l3 : Int32) (l4 : Int32) (l5 : Int32) (ol0 : okF F l0 0) (ol1 : okF F l1 7) (ol2 : okF F l2 7), BD g G F 8 (qX0_fillBest G F g) 0 0 (k27 w l0 l1 l2 l3 l4 l5) w 27 [(0, .ref l0), (1, .ref l1), (2, .ref l2), (3, .int l3), (4, .int l4), (5, .int l5)] []) → ∀  (w : Wd) (l0 : Nat) (l1 : Nat) (l2 : Nat) (l3 : Int32) (l4 : Int32) (l5 : Int32) (ol0 : okF F l0 0) (ol1 : okF F l1 7) (ol2 : okF F l2 7), BD g G F 8 (qX0_fillBest G F g) 0 0 (fX0_fillBest_156 F N k11 k27 w l0 l1 l2 l3 l4 l5) w 156 [(0, .ref l0), (1, .ref l1), (2, .ref l2), (3, .int l3), (4, .int l4), (5, .int l5)] [] := by
    intro k11 hk11 k27 hk27
    intro w l0 l1 l2 l3 l4 l5 ol0 ol1 ol2
    unfold fX0_fillBest_156
    refine bd_iinc C (v := l5 + (-1)) 5 [(5, .int (l5 + (-1))), (0, .ref l0), (1, .ref l1), (2, .ref l2), (3, .int l3), (4, .int l4)] dX0_fillBest_156 rfl rfl (by decide) rfl ?_
    refine bd_goto C 27 dX0_fillBest_159 (by decide) ?_
    exact bd_sub (hk27 w l0 l1 l2 l3 l4 (l5 + (-1)) ol0 ol1 ol2) [1, 2, 3, 4, 5, 0] rfl
  have hb122 : ∀ (k11 : Wd → Nat → Nat → Nat → Int32 → Int32 → Option (Wd)), (∀ (w : Wd) (l0 : Nat) (l1 : Nat) (l2 : Nat) (l3 : Int32) (l4 : Int32) (ol0 : okF F l0 0) (ol1 : okF F l1 7) (ol2 : okF F l2 7), BD g G F 8 (qX0_fillBest G F g) 0 0 (k11 w l0 l1 l2 l3 l4) w 11 [(0, .ref l0), (1, .ref l1), (2, .ref l2), (3, .int l3), (4, .int l4)] []) → ∀ (k27 : Wd → Nat → Nat → Nat → Int32 → Int32 → Int32 → Option (Wd)), (∀ (w : Wd) (l0 : Nat) (l1 : Nat) (l2 : Nat) (l3 : Int32) (l4 : Int32) (l5 : Int32) (ol0 : okF F l0 0) (ol1 : okF F l1 7) (ol2 : okF F l2 7), BD g G F 8 (qX0_fillBest G F g) 0 0 (k27 w l0 l1 l2 l3 l4 l5) w 27 [(0, .ref l0), (1, .ref l1), (2, .ref l2), (3, .int l3), (4, .int l4), (5, .int l5)] []) → ∀  (w : Wd) (l0 : Nat) (l1 : Nat) (l2 : Nat) (l3 : Int32) (l4 : Int32) (l5 : Int32) (l6 : Int32) (ol0 : okF F l0 0) (ol1 : okF F l1 7) (ol2 : okF F l2 7), BD g G F 8 (qX0_fillBest G F g) 0 0 (fX0_fillBest_122 F N k11 k27 w l0 l1 l2 l3 l4 l5 l6) w 122 [(0, .ref l0), (1, .ref l1), (2, .ref l2), (3, .int l3), (4, .int l4), (5, .int l5), (6, .int l6)] [] := by
    intro k11 hk11 k27 hk27
    intro w l0 l1 l2 l3 l4 l5 l6 ol0 ol1 ol2
    unfold fX0_fillBest_122
    refine bd_iload C 4 dX0_fillBest_122 rfl ?_
    refine bd_bipush C (v := 31) dX0_fillBest_124 (by decide) ?_
    refine bd_imul C dX0_fillBest_126 ?_
    refine bd_iload C 5 dX0_fillBest_127 rfl ?_
    refine bd_iadd C dX0_fillBest_129 ?_
    refine bd_bnd (tp := Value.int) (fun v12 ev12 => ?_)
    refine bd_istore C [(7, .int v12), (0, .ref l0), (1, .ref l1), (2, .ref l2), (3, .int l3), (4, .int l4), (5, .int l5), (6, .int l6)] dX0_fillBest_130 (by decide) rfl ?_
    refine bd_iload C 0 dX0_fillBest_132 rfl ?_
    refine bd_if_lt C 156 dX0_fillBest_134 (by decide) (fun c13 => ?_) (fun c13 => ?_)
    · exact bd_sub (hb156 _ hk11 _ hk27 w l0 l1 l2 l3 l4 l5 ol0 ol1 ol2) [1, 2, 3, 4, 5, 6] rfl
    · refine bd_iload C 0 dX0_fillBest_137 rfl ?_
      refine bd_aload_n C 1 dX0_fillBest_139 rfl rfl ?_
      refine bd_gR C fi0 fv0 wd_260 dX0_fillBest_140 ol0 (fun r14 gr14 hr14 => ?_)
      refine bd_alen C dX0_fillBest_143 hr14 (by decide) 1 rfl ?_
      refine bd_icmp_ge C 156 dX0_fillBest_144 (by decide) (fun c15 => ?_) (fun c15 => ?_)
      · exact bd_sub (hb156 _ hk11 _ hk27 w l0 l1 l2 l3 l4 l5 ol0 ol1 ol2) [1, 2, 3, 4, 5, 6] rfl
      · refine bd_aload_n C 1 dX0_fillBest_147 rfl rfl ?_
        refine bd_gR C fi0 fv0 wd_260 dX0_fillBest_148 ol0 (fun r16 gr16 hr16 => ?_)
        refine bd_iload C 0 dX0_fillBest_151 rfl ?_
        refine bd_iload C 7 dX0_fillBest_153 rfl ?_
        refine bd_iast C dX0_fillBest_155 hr16 (fun w17 => ?_)
        exact bd_sub (hb156 _ hk11 _ hk27 w17 l0 l1 l2 l3 l4 l5 ol0 ol1 ol2) [1, 2, 3, 4, 5, 6] rfl
  have hb120 : ∀ (k11 : Wd → Nat → Nat → Nat → Int32 → Int32 → Option (Wd)), (∀ (w : Wd) (l0 : Nat) (l1 : Nat) (l2 : Nat) (l3 : Int32) (l4 : Int32) (ol0 : okF F l0 0) (ol1 : okF F l1 7) (ol2 : okF F l2 7), BD g G F 8 (qX0_fillBest G F g) 0 0 (k11 w l0 l1 l2 l3 l4) w 11 [(0, .ref l0), (1, .ref l1), (2, .ref l2), (3, .int l3), (4, .int l4)] []) → ∀ (k27 : Wd → Nat → Nat → Nat → Int32 → Int32 → Int32 → Option (Wd)), (∀ (w : Wd) (l0 : Nat) (l1 : Nat) (l2 : Nat) (l3 : Int32) (l4 : Int32) (l5 : Int32) (ol0 : okF F l0 0) (ol1 : okF F l1 7) (ol2 : okF F l2 7), BD g G F 8 (qX0_fillBest G F g) 0 0 (k27 w l0 l1 l2 l3 l4 l5) w 27 [(0, .ref l0), (1, .ref l1), (2, .ref l2), (3, .int l3), (4, .int l4), (5, .int l5)] []) → ∀  (w : Wd) (l0 : Nat) (l1 : Nat) (l2 : Nat) (l3 : Int32) (l4 : Int32) (l5 : Int32) (s0 : Int32) (ol0 : okF F l0 0) (ol1 : okF F l1 7) (ol2 : okF F l2 7), BD g G F 8 (qX0_fillBest G F g) 0 0 (fX0_fillBest_120 F N k11 k27 w l0 l1 l2 l3 l4 l5 s0) w 120 [(0, .ref l0), (1, .ref l1), (2, .ref l2), (3, .int l3), (4, .int l4), (5, .int l5)] [.int s0] := by
    intro k11 hk11 k27 hk27
    intro w l0 l1 l2 l3 l4 l5 s0 ol0 ol1 ol2
    unfold fX0_fillBest_120
    refine bd_istore C [(6, .int s0), (0, .ref l0), (1, .ref l1), (2, .ref l2), (3, .int l3), (4, .int l4), (5, .int l5)] dX0_fillBest_120 (by decide) rfl ?_
    exact bd_sub (hb122 _ hk11 _ hk27 w l0 l1 l2 l3 l4 l5 s0 ol0 ol1 ol2) [1, 2, 3, 4, 5, 6, 0] rfl
  have hb27 : ∀ (k11 : Wd → Nat → Nat → Nat → Int32 → Int32 → Option (Wd)), (∀ (w : Wd) (l0 : Nat) (l1 : Nat) (l2 : Nat) (l3 : Int32) (l4 : Int32) (ol0 : okF F l0 0) (ol1 : okF F l1 7) (ol2 : okF F l2 7), BD g G F 8 (qX0_fillBest G F g) 0 0 (k11 w l0 l1 l2 l3 l4) w 11 [(0, .ref l0), (1, .ref l1), (2, .ref l2), (3, .int l3), (4, .int l4)] []) → ∀ (n : Nat) (w : Wd) (l0 : Nat) (l1 : Nat) (l2 : Nat) (l3 : Int32) (l4 : Int32) (l5 : Int32) (ol0 : okF F l0 0) (ol1 : okF F l1 7) (ol2 : okF F l2 7), BD g G F 8 (qX0_fillBest G F g) 0 0 (fX0_fillBest_27 F N k11 n w l0 l1 l2 l3 l4 l5) w 27 [(0, .ref l0), (1, .ref l1), (2, .ref l2), (3, .int l3), (4, .int l4), (5, .int l5)] [] := by
    intro k11 hk11
    intro n
    induction n with
    | zero =>
      intro w l0 l1 l2 l3 l4 l5 ol0 ol1 ol2
      unfold fX0_fillBest_27
      exact bd_none
    | succ n ih =>
      intro w l0 l1 l2 l3 l4 l5 ol0 ol1 ol2
      unfold fX0_fillBest_27
      refine bd_iload C 5 dX0_fillBest_27 rfl ?_
      refine bd_if_lt C 162 dX0_fillBest_29 (by decide) (fun c3 => ?_) (fun c3 => ?_)
      · refine bd_iinc C (v := l4 + (-1)) 4 [(4, .int (l4 + (-1))), (0, .ref l0), (1, .ref l1), (2, .ref l2), (3, .int l3), (5, .int l5)] dX0_fillBest_162 rfl rfl (by decide) rfl ?_
        refine bd_goto C 11 dX0_fillBest_165 (by decide) ?_
        exact bd_sub (hk11 w l0 l1 l2 l3 (l4 + (-1)) ol0 ol1 ol2) [1, 2, 3, 4, 0] rfl
      · refine bd_iconst C (v := 0) dX0_fillBest_32 (by decide) ?_
        refine bd_istore C [(6, .int 0), (0, .ref l0), (1, .ref l1), (2, .ref l2), (3, .int l3), (4, .int l4), (5, .int l5)] dX0_fillBest_33 (by decide) rfl ?_
        refine bd_iload C 5 dX0_fillBest_35 rfl ?_
        refine bd_aload_n C 2 dX0_fillBest_37 rfl rfl ?_
        refine bd_gIN C fi703 fv703 wd_132 dX0_fillBest_38 ol1 ?_
        refine bd_icmp_ge C 122 dX0_fillBest_41 (by decide) (fun c4 => ?_) (fun c4 => ?_)
        · exact bd_sub (hb122 _ hk11 _ ih w l0 l1 l2 l3 l4 l5 0 ol0 ol1 ol2) [1, 2, 3, 4, 5, 6, 0] rfl
        · refine bd_iload C 6 dX0_fillBest_44 rfl ?_
          refine bd_aload_n C 3 dX0_fillBest_46 rfl rfl ?_
          refine bd_gIN C fi703 fv703 wd_132 dX0_fillBest_47 ol2 ?_
          refine bd_icmp_ge C 122 dX0_fillBest_50 (by decide) (fun c5 => ?_) (fun c5 => ?_)
          · exact bd_sub (hb122 _ hk11 _ ih w l0 l1 l2 l3 l4 l5 0 ol0 ol1 ol2) [1, 2, 3, 4, 5, 6, 0] rfl
          · refine bd_aload_n C 2 dX0_fillBest_53 rfl rfl ?_
            refine bd_iload C 5 dX0_fillBest_54 rfl ?_
            refine bd_aload_n C 3 dX0_fillBest_56 rfl rfl ?_
            refine bd_iload C 6 dX0_fillBest_57 rfl ?_
            refine bd_iload_n C 4 dX0_fillBest_59 rfl rfl ?_
            refine bd_callS (vs := fun (r : Int32) => some (.int r)) (wf := fun _ => w) (st := []) (st1 := fun x6 => Value.int x6 :: []) C [.ref l1, .int l4, .ref l2, .int l5, .int l3] (fun r9 e9 => mX0_worth C.flag N ol1 ol2 e9) mwX0_worth miX0_worth wd_943 rfl rfl (Nat.le_of_ble_eq_true rfl) dX0_fillBest_60 ⟨rfl, rfl, Nat.le_of_ble_eq_true rfl, Nat.le_of_ble_eq_true rfl, Nat.le_of_ble_eq_true rfl, Nat.le_of_ble_eq_true rfl⟩ (fun _ => rfl) (fun x6 ex6 => ?_)
            refine bd_istore C [(7, .int x6), (6, .int 0), (0, .ref l0), (1, .ref l1), (2, .ref l2), (3, .int l3), (4, .int l4), (5, .int l5)] dX0_fillBest_63 (by decide) rfl ?_
            refine bd_aload_n C 2 dX0_fillBest_65 rfl rfl ?_
            refine bd_iload C 6 dX0_fillBest_66 rfl ?_
            refine bd_iconst C (v := 1) dX0_fillBest_68 (by decide) ?_
            refine bd_iadd C dX0_fillBest_69 ?_
            refine bd_iload C 7 dX0_fillBest_70 rfl ?_
            refine bd_callV (vs := fun (r : Int32) => some (.int r)) (wf := fun _ => w) (st := []) (st1 := fun x7 => Value.int x7 :: []) C [.int (l4 + 1), .int l5] (fun r9 e9 => mX0_bestFrom C.flag N ol0 e9) mwX0_bestFrom miX0_bestFrom wd_954 ol0 (by decide) rfl rfl rfl (Nat.le_of_ble_eq_true rfl) dX0_fillBest_72 ⟨rfl, rfl, Nat.le_of_ble_eq_true rfl, Nat.le_of_ble_eq_true rfl, Nat.le_of_ble_eq_true rfl, Nat.le_of_ble_eq_true rfl⟩ (fun _ => rfl) (fun x7 ex7 => ?_)
            refine bd_aload_n C 2 dX0_fillBest_75 rfl rfl ?_
            refine bd_iload C 6 dX0_fillBest_76 rfl ?_
            refine bd_iload C 7 dX0_fillBest_78 rfl ?_
            refine bd_iconst C (v := 1) dX0_fillBest_80 (by decide) ?_
            refine bd_iadd C dX0_fillBest_81 ?_
            refine bd_callV (vs := fun (r : Int32) => some (.int r)) (wf := fun _ => w) (st := [.int x7]) (st1 := fun x8 => Value.int x8 :: [.int x7]) C [.int l4, .int (l5 + 1)] (fun r9 e9 => mX0_bestFrom C.flag N ol0 e9) mwX0_bestFrom miX0_bestFrom wd_954 ol0 (by decide) rfl rfl rfl (Nat.le_of_ble_eq_true rfl) dX0_fillBest_82 ⟨rfl, rfl, Nat.le_of_ble_eq_true rfl, Nat.le_of_ble_eq_true rfl, Nat.le_of_ble_eq_true rfl, Nat.le_of_ble_eq_true rfl⟩ (fun _ => rfl) (fun x8 ex8 => ?_)
            refine bd_mmax C wd_958 wd_415 wd_104 wd_416 dX0_fillBest_85 ⟨Nat.le_of_ble_eq_true rfl, Nat.le_of_ble_eq_true rfl, Nat.zero_le _, Nat.zero_le _⟩ ?_
            refine bd_bnd (tp := Value.int) (fun v9 ev9 => ?_)
            refine bd_istore C [(6, .int v9), (7, .int x6), (0, .ref l0), (1, .ref l1), (2, .ref l2), (3, .int l3), (4, .int l4), (5, .int l5)] dX0_fillBest_88 (by decide) rfl ?_
            refine bd_iload C 1 dX0_fillBest_90 rfl ?_
            refine bd_if_le C 118 dX0_fillBest_92 (by decide) (fun c10 => ?_) (fun c10 => ?_)
            · refine bd_iload C 0 dX0_fillBest_118 rfl ?_
              exact bd_sub (hb120 _ hk11 _ ih w l0 l1 l2 l3 l4 l5 v9 ol0 ol1 ol2) [2, 3, 4, 5, 6, 7] rfl
            · refine bd_iload C 0 dX0_fillBest_95 rfl ?_
              refine bd_iload C 1 dX0_fillBest_97 rfl ?_
              refine bd_aload_n C 2 dX0_fillBest_99 rfl rfl ?_
              refine bd_iload C 6 dX0_fillBest_100 rfl ?_
              refine bd_iconst C (v := 1) dX0_fillBest_102 (by decide) ?_
              refine bd_iadd C dX0_fillBest_103 ?_
              refine bd_iload C 7 dX0_fillBest_104 rfl ?_
              refine bd_iconst C (v := 1) dX0_fillBest_106 (by decide) ?_
              refine bd_iadd C dX0_fillBest_107 ?_
              refine bd_callV (vs := fun (r : Int32) => some (.int r)) (wf := fun _ => w) (st := [.int x6, .int v9]) (st1 := fun x11 => Value.int x11 :: [.int x6, .int v9]) C [.int (l4 + 1), .int (l5 + 1)] (fun r9 e9 => mX0_bestFrom C.flag N ol0 e9) mwX0_bestFrom miX0_bestFrom wd_954 ol0 (by decide) rfl rfl rfl (Nat.le_of_ble_eq_true rfl) dX0_fillBest_108 ⟨rfl, rfl, Nat.le_of_ble_eq_true rfl, Nat.le_of_ble_eq_true rfl, Nat.le_of_ble_eq_true rfl, Nat.le_of_ble_eq_true rfl⟩ (fun _ => rfl) (fun x11 ex11 => ?_)
              refine bd_iadd C dX0_fillBest_111 ?_
              refine bd_mmax C wd_958 wd_415 wd_104 wd_416 dX0_fillBest_112 ⟨Nat.le_of_ble_eq_true rfl, Nat.le_of_ble_eq_true rfl, Nat.zero_le _, Nat.zero_le _⟩ ?_
              refine bd_goto C 120 dX0_fillBest_115 (by decide) ?_
              exact bd_sub (hb120 _ hk11 _ ih w l0 l1 l2 l3 l4 l5 (imax v9 (x6 + x11)) ol0 ol1 ol2) [2, 3, 4, 5, 6, 7] rfl
  have hb11 : ∀ (n : Nat) (w : Wd) (l0 : Nat) (l1 : Nat) (l2 : Nat) (l3 : Int32) (l4 : Int32) (ol0 : okF F l0 0) (ol1 : okF F l1 7) (ol2 : okF F l2 7), BD g G F 8 (qX0_fillBest G F g) 0 0 (fX0_fillBest_11 F N n w l0 l1 l2 l3 l4) w 11 [(0, .ref l0), (1, .ref l1), (2, .ref l2), (3, .int l3), (4, .int l4)] [] := by
    intro n
    induction n with
    | zero =>
      intro w l0 l1 l2 l3 l4 ol0 ol1 ol2
      unfold fX0_fillBest_11
      exact bd_none
    | succ n ih =>
      intro w l0 l1 l2 l3 l4 ol0 ol1 ol2
      unfold fX0_fillBest_11
      refine bd_iload C 4 dX0_fillBest_11 rfl ?_
      refine bd_if_lt C 168 dX0_fillBest_13 (by decide) (fun c1 => ?_) (fun c1 => ?_)
      · exact bd_vret C hret rfl _ _ rfl rfl dX0_fillBest_168 (Nat.le_refl _) (Nat.le_refl _)
      · refine bd_aload_n C 2 dX0_fillBest_16 rfl rfl ?_
        refine bd_gIN C fi703 fv703 wd_132 dX0_fillBest_17 ol2 ?_
        refine bd_bipush C (v := 30) dX0_fillBest_20 (by decide) ?_
        refine bd_mmin C wd_942 wd_625 wd_104 wd_626 dX0_fillBest_22 ⟨Nat.le_of_ble_eq_true rfl, Nat.le_of_ble_eq_true rfl, Nat.zero_le _, Nat.zero_le _⟩ ?_
        refine bd_bnd (tp := Value.int) (fun v2 ev2 => ?_)
        refine bd_istore C [(5, .int v2), (0, .ref l0), (1, .ref l1), (2, .ref l2), (3, .int l3), (4, .int l4)] dX0_fillBest_25 (by decide) rfl ?_
        exact bd_sub (hb27 _ ih N w l0 l1 l2 l3 l4 v2 ol0 ol1 ol2) [1, 2, 3, 4, 5, 0] rfl
  unfold fX0_fillBest
  refine bd_sub (lv' := [(0, .ref l0), (1, .ref l1), (2, .ref l2), (3, .int l3)]) ?_ [0, 1, 2, 3] rfl
  refine bd_aload_n C 1 dX0_fillBest_0 rfl rfl ?_
  refine bd_gIN C fi703 fv703 wd_132 dX0_fillBest_1 ol1 ?_
  refine bd_bipush C (v := 30) dX0_fillBest_4 (by decide) ?_
  refine bd_mmin C wd_942 wd_625 wd_104 wd_626 dX0_fillBest_6 ⟨Nat.le_of_ble_eq_true rfl, Nat.le_of_ble_eq_true rfl, Nat.zero_le _, Nat.zero_le _⟩ ?_
  refine bd_bnd (tp := Value.int) (fun v18 ev18 => ?_)
  refine bd_istore C [(4, .int v18), (0, .ref l0), (1, .ref l1), (2, .ref l2), (3, .int l3)] dX0_fillBest_9 (by decide) rfl ?_
  exact bd_sub (hb11 N w l0 l1 l2 l3 v18 ol0 ol1 ol2) [1, 2, 3, 4, 0] rfl
abbrev rmX0_choose : Room := { frames := 13, cells := 0, slots := 0, locals := 369 }
abbrev qX0_choose (G : Gy) (F : Fr) (g : Bd) (w : Wd) : Int32 → State → Prop := fun r => QM G F g 0 0 ((fun (r : Int32) => some (.int r)) r) ((fun _ => w) r)
set_option maxRecDepth 20000 in
set_option maxHeartbeats 4000000 in
theorem mX0_choose {l : Launch} (hf9 : l.stackTraces = false) {G : Gy} {F : Fr} (N : Nat) {w : Wd} {l0 : Nat} {l1 : Nat} {l2 : Int32} {l3 : Nat} {l4 : Int32} {l5 : Int32} {r : Int32} (ol0 : okF F l0 0) (ol1 : okF F l1 7) (ol3 : okF F l3 7) (e9 : fX0_choose F N w l0 l1 l2 l3 l4 l5 = some r) : Met l yX0_choose [.code yX0_choose cX0_choose 9 (some .int)] rmX0_choose (PcB G F w [.ref l0, .ref l1, .int l2, .ref l3, .int l4, .int l5]) (QB G F ((fun (r : Int32) => some (.int r)) r) ((fun _ => w) r)) 0 0 (AF F) := by
  refine bd_met (vs := fun (r : Int32) => some (.int r)) (wf := fun _ => w) hf9 (by decide) (Nat.le_of_ble_eq_true rfl) e9 (fun g C hret hini => ?_)
  clear e9 r
  have hb61 : ∀ (k13 : Nat → Nat → Int32 → Nat → Int32 → Int32 → Int32 → Option (Int32)), (∀ (l0 : Nat) (l1 : Nat) (l2 : Int32) (l3 : Nat) (l5 : Int32) (l6 : Int32) (l7 : Int32) (ol0 : okF F l0 0) (ol1 : okF F l1 7) (ol3 : okF F l3 7), BD g G F 9 (qX0_choose G F g w) 0 0 (k13 l0 l1 l2 l3 l5 l6 l7) w 13 [(0, .ref l0), (1, .ref l1), (2, .int l2), (3, .ref l3), (5, .int l5), (6, .int l6), (7, .int l7)] []) → ∀  (l0 : Nat) (l1 : Nat) (l2 : Int32) (l3 : Nat) (l5 : Int32) (l6 : Int32) (l7 : Int32) (ol0 : okF F l0 0) (ol1 : okF F l1 7) (ol3 : okF F l3 7), BD g G F 9 (qX0_choose G F g w) 0 0 (fX0_choose_61 F N w k13 l0 l1 l2 l3 l5 l6 l7) w 61 [(0, .ref l0), (1, .ref l1), (2, .int l2), (3, .ref l3), (5, .int l5), (6, .int l6), (7, .int l7)] [] := by
    intro k13 hk13
    intro l0 l1 l2 l3 l5 l6 l7 ol0 ol1 ol3
    unfold fX0_choose_61
    refine bd_iinc C (v := l7 + 1) 6 [(7, .int (l7 + 1)), (0, .ref l0), (1, .ref l1), (2, .int l2), (3, .ref l3), (5, .int l5), (6, .int l6)] dX0_choose_61 rfl rfl (by decide) rfl ?_
    refine bd_goto C 13 dX0_choose_64 (by decide) ?_
    exact bd_sub (hk13 l0 l1 l2 l3 l5 l6 (l7 + 1) ol0 ol1 ol3) [1, 2, 3, 4, 5, 6, 0] rfl
  have hb13 : ∀ (n : Nat) (l0 : Nat) (l1 : Nat) (l2 : Int32) (l3 : Nat) (l5 : Int32) (l6 : Int32) (l7 : Int32) (ol0 : okF F l0 0) (ol1 : okF F l1 7) (ol3 : okF F l3 7), BD g G F 9 (qX0_choose G F g w) 0 0 (fX0_choose_13 F N w n l0 l1 l2 l3 l5 l6 l7) w 13 [(0, .ref l0), (1, .ref l1), (2, .int l2), (3, .ref l3), (5, .int l5), (6, .int l6), (7, .int l7)] [] := by
    intro n
    induction n with
    | zero =>
      intro l0 l1 l2 l3 l5 l6 l7 ol0 ol1 ol3
      unfold fX0_choose_13
      exact bd_none
    | succ n ih =>
      intro l0 l1 l2 l3 l5 l6 l7 ol0 ol1 ol3
      unfold fX0_choose_13
      refine bd_iload C 6 dX0_choose_13 rfl ?_
      refine bd_aload_n C 3 dX0_choose_15 rfl rfl ?_
      refine bd_gIN C fi703 fv703 wd_132 dX0_choose_16 ol3 ?_
      refine bd_icmp_ge C 67 dX0_choose_19 (by decide) (fun c1 => ?_) (fun c1 => ?_)
      · refine bd_iconst C (v := (-1)) dX0_choose_67 (by decide) ?_
        exact bd_iret C hret rfl _ _ rfl rfl dX0_choose_68 (Nat.le_refl _) (Nat.le_refl _)
      · refine bd_aload_n C 1 dX0_choose_22 rfl rfl ?_
        refine bd_iload_n C 2 dX0_choose_23 rfl rfl ?_
        refine bd_aload_n C 3 dX0_choose_24 rfl rfl ?_
        refine bd_iload C 6 dX0_choose_25 rfl ?_
        refine bd_iload C 4 dX0_choose_27 rfl ?_
        refine bd_callS (vs := fun (r : Int32) => some (.int r)) (wf := fun _ => w) (st := []) (st1 := fun x2 => Value.int x2 :: []) C [.ref l1, .int l2, .ref l3, .int l7, .int l5] (fun r9 e9 => mX0_worth C.flag N ol1 ol3 e9) mwX0_worth miX0_worth wd_943 rfl rfl (Nat.le_of_ble_eq_true rfl) dX0_choose_29 ⟨rfl, rfl, Nat.le_of_ble_eq_true rfl, Nat.le_of_ble_eq_true rfl, Nat.le_of_ble_eq_true rfl, Nat.le_of_ble_eq_true rfl⟩ (fun _ => rfl) (fun x2 ex2 => ?_)
        refine bd_istore C [(8, .int x2), (0, .ref l0), (1, .ref l1), (2, .int l2), (3, .ref l3), (5, .int l5), (6, .int l6), (7, .int l7)] dX0_choose_32 (by decide) rfl ?_
        refine bd_iload C 0 dX0_choose_34 rfl ?_
        refine bd_if_le C 61 dX0_choose_36 (by decide) (fun c3 => ?_) (fun c3 => ?_)
        · exact bd_sub (hb61 _ ih l0 l1 l2 l3 l5 l6 l7 ol0 ol1 ol3) [1, 2, 3, 4, 5, 6, 7] rfl
        · refine bd_iload C 0 dX0_choose_39 rfl ?_
          refine bd_aload_n C 1 dX0_choose_41 rfl rfl ?_
          refine bd_iload_n C 3 dX0_choose_42 rfl rfl ?_
          refine bd_iconst C (v := 1) dX0_choose_43 (by decide) ?_
          refine bd_iadd C dX0_choose_44 ?_
          refine bd_iload C 7 dX0_choose_45 rfl ?_
          refine bd_iconst C (v := 1) dX0_choose_47 (by decide) ?_
          refine bd_iadd C dX0_choose_48 ?_
          refine bd_callV (vs := fun (r : Int32) => some (.int r)) (wf := fun _ => w) (st := [.int x2]) (st1 := fun x4 => Value.int x4 :: [.int x2]) C [.int (l2 + 1), .int (l7 + 1)] (fun r9 e9 => mX0_bestFrom C.flag N ol0 e9) mwX0_bestFrom miX0_bestFrom wd_954 ol0 (by decide) rfl rfl rfl (Nat.le_of_ble_eq_true rfl) dX0_choose_49 ⟨rfl, rfl, Nat.le_of_ble_eq_true rfl, Nat.le_of_ble_eq_true rfl, Nat.le_of_ble_eq_true rfl, Nat.le_of_ble_eq_true rfl⟩ (fun _ => rfl) (fun x4 ex4 => ?_)
          refine bd_iadd C dX0_choose_52 ?_
          refine bd_iload C 6 dX0_choose_53 rfl ?_
          refine bd_icmp_ne C 61 dX0_choose_55 (by decide) (fun c5 => ?_) (fun c5 => ?_)
          · exact bd_sub (hb61 _ ih l0 l1 l2 l3 l5 l6 l7 ol0 ol1 ol3) [1, 2, 3, 4, 5, 6, 7] rfl
          · refine bd_iload C 7 dX0_choose_58 rfl ?_
            exact bd_iret C hret rfl _ _ rfl rfl dX0_choose_60 (Nat.le_refl _) (Nat.le_refl _)
  unfold fX0_choose
  refine bd_sub (lv' := [(0, .ref l0), (1, .ref l1), (2, .int l2), (3, .ref l3), (4, .int l4), (5, .int l5)]) ?_ [0, 1, 2, 3, 4, 5] rfl
  refine bd_aload_n C 0 dX0_choose_0 rfl rfl ?_
  refine bd_iload_n C 2 dX0_choose_1 rfl rfl ?_
  refine bd_iload C 4 dX0_choose_2 rfl ?_
  refine bd_callV (vs := fun (r : Int32) => some (.int r)) (wf := fun _ => w) (st := []) (st1 := fun x6 => Value.int x6 :: []) C [.int l2, .int l4] (fun r9 e9 => mX0_bestFrom C.flag N ol0 e9) mwX0_bestFrom miX0_bestFrom wd_954 ol0 (by decide) rfl rfl rfl (Nat.le_of_ble_eq_true rfl) dX0_choose_4 ⟨rfl, rfl, Nat.le_of_ble_eq_true rfl, Nat.le_of_ble_eq_true rfl, Nat.le_of_ble_eq_true rfl, Nat.le_of_ble_eq_true rfl⟩ (fun _ => rfl) (fun x6 ex6 => ?_)
  refine bd_istore C [(6, .int x6), (0, .ref l0), (1, .ref l1), (2, .int l2), (3, .ref l3), (4, .int l4), (5, .int l5)] dX0_choose_7 (by decide) rfl ?_
  refine bd_iload C 5 dX0_choose_9 rfl ?_
  refine bd_istore C [(7, .int l4), (6, .int x6), (0, .ref l0), (1, .ref l1), (2, .int l2), (3, .ref l3), (4, .int l4), (5, .int l5)] dX0_choose_11 (by decide) rfl ?_
  exact bd_sub (hb13 N l0 l1 l2 l3 l5 x6 l4 ol0 ol1 ol3) [2, 3, 4, 5, 7, 1, 0] rfl
abbrev rmX0_run : Room := { frames := 14, cells := 0, slots := 0, locals := 397 }
abbrev qX0_run (G : Gy) (F : Fr) (g : Bd) : Wd → State → Prop := fun r => QM G F g 0 0 ((fun _ => none) r) ((fun (r : Wd) => r) r)
set_option maxRecDepth 20000 in
set_option maxHeartbeats 4000000 in
theorem mX0_run {l : Launch} (hf9 : l.stackTraces = false) {G : Gy} {F : Fr} (N : Nat) {w : Wd} {l0 : Nat} {l1 : Nat} {l2 : Nat} {l3 : Int32} {r : Wd} (ol0 : okF F l0 0) (ol1 : okF F l1 7) (ol2 : okF F l2 7) (e9 : fX0_run F N w l0 l1 l2 l3 = some r) : Met l yX0_run [.code yX0_run cX0_run 7 none] rmX0_run (PcB G F w [.ref l0, .ref l1, .ref l2, .int l3]) (QB G F ((fun _ => none) r) ((fun (r : Wd) => r) r)) 0 0 (AF F) := by
  refine bd_met (vs := fun _ => none) (wf := fun (r : Wd) => r) hf9 (by decide) (Nat.le_of_ble_eq_true rfl) e9 (fun g C hret hini => ?_)
  clear e9 r
  have hb100 : ∀ (k23 : Wd → Nat → Nat → Nat → Int32 → Int32 → Int32 → Option (Wd)), (∀ (w : Wd) (l0 : Nat) (l1 : Nat) (l2 : Nat) (l3 : Int32) (l4 : Int32) (l5 : Int32) (ol0 : okF F l0 0) (ol1 : okF F l1 7) (ol2 : okF F l2 7), BD g G F 7 (qX0_run G F g) 0 0 (k23 w l0 l1 l2 l3 l4 l5) w 23 [(0, .ref l0), (1, .ref l1), (2, .ref l2), (3, .int l3), (4, .int l4), (5, .int l5)] []) → ∀  (w : Wd) (l0 : Nat) (l1 : Nat) (l2 : Nat) (l3 : Int32) (l4 : Int32) (l5 : Int32) (ol0 : okF F l0 0) (ol1 : okF F l1 7) (ol2 : okF F l2 7), BD g G F 7 (qX0_run G F g) 0 0 (fX0_run_100 F N k23 w l0 l1 l2 l3 l4 l5) w 100 [(0, .ref l0), (1, .ref l1), (2, .ref l2), (3, .int l3), (4, .int l4), (5, .int l5)] [] := by
    intro k23 hk23
    intro w l0 l1 l2 l3 l4 l5 ol0 ol1 ol2
    unfold fX0_run_100
    refine bd_iinc C (v := l5 + 1) 5 [(5, .int (l5 + 1)), (0, .ref l0), (1, .ref l1), (2, .ref l2), (3, .int l3), (4, .int l4)] dX0_run_100 rfl rfl (by decide) rfl ?_
    refine bd_goto C 23 dX0_run_103 (by decide) ?_
    exact bd_sub (hk23 w l0 l1 l2 l3 l4 (l5 + 1) ol0 ol1 ol2) [1, 2, 3, 4, 5, 0] rfl
  have hb23 : ∀ (n : Nat) (w : Wd) (l0 : Nat) (l1 : Nat) (l2 : Nat) (l3 : Int32) (l4 : Int32) (l5 : Int32) (ol0 : okF F l0 0) (ol1 : okF F l1 7) (ol2 : okF F l2 7), BD g G F 7 (qX0_run G F g) 0 0 (fX0_run_23 F N n w l0 l1 l2 l3 l4 l5) w 23 [(0, .ref l0), (1, .ref l1), (2, .ref l2), (3, .int l3), (4, .int l4), (5, .int l5)] [] := by
    intro n
    induction n with
    | zero =>
      intro w l0 l1 l2 l3 l4 l5 ol0 ol1 ol2
      unfold fX0_run_23
      exact bd_none
    | succ n ih =>
      intro w l0 l1 l2 l3 l4 l5 ol0 ol1 ol2
      unfold fX0_run_23
      refine bd_iload C 5 dX0_run_23 rfl ?_
      refine bd_aload_n C 1 dX0_run_25 rfl rfl ?_
      refine bd_gIN C fi703 fv703 wd_132 dX0_run_26 ol1 ?_
      refine bd_icmp_ge C 106 dX0_run_29 (by decide) (fun c1 => ?_) (fun c1 => ?_)
      · exact bd_vret C hret rfl _ _ rfl rfl dX0_run_106 (Nat.le_refl _) (Nat.le_refl _)
      · refine bd_iload C 5 dX0_run_32 rfl ?_
        refine bd_bipush C (v := 30) dX0_run_34 (by decide) ?_
        refine bd_icmp_ge C 106 dX0_run_36 (by decide) (fun c2 => ?_) (fun c2 => ?_)
        · exact bd_vret C hret rfl _ _ rfl rfl dX0_run_106 (Nat.le_refl _) (Nat.le_refl _)
        · refine bd_aload_n C 0 dX0_run_39 rfl rfl ?_
          refine bd_aload_n C 1 dX0_run_40 rfl rfl ?_
          refine bd_iload C 5 dX0_run_41 rfl ?_
          refine bd_aload_n C 2 dX0_run_43 rfl rfl ?_
          refine bd_iload C 4 dX0_run_44 rfl ?_
          refine bd_iload_n C 3 dX0_run_46 rfl rfl ?_
          refine bd_callV (vs := fun (r : Int32) => some (.int r)) (wf := fun _ => w) (st := []) (st1 := fun x3 => Value.int x3 :: []) C [.ref l1, .int l5, .ref l2, .int l4, .int l3] (fun r9 e9 => mX0_choose C.flag N ol0 ol1 ol2 e9) mwX0_choose miX0_choose wd_959 ol0 (by decide) rfl rfl rfl (Nat.le_of_ble_eq_true rfl) dX0_run_47 ⟨rfl, rfl, Nat.le_of_ble_eq_true rfl, Nat.le_of_ble_eq_true rfl, Nat.le_of_ble_eq_true rfl, Nat.le_of_ble_eq_true rfl⟩ (fun _ => rfl) (fun x3 ex3 => ?_)
          refine bd_istore C [(6, .int x3), (0, .ref l0), (1, .ref l1), (2, .ref l2), (3, .int l3), (4, .int l4), (5, .int l5)] dX0_run_50 (by decide) rfl ?_
          refine bd_aload_n C 1 dX0_run_52 rfl rfl ?_
          refine bd_gR C fi1 fv1 wd_261 dX0_run_53 ol0 (fun r4 gr4 hr4 => ?_)
          refine bd_iload C 6 dX0_run_56 rfl ?_
          refine bd_iload C 0 dX0_run_58 rfl ?_
          refine bd_iast C dX0_run_60 hr4 (fun w5 => ?_)
          refine bd_iload C 0 dX0_run_61 rfl ?_
          refine bd_if_lt C 100 dX0_run_63 (by decide) (fun c6 => ?_) (fun c6 => ?_)
          · exact bd_sub (hb100 _ ih w5 l0 l1 l2 l3 l4 l5 ol0 ol1 ol2) [1, 2, 3, 4, 5, 6] rfl
          · refine bd_aload_n C 1 dX0_run_66 rfl rfl ?_
            refine bd_dup C dX0_run_67 rfl ?_
            refine bd_gI C fi2 fv2 wd_262 dX0_run_68 ol0 ?_
            refine bd_iconst C (v := 1) dX0_run_71 (by decide) ?_
            refine bd_iadd C dX0_run_72 ?_
            refine bd_pI C fi2 ftX0 fu2 wd_262 rfl rfl rfl dX0_run_73 ol0 (fun w7 => ?_)
            refine bd_aload_n C 1 dX0_run_76 rfl rfl ?_
            refine bd_dup C dX0_run_77 rfl ?_
            refine bd_gI C fi3 fv3 wd_264 dX0_run_78 ol0 ?_
            refine bd_aload_n C 2 dX0_run_81 rfl rfl ?_
            refine bd_iload C 6 dX0_run_82 rfl ?_
            refine bd_aload_n C 3 dX0_run_84 rfl rfl ?_
            refine bd_iload C 0 dX0_run_85 rfl ?_
            refine bd_callS (vs := fun (r : Int32) => some (.int r)) (wf := fun _ => w7) (st := [.int (gI w7 3 l0), .ref l0]) (st1 := fun x8 => Value.int x8 :: [.int (gI w7 3 l0), .ref l0]) C [.ref l1, .int l5, .ref l2, .int x3] (fun r9 e9 => mX0_distance C.flag N ol1 ol2 e9) mwX0_distance miX0_distance wd_946 rfl rfl (Nat.le_of_ble_eq_true rfl) dX0_run_87 ⟨rfl, rfl, Nat.le_of_ble_eq_true rfl, Nat.le_of_ble_eq_true rfl, Nat.le_of_ble_eq_true rfl, Nat.le_of_ble_eq_true rfl⟩ (fun _ => rfl) (fun x8 ex8 => ?_)
            refine bd_iadd C dX0_run_90 ?_
            refine bd_pI C fi3 ftX0 fu3 wd_264 rfl rfl rfl dX0_run_91 ol0 (fun w9 => ?_)
            refine bd_iload C 0 dX0_run_94 rfl ?_
            refine bd_iconst C (v := 1) dX0_run_96 (by decide) ?_
            refine bd_iadd C dX0_run_97 ?_
            refine bd_bnd (tp := Value.int) (fun v10 ev10 => ?_)
            refine bd_istore C [(4, .int v10), (6, .int x3), (0, .ref l0), (1, .ref l1), (2, .ref l2), (3, .int l3), (5, .int l5)] dX0_run_98 (by decide) rfl ?_
            exact bd_sub (hb100 _ ih w9 l0 l1 l2 l3 v10 l5 ol0 ol1 ol2) [2, 3, 4, 5, 0, 6] rfl
  unfold fX0_run
  refine bd_sub (lv' := [(0, .ref l0), (1, .ref l1), (2, .ref l2), (3, .int l3)]) ?_ [0, 1, 2, 3] rfl
  refine bd_aload_n C 0 dX0_run_0 rfl rfl ?_
  refine bd_aload_n C 1 dX0_run_1 rfl rfl ?_
  refine bd_aload_n C 2 dX0_run_2 rfl rfl ?_
  refine bd_iload_n C 3 dX0_run_3 rfl rfl ?_
  refine bd_callV (vs := fun _ => none) (wf := fun (r : Wd) => r) (st := []) (st1 := fun p11 => []) C [.ref l1, .ref l2, .int l3] (fun r9 e9 => mX0_fillBest C.flag N ol0 ol1 ol2 e9) mwX0_fillBest miX0_fillBest wd_938 ol0 (by decide) rfl rfl rfl (Nat.le_of_ble_eq_true rfl) dX0_run_4 ⟨rfl, rfl, Nat.le_of_ble_eq_true rfl, Nat.le_of_ble_eq_true rfl, Nat.le_of_ble_eq_true rfl, Nat.le_of_ble_eq_true rfl⟩ (fun _ => rfl) (fun p11 ep11 => ?_)
  refine bd_aload_n C 0 dX0_run_7 rfl rfl ?_
  refine bd_iconst C (v := 0) dX0_run_8 (by decide) ?_
  refine bd_pI C fi2 ftX0 fu2 wd_262 rfl rfl rfl dX0_run_9 ol0 (fun w12 => ?_)
  refine bd_aload_n C 0 dX0_run_12 rfl rfl ?_
  refine bd_iconst C (v := 0) dX0_run_13 (by decide) ?_
  refine bd_pI C fi3 ftX0 fu3 wd_264 rfl rfl rfl dX0_run_14 ol0 (fun w13 => ?_)
  refine bd_iconst C (v := 0) dX0_run_17 (by decide) ?_
  refine bd_istore C [(4, .int 0), (0, .ref l0), (1, .ref l1), (2, .ref l2), (3, .int l3)] dX0_run_18 (by decide) rfl ?_
  refine bd_iconst C (v := 0) dX0_run_20 (by decide) ?_
  refine bd_istore C [(5, .int 0), (4, .int 0), (0, .ref l0), (1, .ref l1), (2, .ref l2), (3, .int l3)] dX0_run_21 (by decide) rfl ?_
  exact bd_sub (hb23 N w13 l0 l1 l2 l3 0 0 ol0 ol1 ol2) [2, 3, 4, 5, 1, 0] rfl
abbrev rmX0_partnerOf : Room := { frames := 10, cells := 0, slots := 0, locals := 300 }
abbrev qX0_partnerOf (G : Gy) (F : Fr) (g : Bd) (w : Wd) : Int32 → State → Prop := fun r => QM G F g 0 0 ((fun (r : Int32) => some (.int r)) r) ((fun _ => w) r)
set_option maxRecDepth 20000 in
set_option maxHeartbeats 4000000 in
theorem mX0_partnerOf {l : Launch} (hf9 : l.stackTraces = false) {G : Gy} {F : Fr} (N : Nat) {w : Wd} {l0 : Nat} {l1 : Int32} {r : Int32} (ol0 : okF F l0 0) (e9 : fX0_partnerOf F N w l0 l1 = some r) : Met l yX0_partnerOf [.code yX0_partnerOf cX0_partnerOf 2 (some .int)] rmX0_partnerOf (PcB G F w [.ref l0, .int l1]) (QB G F ((fun (r : Int32) => some (.int r)) r) ((fun _ => w) r)) 0 0 (AF F) := by
  refine bd_met (vs := fun (r : Int32) => some (.int r)) (wf := fun _ => w) hf9 (by decide) (Nat.le_of_ble_eq_true rfl) e9 (fun g C hret hini => ?_)
  clear e9 r
  unfold fX0_partnerOf
  refine bd_sub (lv' := [(0, .ref l0), (1, .int l1)]) ?_ [0, 1] rfl
  refine bd_iload_n C 1 dX0_partnerOf_0 rfl rfl ?_
  refine bd_if_lt C 19 dX0_partnerOf_1 (by decide) (fun c1 => ?_) (fun c1 => ?_)
  · refine bd_iconst C (v := (-1)) dX0_partnerOf_19 (by decide) ?_
    exact bd_iret C hret rfl _ _ rfl rfl dX0_partnerOf_20 (Nat.le_refl _) (Nat.le_refl _)
  · refine bd_iload_n C 1 dX0_partnerOf_4 rfl rfl ?_
    refine bd_bipush C (v := 30) dX0_partnerOf_5 (by decide) ?_
    refine bd_icmp_ge C 19 dX0_partnerOf_7 (by decide) (fun c2 => ?_) (fun c2 => ?_)
    · refine bd_iconst C (v := (-1)) dX0_partnerOf_19 (by decide) ?_
      exact bd_iret C hret rfl _ _ rfl rfl dX0_partnerOf_20 (Nat.le_refl _) (Nat.le_refl _)
    · refine bd_aload_n C 0 dX0_partnerOf_10 rfl rfl ?_
      refine bd_gR C fi1 fv1 wd_261 dX0_partnerOf_11 ol0 (fun r3 gr3 hr3 => ?_)
      refine bd_iload_n C 1 dX0_partnerOf_14 rfl rfl ?_
      refine bd_iald C dX0_partnerOf_15 hr3 (fun x4 => ?_)
      refine bd_goto C 20 dX0_partnerOf_16 (by decide) ?_
      exact bd_iret C hret rfl _ _ rfl rfl dX0_partnerOf_20 (Nat.le_refl _) (Nat.le_refl _)
abbrev rmX1_reset : Room := { frames := 10, cells := 0, slots := 0, locals := 300 }
abbrev qX1_reset (G : Gy) (F : Fr) (g : Bd) : Wd → State → Prop := fun r => QM G F g 0 0 ((fun _ => none) r) ((fun (r : Wd) => r) r)
set_option maxRecDepth 20000 in
set_option maxHeartbeats 4000000 in
theorem mX1_reset {l : Launch} (hf9 : l.stackTraces = false) {G : Gy} {F : Fr} (N : Nat) {w : Wd} {l0 : Nat} {r : Wd} (ol0 : okF F l0 1) (e9 : fX1_reset F N w l0 = some r) : Met l yX1_reset [.code yX1_reset cX1_reset 1 none] rmX1_reset (PcB G F w [.ref l0]) (QB G F ((fun _ => none) r) ((fun (r : Wd) => r) r)) 0 0 (AF F) := by
  refine bd_met (vs := fun _ => none) (wf := fun (r : Wd) => r) hf9 (by decide) (Nat.le_of_ble_eq_true rfl) e9 (fun g C hret hini => ?_)
  clear e9 r
  unfold fX1_reset
  refine bd_sub (lv' := [(0, .ref l0)]) ?_ [0] rfl
  refine bd_aload_n C 0 dX1_reset_0 rfl rfl ?_
  refine bd_iconst C (v := 0) dX1_reset_1 (by decide) ?_
  refine bd_pI C fi105 ftX1 fu105 wd_154 rfl rfl rfl dX1_reset_2 ol0 (fun w1 => ?_)
  refine bd_aload_n C 0 dX1_reset_5 rfl rfl ?_
  refine bd_iconst C (v := 0) dX1_reset_6 (by decide) ?_
  refine bd_pI C fi106 ftX1 fu106 wd_158 rfl rfl rfl dX1_reset_7 ol0 (fun w2 => ?_)
  refine bd_aload_n C 0 dX1_reset_10 rfl rfl ?_
  refine bd_bipush C (v := 50) dX1_reset_11 (by decide) ?_
  refine bd_pI C fi107 ftX1 fu107 wd_160 rfl rfl rfl dX1_reset_13 ol0 (fun w3 => ?_)
  refine bd_aload_n C 0 dX1_reset_16 rfl rfl ?_
  refine bd_bipush C (v := 20) dX1_reset_17 (by decide) ?_
  refine bd_pI C fi108 ftX1 fu108 wd_162 rfl rfl rfl dX1_reset_19 ol0 (fun w4 => ?_)
  exact bd_vret C hret rfl _ _ rfl rfl dX1_reset_22 (Nat.le_refl _) (Nat.le_refl _)
abbrev rmX1_kindOf : Room := { frames := 10, cells := 0, slots := 0, locals := 300 }
abbrev qX1_kindOf (G : Gy) (F : Fr) (g : Bd) (w : Wd) : Int32 → State → Prop := fun r => QM G F g 0 0 ((fun (r : Int32) => some (.int r)) r) ((fun _ => w) r)
set_option maxRecDepth 20000 in
set_option maxHeartbeats 4000000 in
theorem mX1_kindOf {l : Launch} (hf9 : l.stackTraces = false) {G : Gy} {F : Fr} (N : Nat) {w : Wd} {l0 : Nat} {l1 : Int32} {r : Int32} (ol0 : okF F l0 1) (e9 : fX1_kindOf F N w l0 l1 = some r) : Met l yX1_kindOf [.code yX1_kindOf cX1_kindOf 2 (some .int)] rmX1_kindOf (PcB G F w [.ref l0, .int l1]) (QB G F ((fun (r : Int32) => some (.int r)) r) ((fun _ => w) r)) 0 0 (AF F) := by
  refine bd_met (vs := fun (r : Int32) => some (.int r)) (wf := fun _ => w) hf9 (by decide) (Nat.le_of_ble_eq_true rfl) e9 (fun g C hret hini => ?_)
  clear e9 r
  unfold fX1_kindOf
  refine bd_sub (lv' := [(0, .ref l0), (1, .int l1)]) ?_ [0, 1] rfl
  refine bd_iload_n C 1 dX1_kindOf_0 rfl rfl ?_
  refine bd_if_lt C 19 dX1_kindOf_1 (by decide) (fun c1 => ?_) (fun c1 => ?_)
  · refine bd_iconst C (v := 0) dX1_kindOf_19 (by decide) ?_
    exact bd_iret C hret rfl _ _ rfl rfl dX1_kindOf_20 (Nat.le_refl _) (Nat.le_refl _)
  · refine bd_iload_n C 1 dX1_kindOf_4 rfl rfl ?_
    refine bd_bipush C (v := 6) dX1_kindOf_5 (by decide) ?_
    refine bd_icmp_ge C 19 dX1_kindOf_7 (by decide) (fun c2 => ?_) (fun c2 => ?_)
    · refine bd_iconst C (v := 0) dX1_kindOf_19 (by decide) ?_
      exact bd_iret C hret rfl _ _ rfl rfl dX1_kindOf_20 (Nat.le_refl _) (Nat.le_refl _)
    · refine bd_aload_n C 0 dX1_kindOf_10 rfl rfl ?_
      refine bd_gR C fi100 fv100 wd_149 dX1_kindOf_11 ol0 (fun r3 gr3 hr3 => ?_)
      refine bd_iload_n C 1 dX1_kindOf_14 rfl rfl ?_
      refine bd_iald C dX1_kindOf_15 hr3 (fun x4 => ?_)
      refine bd_goto C 20 dX1_kindOf_16 (by decide) ?_
      exact bd_iret C hret rfl _ _ rfl rfl dX1_kindOf_20 (Nat.le_refl _) (Nat.le_refl _)
abbrev rmX1_ruleOf : Room := { frames := 10, cells := 0, slots := 0, locals := 300 }
abbrev qX1_ruleOf (G : Gy) (F : Fr) (g : Bd) (w : Wd) : Int32 → State → Prop := fun r => QM G F g 0 0 ((fun (r : Int32) => some (.int r)) r) ((fun _ => w) r)
set_option maxRecDepth 20000 in
set_option maxHeartbeats 4000000 in
theorem mX1_ruleOf {l : Launch} (hf9 : l.stackTraces = false) {G : Gy} {F : Fr} (N : Nat) {w : Wd} {l0 : Nat} {l1 : Int32} {r : Int32} (ol0 : okF F l0 1) (e9 : fX1_ruleOf F N w l0 l1 = some r) : Met l yX1_ruleOf [.code yX1_ruleOf cX1_ruleOf 2 (some .int)] rmX1_ruleOf (PcB G F w [.ref l0, .int l1]) (QB G F ((fun (r : Int32) => some (.int r)) r) ((fun _ => w) r)) 0 0 (AF F) := by
  refine bd_met (vs := fun (r : Int32) => some (.int r)) (wf := fun _ => w) hf9 (by decide) (Nat.le_of_ble_eq_true rfl) e9 (fun g C hret hini => ?_)
  clear e9 r
  unfold fX1_ruleOf
  refine bd_sub (lv' := [(0, .ref l0), (1, .int l1)]) ?_ [0, 1] rfl
  refine bd_iload_n C 1 dX1_ruleOf_0 rfl rfl ?_
  refine bd_if_lt C 19 dX1_ruleOf_1 (by decide) (fun c1 => ?_) (fun c1 => ?_)
  · refine bd_iconst C (v := 0) dX1_ruleOf_19 (by decide) ?_
    exact bd_iret C hret rfl _ _ rfl rfl dX1_ruleOf_20 (Nat.le_refl _) (Nat.le_refl _)
  · refine bd_iload_n C 1 dX1_ruleOf_4 rfl rfl ?_
    refine bd_bipush C (v := 6) dX1_ruleOf_5 (by decide) ?_
    refine bd_icmp_ge C 19 dX1_ruleOf_7 (by decide) (fun c2 => ?_) (fun c2 => ?_)
    · refine bd_iconst C (v := 0) dX1_ruleOf_19 (by decide) ?_
      exact bd_iret C hret rfl _ _ rfl rfl dX1_ruleOf_20 (Nat.le_refl _) (Nat.le_refl _)
    · refine bd_aload_n C 0 dX1_ruleOf_10 rfl rfl ?_
      refine bd_gR C fi101 fv101 wd_150 dX1_ruleOf_11 ol0 (fun r3 gr3 hr3 => ?_)
      refine bd_iload_n C 1 dX1_ruleOf_14 rfl rfl ?_
      refine bd_iald C dX1_ruleOf_15 hr3 (fun x4 => ?_)
      refine bd_goto C 20 dX1_ruleOf_16 (by decide) ?_
      exact bd_iret C hret rfl _ _ rfl rfl dX1_ruleOf_20 (Nat.le_refl _) (Nat.le_refl _)
abbrev rmX1_parentOf : Room := { frames := 10, cells := 0, slots := 0, locals := 300 }
abbrev qX1_parentOf (G : Gy) (F : Fr) (g : Bd) (w : Wd) : Int32 → State → Prop := fun r => QM G F g 0 0 ((fun (r : Int32) => some (.int r)) r) ((fun _ => w) r)
set_option maxRecDepth 20000 in
set_option maxHeartbeats 4000000 in
theorem mX1_parentOf {l : Launch} (hf9 : l.stackTraces = false) {G : Gy} {F : Fr} (N : Nat) {w : Wd} {l0 : Nat} {l1 : Int32} {r : Int32} (ol0 : okF F l0 1) (e9 : fX1_parentOf F N w l0 l1 = some r) : Met l yX1_parentOf [.code yX1_parentOf cX1_parentOf 2 (some .int)] rmX1_parentOf (PcB G F w [.ref l0, .int l1]) (QB G F ((fun (r : Int32) => some (.int r)) r) ((fun _ => w) r)) 0 0 (AF F) := by
  refine bd_met (vs := fun (r : Int32) => some (.int r)) (wf := fun _ => w) hf9 (by decide) (Nat.le_of_ble_eq_true rfl) e9 (fun g C hret hini => ?_)
  clear e9 r
  unfold fX1_parentOf
  refine bd_sub (lv' := [(0, .ref l0), (1, .int l1)]) ?_ [0, 1] rfl
  refine bd_iload_n C 1 dX1_parentOf_0 rfl rfl ?_
  refine bd_if_lt C 19 dX1_parentOf_1 (by decide) (fun c1 => ?_) (fun c1 => ?_)
  · refine bd_iconst C (v := (-1)) dX1_parentOf_19 (by decide) ?_
    exact bd_iret C hret rfl _ _ rfl rfl dX1_parentOf_20 (Nat.le_refl _) (Nat.le_refl _)
  · refine bd_iload_n C 1 dX1_parentOf_4 rfl rfl ?_
    refine bd_bipush C (v := 6) dX1_parentOf_5 (by decide) ?_
    refine bd_icmp_ge C 19 dX1_parentOf_7 (by decide) (fun c2 => ?_) (fun c2 => ?_)
    · refine bd_iconst C (v := (-1)) dX1_parentOf_19 (by decide) ?_
      exact bd_iret C hret rfl _ _ rfl rfl dX1_parentOf_20 (Nat.le_refl _) (Nat.le_refl _)
    · refine bd_aload_n C 0 dX1_parentOf_10 rfl rfl ?_
      refine bd_gR C fi102 fv102 wd_151 dX1_parentOf_11 ol0 (fun r3 gr3 hr3 => ?_)
      refine bd_iload_n C 1 dX1_parentOf_14 rfl rfl ?_
      refine bd_iald C dX1_parentOf_15 hr3 (fun x4 => ?_)
      refine bd_goto C 20 dX1_parentOf_16 (by decide) ?_
      exact bd_iret C hret rfl _ _ rfl rfl dX1_parentOf_20 (Nat.le_refl _) (Nat.le_refl _)
abbrev rmX1_setTier : Room := { frames := 10, cells := 0, slots := 0, locals := 300 }
abbrev qX1_setTier (G : Gy) (F : Fr) (g : Bd) : Wd → State → Prop := fun r => QM G F g 0 0 ((fun _ => none) r) ((fun (r : Wd) => r) r)
set_option maxRecDepth 20000 in
set_option maxHeartbeats 4000000 in
theorem mX1_setTier {l : Launch} (hf9 : l.stackTraces = false) {G : Gy} {F : Fr} (N : Nat) {w : Wd} {l0 : Nat} {l1 : Int32} {l2 : Int32} {l3 : Int32} {l4 : Int32} {r : Wd} (ol0 : okF F l0 1) (e9 : fX1_setTier F N w l0 l1 l2 l3 l4 = some r) : Met l yX1_setTier [.code yX1_setTier cX1_setTier 5 none] rmX1_setTier (PcB G F w [.ref l0, .int l1, .int l2, .int l3, .int l4]) (QB G F ((fun _ => none) r) ((fun (r : Wd) => r) r)) 0 0 (AF F) := by
  refine bd_met (vs := fun _ => none) (wf := fun (r : Wd) => r) hf9 (by decide) (Nat.le_of_ble_eq_true rfl) e9 (fun g C hret hini => ?_)
  clear e9 r
  unfold fX1_setTier
  refine bd_sub (lv' := [(0, .ref l0), (1, .int l1), (2, .int l2), (3, .int l3), (4, .int l4)]) ?_ [0, 1, 2, 3, 4] rfl
  refine bd_iload_n C 1 dX1_setTier_0 rfl rfl ?_
  refine bd_if_lt C 32 dX1_setTier_1 (by decide) (fun c1 => ?_) (fun c1 => ?_)
  · exact bd_vret C hret rfl _ _ rfl rfl dX1_setTier_32 (Nat.le_refl _) (Nat.le_refl _)
  · refine bd_iload_n C 1 dX1_setTier_4 rfl rfl ?_
    refine bd_bipush C (v := 6) dX1_setTier_5 (by decide) ?_
    refine bd_icmp_ge C 32 dX1_setTier_7 (by decide) (fun c2 => ?_) (fun c2 => ?_)
    · exact bd_vret C hret rfl _ _ rfl rfl dX1_setTier_32 (Nat.le_refl _) (Nat.le_refl _)
    · refine bd_aload_n C 0 dX1_setTier_10 rfl rfl ?_
      refine bd_gR C fi100 fv100 wd_149 dX1_setTier_11 ol0 (fun r3 gr3 hr3 => ?_)
      refine bd_iload_n C 1 dX1_setTier_14 rfl rfl ?_
      refine bd_iload_n C 2 dX1_setTier_15 rfl rfl ?_
      refine bd_iast C dX1_setTier_16 hr3 (fun w4 => ?_)
      refine bd_aload_n C 0 dX1_setTier_17 rfl rfl ?_
      refine bd_gR C fi101 fv101 wd_150 dX1_setTier_18 ol0 (fun r5 gr5 hr5 => ?_)
      refine bd_iload_n C 1 dX1_setTier_21 rfl rfl ?_
      refine bd_iload_n C 3 dX1_setTier_22 rfl rfl ?_
      refine bd_iast C dX1_setTier_23 hr5 (fun w6 => ?_)
      refine bd_aload_n C 0 dX1_setTier_24 rfl rfl ?_
      refine bd_gR C fi102 fv102 wd_151 dX1_setTier_25 ol0 (fun r7 gr7 hr7 => ?_)
      refine bd_iload_n C 1 dX1_setTier_28 rfl rfl ?_
      refine bd_iload C 4 dX1_setTier_29 rfl ?_
      refine bd_iast C dX1_setTier_31 hr7 (fun w8 => ?_)
      exact bd_vret C hret rfl _ _ rfl rfl dX1_setTier_32 (Nat.le_refl _) (Nat.le_refl _)
abbrev rmX1_row : Room := { frames := 10, cells := 0, slots := 0, locals := 300 }
abbrev qX1_row (G : Gy) (F : Fr) (g : Bd) (w : Wd) : Nat → State → Prop := fun r => QM G F g 0 0 ((fun (r : Nat) => some (.ref r)) r) ((fun _ => w) r)
set_option maxRecDepth 20000 in
set_option maxHeartbeats 4000000 in
theorem mX1_row {l : Launch} (hf9 : l.stackTraces = false) {G : Gy} {F : Fr} (N : Nat) {w : Wd} {l0 : Nat} {l1 : Int32} {l2 : Int32} {r : Nat} (ol0 : okF F l0 1) (e9 : fX1_row F N w l0 l1 l2 = some r) : Met l yX1_row [.code yX1_row cX1_row 5 (some (.object "LessonTiers$Row"))] rmX1_row (PcB G F w [.ref l0, .int l1, .int l2]) (QB G F ((fun (r : Nat) => some (.ref r)) r) ((fun _ => w) r)) 0 0 (AF F) := by
  refine bd_met (vs := fun (r : Nat) => some (.ref r)) (wf := fun _ => w) hf9 (by decide) (Nat.le_of_ble_eq_true rfl) e9 (fun g C hret hini => ?_)
  clear e9 r
  have hb30 : ∀  (l0 : Nat) (s0 : Option Nat) (ol0 : okF F l0 1) (os0 : okO F s0 7), BD g G F 5 (qX1_row G F g w) 0 0 (fX1_row_30 F N w l0 s0) w 30 [(0, .ref l0)] [va_rf s0] := by
    intro l0 s0 ol0 os0
    unfold fX1_row_30
    refine bd_astoreq C [(4, va_rf s0), (0, .ref l0)] dX1_row_30 (by decide) rfl ?_
    refine bd_aloadq C 0 dX1_row_32 rfl ?_
    refine bd_ifnull C 42 dX1_row_34 (by decide) (fun ez1 => ?_) (fun z1 ez1 => ?_)
    · subst ez1
      refine bd_aload_n C 1 dX1_row_42 rfl rfl ?_
      refine bd_gR C fi104 fv104 wd_153 dX1_row_43 ol0 (fun r2 gr2 hr2 => ?_)
      exact bd_aret C hret rfl _ _ rfl rfl dX1_row_46 (Nat.le_refl _) (Nat.le_refl _)
    · have hz1 := os0 z1 ez1
      subst ez1
      refine bd_aload C 0 dX1_row_37 rfl ?_
      refine bd_goto C 46 dX1_row_39 (by decide) ?_
      exact bd_aret C hret rfl _ _ rfl rfl dX1_row_46 (Nat.le_refl _) (Nat.le_refl _)
  have hb29 : ∀  (l0 : Nat) (ol0 : okF F l0 1), BD g G F 5 (qX1_row G F g w) 0 0 (fX1_row_29 F N w l0) w 29 [(0, .ref l0)] [] := by
    intro l0 ol0
    unfold fX1_row_29
    refine bd_null C dX1_row_29 ?_
    exact bd_sub (hb30 l0 none ol0 okO_none) [0] rfl
  unfold fX1_row
  refine bd_sub (lv' := [(0, .ref l0), (1, .int l1), (2, .int l2)]) ?_ [0, 1, 2] rfl
  refine bd_iload_n C 1 dX1_row_0 rfl rfl ?_
  refine bd_bipush C (v := 6) dX1_row_1 (by decide) ?_
  refine bd_imul C dX1_row_3 ?_
  refine bd_iload_n C 2 dX1_row_4 rfl rfl ?_
  refine bd_iadd C dX1_row_5 ?_
  refine bd_bnd (tp := Value.int) (fun v3 ev3 => ?_)
  refine bd_istore_n C [(3, .int v3), (0, .ref l0), (1, .int l1), (2, .int l2)] dX1_row_6 rfl (by decide) rfl ?_
  refine bd_iload_n C 0 dX1_row_7 rfl rfl ?_
  refine bd_if_lt C 29 dX1_row_8 (by decide) (fun c4 => ?_) (fun c4 => ?_)
  · exact bd_sub (hb29 l0 ol0) [1] rfl
  · refine bd_iload_n C 0 dX1_row_11 rfl rfl ?_
    refine bd_aload_n C 1 dX1_row_12 rfl rfl ?_
    refine bd_gR C fi103 fv103 wd_152 dX1_row_13 ol0 (fun r5 gr5 hr5 => ?_)
    refine bd_alen C dX1_row_16 hr5 (by decide) 5 rfl ?_
    refine bd_icmp_ge C 29 dX1_row_17 (by decide) (fun c6 => ?_) (fun c6 => ?_)
    · exact bd_sub (hb29 l0 ol0) [1] rfl
    · refine bd_aload_n C 1 dX1_row_20 rfl rfl ?_
      refine bd_gR C fi103 fv103 wd_152 dX1_row_21 ol0 (fun r7 gr7 hr7 => ?_)
      refine bd_iload_n C 0 dX1_row_24 rfl rfl ?_
      refine bd_aald15 C (k2 := 7) dX1_row_25 hr7 (fun q8 hq8 => ?_)
      refine bd_goto C 30 dX1_row_26 (by decide) ?_
      exact bd_sub (hb30 l0 q8 ol0 hq8) [1] rfl
abbrev rmX7_copyFrom : Room := { frames := 10, cells := 0, slots := 0, locals := 300 }
abbrev qX7_copyFrom (G : Gy) (F : Fr) (g : Bd) : Wd → State → Prop := fun r => QM G F g 0 0 ((fun _ => none) r) ((fun (r : Wd) => r) r)
set_option maxRecDepth 20000 in
set_option maxHeartbeats 4000000 in
theorem mX7_copyFrom {l : Launch} (hf9 : l.stackTraces = false) {G : Gy} {F : Fr} (N : Nat) {w : Wd} {l0 : Nat} {l1 : Nat} {r : Wd} (ol0 : okF F l0 7) (ol1 : okF F l1 7) (e9 : fX7_copyFrom F N w l0 l1 = some r) : Met l yX7_copyFrom [.code yX7_copyFrom cX7_copyFrom 3 none] rmX7_copyFrom (PcB G F w [.ref l0, .ref l1]) (QB G F ((fun _ => none) r) ((fun (r : Wd) => r) r)) 0 0 (AF F) := by
  refine bd_met (vs := fun _ => none) (wf := fun (r : Wd) => r) hf9 (by decide) (Nat.le_of_ble_eq_true rfl) e9 (fun g C hret hini => ?_)
  clear e9 r
  unfold fX7_copyFrom
  refine bd_sub (lv' := [(0, .ref l0), (1, .ref l1)]) ?_ [0, 1] rfl
  refine bd_aload_n C 1 dX7_copyFrom_0 rfl rfl ?_
  refine bd_gI C fi703 fv703 wd_136 dX7_copyFrom_1 ol1 ?_
  refine bd_bnd (tp := Value.int) (fun v1 ev1 => ?_)
  refine bd_istore_n C [(2, .int v1), (0, .ref l0), (1, .ref l1)] dX7_copyFrom_4 rfl (by decide) rfl ?_
  refine bd_iload_n C 0 dX7_copyFrom_5 rfl rfl ?_
  refine bd_if_lt C 62 dX7_copyFrom_6 (by decide) (fun c2 => ?_) (fun c2 => ?_)
  · exact bd_vret C hret rfl _ _ rfl rfl dX7_copyFrom_62 (Nat.le_refl _) (Nat.le_refl _)
  · refine bd_iload_n C 0 dX7_copyFrom_9 rfl rfl ?_
    refine bd_bipush C (v := 31) dX7_copyFrom_10 (by decide) ?_
    refine bd_icmp_gt C 62 dX7_copyFrom_12 (by decide) (fun c3 => ?_) (fun c3 => ?_)
    · exact bd_vret C hret rfl _ _ rfl rfl dX7_copyFrom_62 (Nat.le_refl _) (Nat.le_refl _)
    · refine bd_aload_n C 2 dX7_copyFrom_15 rfl rfl ?_
      refine bd_gR C fi700 fv700 wd_129 dX7_copyFrom_16 ol1 (fun r4 gr4 hr4 => ?_)
      refine bd_iconst C (v := 0) dX7_copyFrom_19 (by decide) ?_
      refine bd_aload_n C 1 dX7_copyFrom_20 rfl rfl ?_
      refine bd_gR C fi700 fv700 wd_129 dX7_copyFrom_21 ol0 (fun r5 gr5 hr5 => ?_)
      refine bd_iconst C (v := 0) dX7_copyFrom_24 (by decide) ?_
      refine bd_iload_n C 0 dX7_copyFrom_25 rfl rfl ?_
      refine bd_copyI C wd_472 wd_474 wd_473 wd_103 dX7_copyFrom_26 hr4 hr5 ⟨Nat.le_of_ble_eq_true rfl, Nat.le_of_ble_eq_true rfl⟩ (fun w6 => ?_)
      refine bd_aload_n C 2 dX7_copyFrom_29 rfl rfl ?_
      refine bd_gR C fi701 fv701 wd_130 dX7_copyFrom_30 ol1 (fun r7 gr7 hr7 => ?_)
      refine bd_iconst C (v := 0) dX7_copyFrom_33 (by decide) ?_
      refine bd_aload_n C 1 dX7_copyFrom_34 rfl rfl ?_
      refine bd_gR C fi701 fv701 wd_130 dX7_copyFrom_35 ol0 (fun r8 gr8 hr8 => ?_)
      refine bd_iconst C (v := 0) dX7_copyFrom_38 (by decide) ?_
      refine bd_iload_n C 0 dX7_copyFrom_39 rfl rfl ?_
      refine bd_copyI C wd_472 wd_474 wd_473 wd_103 dX7_copyFrom_40 hr7 hr8 ⟨Nat.le_of_ble_eq_true rfl, Nat.le_of_ble_eq_true rfl⟩ (fun w9 => ?_)
      refine bd_aload_n C 2 dX7_copyFrom_43 rfl rfl ?_
      refine bd_gR C fi702 fv702 wd_131 dX7_copyFrom_44 ol1 (fun r10 gr10 hr10 => ?_)
      refine bd_iconst C (v := 0) dX7_copyFrom_47 (by decide) ?_
      refine bd_aload_n C 1 dX7_copyFrom_48 rfl rfl ?_
      refine bd_gR C fi702 fv702 wd_131 dX7_copyFrom_49 ol0 (fun r11 gr11 hr11 => ?_)
      refine bd_iconst C (v := 0) dX7_copyFrom_52 (by decide) ?_
      refine bd_iload_n C 0 dX7_copyFrom_53 rfl rfl ?_
      refine bd_copyJ C wd_472 wd_474 wd_473 wd_103 dX7_copyFrom_54 hr10 hr11 ⟨Nat.le_of_ble_eq_true rfl, Nat.le_of_ble_eq_true rfl⟩ (fun w12 => ?_)
      refine bd_aload_n C 1 dX7_copyFrom_57 rfl rfl ?_
      refine bd_iload_n C 0 dX7_copyFrom_58 rfl rfl ?_
      refine bd_pI C fi703 ftX7 fu703 wd_136 rfl rfl rfl dX7_copyFrom_59 ol0 (fun w13 => ?_)
      exact bd_vret C hret rfl _ _ rfl rfl dX7_copyFrom_62 (Nat.le_refl _) (Nat.le_refl _)
abbrev rmX1_copyFrom : Room := { frames := 11, cells := 0, slots := 0, locals := 324 }
abbrev qX1_copyFrom (G : Gy) (F : Fr) (g : Bd) : Wd → State → Prop := fun r => QM G F g 0 0 ((fun _ => none) r) ((fun (r : Wd) => r) r)
set_option maxRecDepth 20000 in
set_option maxHeartbeats 4000000 in
theorem mX1_copyFrom {l : Launch} (hf9 : l.stackTraces = false) {G : Gy} {F : Fr} (N : Nat) {w : Wd} {l0 : Nat} {l1 : Nat} {r : Wd} (ol0 : okF F l0 1) (ol1 : okF F l1 1) (e9 : fX1_copyFrom F N w l0 l1 = some r) : Met l yX1_copyFrom [.code yX1_copyFrom cX1_copyFrom 3 none] rmX1_copyFrom (PcB G F w [.ref l0, .ref l1]) (QB G F ((fun _ => none) r) ((fun (r : Wd) => r) r)) 0 0 (AF F) := by
  refine bd_met (vs := fun _ => none) (wf := fun (r : Wd) => r) hf9 (by decide) (Nat.le_of_ble_eq_true rfl) e9 (fun g C hret hini => ?_)
  clear e9 r
  have hb34 : ∀ (n : Nat) (w : Wd) (l0 : Nat) (l1 : Nat) (l2 : Int32) (ol0 : okF F l0 1) (ol1 : okF F l1 1), BD g G F 3 (qX1_copyFrom G F g) 0 0 (fX1_copyFrom_34 F N n w l0 l1 l2) w 34 [(0, .ref l0), (1, .ref l1), (2, .int l2)] [] := by
    intro n
    induction n with
    | zero =>
      intro w l0 l1 l2 ol0 ol1
      unfold fX1_copyFrom_34
      exact bd_none
    | succ n ih =>
      intro w l0 l1 l2 ol0 ol1
      unfold fX1_copyFrom_34
      refine bd_iload_n C 2 dX1_copyFrom_34 rfl rfl ?_
      refine bd_aload_n C 0 dX1_copyFrom_35 rfl rfl ?_
      refine bd_gI C fi105 fv105 wd_154 dX1_copyFrom_36 ol0 ?_
      refine bd_icmp_ge C 98 dX1_copyFrom_39 (by decide) (fun c1 => ?_) (fun c1 => ?_)
      · exact bd_vret C hret rfl _ _ rfl rfl dX1_copyFrom_98 (Nat.le_refl _) (Nat.le_refl _)
      · refine bd_aload_n C 0 dX1_copyFrom_42 rfl rfl ?_
        refine bd_iload_n C 2 dX1_copyFrom_43 rfl rfl ?_
        refine bd_aload_n C 1 dX1_copyFrom_44 rfl rfl ?_
        refine bd_iload_n C 2 dX1_copyFrom_45 rfl rfl ?_
        refine bd_callV (vs := fun (r : Int32) => some (.int r)) (wf := fun _ => w) (st := [.int l2, .ref l0]) (st1 := fun x2 => Value.int x2 :: [.int l2, .ref l0]) C [.int l2] (fun r9 e9 => mX1_kindOf C.flag N ol1 e9) mwX1_kindOf miX1_kindOf wd_460 ol1 (by decide) rfl rfl rfl (Nat.le_of_ble_eq_true rfl) dX1_copyFrom_46 ⟨rfl, rfl, Nat.le_of_ble_eq_true rfl, Nat.le_of_ble_eq_true rfl, Nat.le_of_ble_eq_true rfl, Nat.le_of_ble_eq_true rfl⟩ (fun _ => rfl) (fun x2 ex2 => ?_)
        refine bd_aload_n C 1 dX1_copyFrom_49 rfl rfl ?_
        refine bd_iload_n C 2 dX1_copyFrom_50 rfl rfl ?_
        refine bd_callV (vs := fun (r : Int32) => some (.int r)) (wf := fun _ => w) (st := [.int x2, .int l2, .ref l0]) (st1 := fun x3 => Value.int x3 :: [.int x2, .int l2, .ref l0]) C [.int l2] (fun r9 e9 => mX1_ruleOf C.flag N ol1 e9) mwX1_ruleOf miX1_ruleOf wd_436 ol1 (by decide) rfl rfl rfl (Nat.le_of_ble_eq_true rfl) dX1_copyFrom_51 ⟨rfl, rfl, Nat.le_of_ble_eq_true rfl, Nat.le_of_ble_eq_true rfl, Nat.le_of_ble_eq_true rfl, Nat.le_of_ble_eq_true rfl⟩ (fun _ => rfl) (fun x3 ex3 => ?_)
        refine bd_aload_n C 1 dX1_copyFrom_54 rfl rfl ?_
        refine bd_iload_n C 2 dX1_copyFrom_55 rfl rfl ?_
        refine bd_callV (vs := fun (r : Int32) => some (.int r)) (wf := fun _ => w) (st := [.int x3, .int x2, .int l2, .ref l0]) (st1 := fun x4 => Value.int x4 :: [.int x3, .int x2, .int l2, .ref l0]) C [.int l2] (fun r9 e9 => mX1_parentOf C.flag N ol1 e9) mwX1_parentOf miX1_parentOf wd_444 ol1 (by decide) rfl rfl rfl (Nat.le_of_ble_eq_true rfl) dX1_copyFrom_56 ⟨rfl, rfl, Nat.le_of_ble_eq_true rfl, Nat.le_of_ble_eq_true rfl, Nat.le_of_ble_eq_true rfl, Nat.le_of_ble_eq_true rfl⟩ (fun _ => rfl) (fun x4 ex4 => ?_)
        refine bd_callV (vs := fun _ => none) (wf := fun (r : Wd) => r) (st := []) (st1 := fun p5 => []) C [.int l2, .int x2, .int x3, .int x4] (fun r9 e9 => mX1_setTier C.flag N ol0 e9) mwX1_setTier miX1_setTier wd_464 ol0 (by decide) rfl rfl rfl (Nat.le_of_ble_eq_true rfl) dX1_copyFrom_59 ⟨rfl, rfl, Nat.le_of_ble_eq_true rfl, Nat.le_of_ble_eq_true rfl, Nat.le_of_ble_eq_true rfl, Nat.le_of_ble_eq_true rfl⟩ (fun _ => rfl) (fun p5 ep5 => ?_)
        refine bd_aload_n C 0 dX1_copyFrom_62 rfl rfl ?_
        refine bd_iconst C (v := 0) dX1_copyFrom_63 (by decide) ?_
        refine bd_iload_n C 2 dX1_copyFrom_64 rfl rfl ?_
        refine bd_callV (vs := fun (r : Nat) => some (.ref r)) (wf := fun _ => p5) (st := []) (st1 := fun x6 => Value.ref x6 :: []) C [.int 0, .int l2] (fun r9 e9 => mX1_row C.flag N ol0 e9) mwX1_row miX1_row wd_429 ol0 (by decide) rfl rfl rfl (Nat.le_of_ble_eq_true rfl) dX1_copyFrom_65 ⟨rfl, rfl, Nat.le_of_ble_eq_true rfl, Nat.le_of_ble_eq_true rfl, Nat.le_of_ble_eq_true rfl, Nat.le_of_ble_eq_true rfl⟩ (fun _ => rfl) (fun x6 ex6 => ?_)
        refine bd_ckF (fun h7 => ?_)
        refine bd_aload_n C 1 dX1_copyFrom_68 rfl rfl ?_
        refine bd_iconst C (v := 0) dX1_copyFrom_69 (by decide) ?_
        refine bd_iload_n C 2 dX1_copyFrom_70 rfl rfl ?_
        refine bd_callV (vs := fun (r : Nat) => some (.ref r)) (wf := fun _ => p5) (st := [.ref x6]) (st1 := fun x8 => Value.ref x8 :: [.ref x6]) C [.int 0, .int l2] (fun r9 e9 => mX1_row C.flag N ol1 e9) mwX1_row miX1_row wd_429 ol1 (by decide) rfl rfl rfl (Nat.le_of_ble_eq_true rfl) dX1_copyFrom_71 ⟨rfl, rfl, Nat.le_of_ble_eq_true rfl, Nat.le_of_ble_eq_true rfl, Nat.le_of_ble_eq_true rfl, Nat.le_of_ble_eq_true rfl⟩ (fun _ => rfl) (fun x8 ex8 => ?_)
        refine bd_ckF (fun h9 => ?_)
        refine bd_callV (vs := fun _ => none) (wf := fun (r : Wd) => r) (st := []) (st1 := fun p10 => []) C [.ref x8] (fun r9 e9 => mX7_copyFrom C.flag N h7 h9 e9) mwX7_copyFrom miX7_copyFrom wd_468 h7 (by decide) rfl rfl rfl (Nat.le_of_ble_eq_true rfl) dX1_copyFrom_74 ⟨rfl, rfl, Nat.le_of_ble_eq_true rfl, Nat.le_of_ble_eq_true rfl, Nat.le_of_ble_eq_true rfl, Nat.le_of_ble_eq_true rfl⟩ (fun _ => rfl) (fun p10 ep10 => ?_)
        refine bd_aload_n C 0 dX1_copyFrom_77 rfl rfl ?_
        refine bd_iconst C (v := 1) dX1_copyFrom_78 (by decide) ?_
        refine bd_iload_n C 2 dX1_copyFrom_79 rfl rfl ?_
        refine bd_callV (vs := fun (r : Nat) => some (.ref r)) (wf := fun _ => p10) (st := []) (st1 := fun x11 => Value.ref x11 :: []) C [.int 1, .int l2] (fun r9 e9 => mX1_row C.flag N ol0 e9) mwX1_row miX1_row wd_429 ol0 (by decide) rfl rfl rfl (Nat.le_of_ble_eq_true rfl) dX1_copyFrom_80 ⟨rfl, rfl, Nat.le_of_ble_eq_true rfl, Nat.le_of_ble_eq_true rfl, Nat.le_of_ble_eq_true rfl, Nat.le_of_ble_eq_true rfl⟩ (fun _ => rfl) (fun x11 ex11 => ?_)
        refine bd_ckF (fun h12 => ?_)
        refine bd_aload_n C 1 dX1_copyFrom_83 rfl rfl ?_
        refine bd_iconst C (v := 1) dX1_copyFrom_84 (by decide) ?_
        refine bd_iload_n C 2 dX1_copyFrom_85 rfl rfl ?_
        refine bd_callV (vs := fun (r : Nat) => some (.ref r)) (wf := fun _ => p10) (st := [.ref x11]) (st1 := fun x13 => Value.ref x13 :: [.ref x11]) C [.int 1, .int l2] (fun r9 e9 => mX1_row C.flag N ol1 e9) mwX1_row miX1_row wd_429 ol1 (by decide) rfl rfl rfl (Nat.le_of_ble_eq_true rfl) dX1_copyFrom_86 ⟨rfl, rfl, Nat.le_of_ble_eq_true rfl, Nat.le_of_ble_eq_true rfl, Nat.le_of_ble_eq_true rfl, Nat.le_of_ble_eq_true rfl⟩ (fun _ => rfl) (fun x13 ex13 => ?_)
        refine bd_ckF (fun h14 => ?_)
        refine bd_callV (vs := fun _ => none) (wf := fun (r : Wd) => r) (st := []) (st1 := fun p15 => []) C [.ref x13] (fun r9 e9 => mX7_copyFrom C.flag N h12 h14 e9) mwX7_copyFrom miX7_copyFrom wd_468 h12 (by decide) rfl rfl rfl (Nat.le_of_ble_eq_true rfl) dX1_copyFrom_89 ⟨rfl, rfl, Nat.le_of_ble_eq_true rfl, Nat.le_of_ble_eq_true rfl, Nat.le_of_ble_eq_true rfl, Nat.le_of_ble_eq_true rfl⟩ (fun _ => rfl) (fun p15 ep15 => ?_)
        refine bd_iinc C (v := l2 + 1) 2 [(2, .int (l2 + 1)), (0, .ref l0), (1, .ref l1)] dX1_copyFrom_92 rfl rfl (by decide) rfl ?_
        refine bd_goto C 34 dX1_copyFrom_95 (by decide) ?_
        exact bd_sub (ih p15 l0 l1 (l2 + 1) ol0 ol1) [1, 2, 0] rfl
  unfold fX1_copyFrom
  refine bd_sub (lv' := [(0, .ref l0), (1, .ref l1)]) ?_ [0, 1] rfl
  refine bd_aload_n C 0 dX1_copyFrom_0 rfl rfl ?_
  refine bd_aload_n C 1 dX1_copyFrom_1 rfl rfl ?_
  refine bd_gI C fi105 fv105 wd_154 dX1_copyFrom_2 ol1 ?_
  refine bd_pI C fi105 ftX1 fu105 wd_154 rfl rfl rfl dX1_copyFrom_5 ol0 (fun w16 => ?_)
  refine bd_aload_n C 0 dX1_copyFrom_8 rfl rfl ?_
  refine bd_aload_n C 1 dX1_copyFrom_9 rfl rfl ?_
  refine bd_gI C fi106 fv106 wd_158 dX1_copyFrom_10 ol1 ?_
  refine bd_pI C fi106 ftX1 fu106 wd_158 rfl rfl rfl dX1_copyFrom_13 ol0 (fun w17 => ?_)
  refine bd_aload_n C 0 dX1_copyFrom_16 rfl rfl ?_
  refine bd_aload_n C 1 dX1_copyFrom_17 rfl rfl ?_
  refine bd_gI C fi107 fv107 wd_160 dX1_copyFrom_18 ol1 ?_
  refine bd_pI C fi107 ftX1 fu107 wd_160 rfl rfl rfl dX1_copyFrom_21 ol0 (fun w18 => ?_)
  refine bd_aload_n C 0 dX1_copyFrom_24 rfl rfl ?_
  refine bd_aload_n C 1 dX1_copyFrom_25 rfl rfl ?_
  refine bd_gI C fi108 fv108 wd_162 dX1_copyFrom_26 ol1 ?_
  refine bd_pI C fi108 ftX1 fu108 wd_162 rfl rfl rfl dX1_copyFrom_29 ol0 (fun w19 => ?_)
  refine bd_iconst C (v := 0) dX1_copyFrom_32 (by decide) ?_
  refine bd_istore_n C [(2, .int 0), (0, .ref l0), (1, .ref l1)] dX1_copyFrom_33 rfl (by decide) rfl ?_
  exact bd_sub (hb34 N w19 l0 l1 0 ol0 ol1) [1, 2, 0] rfl
abbrev rmX1_hasTier : Room := { frames := 10, cells := 0, slots := 0, locals := 300 }
abbrev qX1_hasTier (G : Gy) (F : Fr) (g : Bd) (w : Wd) : Int32 → State → Prop := fun r => QM G F g 0 0 ((fun (r : Int32) => some (.int r)) r) ((fun _ => w) r)
set_option maxRecDepth 20000 in
set_option maxHeartbeats 4000000 in
theorem mX1_hasTier {l : Launch} (hf9 : l.stackTraces = false) {G : Gy} {F : Fr} (N : Nat) {w : Wd} {l0 : Nat} {l1 : Int32} {r : Int32} (ol0 : okF F l0 1) (e9 : fX1_hasTier F N w l0 l1 = some r) : Met l yX1_hasTier [.code yX1_hasTier cX1_hasTier 2 (some .boolean)] rmX1_hasTier (PcB G F w [.ref l0, .int l1]) (QB G F ((fun (r : Int32) => some (.int r)) r) ((fun _ => w) r)) 0 0 (AF F) := by
  refine bd_met (vs := fun (r : Int32) => some (.int r)) (wf := fun _ => w) hf9 (by decide) (Nat.le_of_ble_eq_true rfl) e9 (fun g C hret hini => ?_)
  clear e9 r
  unfold fX1_hasTier
  refine bd_sub (lv' := [(0, .ref l0), (1, .int l1)]) ?_ [0, 1] rfl
  refine bd_iload_n C 1 dX1_hasTier_0 rfl rfl ?_
  refine bd_if_lt C 16 dX1_hasTier_1 (by decide) (fun c1 => ?_) (fun c1 => ?_)
  · refine bd_iconst C (v := 0) dX1_hasTier_16 (by decide) ?_
    exact bd_zret C hret rfl _ _ rfl rfl rfl dX1_hasTier_17 (Nat.le_refl _) (Nat.le_refl _)
  · refine bd_iload_n C 1 dX1_hasTier_4 rfl rfl ?_
    refine bd_aload_n C 0 dX1_hasTier_5 rfl rfl ?_
    refine bd_gI C fi105 fv105 wd_154 dX1_hasTier_6 ol0 ?_
    refine bd_icmp_ge C 16 dX1_hasTier_9 (by decide) (fun c2 => ?_) (fun c2 => ?_)
    · refine bd_iconst C (v := 0) dX1_hasTier_16 (by decide) ?_
      exact bd_zret C hret rfl _ _ rfl rfl rfl dX1_hasTier_17 (Nat.le_refl _) (Nat.le_refl _)
    · refine bd_iconst C (v := 1) dX1_hasTier_12 (by decide) ?_
      refine bd_goto C 17 dX1_hasTier_13 (by decide) ?_
      exact bd_zret C hret rfl _ _ rfl rfl rfl dX1_hasTier_17 (Nat.le_refl _) (Nat.le_refl _)
abbrev rmX1_present : Room := { frames := 11, cells := 0, slots := 0, locals := 324 }
abbrev qX1_present (G : Gy) (F : Fr) (g : Bd) (w : Wd) : Nat → State → Prop := fun r => QM G F g 0 0 ((fun (r : Nat) => some (.ref r)) r) ((fun _ => w) r)
set_option maxRecDepth 20000 in
set_option maxHeartbeats 4000000 in
theorem mX1_present {l : Launch} (hf9 : l.stackTraces = false) {G : Gy} {F : Fr} (N : Nat) {w : Wd} {l0 : Nat} {l1 : Int32} {r : Nat} (ol0 : okF F l0 1) (e9 : fX1_present F N w l0 l1 = some r) : Met l yX1_present [.code yX1_present cX1_present 2 (some (.object "LessonTiers$Row"))] rmX1_present (PcB G F w [.ref l0, .int l1]) (QB G F ((fun (r : Nat) => some (.ref r)) r) ((fun _ => w) r)) 0 0 (AF F) := by
  refine bd_met (vs := fun (r : Nat) => some (.ref r)) (wf := fun _ => w) hf9 (by decide) (Nat.le_of_ble_eq_true rfl) e9 (fun g C hret hini => ?_)
  clear e9 r
  unfold fX1_present
  refine bd_sub (lv' := [(0, .ref l0), (1, .int l1)]) ?_ [0, 1] rfl
  refine bd_aload_n C 0 dX1_present_0 rfl rfl ?_
  refine bd_aload_n C 0 dX1_present_1 rfl rfl ?_
  refine bd_gI C fi106 fv106 wd_158 dX1_present_2 ol0 ?_
  refine bd_iload_n C 1 dX1_present_5 rfl rfl ?_
  refine bd_callV (vs := fun (r : Nat) => some (.ref r)) (wf := fun _ => w) (st := []) (st1 := fun x1 => Value.ref x1 :: []) C [.int (gI w 106 l0), .int l1] (fun r9 e9 => mX1_row C.flag N ol0 e9) mwX1_row miX1_row wd_429 ol0 (by decide) rfl rfl rfl (Nat.le_of_ble_eq_true rfl) dX1_present_6 ⟨rfl, rfl, Nat.le_of_ble_eq_true rfl, Nat.le_of_ble_eq_true rfl, Nat.le_of_ble_eq_true rfl, Nat.le_of_ble_eq_true rfl⟩ (fun _ => rfl) (fun x1 ex1 => ?_)
  refine bd_ckF (fun h2 => ?_)
  exact bd_aret C hret rfl _ _ rfl rfl dX1_present_9 (Nat.le_refl _) (Nat.le_refl _)
abbrev rmX1_hasSpan : Room := { frames := 12, cells := 0, slots := 0, locals := 345 }
abbrev qX1_hasSpan (G : Gy) (F : Fr) (g : Bd) (w : Wd) : Int32 → State → Prop := fun r => QM G F g 0 0 ((fun (r : Int32) => some (.int r)) r) ((fun _ => w) r)
set_option maxRecDepth 20000 in
set_option maxHeartbeats 4000000 in
theorem mX1_hasSpan {l : Launch} (hf9 : l.stackTraces = false) {G : Gy} {F : Fr} (N : Nat) {w : Wd} {l0 : Nat} {l1 : Int32} {l2 : Int32} {r : Int32} (ol0 : okF F l0 1) (e9 : fX1_hasSpan F N w l0 l1 l2 = some r) : Met l yX1_hasSpan [.code yX1_hasSpan cX1_hasSpan 3 (some .boolean)] rmX1_hasSpan (PcB G F w [.ref l0, .int l1, .int l2]) (QB G F ((fun (r : Int32) => some (.int r)) r) ((fun _ => w) r)) 0 0 (AF F) := by
  refine bd_met (vs := fun (r : Int32) => some (.int r)) (wf := fun _ => w) hf9 (by decide) (Nat.le_of_ble_eq_true rfl) e9 (fun g C hret hini => ?_)
  clear e9 r
  unfold fX1_hasSpan
  refine bd_sub (lv' := [(0, .ref l0), (1, .int l1), (2, .int l2)]) ?_ [0, 1, 2] rfl
  refine bd_aload_n C 0 dX1_hasSpan_0 rfl rfl ?_
  refine bd_iload_n C 1 dX1_hasSpan_1 rfl rfl ?_
  refine bd_callV (vs := fun (r : Int32) => some (.int r)) (wf := fun _ => w) (st := []) (st1 := fun x1 => Value.int x1 :: []) C [.int l1] (fun r9 e9 => mX1_hasTier C.flag N ol0 e9) mwX1_hasTier miX1_hasTier wd_803 ol0 (by decide) rfl rfl rfl (Nat.le_of_ble_eq_true rfl) dX1_hasSpan_2 ⟨rfl, rfl, Nat.le_of_ble_eq_true rfl, Nat.le_of_ble_eq_true rfl, Nat.le_of_ble_eq_true rfl, Nat.le_of_ble_eq_true rfl⟩ (fun _ => rfl) (fun x1 ex1 => ?_)
  refine bd_if_eq C 28 dX1_hasSpan_5 (by decide) (fun c2 => ?_) (fun c2 => ?_)
  · refine bd_iconst C (v := 0) dX1_hasSpan_28 (by decide) ?_
    exact bd_zret C hret rfl _ _ rfl rfl rfl dX1_hasSpan_29 (Nat.le_refl _) (Nat.le_refl _)
  · refine bd_iload_n C 2 dX1_hasSpan_8 rfl rfl ?_
    refine bd_if_lt C 28 dX1_hasSpan_9 (by decide) (fun c3 => ?_) (fun c3 => ?_)
    · refine bd_iconst C (v := 0) dX1_hasSpan_28 (by decide) ?_
      exact bd_zret C hret rfl _ _ rfl rfl rfl dX1_hasSpan_29 (Nat.le_refl _) (Nat.le_refl _)
    · refine bd_iload_n C 2 dX1_hasSpan_12 rfl rfl ?_
      refine bd_aload_n C 0 dX1_hasSpan_13 rfl rfl ?_
      refine bd_iload_n C 1 dX1_hasSpan_14 rfl rfl ?_
      refine bd_callV (vs := fun (r : Nat) => some (.ref r)) (wf := fun _ => w) (st := [.int l2]) (st1 := fun x4 => Value.ref x4 :: [.int l2]) C [.int l1] (fun r9 e9 => mX1_present C.flag N ol0 e9) mwX1_present miX1_present wd_752 ol0 (by decide) rfl rfl rfl (Nat.le_of_ble_eq_true rfl) dX1_hasSpan_15 ⟨rfl, rfl, Nat.le_of_ble_eq_true rfl, Nat.le_of_ble_eq_true rfl, Nat.le_of_ble_eq_true rfl, Nat.le_of_ble_eq_true rfl⟩ (fun _ => rfl) (fun x4 ex4 => ?_)
      refine bd_ckF (fun h5 => ?_)
      refine bd_gIN C fi703 fv703 wd_133 dX1_hasSpan_18 h5 ?_
      refine bd_icmp_ge C 28 dX1_hasSpan_21 (by decide) (fun c6 => ?_) (fun c6 => ?_)
      · refine bd_iconst C (v := 0) dX1_hasSpan_28 (by decide) ?_
        exact bd_zret C hret rfl _ _ rfl rfl rfl dX1_hasSpan_29 (Nat.le_refl _) (Nat.le_refl _)
      · refine bd_iconst C (v := 1) dX1_hasSpan_24 (by decide) ?_
        refine bd_goto C 29 dX1_hasSpan_25 (by decide) ?_
        exact bd_zret C hret rfl _ _ rfl rfl rfl dX1_hasSpan_29 (Nat.le_refl _) (Nat.le_refl _)
abbrev rmX1_putTier : Room := { frames := 11, cells := 0, slots := 0, locals := 324 }
abbrev qX1_putTier (G : Gy) (F : Fr) (g : Bd) : (Int32 × Wd) → State → Prop := fun r => QM G F g 0 0 ((fun (r : Int32 × Wd) => some (.int r.1)) r) ((fun (r : Int32 × Wd) => r.2) r)
set_option maxRecDepth 20000 in
set_option maxHeartbeats 4000000 in
theorem mX1_putTier {l : Launch} (hf9 : l.stackTraces = false) {G : Gy} {F : Fr} (N : Nat) {w : Wd} {l0 : Nat} {l1 : Int32} {l2 : Int32} {l3 : Int32} {r : Int32 × Wd} (ol0 : okF F l0 1) (e9 : fX1_putTier F N w l0 l1 l2 l3 = some r) : Met l yX1_putTier [.code yX1_putTier cX1_putTier 5 (some .int)] rmX1_putTier (PcB G F w [.ref l0, .int l1, .int l2, .int l3]) (QB G F ((fun (r : Int32 × Wd) => some (.int r.1)) r) ((fun (r : Int32 × Wd) => r.2) r)) 0 0 (AF F) := by
  refine bd_met (vs := fun (r : Int32 × Wd) => some (.int r.1)) (wf := fun (r : Int32 × Wd) => r.2) hf9 (by decide) (Nat.le_of_ble_eq_true rfl) e9 (fun g C hret hini => ?_)
  clear e9 r
  have hb20 : ∀  (w : Wd) (l0 : Nat) (l4 : Int32) (s0 : Nat) (s1 : Int32) (s2 : Int32) (s3 : Int32) (s4 : Int32) (ol0 : okF F l0 1) (os0 : okF F s0 1), BD g G F 5 (qX1_putTier G F g) 0 0 (fX1_putTier_20 F N w l0 l4 s0 s1 s2 s3 s4) w 20 [(0, .ref l0), (4, .int l4)] [.int s4, .int s3, .int s2, .int s1, .ref s0] := by
    intro w l0 l4 s0 s1 s2 s3 s4 ol0 os0
    unfold fX1_putTier_20
    refine bd_callV (vs := fun _ => none) (wf := fun (r : Wd) => r) (st := []) (st1 := fun p1 => []) C [.int s1, .int s2, .int s3, .int s4] (fun r9 e9 => mX1_setTier C.flag N os0 e9) mwX1_setTier miX1_setTier wd_464 os0 (by decide) rfl rfl rfl (Nat.le_of_ble_eq_true rfl) dX1_putTier_20 ⟨rfl, rfl, Nat.le_of_ble_eq_true rfl, Nat.le_of_ble_eq_true rfl, Nat.le_of_ble_eq_true rfl, Nat.le_of_ble_eq_true rfl⟩ (fun _ => rfl) (fun p1 ep1 => ?_)
    refine bd_aload_n C 0 dX1_putTier_23 rfl rfl ?_
    refine bd_iconst C (v := 0) dX1_putTier_24 (by decide) ?_
    refine bd_iload C 1 dX1_putTier_25 rfl ?_
    refine bd_callV (vs := fun (r : Nat) => some (.ref r)) (wf := fun _ => p1) (st := []) (st1 := fun x2 => Value.ref x2 :: []) C [.int 0, .int l4] (fun r9 e9 => mX1_row C.flag N ol0 e9) mwX1_row miX1_row wd_429 ol0 (by decide) rfl rfl rfl (Nat.le_of_ble_eq_true rfl) dX1_putTier_27 ⟨rfl, rfl, Nat.le_of_ble_eq_true rfl, Nat.le_of_ble_eq_true rfl, Nat.le_of_ble_eq_true rfl, Nat.le_of_ble_eq_true rfl⟩ (fun _ => rfl) (fun x2 ex2 => ?_)
    refine bd_ckF (fun h3 => ?_)
    refine bd_iconst C (v := 0) dX1_putTier_30 (by decide) ?_
    refine bd_pIN C fi703 ftX7 fu703 wd_133 rfl rfl rfl dX1_putTier_31 h3 (fun w4 => ?_)
    refine bd_aload_n C 0 dX1_putTier_34 rfl rfl ?_
    refine bd_iconst C (v := 1) dX1_putTier_35 (by decide) ?_
    refine bd_iload C 1 dX1_putTier_36 rfl ?_
    refine bd_callV (vs := fun (r : Nat) => some (.ref r)) (wf := fun _ => w4) (st := []) (st1 := fun x5 => Value.ref x5 :: []) C [.int 1, .int l4] (fun r9 e9 => mX1_row C.flag N ol0 e9) mwX1_row miX1_row wd_429 ol0 (by decide) rfl rfl rfl (Nat.le_of_ble_eq_true rfl) dX1_putTier_38 ⟨rfl, rfl, Nat.le_of_ble_eq_true rfl, Nat.le_of_ble_eq_true rfl, Nat.le_of_ble_eq_true rfl, Nat.le_of_ble_eq_true rfl⟩ (fun _ => rfl) (fun x5 ex5 => ?_)
    refine bd_ckF (fun h6 => ?_)
    refine bd_iconst C (v := 0) dX1_putTier_41 (by decide) ?_
    refine bd_pIN C fi703 ftX7 fu703 wd_133 rfl rfl rfl dX1_putTier_42 h6 (fun w7 => ?_)
    refine bd_aload_n C 0 dX1_putTier_45 rfl rfl ?_
    refine bd_dup C dX1_putTier_46 rfl ?_
    refine bd_gI C fi105 fv105 wd_154 dX1_putTier_47 ol0 ?_
    refine bd_iconst C (v := 1) dX1_putTier_50 (by decide) ?_
    refine bd_iadd C dX1_putTier_51 ?_
    refine bd_pI C fi105 ftX1 fu105 wd_154 rfl rfl rfl dX1_putTier_52 ol0 (fun w8 => ?_)
    refine bd_iload C 1 dX1_putTier_55 rfl ?_
    exact bd_iret C hret rfl _ _ rfl rfl dX1_putTier_57 (Nat.le_refl _) (Nat.le_refl _)
  unfold fX1_putTier
  refine bd_sub (lv' := [(0, .ref l0), (1, .int l1), (2, .int l2), (3, .int l3)]) ?_ [0, 1, 2, 3] rfl
  refine bd_aload_n C 0 dX1_putTier_0 rfl rfl ?_
  refine bd_gI C fi105 fv105 wd_154 dX1_putTier_1 ol0 ?_
  refine bd_bnd (tp := Value.int) (fun v9 ev9 => ?_)
  refine bd_istore C [(4, .int v9), (0, .ref l0), (1, .int l1), (2, .int l2), (3, .int l3)] dX1_putTier_4 (by decide) rfl ?_
  refine bd_aload_n C 1 dX1_putTier_6 rfl rfl ?_
  refine bd_iload C 0 dX1_putTier_7 rfl ?_
  refine bd_iload_n C 2 dX1_putTier_9 rfl rfl ?_
  refine bd_iload_n C 3 dX1_putTier_10 rfl rfl ?_
  refine bd_iload_n C 3 dX1_putTier_11 rfl rfl ?_
  refine bd_if_ne C 19 dX1_putTier_12 (by decide) (fun c10 => ?_) (fun c10 => ?_)
  · refine bd_iload_n C 4 dX1_putTier_19 rfl rfl ?_
    exact bd_sub (hb20 w l0 v9 l0 v9 l1 l2 l3 ol0 ol0) [1, 0] rfl
  · refine bd_iconst C (v := (-1)) dX1_putTier_15 (by decide) ?_
    refine bd_goto C 20 dX1_putTier_16 (by decide) ?_
    exact bd_sub (hb20 w l0 v9 l0 v9 l1 l2 (-1) ol0 ol0) [1, 0] rfl
abbrev rmX1_childMask : Room := { frames := 11, cells := 0, slots := 0, locals := 321 }
abbrev qX1_childMask (G : Gy) (F : Fr) (g : Bd) (w : Wd) : Int32 → State → Prop := fun r => QM G F g 0 0 ((fun (r : Int32) => some (.int r)) r) ((fun _ => w) r)
set_option maxRecDepth 20000 in
set_option maxHeartbeats 4000000 in
theorem mX1_childMask {l : Launch} (hf9 : l.stackTraces = false) {G : Gy} {F : Fr} (N : Nat) {w : Wd} {l0 : Nat} {l1 : Int32} {r : Int32} (ol0 : okF F l0 1) (e9 : fX1_childMask F N w l0 l1 = some r) : Met l yX1_childMask [.code yX1_childMask cX1_childMask 4 (some .int)] rmX1_childMask (PcB G F w [.ref l0, .int l1]) (QB G F ((fun (r : Int32) => some (.int r)) r) ((fun _ => w) r)) 0 0 (AF F) := by
  refine bd_met (vs := fun (r : Int32) => some (.int r)) (wf := fun _ => w) hf9 (by decide) (Nat.le_of_ble_eq_true rfl) e9 (fun g C hret hini => ?_)
  clear e9 r
  have hb31 : ∀ (k6 : Nat → Int32 → Int32 → Int32 → Option (Int32)), (∀ (l0 : Nat) (l1 : Int32) (l2 : Int32) (l3 : Int32) (ol0 : okF F l0 1), BD g G F 4 (qX1_childMask G F g w) 0 0 (k6 l0 l1 l2 l3) w 6 [(0, .ref l0), (1, .int l1), (2, .int l2), (3, .int l3)] []) → ∀  (l0 : Nat) (l1 : Int32) (l3 : Int32) (s0 : Int32) (s1 : Int32) (ol0 : okF F l0 1), BD g G F 4 (qX1_childMask G F g w) 0 0 (fX1_childMask_31 F N w k6 l0 l1 l3 s0 s1) w 31 [(0, .ref l0), (1, .int l1), (3, .int l3)] [.int s1, .int s0] := by
    intro k6 hk6
    intro l0 l1 l3 s0 s1 ol0
    unfold fX1_childMask_31
    refine bd_ior C dX1_childMask_31 ?_
    refine bd_bnd (tp := Value.int) (fun v4 ev4 => ?_)
    refine bd_istore_n C [(2, .int v4), (0, .ref l0), (1, .int l1), (3, .int l3)] dX1_childMask_32 rfl (by decide) rfl ?_
    refine bd_iinc C (v := l3 + 1) 3 [(3, .int (l3 + 1)), (2, .int v4), (0, .ref l0), (1, .int l1)] dX1_childMask_33 rfl rfl (by decide) rfl ?_
    refine bd_goto C 6 dX1_childMask_36 (by decide) ?_
    exact bd_sub (hk6 l0 l1 v4 (l3 + 1) ol0) [2, 3, 1, 0] rfl
  have hb6 : ∀ (n : Nat) (l0 : Nat) (l1 : Int32) (l2 : Int32) (l3 : Int32) (ol0 : okF F l0 1), BD g G F 4 (qX1_childMask G F g w) 0 0 (fX1_childMask_6 F N w n l0 l1 l2 l3) w 6 [(0, .ref l0), (1, .int l1), (2, .int l2), (3, .int l3)] [] := by
    intro n
    induction n with
    | zero =>
      intro l0 l1 l2 l3 ol0
      unfold fX1_childMask_6
      exact bd_none
    | succ n ih =>
      intro l0 l1 l2 l3 ol0
      unfold fX1_childMask_6
      refine bd_iload_n C 3 dX1_childMask_6 rfl rfl ?_
      refine bd_aload_n C 0 dX1_childMask_7 rfl rfl ?_
      refine bd_gI C fi105 fv105 wd_154 dX1_childMask_8 ol0 ?_
      refine bd_icmp_ge C 39 dX1_childMask_11 (by decide) (fun c1 => ?_) (fun c1 => ?_)
      · refine bd_iload_n C 2 dX1_childMask_39 rfl rfl ?_
        exact bd_iret C hret rfl _ _ rfl rfl dX1_childMask_40 (Nat.le_refl _) (Nat.le_refl _)
      · refine bd_iload_n C 2 dX1_childMask_14 rfl rfl ?_
        refine bd_aload_n C 0 dX1_childMask_15 rfl rfl ?_
        refine bd_iload_n C 3 dX1_childMask_16 rfl rfl ?_
        refine bd_callV (vs := fun (r : Int32) => some (.int r)) (wf := fun _ => w) (st := [.int l2]) (st1 := fun x2 => Value.int x2 :: [.int l2]) C [.int l3] (fun r9 e9 => mX1_parentOf C.flag N ol0 e9) mwX1_parentOf miX1_parentOf wd_444 ol0 (by decide) rfl rfl rfl (Nat.le_of_ble_eq_true rfl) dX1_childMask_17 ⟨rfl, rfl, Nat.le_of_ble_eq_true rfl, Nat.le_of_ble_eq_true rfl, Nat.le_of_ble_eq_true rfl, Nat.le_of_ble_eq_true rfl⟩ (fun _ => rfl) (fun x2 ex2 => ?_)
        refine bd_iload_n C 1 dX1_childMask_20 rfl rfl ?_
        refine bd_icmp_ne C 30 dX1_childMask_21 (by decide) (fun c3 => ?_) (fun c3 => ?_)
        · refine bd_iconst C (v := 0) dX1_childMask_30 (by decide) ?_
          exact bd_sub (hb31 _ ih l0 l1 l3 l2 0 ol0) [0, 1, 3] rfl
        · refine bd_iconst C (v := 1) dX1_childMask_24 (by decide) ?_
          refine bd_iload_n C 3 dX1_childMask_25 rfl rfl ?_
          refine bd_ishl C dX1_childMask_26 ?_
          refine bd_goto C 31 dX1_childMask_27 (by decide) ?_
          exact bd_sub (hb31 _ ih l0 l1 l3 l2 (1 <<< (l3 &&& 31)) ol0) [0, 1, 3] rfl
  unfold fX1_childMask
  refine bd_sub (lv' := [(0, .ref l0), (1, .int l1)]) ?_ [0, 1] rfl
  refine bd_iconst C (v := 0) dX1_childMask_0 (by decide) ?_
  refine bd_istore_n C [(2, .int 0), (0, .ref l0), (1, .int l1)] dX1_childMask_1 rfl (by decide) rfl ?_
  refine bd_iload_n C 2 dX1_childMask_2 rfl rfl ?_
  refine bd_iconst C (v := 1) dX1_childMask_3 (by decide) ?_
  refine bd_iadd C dX1_childMask_4 ?_
  refine bd_bnd (tp := Value.int) (fun v5 ev5 => ?_)
  refine bd_istore_n C [(3, .int v5), (2, .int 0), (0, .ref l0), (1, .int l1)] dX1_childMask_5 rfl (by decide) rfl ?_
  exact bd_sub (hb6 N l0 l1 0 v5 ol0) [2, 3, 1, 0] rfl
abbrev rmX1_spanCount : Room := { frames := 11, cells := 0, slots := 0, locals := 324 }
abbrev qX1_spanCount (G : Gy) (F : Fr) (g : Bd) (w : Wd) : Int32 → State → Prop := fun r => QM G F g 0 0 ((fun (r : Int32) => some (.int r)) r) ((fun _ => w) r)
set_option maxRecDepth 20000 in
set_option maxHeartbeats 4000000 in
theorem mX1_spanCount {l : Launch} (hf9 : l.stackTraces = false) {G : Gy} {F : Fr} (N : Nat) {w : Wd} {l0 : Nat} {r : Int32} (ol0 : okF F l0 1) (e9 : fX1_spanCount F N w l0 = some r) : Met l yX1_spanCount [.code yX1_spanCount cX1_spanCount 3 (some .int)] rmX1_spanCount (PcB G F w [.ref l0]) (QB G F ((fun (r : Int32) => some (.int r)) r) ((fun _ => w) r)) 0 0 (AF F) := by
  refine bd_met (vs := fun (r : Int32) => some (.int r)) (wf := fun _ => w) hf9 (by decide) (Nat.le_of_ble_eq_true rfl) e9 (fun g C hret hini => ?_)
  clear e9 r
  have hb4 : ∀ (n : Nat) (l0 : Nat) (l1 : Int32) (l2 : Int32) (ol0 : okF F l0 1), BD g G F 3 (qX1_spanCount G F g w) 0 0 (fX1_spanCount_4 F N w n l0 l1 l2) w 4 [(0, .ref l0), (1, .int l1), (2, .int l2)] [] := by
    intro n
    induction n with
    | zero =>
      intro l0 l1 l2 ol0
      unfold fX1_spanCount_4
      exact bd_none
    | succ n ih =>
      intro l0 l1 l2 ol0
      unfold fX1_spanCount_4
      refine bd_iload_n C 2 dX1_spanCount_4 rfl rfl ?_
      refine bd_aload_n C 0 dX1_spanCount_5 rfl rfl ?_
      refine bd_gI C fi105 fv105 wd_154 dX1_spanCount_6 ol0 ?_
      refine bd_icmp_ge C 40 dX1_spanCount_9 (by decide) (fun c1 => ?_) (fun c1 => ?_)
      · refine bd_iload_n C 1 dX1_spanCount_40 rfl rfl ?_
        exact bd_iret C hret rfl _ _ rfl rfl dX1_spanCount_41 (Nat.le_refl _) (Nat.le_refl _)
      · refine bd_iload_n C 1 dX1_spanCount_12 rfl rfl ?_
        refine bd_aload_n C 0 dX1_spanCount_13 rfl rfl ?_
        refine bd_iconst C (v := 0) dX1_spanCount_14 (by decide) ?_
        refine bd_iload_n C 2 dX1_spanCount_15 rfl rfl ?_
        refine bd_callV (vs := fun (r : Nat) => some (.ref r)) (wf := fun _ => w) (st := [.int l1]) (st1 := fun x2 => Value.ref x2 :: [.int l1]) C [.int 0, .int l2] (fun r9 e9 => mX1_row C.flag N ol0 e9) mwX1_row miX1_row wd_429 ol0 (by decide) rfl rfl rfl (Nat.le_of_ble_eq_true rfl) dX1_spanCount_16 ⟨rfl, rfl, Nat.le_of_ble_eq_true rfl, Nat.le_of_ble_eq_true rfl, Nat.le_of_ble_eq_true rfl, Nat.le_of_ble_eq_true rfl⟩ (fun _ => rfl) (fun x2 ex2 => ?_)
        refine bd_ckF (fun h3 => ?_)
        refine bd_gIN C fi703 fv703 wd_133 dX1_spanCount_19 h3 ?_
        refine bd_aload_n C 0 dX1_spanCount_22 rfl rfl ?_
        refine bd_iconst C (v := 1) dX1_spanCount_23 (by decide) ?_
        refine bd_iload_n C 2 dX1_spanCount_24 rfl rfl ?_
        refine bd_callV (vs := fun (r : Nat) => some (.ref r)) (wf := fun _ => w) (st := [.int (gI w 703 x2), .int l1]) (st1 := fun x4 => Value.ref x4 :: [.int (gI w 703 x2), .int l1]) C [.int 1, .int l2] (fun r9 e9 => mX1_row C.flag N ol0 e9) mwX1_row miX1_row wd_429 ol0 (by decide) rfl rfl rfl (Nat.le_of_ble_eq_true rfl) dX1_spanCount_25 ⟨rfl, rfl, Nat.le_of_ble_eq_true rfl, Nat.le_of_ble_eq_true rfl, Nat.le_of_ble_eq_true rfl, Nat.le_of_ble_eq_true rfl⟩ (fun _ => rfl) (fun x4 ex4 => ?_)
        refine bd_ckF (fun h5 => ?_)
        refine bd_gIN C fi703 fv703 wd_133 dX1_spanCount_28 h5 ?_
        refine bd_iadd C dX1_spanCount_31 ?_
        refine bd_iadd C dX1_spanCount_32 ?_
        refine bd_bnd (tp := Value.int) (fun v6 ev6 => ?_)
        refine bd_istore_n C [(1, .int v6), (0, .ref l0), (2, .int l2)] dX1_spanCount_33 rfl (by decide) rfl ?_
        refine bd_iinc C (v := l2 + 1) 2 [(2, .int (l2 + 1)), (1, .int v6), (0, .ref l0)] dX1_spanCount_34 rfl rfl (by decide) rfl ?_
        refine bd_goto C 4 dX1_spanCount_37 (by decide) ?_
        exact bd_sub (ih l0 v6 (l2 + 1) ol0) [2, 1, 0] rfl
  unfold fX1_spanCount
  refine bd_sub (lv' := [(0, .ref l0)]) ?_ [0] rfl
  refine bd_iconst C (v := 0) dX1_spanCount_0 (by decide) ?_
  refine bd_istore_n C [(1, .int 0), (0, .ref l0)] dX1_spanCount_1 rfl (by decide) rfl ?_
  refine bd_iconst C (v := 0) dX1_spanCount_2 (by decide) ?_
  refine bd_istore_n C [(2, .int 0), (1, .int 0), (0, .ref l0)] dX1_spanCount_3 rfl (by decide) rfl ?_
  exact bd_sub (hb4 N l0 0 0 ol0) [2, 1, 0] rfl
abbrev rmX7_host : Room := { frames := 10, cells := 0, slots := 0, locals := 300 }
abbrev qX7_host (G : Gy) (F : Fr) (g : Bd) (w : Wd) : Int32 → State → Prop := fun r => QM G F g 0 0 ((fun (r : Int32) => some (.int r)) r) ((fun _ => w) r)
set_option maxRecDepth 20000 in
set_option maxHeartbeats 4000000 in
theorem mX7_host {l : Launch} (hf9 : l.stackTraces = false) {G : Gy} {F : Fr} (N : Nat) {w : Wd} {l0 : Nat} {l1 : Int32} {l2 : Int32} {l3 : Int32} {r : Int32} (ol0 : okF F l0 7) (e9 : fX7_host F N w l0 l1 l2 l3 = some r) : Met l yX7_host [.code yX7_host cX7_host 7 (some .int)] rmX7_host (PcB G F w [.ref l0, .int l1, .int l2, .int l3]) (QB G F ((fun (r : Int32) => some (.int r)) r) ((fun _ => w) r)) 0 0 (AF F) := by
  refine bd_met (vs := fun (r : Int32) => some (.int r)) (wf := fun _ => w) hf9 (by decide) (Nat.le_of_ble_eq_true rfl) e9 (fun g C hret hini => ?_)
  clear e9 r
  have hb110 : ∀ (k3 : Nat → Int32 → Int32 → Int32 → Int32 → Option (Int32)), (∀ (l0 : Nat) (l1 : Int32) (l2 : Int32) (l3 : Int32) (l4 : Int32) (ol0 : okF F l0 7), BD g G F 7 (qX7_host G F g w) 0 0 (k3 l0 l1 l2 l3 l4) w 3 [(0, .ref l0), (1, .int l1), (2, .int l2), (3, .int l3), (4, .int l4)] []) → ∀  (l0 : Nat) (l1 : Int32) (l2 : Int32) (l3 : Int32) (l4 : Int32) (ol0 : okF F l0 7), BD g G F 7 (qX7_host G F g w) 0 0 (fX7_host_110 F N w k3 l0 l1 l2 l3 l4) w 110 [(0, .ref l0), (1, .int l1), (2, .int l2), (3, .int l3), (4, .int l4)] [] := by
    intro k3 hk3
    intro l0 l1 l2 l3 l4 ol0
    unfold fX7_host_110
    refine bd_iinc C (v := l4 + 1) 4 [(4, .int (l4 + 1)), (0, .ref l0), (1, .int l1), (2, .int l2), (3, .int l3)] dX7_host_110 rfl rfl (by decide) rfl ?_
    refine bd_goto C 3 dX7_host_113 (by decide) ?_
    exact bd_sub (hk3 l0 l1 l2 l3 (l4 + 1) ol0) [1, 2, 3, 4, 0] rfl
  have hb97 : ∀ (k3 : Nat → Int32 → Int32 → Int32 → Int32 → Option (Int32)), (∀ (l0 : Nat) (l1 : Int32) (l2 : Int32) (l3 : Int32) (l4 : Int32) (ol0 : okF F l0 7), BD g G F 7 (qX7_host G F g w) 0 0 (k3 l0 l1 l2 l3 l4) w 3 [(0, .ref l0), (1, .int l1), (2, .int l2), (3, .int l3), (4, .int l4)] []) → ∀  (l0 : Nat) (l1 : Int32) (l2 : Int32) (l3 : Int32) (l4 : Int32) (l5 : Int32) (ol0 : okF F l0 7), BD g G F 7 (qX7_host G F g w) 0 0 (fX7_host_97 F N w k3 l0 l1 l2 l3 l4 l5) w 97 [(0, .ref l0), (1, .int l1), (2, .int l2), (3, .int l3), (4, .int l4), (5, .int l5)] [] := by
    intro k3 hk3
    intro l0 l1 l2 l3 l4 l5 ol0
    unfold fX7_host_97
    refine bd_iload_n C 1 dX7_host_97 rfl rfl ?_
    refine bd_iconst C (v := 3) dX7_host_98 (by decide) ?_
    refine bd_icmp_ne C 110 dX7_host_99 (by decide) (fun c19 => ?_) (fun c19 => ?_)
    · exact bd_sub (hb110 _ hk3 l0 l1 l2 l3 l4 ol0) [0, 1, 2, 3, 4] rfl
    · refine bd_iload C 5 dX7_host_102 rfl ?_
      refine bd_if_eq C 110 dX7_host_104 (by decide) (fun c20 => ?_) (fun c20 => ?_)
      · exact bd_sub (hb110 _ hk3 l0 l1 l2 l3 l4 ol0) [0, 1, 2, 3, 4] rfl
      · refine bd_iload C 4 dX7_host_107 rfl ?_
        exact bd_iret C hret rfl _ _ rfl rfl dX7_host_109 (Nat.le_refl _) (Nat.le_refl _)
  have hb82 : ∀ (k3 : Nat → Int32 → Int32 → Int32 → Int32 → Option (Int32)), (∀ (l0 : Nat) (l1 : Int32) (l2 : Int32) (l3 : Int32) (l4 : Int32) (ol0 : okF F l0 7), BD g G F 7 (qX7_host G F g w) 0 0 (k3 l0 l1 l2 l3 l4) w 3 [(0, .ref l0), (1, .int l1), (2, .int l2), (3, .int l3), (4, .int l4)] []) → ∀  (l0 : Nat) (l1 : Int32) (l2 : Int32) (l3 : Int32) (l4 : Int32) (l5 : Int32) (l6 : Int32) (ol0 : okF F l0 7), BD g G F 7 (qX7_host G F g w) 0 0 (fX7_host_82 F N w k3 l0 l1 l2 l3 l4 l5 l6) w 82 [(0, .ref l0), (1, .int l1), (2, .int l2), (3, .int l3), (4, .int l4), (5, .int l5), (6, .int l6)] [] := by
    intro k3 hk3
    intro l0 l1 l2 l3 l4 l5 l6 ol0
    unfold fX7_host_82
    refine bd_iload_n C 1 dX7_host_82 rfl rfl ?_
    refine bd_iconst C (v := 2) dX7_host_83 (by decide) ?_
    refine bd_icmp_ne C 97 dX7_host_84 (by decide) (fun c16 => ?_) (fun c16 => ?_)
    · exact bd_sub (hb97 _ hk3 l0 l1 l2 l3 l4 l5 ol0) [0, 1, 2, 3, 4, 5] rfl
    · refine bd_iload C 5 dX7_host_87 rfl ?_
      refine bd_if_eq C 97 dX7_host_89 (by decide) (fun c17 => ?_) (fun c17 => ?_)
      · exact bd_sub (hb97 _ hk3 l0 l1 l2 l3 l4 l5 ol0) [0, 1, 2, 3, 4, 5] rfl
      · refine bd_iload C 6 dX7_host_92 rfl ?_
        refine bd_if_ne C 107 dX7_host_94 (by decide) (fun c18 => ?_) (fun c18 => ?_)
        · refine bd_iload C 4 dX7_host_107 rfl ?_
          exact bd_iret C hret rfl _ _ rfl rfl dX7_host_109 (Nat.le_refl _) (Nat.le_refl _)
        · exact bd_sub (hb97 _ hk3 l0 l1 l2 l3 l4 l5 ol0) [0, 1, 2, 3, 4, 5] rfl
  have hb53 : ∀ (k3 : Nat → Int32 → Int32 → Int32 → Int32 → Option (Int32)), (∀ (l0 : Nat) (l1 : Int32) (l2 : Int32) (l3 : Int32) (l4 : Int32) (ol0 : okF F l0 7), BD g G F 7 (qX7_host G F g w) 0 0 (k3 l0 l1 l2 l3 l4) w 3 [(0, .ref l0), (1, .int l1), (2, .int l2), (3, .int l3), (4, .int l4)] []) → ∀  (l0 : Nat) (l1 : Int32) (l2 : Int32) (l3 : Int32) (l4 : Int32) (l5 : Int32) (s0 : Int32) (ol0 : okF F l0 7), BD g G F 7 (qX7_host G F g w) 0 0 (fX7_host_53 F N w k3 l0 l1 l2 l3 l4 l5 s0) w 53 [(0, .ref l0), (1, .int l1), (2, .int l2), (3, .int l3), (4, .int l4), (5, .int l5)] [.int s0] := by
    intro k3 hk3
    intro l0 l1 l2 l3 l4 l5 s0 ol0
    unfold fX7_host_53
    refine bd_istore C [(6, .int s0), (0, .ref l0), (1, .int l1), (2, .int l2), (3, .int l3), (4, .int l4), (5, .int l5)] dX7_host_53 (by decide) rfl ?_
    refine bd_iload_n C 2 dX7_host_55 rfl rfl ?_
    refine bd_iconst C (v := 1) dX7_host_56 (by decide) ?_
    refine bd_icmp_ne C 82 dX7_host_57 (by decide) (fun c9 => ?_) (fun c9 => ?_)
    · exact bd_sub (hb82 _ hk3 l0 l1 l2 l3 l4 l5 s0 ol0) [1, 2, 3, 4, 5, 6, 0] rfl
    · refine bd_aload_n C 1 dX7_host_60 rfl rfl ?_
      refine bd_gR C fi700 fv700 wd_129 dX7_host_61 ol0 (fun r10 gr10 hr10 => ?_)
      refine bd_iload C 5 dX7_host_64 rfl ?_
      refine bd_iald C dX7_host_66 hr10 (fun x11 => ?_)
      refine bd_iload_n C 3 dX7_host_67 rfl rfl ?_
      refine bd_icmp_gt C 82 dX7_host_68 (by decide) (fun c12 => ?_) (fun c12 => ?_)
      · exact bd_sub (hb82 _ hk3 l0 l1 l2 l3 l4 l5 s0 ol0) [1, 2, 3, 4, 5, 6, 0] rfl
      · refine bd_iload_n C 4 dX7_host_71 rfl rfl ?_
        refine bd_aload_n C 1 dX7_host_72 rfl rfl ?_
        refine bd_gR C fi701 fv701 wd_130 dX7_host_73 ol0 (fun r13 gr13 hr13 => ?_)
        refine bd_iload C 5 dX7_host_76 rfl ?_
        refine bd_iald C dX7_host_78 hr13 (fun x14 => ?_)
        refine bd_icmp_le C 107 dX7_host_79 (by decide) (fun c15 => ?_) (fun c15 => ?_)
        · refine bd_iload C 5 dX7_host_107 rfl ?_
          exact bd_iret C hret rfl _ _ rfl rfl dX7_host_109 (Nat.le_refl _) (Nat.le_refl _)
        · exact bd_sub (hb82 _ hk3 l0 l1 l2 l3 l4 l5 s0 ol0) [1, 2, 3, 4, 5, 6, 0] rfl
  have hb35 : ∀ (k3 : Nat → Int32 → Int32 → Int32 → Int32 → Option (Int32)), (∀ (l0 : Nat) (l1 : Int32) (l2 : Int32) (l3 : Int32) (l4 : Int32) (ol0 : okF F l0 7), BD g G F 7 (qX7_host G F g w) 0 0 (k3 l0 l1 l2 l3 l4) w 3 [(0, .ref l0), (1, .int l1), (2, .int l2), (3, .int l3), (4, .int l4)] []) → ∀  (l0 : Nat) (l1 : Int32) (l2 : Int32) (l3 : Int32) (l4 : Int32) (s0 : Int32) (ol0 : okF F l0 7), BD g G F 7 (qX7_host G F g w) 0 0 (fX7_host_35 F N w k3 l0 l1 l2 l3 l4 s0) w 35 [(0, .ref l0), (1, .int l1), (2, .int l2), (3, .int l3), (4, .int l4)] [.int s0] := by
    intro k3 hk3
    intro l0 l1 l2 l3 l4 s0 ol0
    unfold fX7_host_35
    refine bd_istore C [(5, .int s0), (0, .ref l0), (1, .int l1), (2, .int l2), (3, .int l3), (4, .int l4)] dX7_host_35 (by decide) rfl ?_
    refine bd_aload_n C 1 dX7_host_37 rfl rfl ?_
    refine bd_gR C fi701 fv701 wd_130 dX7_host_38 ol0 (fun r6 gr6 hr6 => ?_)
    refine bd_iload C 5 dX7_host_41 rfl ?_
    refine bd_iald C dX7_host_43 hr6 (fun x7 => ?_)
    refine bd_iload_n C 4 dX7_host_44 rfl rfl ?_
    refine bd_icmp_ne C 52 dX7_host_45 (by decide) (fun c8 => ?_) (fun c8 => ?_)
    · refine bd_iconst C (v := 0) dX7_host_52 (by decide) ?_
      exact bd_sub (hb53 _ hk3 l0 l1 l2 l3 l4 s0 0 ol0) [1, 2, 3, 4, 5, 0] rfl
    · refine bd_iconst C (v := 1) dX7_host_48 (by decide) ?_
      refine bd_goto C 53 dX7_host_49 (by decide) ?_
      exact bd_sub (hb53 _ hk3 l0 l1 l2 l3 l4 s0 1 ol0) [1, 2, 3, 4, 5, 0] rfl
  have hb3 : ∀ (n : Nat) (l0 : Nat) (l1 : Int32) (l2 : Int32) (l3 : Int32) (l4 : Int32) (ol0 : okF F l0 7), BD g G F 7 (qX7_host G F g w) 0 0 (fX7_host_3 F N w n l0 l1 l2 l3 l4) w 3 [(0, .ref l0), (1, .int l1), (2, .int l2), (3, .int l3), (4, .int l4)] [] := by
    intro n
    induction n with
    | zero =>
      intro l0 l1 l2 l3 l4 ol0
      unfold fX7_host_3
      exact bd_none
    | succ n ih =>
      intro l0 l1 l2 l3 l4 ol0
      unfold fX7_host_3
      refine bd_iload C 4 dX7_host_3 rfl ?_
      refine bd_aload_n C 0 dX7_host_5 rfl rfl ?_
      refine bd_gI C fi703 fv703 wd_136 dX7_host_6 ol0 ?_
      refine bd_icmp_ge C 116 dX7_host_9 (by decide) (fun c1 => ?_) (fun c1 => ?_)
      · refine bd_iconst C (v := (-1)) dX7_host_116 (by decide) ?_
        exact bd_iret C hret rfl _ _ rfl rfl dX7_host_117 (Nat.le_refl _) (Nat.le_refl _)
      · refine bd_iload C 4 dX7_host_12 rfl ?_
        refine bd_bipush C (v := 31) dX7_host_14 (by decide) ?_
        refine bd_icmp_ge C 116 dX7_host_16 (by decide) (fun c2 => ?_) (fun c2 => ?_)
        · refine bd_iconst C (v := (-1)) dX7_host_116 (by decide) ?_
          exact bd_iret C hret rfl _ _ rfl rfl dX7_host_117 (Nat.le_refl _) (Nat.le_refl _)
        · refine bd_aload_n C 0 dX7_host_19 rfl rfl ?_
          refine bd_gR C fi700 fv700 wd_129 dX7_host_20 ol0 (fun r3 gr3 hr3 => ?_)
          refine bd_iload C 4 dX7_host_23 rfl ?_
          refine bd_iald C dX7_host_25 hr3 (fun x4 => ?_)
          refine bd_iload_n C 2 dX7_host_26 rfl rfl ?_
          refine bd_icmp_ne C 34 dX7_host_27 (by decide) (fun c5 => ?_) (fun c5 => ?_)
          · refine bd_iconst C (v := 0) dX7_host_34 (by decide) ?_
            exact bd_sub (hb35 _ ih l0 l1 l2 l3 l4 0 ol0) [0, 1, 2, 3, 4] rfl
          · refine bd_iconst C (v := 1) dX7_host_30 (by decide) ?_
            refine bd_goto C 35 dX7_host_31 (by decide) ?_
            exact bd_sub (hb35 _ ih l0 l1 l2 l3 l4 1 ol0) [0, 1, 2, 3, 4] rfl
  unfold fX7_host
  refine bd_sub (lv' := [(0, .ref l0), (1, .int l1), (2, .int l2), (3, .int l3)]) ?_ [0, 1, 2, 3] rfl
  refine bd_iconst C (v := 0) dX7_host_0 (by decide) ?_
  refine bd_istore C [(4, .int 0), (0, .ref l0), (1, .int l1), (2, .int l2), (3, .int l3)] dX7_host_1 (by decide) rfl ?_
  exact bd_sub (hb3 N l0 l1 l2 l3 0 ol0) [1, 2, 3, 4, 0] rfl
abbrev rmX1_hostOf : Room := { frames := 11, cells := 0, slots := 0, locals := 326 }
abbrev qX1_hostOf (G : Gy) (F : Fr) (g : Bd) (w : Wd) : Int32 → State → Prop := fun r => QM G F g 0 0 ((fun (r : Int32) => some (.int r)) r) ((fun _ => w) r)
set_option maxRecDepth 20000 in
set_option maxHeartbeats 4000000 in
theorem mX1_hostOf {l : Launch} (hf9 : l.stackTraces = false) {G : Gy} {F : Fr} (N : Nat) {w : Wd} {l0 : Nat} {l1 : Int32} {l2 : Int32} {l3 : Int32} {l4 : Int32} {r : Int32} (ol0 : okF F l0 1) (e9 : fX1_hostOf F N w l0 l1 l2 l3 l4 = some r) : Met l yX1_hostOf [.code yX1_hostOf cX1_hostOf 5 (some .int)] rmX1_hostOf (PcB G F w [.ref l0, .int l1, .int l2, .int l3, .int l4]) (QB G F ((fun (r : Int32) => some (.int r)) r) ((fun _ => w) r)) 0 0 (AF F) := by
  refine bd_met (vs := fun (r : Int32) => some (.int r)) (wf := fun _ => w) hf9 (by decide) (Nat.le_of_ble_eq_true rfl) e9 (fun g C hret hini => ?_)
  clear e9 r
  unfold fX1_hostOf
  refine bd_sub (lv' := [(0, .ref l0), (1, .int l1), (2, .int l2), (3, .int l3), (4, .int l4)]) ?_ [0, 1, 2, 3, 4] rfl
  refine bd_aload_n C 0 dX1_hostOf_0 rfl rfl ?_
  refine bd_iload_n C 2 dX1_hostOf_1 rfl rfl ?_
  refine bd_callV (vs := fun (r : Int32) => some (.int r)) (wf := fun _ => w) (st := []) (st1 := fun x1 => Value.int x1 :: []) C [.int l2] (fun r9 e9 => mX1_ruleOf C.flag N ol0 e9) mwX1_ruleOf miX1_ruleOf wd_436 ol0 (by decide) rfl rfl rfl (Nat.le_of_ble_eq_true rfl) dX1_hostOf_2 ⟨rfl, rfl, Nat.le_of_ble_eq_true rfl, Nat.le_of_ble_eq_true rfl, Nat.le_of_ble_eq_true rfl, Nat.le_of_ble_eq_true rfl⟩ (fun _ => rfl) (fun x1 ex1 => ?_)
  refine bd_if_ne C 10 dX1_hostOf_5 (by decide) (fun c2 => ?_) (fun c2 => ?_)
  · refine bd_aload_n C 0 dX1_hostOf_10 rfl rfl ?_
    refine bd_iload_n C 1 dX1_hostOf_11 rfl rfl ?_
    refine bd_aload_n C 0 dX1_hostOf_12 rfl rfl ?_
    refine bd_iload_n C 2 dX1_hostOf_13 rfl rfl ?_
    refine bd_callV (vs := fun (r : Int32) => some (.int r)) (wf := fun _ => w) (st := [.int l1, .ref l0]) (st1 := fun x3 => Value.int x3 :: [.int l1, .ref l0]) C [.int l2] (fun r9 e9 => mX1_parentOf C.flag N ol0 e9) mwX1_parentOf miX1_parentOf wd_444 ol0 (by decide) rfl rfl rfl (Nat.le_of_ble_eq_true rfl) dX1_hostOf_14 ⟨rfl, rfl, Nat.le_of_ble_eq_true rfl, Nat.le_of_ble_eq_true rfl, Nat.le_of_ble_eq_true rfl, Nat.le_of_ble_eq_true rfl⟩ (fun _ => rfl) (fun x3 ex3 => ?_)
    refine bd_callV (vs := fun (r : Nat) => some (.ref r)) (wf := fun _ => w) (st := []) (st1 := fun x4 => Value.ref x4 :: []) C [.int l1, .int x3] (fun r9 e9 => mX1_row C.flag N ol0 e9) mwX1_row miX1_row wd_429 ol0 (by decide) rfl rfl rfl (Nat.le_of_ble_eq_true rfl) dX1_hostOf_17 ⟨rfl, rfl, Nat.le_of_ble_eq_true rfl, Nat.le_of_ble_eq_true rfl, Nat.le_of_ble_eq_true rfl, Nat.le_of_ble_eq_true rfl⟩ (fun _ => rfl) (fun x4 ex4 => ?_)
    refine bd_ckF (fun h5 => ?_)
    refine bd_aload_n C 0 dX1_hostOf_20 rfl rfl ?_
    refine bd_iload_n C 2 dX1_hostOf_21 rfl rfl ?_
    refine bd_callV (vs := fun (r : Int32) => some (.int r)) (wf := fun _ => w) (st := [.ref x4]) (st1 := fun x6 => Value.int x6 :: [.ref x4]) C [.int l2] (fun r9 e9 => mX1_ruleOf C.flag N ol0 e9) mwX1_ruleOf miX1_ruleOf wd_436 ol0 (by decide) rfl rfl rfl (Nat.le_of_ble_eq_true rfl) dX1_hostOf_22 ⟨rfl, rfl, Nat.le_of_ble_eq_true rfl, Nat.le_of_ble_eq_true rfl, Nat.le_of_ble_eq_true rfl, Nat.le_of_ble_eq_true rfl⟩ (fun _ => rfl) (fun x6 ex6 => ?_)
    refine bd_iload_n C 3 dX1_hostOf_25 rfl rfl ?_
    refine bd_iload C 4 dX1_hostOf_26 rfl ?_
    refine bd_callV (vs := fun (r : Int32) => some (.int r)) (wf := fun _ => w) (st := []) (st1 := fun x7 => Value.int x7 :: []) C [.int x6, .int l3, .int l4] (fun r9 e9 => mX7_host C.flag N h5 e9) mwX7_host miX7_host wd_448 h5 (by decide) rfl rfl rfl (Nat.le_of_ble_eq_true rfl) dX1_hostOf_28 ⟨rfl, rfl, Nat.le_of_ble_eq_true rfl, Nat.le_of_ble_eq_true rfl, Nat.le_of_ble_eq_true rfl, Nat.le_of_ble_eq_true rfl⟩ (fun _ => rfl) (fun x7 ex7 => ?_)
    exact bd_iret C hret rfl _ _ rfl rfl dX1_hostOf_31 (Nat.le_refl _) (Nat.le_refl _)
  · refine bd_iconst C (v := (-1)) dX1_hostOf_8 (by decide) ?_
    exact bd_iret C hret rfl _ _ rfl rfl dX1_hostOf_9 (Nat.le_refl _) (Nat.le_refl _)
abbrev rmX1_lacksHost : Room := { frames := 12, cells := 0, slots := 0, locals := 350 }
abbrev qX1_lacksHost (G : Gy) (F : Fr) (g : Bd) (w : Wd) : Int32 → State → Prop := fun r => QM G F g 0 0 ((fun (r : Int32) => some (.int r)) r) ((fun _ => w) r)
set_option maxRecDepth 20000 in
set_option maxHeartbeats 4000000 in
theorem mX1_lacksHost {l : Launch} (hf9 : l.stackTraces = false) {G : Gy} {F : Fr} (N : Nat) {w : Wd} {l0 : Nat} {l1 : Int32} {l2 : Int32} {l3 : Int32} {l4 : Int32} {r : Int32} (ol0 : okF F l0 1) (e9 : fX1_lacksHost F N w l0 l1 l2 l3 l4 = some r) : Met l yX1_lacksHost [.code yX1_lacksHost cX1_lacksHost 5 (some .boolean)] rmX1_lacksHost (PcB G F w [.ref l0, .int l1, .int l2, .int l3, .int l4]) (QB G F ((fun (r : Int32) => some (.int r)) r) ((fun _ => w) r)) 0 0 (AF F) := by
  refine bd_met (vs := fun (r : Int32) => some (.int r)) (wf := fun _ => w) hf9 (by decide) (Nat.le_of_ble_eq_true rfl) e9 (fun g C hret hini => ?_)
  clear e9 r
  unfold fX1_lacksHost
  refine bd_sub (lv' := [(0, .ref l0), (1, .int l1), (2, .int l2), (3, .int l3), (4, .int l4)]) ?_ [0, 1, 2, 3, 4] rfl
  refine bd_aload_n C 0 dX1_lacksHost_0 rfl rfl ?_
  refine bd_iload_n C 2 dX1_lacksHost_1 rfl rfl ?_
  refine bd_callV (vs := fun (r : Int32) => some (.int r)) (wf := fun _ => w) (st := []) (st1 := fun x1 => Value.int x1 :: []) C [.int l2] (fun r9 e9 => mX1_ruleOf C.flag N ol0 e9) mwX1_ruleOf miX1_ruleOf wd_436 ol0 (by decide) rfl rfl rfl (Nat.le_of_ble_eq_true rfl) dX1_lacksHost_2 ⟨rfl, rfl, Nat.le_of_ble_eq_true rfl, Nat.le_of_ble_eq_true rfl, Nat.le_of_ble_eq_true rfl, Nat.le_of_ble_eq_true rfl⟩ (fun _ => rfl) (fun x1 ex1 => ?_)
  refine bd_if_eq C 24 dX1_lacksHost_5 (by decide) (fun c2 => ?_) (fun c2 => ?_)
  · refine bd_iconst C (v := 0) dX1_lacksHost_24 (by decide) ?_
    exact bd_zret C hret rfl _ _ rfl rfl rfl dX1_lacksHost_25 (Nat.le_refl _) (Nat.le_refl _)
  · refine bd_aload_n C 0 dX1_lacksHost_8 rfl rfl ?_
    refine bd_iload_n C 1 dX1_lacksHost_9 rfl rfl ?_
    refine bd_iload_n C 2 dX1_lacksHost_10 rfl rfl ?_
    refine bd_iload_n C 3 dX1_lacksHost_11 rfl rfl ?_
    refine bd_iload C 4 dX1_lacksHost_12 rfl ?_
    refine bd_callV (vs := fun (r : Int32) => some (.int r)) (wf := fun _ => w) (st := []) (st1 := fun x3 => Value.int x3 :: []) C [.int l1, .int l2, .int l3, .int l4] (fun r9 e9 => mX1_hostOf C.flag N ol0 e9) mwX1_hostOf miX1_hostOf wd_440 ol0 (by decide) rfl rfl rfl (Nat.le_of_ble_eq_true rfl) dX1_lacksHost_14 ⟨rfl, rfl, Nat.le_of_ble_eq_true rfl, Nat.le_of_ble_eq_true rfl, Nat.le_of_ble_eq_true rfl, Nat.le_of_ble_eq_true rfl⟩ (fun _ => rfl) (fun x3 ex3 => ?_)
    refine bd_if_ge C 24 dX1_lacksHost_17 (by decide) (fun c4 => ?_) (fun c4 => ?_)
    · refine bd_iconst C (v := 0) dX1_lacksHost_24 (by decide) ?_
      exact bd_zret C hret rfl _ _ rfl rfl rfl dX1_lacksHost_25 (Nat.le_refl _) (Nat.le_refl _)
    · refine bd_iconst C (v := 1) dX1_lacksHost_20 (by decide) ?_
      refine bd_goto C 25 dX1_lacksHost_21 (by decide) ?_
      exact bd_zret C hret rfl _ _ rfl rfl rfl dX1_lacksHost_25 (Nat.le_refl _) (Nat.le_refl _)
abbrev rmX1_guestCount : Room := { frames := 12, cells := 0, slots := 0, locals := 350 }
abbrev qX1_guestCount (G : Gy) (F : Fr) (g : Bd) (w : Wd) : Int32 → State → Prop := fun r => QM G F g 0 0 ((fun (r : Int32) => some (.int r)) r) ((fun _ => w) r)
set_option maxRecDepth 20000 in
set_option maxHeartbeats 4000000 in
theorem mX1_guestCount {l : Launch} (hf9 : l.stackTraces = false) {G : Gy} {F : Fr} (N : Nat) {w : Wd} {l0 : Nat} {l1 : Int32} {l2 : Int32} {r : Int32} (ol0 : okF F l0 1) (e9 : fX1_guestCount F N w l0 l1 l2 = some r) : Met l yX1_guestCount [.code yX1_guestCount cX1_guestCount 7 (some .int)] rmX1_guestCount (PcB G F w [.ref l0, .int l1, .int l2]) (QB G F ((fun (r : Int32) => some (.int r)) r) ((fun _ => w) r)) 0 0 (AF F) := by
  refine bd_met (vs := fun (r : Int32) => some (.int r)) (wf := fun _ => w) hf9 (by decide) (Nat.le_of_ble_eq_true rfl) e9 (fun g C hret hini => ?_)
  clear e9 r
  have hb81 : ∀ (k7 : Nat → Int32 → Int32 → Int32 → Int32 → Option (Int32)), (∀ (l0 : Nat) (l1 : Int32) (l2 : Int32) (l3 : Int32) (l4 : Int32) (ol0 : okF F l0 1), BD g G F 7 (qX1_guestCount G F g w) 0 0 (k7 l0 l1 l2 l3 l4) w 7 [(0, .ref l0), (1, .int l1), (2, .int l2), (3, .int l3), (4, .int l4)] []) → ∀ (k27 : Nat → Int32 → Int32 → Int32 → Int32 → Nat → Int32 → Option (Int32)), (∀ (l0 : Nat) (l1 : Int32) (l2 : Int32) (l3 : Int32) (l4 : Int32) (l5 : Nat) (l6 : Int32) (ol0 : okF F l0 1) (ol5 : okF F l5 7), BD g G F 7 (qX1_guestCount G F g w) 0 0 (k27 l0 l1 l2 l3 l4 l5 l6) w 27 [(0, .ref l0), (1, .int l1), (2, .int l2), (3, .int l3), (4, .int l4), (5, .ref l5), (6, .int l6)] []) → ∀  (l0 : Nat) (l1 : Int32) (l2 : Int32) (l4 : Int32) (l5 : Nat) (l6 : Int32) (s0 : Int32) (s1 : Int32) (ol0 : okF F l0 1) (ol5 : okF F l5 7), BD g G F 7 (qX1_guestCount G F g w) 0 0 (fX1_guestCount_81 F N w k7 k27 l0 l1 l2 l4 l5 l6 s0 s1) w 81 [(0, .ref l0), (1, .int l1), (2, .int l2), (4, .int l4), (5, .ref l5), (6, .int l6)] [.int s1, .int s0] := by
    intro k7 hk7 k27 hk27
    intro l0 l1 l2 l4 l5 l6 s0 s1 ol0 ol5
    unfold fX1_guestCount_81
    refine bd_iadd C dX1_guestCount_81 ?_
    refine bd_bnd (tp := Value.int) (fun v11 ev11 => ?_)
    refine bd_istore_n C [(3, .int v11), (0, .ref l0), (1, .int l1), (2, .int l2), (4, .int l4), (5, .ref l5), (6, .int l6)] dX1_guestCount_82 rfl (by decide) rfl ?_
    refine bd_iinc C (v := l6 + 1) 6 [(6, .int (l6 + 1)), (3, .int v11), (0, .ref l0), (1, .int l1), (2, .int l2), (4, .int l4), (5, .ref l5)] dX1_guestCount_83 rfl rfl (by decide) rfl ?_
    refine bd_goto C 27 dX1_guestCount_86 (by decide) ?_
    exact bd_sub (hk27 l0 l1 l2 v11 l4 l5 (l6 + 1) ol0 ol5) [2, 3, 4, 1, 5, 6, 0] rfl
  have hb89 : ∀ (k7 : Nat → Int32 → Int32 → Int32 → Int32 → Option (Int32)), (∀ (l0 : Nat) (l1 : Int32) (l2 : Int32) (l3 : Int32) (l4 : Int32) (ol0 : okF F l0 1), BD g G F 7 (qX1_guestCount G F g w) 0 0 (k7 l0 l1 l2 l3 l4) w 7 [(0, .ref l0), (1, .int l1), (2, .int l2), (3, .int l3), (4, .int l4)] []) → ∀  (l0 : Nat) (l1 : Int32) (l2 : Int32) (l3 : Int32) (l4 : Int32) (ol0 : okF F l0 1), BD g G F 7 (qX1_guestCount G F g w) 0 0 (fX1_guestCount_89 F N w k7 l0 l1 l2 l3 l4) w 89 [(0, .ref l0), (1, .int l1), (2, .int l2), (3, .int l3), (4, .int l4)] [] := by
    intro k7 hk7
    intro l0 l1 l2 l3 l4 ol0
    unfold fX1_guestCount_89
    refine bd_iinc C (v := l4 + 1) 4 [(4, .int (l4 + 1)), (0, .ref l0), (1, .int l1), (2, .int l2), (3, .int l3)] dX1_guestCount_89 rfl rfl (by decide) rfl ?_
    refine bd_goto C 7 dX1_guestCount_92 (by decide) ?_
    exact bd_sub (hk7 l0 l1 l2 l3 (l4 + 1) ol0) [1, 2, 3, 4, 0] rfl
  have hb27 : ∀ (k7 : Nat → Int32 → Int32 → Int32 → Int32 → Option (Int32)), (∀ (l0 : Nat) (l1 : Int32) (l2 : Int32) (l3 : Int32) (l4 : Int32) (ol0 : okF F l0 1), BD g G F 7 (qX1_guestCount G F g w) 0 0 (k7 l0 l1 l2 l3 l4) w 7 [(0, .ref l0), (1, .int l1), (2, .int l2), (3, .int l3), (4, .int l4)] []) → ∀ (n : Nat) (l0 : Nat) (l1 : Int32) (l2 : Int32) (l3 : Int32) (l4 : Int32) (l5 : Nat) (l6 : Int32) (ol0 : okF F l0 1) (ol5 : okF F l5 7), BD g G F 7 (qX1_guestCount G F g w) 0 0 (fX1_guestCount_27 F N w k7 n l0 l1 l2 l3 l4 l5 l6) w 27 [(0, .ref l0), (1, .int l1), (2, .int l2), (3, .int l3), (4, .int l4), (5, .ref l5), (6, .int l6)] [] := by
    intro k7 hk7
    intro n
    induction n with
    | zero =>
      intro l0 l1 l2 l3 l4 l5 l6 ol0 ol5
      unfold fX1_guestCount_27
      exact bd_none
    | succ n ih =>
      intro l0 l1 l2 l3 l4 l5 l6 ol0 ol5
      unfold fX1_guestCount_27
      refine bd_iload C 6 dX1_guestCount_27 rfl ?_
      refine bd_aload C 5 dX1_guestCount_29 rfl ?_
      refine bd_gIN C fi703 fv703 wd_133 dX1_guestCount_31 ol5 ?_
      refine bd_icmp_ge C 89 dX1_guestCount_34 (by decide) (fun c4 => ?_) (fun c4 => ?_)
      · exact bd_sub (hb89 _ hk7 l0 l1 l2 l3 l4 ol0) [0, 1, 2, 3, 4] rfl
      · refine bd_aload_n C 0 dX1_guestCount_37 rfl rfl ?_
        refine bd_iload C 4 dX1_guestCount_38 rfl ?_
        refine bd_callV (vs := fun (r : Int32) => some (.int r)) (wf := fun _ => w) (st := []) (st1 := fun x5 => Value.int x5 :: []) C [.int l4] (fun r9 e9 => mX1_parentOf C.flag N ol0 e9) mwX1_parentOf miX1_parentOf wd_444 ol0 (by decide) rfl rfl rfl (Nat.le_of_ble_eq_true rfl) dX1_guestCount_40 ⟨rfl, rfl, Nat.le_of_ble_eq_true rfl, Nat.le_of_ble_eq_true rfl, Nat.le_of_ble_eq_true rfl, Nat.le_of_ble_eq_true rfl⟩ (fun _ => rfl) (fun x5 ex5 => ?_)
        refine bd_iload_n C 1 dX1_guestCount_43 rfl rfl ?_
        refine bd_icmp_ne C 89 dX1_guestCount_44 (by decide) (fun c6 => ?_) (fun c6 => ?_)
        · exact bd_sub (hb89 _ hk7 l0 l1 l2 l3 l4 ol0) [0, 1, 2, 3, 4] rfl
        · refine bd_iload_n C 3 dX1_guestCount_47 rfl rfl ?_
          refine bd_aload_n C 0 dX1_guestCount_48 rfl rfl ?_
          refine bd_aload_n C 0 dX1_guestCount_49 rfl rfl ?_
          refine bd_gI C fi106 fv106 wd_158 dX1_guestCount_50 ol0 ?_
          refine bd_iload C 4 dX1_guestCount_53 rfl ?_
          refine bd_aload C 5 dX1_guestCount_55 rfl ?_
          refine bd_iload C 6 dX1_guestCount_57 rfl ?_
          refine bd_callV (vs := fun (r : Int32) => some (.int r)) (wf := fun _ => w) (st := [.int l4, .int (gI w 106 l0), .ref l0, .int l3]) (st1 := fun x7 => Value.int x7 :: [.int l4, .int (gI w 106 l0), .ref l0, .int l3]) C [.int l6] (fun r9 e9 => mX7_first C.flag N ol5 e9) mwX7_first miX7_first wd_430 ol5 (by decide) rfl rfl rfl (Nat.le_of_ble_eq_true rfl) dX1_guestCount_59 ⟨rfl, rfl, Nat.le_of_ble_eq_true rfl, Nat.le_of_ble_eq_true rfl, Nat.le_of_ble_eq_true rfl, Nat.le_of_ble_eq_true rfl⟩ (fun _ => rfl) (fun x7 ex7 => ?_)
          refine bd_aload C 5 dX1_guestCount_62 rfl ?_
          refine bd_iload C 6 dX1_guestCount_64 rfl ?_
          refine bd_callV (vs := fun (r : Int32) => some (.int r)) (wf := fun _ => w) (st := [.int x7, .int l4, .int (gI w 106 l0), .ref l0, .int l3]) (st1 := fun x8 => Value.int x8 :: [.int x7, .int l4, .int (gI w 106 l0), .ref l0, .int l3]) C [.int l6] (fun r9 e9 => mX7_end C.flag N ol5 e9) mwX7_end miX7_end wd_431 ol5 (by decide) rfl rfl rfl (Nat.le_of_ble_eq_true rfl) dX1_guestCount_66 ⟨rfl, rfl, Nat.le_of_ble_eq_true rfl, Nat.le_of_ble_eq_true rfl, Nat.le_of_ble_eq_true rfl, Nat.le_of_ble_eq_true rfl⟩ (fun _ => rfl) (fun x8 ex8 => ?_)
          refine bd_callV (vs := fun (r : Int32) => some (.int r)) (wf := fun _ => w) (st := [.int l3]) (st1 := fun x9 => Value.int x9 :: [.int l3]) C [.int (gI w 106 l0), .int l4, .int x7, .int x8] (fun r9 e9 => mX1_hostOf C.flag N ol0 e9) mwX1_hostOf miX1_hostOf wd_440 ol0 (by decide) rfl rfl rfl (Nat.le_of_ble_eq_true rfl) dX1_guestCount_69 ⟨rfl, rfl, Nat.le_of_ble_eq_true rfl, Nat.le_of_ble_eq_true rfl, Nat.le_of_ble_eq_true rfl, Nat.le_of_ble_eq_true rfl⟩ (fun _ => rfl) (fun x9 ex9 => ?_)
          refine bd_iload_n C 2 dX1_guestCount_72 rfl rfl ?_
          refine bd_icmp_ne C 80 dX1_guestCount_73 (by decide) (fun c10 => ?_) (fun c10 => ?_)
          · refine bd_iconst C (v := 0) dX1_guestCount_80 (by decide) ?_
            exact bd_sub (hb81 _ hk7 _ ih l0 l1 l2 l4 l5 l6 l3 0 ol0 ol5) [0, 1, 2, 4, 5, 6] rfl
          · refine bd_iconst C (v := 1) dX1_guestCount_76 (by decide) ?_
            refine bd_goto C 81 dX1_guestCount_77 (by decide) ?_
            exact bd_sub (hb81 _ hk7 _ ih l0 l1 l2 l4 l5 l6 l3 1 ol0 ol5) [0, 1, 2, 4, 5, 6] rfl
  have hb7 : ∀ (n : Nat) (l0 : Nat) (l1 : Int32) (l2 : Int32) (l3 : Int32) (l4 : Int32) (ol0 : okF F l0 1), BD g G F 7 (qX1_guestCount G F g w) 0 0 (fX1_guestCount_7 F N w n l0 l1 l2 l3 l4) w 7 [(0, .ref l0), (1, .int l1), (2, .int l2), (3, .int l3), (4, .int l4)] [] := by
    intro n
    induction n with
    | zero =>
      intro l0 l1 l2 l3 l4 ol0
      unfold fX1_guestCount_7
      exact bd_none
    | succ n ih =>
      intro l0 l1 l2 l3 l4 ol0
      unfold fX1_guestCount_7
      refine bd_iload C 4 dX1_guestCount_7 rfl ?_
      refine bd_aload_n C 0 dX1_guestCount_9 rfl rfl ?_
      refine bd_gI C fi105 fv105 wd_154 dX1_guestCount_10 ol0 ?_
      refine bd_icmp_ge C 95 dX1_guestCount_13 (by decide) (fun c1 => ?_) (fun c1 => ?_)
      · refine bd_iload_n C 3 dX1_guestCount_95 rfl rfl ?_
        exact bd_iret C hret rfl _ _ rfl rfl dX1_guestCount_96 (Nat.le_refl _) (Nat.le_refl _)
      · refine bd_aload_n C 0 dX1_guestCount_16 rfl rfl ?_
        refine bd_iload C 4 dX1_guestCount_17 rfl ?_
        refine bd_callV (vs := fun (r : Nat) => some (.ref r)) (wf := fun _ => w) (st := []) (st1 := fun x2 => Value.ref x2 :: []) C [.int l4] (fun r9 e9 => mX1_present C.flag N ol0 e9) mwX1_present miX1_present wd_752 ol0 (by decide) rfl rfl rfl (Nat.le_of_ble_eq_true rfl) dX1_guestCount_19 ⟨rfl, rfl, Nat.le_of_ble_eq_true rfl, Nat.le_of_ble_eq_true rfl, Nat.le_of_ble_eq_true rfl, Nat.le_of_ble_eq_true rfl⟩ (fun _ => rfl) (fun x2 ex2 => ?_)
        refine bd_ckF (fun h3 => ?_)
        refine bd_astore C [(5, .ref x2), (0, .ref l0), (1, .int l1), (2, .int l2), (3, .int l3), (4, .int l4)] dX1_guestCount_22 (by decide) rfl ?_
        refine bd_iconst C (v := 0) dX1_guestCount_24 (by decide) ?_
        refine bd_istore C [(6, .int 0), (5, .ref x2), (0, .ref l0), (1, .int l1), (2, .int l2), (3, .int l3), (4, .int l4)] dX1_guestCount_25 (by decide) rfl ?_
        exact bd_sub (hb27 _ ih N l0 l1 l2 l3 l4 x2 0 ol0 h3) [2, 3, 4, 5, 6, 1, 0] rfl
  unfold fX1_guestCount
  refine bd_sub (lv' := [(0, .ref l0), (1, .int l1), (2, .int l2)]) ?_ [0, 1, 2] rfl
  refine bd_iconst C (v := 0) dX1_guestCount_0 (by decide) ?_
  refine bd_istore_n C [(3, .int 0), (0, .ref l0), (1, .int l1), (2, .int l2)] dX1_guestCount_1 rfl (by decide) rfl ?_
  refine bd_iload_n C 2 dX1_guestCount_2 rfl rfl ?_
  refine bd_iconst C (v := 1) dX1_guestCount_3 (by decide) ?_
  refine bd_iadd C dX1_guestCount_4 ?_
  refine bd_bnd (tp := Value.int) (fun v12 ev12 => ?_)
  refine bd_istore C [(4, .int v12), (3, .int 0), (0, .ref l0), (1, .int l1), (2, .int l2)] dX1_guestCount_5 (by decide) rfl ?_
  exact bd_sub (hb7 N l0 l1 l2 0 v12 ol0) [2, 3, 4, 1, 0] rfl
abbrev rmX1_hasOrphan : Room := { frames := 13, cells := 0, slots := 0, locals := 374 }
abbrev qX1_hasOrphan (G : Gy) (F : Fr) (g : Bd) (w : Wd) : Int32 → State → Prop := fun r => QM G F g 0 0 ((fun (r : Int32) => some (.int r)) r) ((fun _ => w) r)
set_option maxRecDepth 20000 in
set_option maxHeartbeats 4000000 in
theorem mX1_hasOrphan {l : Launch} (hf9 : l.stackTraces = false) {G : Gy} {F : Fr} (N : Nat) {w : Wd} {l0 : Nat} {l1 : Int32} {l2 : Int32} {r : Int32} (ol0 : okF F l0 1) (e9 : fX1_hasOrphan F N w l0 l1 l2 = some r) : Met l yX1_hasOrphan [.code yX1_hasOrphan cX1_hasOrphan 5 (some .boolean)] rmX1_hasOrphan (PcB G F w [.ref l0, .int l1, .int l2]) (QB G F ((fun (r : Int32) => some (.int r)) r) ((fun _ => w) r)) 0 0 (AF F) := by
  refine bd_met (vs := fun (r : Int32) => some (.int r)) (wf := fun _ => w) hf9 (by decide) (Nat.le_of_ble_eq_true rfl) e9 (fun g C hret hini => ?_)
  clear e9 r
  have hb10 : ∀ (n : Nat) (l0 : Nat) (l1 : Int32) (l2 : Int32) (l3 : Nat) (l4 : Int32) (ol0 : okF F l0 1) (ol3 : okF F l3 7), BD g G F 5 (qX1_hasOrphan G F g w) 0 0 (fX1_hasOrphan_10 F N w n l0 l1 l2 l3 l4) w 10 [(0, .ref l0), (1, .int l1), (2, .int l2), (3, .ref l3), (4, .int l4)] [] := by
    intro n
    induction n with
    | zero =>
      intro l0 l1 l2 l3 l4 ol0 ol3
      unfold fX1_hasOrphan_10
      exact bd_none
    | succ n ih =>
      intro l0 l1 l2 l3 l4 ol0 ol3
      unfold fX1_hasOrphan_10
      refine bd_iload C 4 dX1_hasOrphan_10 rfl ?_
      refine bd_aload_n C 3 dX1_hasOrphan_12 rfl rfl ?_
      refine bd_gIN C fi703 fv703 wd_133 dX1_hasOrphan_13 ol3 ?_
      refine bd_icmp_ge C 48 dX1_hasOrphan_16 (by decide) (fun c1 => ?_) (fun c1 => ?_)
      · refine bd_iconst C (v := 0) dX1_hasOrphan_48 (by decide) ?_
        exact bd_zret C hret rfl _ _ rfl rfl rfl dX1_hasOrphan_49 (Nat.le_refl _) (Nat.le_refl _)
      · refine bd_aload_n C 0 dX1_hasOrphan_19 rfl rfl ?_
        refine bd_iload_n C 1 dX1_hasOrphan_20 rfl rfl ?_
        refine bd_iload_n C 2 dX1_hasOrphan_21 rfl rfl ?_
        refine bd_aload_n C 3 dX1_hasOrphan_22 rfl rfl ?_
        refine bd_iload C 4 dX1_hasOrphan_23 rfl ?_
        refine bd_callV (vs := fun (r : Int32) => some (.int r)) (wf := fun _ => w) (st := [.int l2, .int l1, .ref l0]) (st1 := fun x2 => Value.int x2 :: [.int l2, .int l1, .ref l0]) C [.int l4] (fun r9 e9 => mX7_first C.flag N ol3 e9) mwX7_first miX7_first wd_430 ol3 (by decide) rfl rfl rfl (Nat.le_of_ble_eq_true rfl) dX1_hasOrphan_25 ⟨rfl, rfl, Nat.le_of_ble_eq_true rfl, Nat.le_of_ble_eq_true rfl, Nat.le_of_ble_eq_true rfl, Nat.le_of_ble_eq_true rfl⟩ (fun _ => rfl) (fun x2 ex2 => ?_)
        refine bd_aload_n C 3 dX1_hasOrphan_28 rfl rfl ?_
        refine bd_iload C 4 dX1_hasOrphan_29 rfl ?_
        refine bd_callV (vs := fun (r : Int32) => some (.int r)) (wf := fun _ => w) (st := [.int x2, .int l2, .int l1, .ref l0]) (st1 := fun x3 => Value.int x3 :: [.int x2, .int l2, .int l1, .ref l0]) C [.int l4] (fun r9 e9 => mX7_end C.flag N ol3 e9) mwX7_end miX7_end wd_431 ol3 (by decide) rfl rfl rfl (Nat.le_of_ble_eq_true rfl) dX1_hasOrphan_31 ⟨rfl, rfl, Nat.le_of_ble_eq_true rfl, Nat.le_of_ble_eq_true rfl, Nat.le_of_ble_eq_true rfl, Nat.le_of_ble_eq_true rfl⟩ (fun _ => rfl) (fun x3 ex3 => ?_)
        refine bd_callV (vs := fun (r : Int32) => some (.int r)) (wf := fun _ => w) (st := []) (st1 := fun x4 => Value.int x4 :: []) C [.int l1, .int l2, .int x2, .int x3] (fun r9 e9 => mX1_lacksHost C.flag N ol0 e9) mwX1_lacksHost miX1_lacksHost wd_432 ol0 (by decide) rfl rfl rfl (Nat.le_of_ble_eq_true rfl) dX1_hasOrphan_34 ⟨rfl, rfl, Nat.le_of_ble_eq_true rfl, Nat.le_of_ble_eq_true rfl, Nat.le_of_ble_eq_true rfl, Nat.le_of_ble_eq_true rfl⟩ (fun _ => rfl) (fun x4 ex4 => ?_)
        refine bd_if_eq C 42 dX1_hasOrphan_37 (by decide) (fun c5 => ?_) (fun c5 => ?_)
        · refine bd_iinc C (v := l4 + 1) 4 [(4, .int (l4 + 1)), (0, .ref l0), (1, .int l1), (2, .int l2), (3, .ref l3)] dX1_hasOrphan_42 rfl rfl (by decide) rfl ?_
          refine bd_goto C 10 dX1_hasOrphan_45 (by decide) ?_
          exact bd_sub (ih l0 l1 l2 l3 (l4 + 1) ol0 ol3) [1, 2, 3, 4, 0] rfl
        · refine bd_iconst C (v := 1) dX1_hasOrphan_40 (by decide) ?_
          exact bd_zret C hret rfl _ _ rfl rfl rfl dX1_hasOrphan_41 (Nat.le_refl _) (Nat.le_refl _)
  unfold fX1_hasOrphan
  refine bd_sub (lv' := [(0, .ref l0), (1, .int l1), (2, .int l2)]) ?_ [0, 1, 2] rfl
  refine bd_aload_n C 0 dX1_hasOrphan_0 rfl rfl ?_
  refine bd_iload_n C 1 dX1_hasOrphan_1 rfl rfl ?_
  refine bd_iload_n C 2 dX1_hasOrphan_2 rfl rfl ?_
  refine bd_callV (vs := fun (r : Nat) => some (.ref r)) (wf := fun _ => w) (st := []) (st1 := fun x6 => Value.ref x6 :: []) C [.int l1, .int l2] (fun r9 e9 => mX1_row C.flag N ol0 e9) mwX1_row miX1_row wd_429 ol0 (by decide) rfl rfl rfl (Nat.le_of_ble_eq_true rfl) dX1_hasOrphan_3 ⟨rfl, rfl, Nat.le_of_ble_eq_true rfl, Nat.le_of_ble_eq_true rfl, Nat.le_of_ble_eq_true rfl, Nat.le_of_ble_eq_true rfl⟩ (fun _ => rfl) (fun x6 ex6 => ?_)
  refine bd_ckF (fun h7 => ?_)
  refine bd_astore_n C [(3, .ref x6), (0, .ref l0), (1, .int l1), (2, .int l2)] dX1_hasOrphan_6 rfl (by decide) rfl ?_
  refine bd_iconst C (v := 0) dX1_hasOrphan_7 (by decide) ?_
  refine bd_istore C [(4, .int 0), (3, .ref x6), (0, .ref l0), (1, .int l1), (2, .int l2)] dX1_hasOrphan_8 (by decide) rfl ?_
  exact bd_sub (hb10 N l0 l1 l2 x6 0 ol0 h7) [2, 3, 4, 1, 0] rfl
abbrev rmX1_lowestBereft : Room := { frames := 14, cells := 0, slots := 0, locals := 398 }
abbrev qX1_lowestBereft (G : Gy) (F : Fr) (g : Bd) (w : Wd) : Int32 → State → Prop := fun r => QM G F g 0 0 ((fun (r : Int32) => some (.int r)) r) ((fun _ => w) r)
set_option maxRecDepth 20000 in
set_option maxHeartbeats 4000000 in
theorem mX1_lowestBereft {l : Launch} (hf9 : l.stackTraces = false) {G : Gy} {F : Fr} (N : Nat) {w : Wd} {l0 : Nat} {l1 : Int32} {r : Int32} (ol0 : okF F l0 1) (e9 : fX1_lowestBereft F N w l0 l1 = some r) : Met l yX1_lowestBereft [.code yX1_lowestBereft cX1_lowestBereft 3 (some .int)] rmX1_lowestBereft (PcB G F w [.ref l0, .int l1]) (QB G F ((fun (r : Int32) => some (.int r)) r) ((fun _ => w) r)) 0 0 (AF F) := by
  refine bd_met (vs := fun (r : Int32) => some (.int r)) (wf := fun _ => w) hf9 (by decide) (Nat.le_of_ble_eq_true rfl) e9 (fun g C hret hini => ?_)
  clear e9 r
  have hb35 : ∀ (k4 : Nat → Int32 → Int32 → Option (Int32)), (∀ (l0 : Nat) (l1 : Int32) (l2 : Int32) (ol0 : okF F l0 1), BD g G F 3 (qX1_lowestBereft G F g w) 0 0 (k4 l0 l1 l2) w 4 [(0, .ref l0), (1, .int l1), (2, .int l2)] []) → ∀  (l0 : Nat) (l1 : Int32) (l2 : Int32) (ol0 : okF F l0 1), BD g G F 3 (qX1_lowestBereft G F g w) 0 0 (fX1_lowestBereft_35 F N w k4 l0 l1 l2) w 35 [(0, .ref l0), (1, .int l1), (2, .int l2)] [] := by
    intro k4 hk4
    intro l0 l1 l2 ol0
    unfold fX1_lowestBereft_35
    refine bd_iinc C (v := l2 + 1) 2 [(2, .int (l2 + 1)), (0, .ref l0), (1, .int l1)] dX1_lowestBereft_35 rfl rfl (by decide) rfl ?_
    refine bd_goto C 4 dX1_lowestBereft_38 (by decide) ?_
    exact bd_sub (hk4 l0 l1 (l2 + 1) ol0) [1, 2, 0] rfl
  have hb4 : ∀ (n : Nat) (l0 : Nat) (l1 : Int32) (l2 : Int32) (ol0 : okF F l0 1), BD g G F 3 (qX1_lowestBereft G F g w) 0 0 (fX1_lowestBereft_4 F N w n l0 l1 l2) w 4 [(0, .ref l0), (1, .int l1), (2, .int l2)] [] := by
    intro n
    induction n with
    | zero =>
      intro l0 l1 l2 ol0
      unfold fX1_lowestBereft_4
      exact bd_none
    | succ n ih =>
      intro l0 l1 l2 ol0
      unfold fX1_lowestBereft_4
      refine bd_iload_n C 2 dX1_lowestBereft_4 rfl rfl ?_
      refine bd_aload_n C 0 dX1_lowestBereft_5 rfl rfl ?_
      refine bd_gI C fi105 fv105 wd_154 dX1_lowestBereft_6 ol0 ?_
      refine bd_icmp_ge C 41 dX1_lowestBereft_9 (by decide) (fun c1 => ?_) (fun c1 => ?_)
      · refine bd_iconst C (v := (-1)) dX1_lowestBereft_41 (by decide) ?_
        exact bd_iret C hret rfl _ _ rfl rfl dX1_lowestBereft_42 (Nat.le_refl _) (Nat.le_refl _)
      · refine bd_aload_n C 0 dX1_lowestBereft_12 rfl rfl ?_
        refine bd_iload_n C 2 dX1_lowestBereft_13 rfl rfl ?_
        refine bd_callV (vs := fun (r : Int32) => some (.int r)) (wf := fun _ => w) (st := []) (st1 := fun x2 => Value.int x2 :: []) C [.int l2] (fun r9 e9 => mX1_parentOf C.flag N ol0 e9) mwX1_parentOf miX1_parentOf wd_444 ol0 (by decide) rfl rfl rfl (Nat.le_of_ble_eq_true rfl) dX1_lowestBereft_14 ⟨rfl, rfl, Nat.le_of_ble_eq_true rfl, Nat.le_of_ble_eq_true rfl, Nat.le_of_ble_eq_true rfl, Nat.le_of_ble_eq_true rfl⟩ (fun _ => rfl) (fun x2 ex2 => ?_)
        refine bd_iload_n C 1 dX1_lowestBereft_17 rfl rfl ?_
        refine bd_icmp_ne C 35 dX1_lowestBereft_18 (by decide) (fun c3 => ?_) (fun c3 => ?_)
        · exact bd_sub (hb35 _ ih l0 l1 l2 ol0) [0, 1, 2] rfl
        · refine bd_aload_n C 0 dX1_lowestBereft_21 rfl rfl ?_
          refine bd_aload_n C 0 dX1_lowestBereft_22 rfl rfl ?_
          refine bd_gI C fi106 fv106 wd_158 dX1_lowestBereft_23 ol0 ?_
          refine bd_iload_n C 2 dX1_lowestBereft_26 rfl rfl ?_
          refine bd_callV (vs := fun (r : Int32) => some (.int r)) (wf := fun _ => w) (st := []) (st1 := fun x4 => Value.int x4 :: []) C [.int (gI w 106 l0), .int l2] (fun r9 e9 => mX1_hasOrphan C.flag N ol0 e9) mwX1_hasOrphan miX1_hasOrphan wd_832 ol0 (by decide) rfl rfl rfl (Nat.le_of_ble_eq_true rfl) dX1_lowestBereft_27 ⟨rfl, rfl, Nat.le_of_ble_eq_true rfl, Nat.le_of_ble_eq_true rfl, Nat.le_of_ble_eq_true rfl, Nat.le_of_ble_eq_true rfl⟩ (fun _ => rfl) (fun x4 ex4 => ?_)
          refine bd_if_eq C 35 dX1_lowestBereft_30 (by decide) (fun c5 => ?_) (fun c5 => ?_)
          · exact bd_sub (hb35 _ ih l0 l1 l2 ol0) [0, 1, 2] rfl
          · refine bd_iload_n C 2 dX1_lowestBereft_33 rfl rfl ?_
            exact bd_iret C hret rfl _ _ rfl rfl dX1_lowestBereft_34 (Nat.le_refl _) (Nat.le_refl _)
  unfold fX1_lowestBereft
  refine bd_sub (lv' := [(0, .ref l0), (1, .int l1)]) ?_ [0, 1] rfl
  refine bd_iload_n C 1 dX1_lowestBereft_0 rfl rfl ?_
  refine bd_iconst C (v := 1) dX1_lowestBereft_1 (by decide) ?_
  refine bd_iadd C dX1_lowestBereft_2 ?_
  refine bd_bnd (tp := Value.int) (fun v6 ev6 => ?_)
  refine bd_istore_n C [(2, .int v6), (0, .ref l0), (1, .int l1)] dX1_lowestBereft_3 rfl (by decide) rfl ?_
  exact bd_sub (hb4 N l0 l1 v6 ol0) [1, 2, 0] rfl
abbrev rmX6_refuse : Room := { frames := 10, cells := 0, slots := 0, locals := 300 }
abbrev qX6_refuse (G : Gy) (F : Fr) (g : Bd) : (Int32 × Wd) → State → Prop := fun r => QM G F g 0 0 ((fun (r : Int32 × Wd) => some (.int r.1)) r) ((fun (r : Int32 × Wd) => r.2) r)
set_option maxRecDepth 20000 in
set_option maxHeartbeats 4000000 in
theorem mX6_refuse {l : Launch} (hf9 : l.stackTraces = false) {G : Gy} {F : Fr} (N : Nat) {w : Wd} {l0 : Nat} {l1 : Int32} {l2 : Int32} {r : Int32 × Wd} (ol0 : okF F l0 6) (e9 : fX6_refuse F N w l0 l1 l2 = some r) : Met l yX6_refuse [.code yX6_refuse cX6_refuse 3 (some .int)] rmX6_refuse (PcB G F w [.ref l0, .int l1, .int l2]) (QB G F ((fun (r : Int32 × Wd) => some (.int r.1)) r) ((fun (r : Int32 × Wd) => r.2) r)) 0 0 (AF F) := by
  refine bd_met (vs := fun (r : Int32 × Wd) => some (.int r.1)) (wf := fun (r : Int32 × Wd) => r.2) hf9 (by decide) (Nat.le_of_ble_eq_true rfl) e9 (fun g C hret hini => ?_)
  clear e9 r
  unfold fX6_refuse
  refine bd_sub (lv' := [(0, .ref l0), (1, .int l1), (2, .int l2)]) ?_ [0, 1, 2] rfl
  refine bd_aload_n C 0 dX6_refuse_0 rfl rfl ?_
  refine bd_iload_n C 1 dX6_refuse_1 rfl rfl ?_
  refine bd_pI C fi600 ftX6 fu600 wd_245 rfl rfl rfl dX6_refuse_2 ol0 (fun w1 => ?_)
  refine bd_aload_n C 0 dX6_refuse_5 rfl rfl ?_
  refine bd_iload_n C 2 dX6_refuse_6 rfl rfl ?_
  refine bd_pI C fi601 ftX6 fu601 wd_247 rfl rfl rfl dX6_refuse_7 ol0 (fun w2 => ?_)
  refine bd_iconst C (v := (-1)) dX6_refuse_10 (by decide) ?_
  exact bd_iret C hret rfl _ _ rfl rfl dX6_refuse_11 (Nat.le_refl _) (Nat.le_refl _)
abbrev rmX7_meeting : Room := { frames := 11, cells := 0, slots := 0, locals := 321 }
abbrev qX7_meeting (G : Gy) (F : Fr) (g : Bd) (w : Wd) : Int32 → State → Prop := fun r => QM G F g 0 0 ((fun (r : Int32) => some (.int r)) r) ((fun _ => w) r)
set_option maxRecDepth 20000 in
set_option maxHeartbeats 4000000 in
theorem mX7_meeting {l : Launch} (hf9 : l.stackTraces = false) {G : Gy} {F : Fr} (N : Nat) {w : Wd} {l0 : Nat} {l1 : Int32} {l2 : Int32} {l3 : Int32} {r : Int32} (ol0 : okF F l0 7) (e9 : fX7_meeting F N w l0 l1 l2 l3 = some r) : Met l yX7_meeting [.code yX7_meeting cX7_meeting 5 (some .int)] rmX7_meeting (PcB G F w [.ref l0, .int l1, .int l2, .int l3]) (QB G F ((fun (r : Int32) => some (.int r)) r) ((fun _ => w) r)) 0 0 (AF F) := by
  refine bd_met (vs := fun (r : Int32) => some (.int r)) (wf := fun _ => w) hf9 (by decide) (Nat.le_of_ble_eq_true rfl) e9 (fun g C hret hini => ?_)
  clear e9 r
  have hb41 : ∀ (k3 : Nat → Int32 → Int32 → Int32 → Int32 → Option (Int32)), (∀ (l0 : Nat) (l1 : Int32) (l2 : Int32) (l3 : Int32) (l4 : Int32) (ol0 : okF F l0 7), BD g G F 5 (qX7_meeting G F g w) 0 0 (k3 l0 l1 l2 l3 l4) w 3 [(0, .ref l0), (1, .int l1), (2, .int l2), (3, .int l3), (4, .int l4)] []) → ∀  (l0 : Nat) (l1 : Int32) (l2 : Int32) (l3 : Int32) (l4 : Int32) (ol0 : okF F l0 7), BD g G F 5 (qX7_meeting G F g w) 0 0 (fX7_meeting_41 F N w k3 l0 l1 l2 l3 l4) w 41 [(0, .ref l0), (1, .int l1), (2, .int l2), (3, .int l3), (4, .int l4)] [] := by
    intro k3 hk3
    intro l0 l1 l2 l3 l4 ol0
    unfold fX7_meeting_41
    refine bd_iinc C (v := l4 + 1) 4 [(4, .int (l4 + 1)), (0, .ref l0), (1, .int l1), (2, .int l2), (3, .int l3)] dX7_meeting_41 rfl rfl (by decide) rfl ?_
    refine bd_goto C 3 dX7_meeting_44 (by decide) ?_
    exact bd_sub (hk3 l0 l1 l2 l3 (l4 + 1) ol0) [1, 2, 3, 4, 0] rfl
  have hb3 : ∀ (n : Nat) (l0 : Nat) (l1 : Int32) (l2 : Int32) (l3 : Int32) (l4 : Int32) (ol0 : okF F l0 7), BD g G F 5 (qX7_meeting G F g w) 0 0 (fX7_meeting_3 F N w n l0 l1 l2 l3 l4) w 3 [(0, .ref l0), (1, .int l1), (2, .int l2), (3, .int l3), (4, .int l4)] [] := by
    intro n
    induction n with
    | zero =>
      intro l0 l1 l2 l3 l4 ol0
      unfold fX7_meeting_3
      exact bd_none
    | succ n ih =>
      intro l0 l1 l2 l3 l4 ol0
      unfold fX7_meeting_3
      refine bd_iload C 4 dX7_meeting_3 rfl ?_
      refine bd_aload_n C 0 dX7_meeting_5 rfl rfl ?_
      refine bd_gI C fi703 fv703 wd_136 dX7_meeting_6 ol0 ?_
      refine bd_icmp_ge C 47 dX7_meeting_9 (by decide) (fun c1 => ?_) (fun c1 => ?_)
      · refine bd_iconst C (v := (-1)) dX7_meeting_47 (by decide) ?_
        exact bd_iret C hret rfl _ _ rfl rfl dX7_meeting_48 (Nat.le_refl _) (Nat.le_refl _)
      · refine bd_iload C 4 dX7_meeting_12 rfl ?_
        refine bd_iload_n C 3 dX7_meeting_14 rfl rfl ?_
        refine bd_icmp_eq C 41 dX7_meeting_15 (by decide) (fun c2 => ?_) (fun c2 => ?_)
        · exact bd_sub (hb41 _ ih l0 l1 l2 l3 l4 ol0) [0, 1, 2, 3, 4] rfl
        · refine bd_aload_n C 0 dX7_meeting_18 rfl rfl ?_
          refine bd_iload C 4 dX7_meeting_19 rfl ?_
          refine bd_callV (vs := fun (r : Int32) => some (.int r)) (wf := fun _ => w) (st := []) (st1 := fun x3 => Value.int x3 :: []) C [.int l4] (fun r9 e9 => mX7_first C.flag N ol0 e9) mwX7_first miX7_first wd_402 ol0 (by decide) rfl rfl rfl (Nat.le_of_ble_eq_true rfl) dX7_meeting_21 ⟨rfl, rfl, Nat.le_of_ble_eq_true rfl, Nat.le_of_ble_eq_true rfl, Nat.le_of_ble_eq_true rfl, Nat.le_of_ble_eq_true rfl⟩ (fun _ => rfl) (fun x3 ex3 => ?_)
          refine bd_iload_n C 2 dX7_meeting_24 rfl rfl ?_
          refine bd_icmp_ge C 41 dX7_meeting_25 (by decide) (fun c4 => ?_) (fun c4 => ?_)
          · exact bd_sub (hb41 _ ih l0 l1 l2 l3 l4 ol0) [0, 1, 2, 3, 4] rfl
          · refine bd_iload_n C 1 dX7_meeting_28 rfl rfl ?_
            refine bd_aload_n C 0 dX7_meeting_29 rfl rfl ?_
            refine bd_iload C 4 dX7_meeting_30 rfl ?_
            refine bd_callV (vs := fun (r : Int32) => some (.int r)) (wf := fun _ => w) (st := [.int l1]) (st1 := fun x5 => Value.int x5 :: [.int l1]) C [.int l4] (fun r9 e9 => mX7_end C.flag N ol0 e9) mwX7_end miX7_end wd_406 ol0 (by decide) rfl rfl rfl (Nat.le_of_ble_eq_true rfl) dX7_meeting_32 ⟨rfl, rfl, Nat.le_of_ble_eq_true rfl, Nat.le_of_ble_eq_true rfl, Nat.le_of_ble_eq_true rfl, Nat.le_of_ble_eq_true rfl⟩ (fun _ => rfl) (fun x5 ex5 => ?_)
            refine bd_icmp_ge C 41 dX7_meeting_35 (by decide) (fun c6 => ?_) (fun c6 => ?_)
            · exact bd_sub (hb41 _ ih l0 l1 l2 l3 l4 ol0) [0, 1, 2, 3, 4] rfl
            · refine bd_iload C 4 dX7_meeting_38 rfl ?_
              exact bd_iret C hret rfl _ _ rfl rfl dX7_meeting_40 (Nat.le_refl _) (Nat.le_refl _)
  unfold fX7_meeting
  refine bd_sub (lv' := [(0, .ref l0), (1, .int l1), (2, .int l2), (3, .int l3)]) ?_ [0, 1, 2, 3] rfl
  refine bd_iconst C (v := 0) dX7_meeting_0 (by decide) ?_
  refine bd_istore C [(4, .int 0), (0, .ref l0), (1, .int l1), (2, .int l2), (3, .int l3)] dX7_meeting_1 (by decide) rfl ?_
  exact bd_sub (hb3 N l0 l1 l2 l3 0 ol0) [1, 2, 3, 4, 0] rfl
abbrev rmX1_tryFrames : Room := { frames := 13, cells := 0, slots := 0, locals := 374 }
abbrev qX1_tryFrames (G : Gy) (F : Fr) (g : Bd) : (Int32 × Wd) → State → Prop := fun r => QM G F g 0 0 ((fun (r : Int32 × Wd) => some (.int r.1)) r) ((fun (r : Int32 × Wd) => r.2) r)
set_option maxRecDepth 20000 in
set_option maxHeartbeats 4000000 in
theorem mX1_tryFrames {l : Launch} (hf9 : l.stackTraces = false) {G : Gy} {F : Fr} (N : Nat) {w : Wd} {l0 : Nat} {l1 : Int32} {l2 : Int32} {l3 : Int32} {l4 : Int32} {l5 : Nat} {r : Int32 × Wd} (ol0 : okF F l0 1) (ol5 : okF F l5 6) (e9 : fX1_tryFrames F N w l0 l1 l2 l3 l4 l5 = some r) : Met l yX1_tryFrames [.code yX1_tryFrames cX1_tryFrames 7 (some .int)] rmX1_tryFrames (PcB G F w [.ref l0, .int l1, .int l2, .int l3, .int l4, .ref l5]) (QB G F ((fun (r : Int32 × Wd) => some (.int r.1)) r) ((fun (r : Int32 × Wd) => r.2) r)) 0 0 (AF F) := by
  refine bd_met (vs := fun (r : Int32 × Wd) => some (.int r.1)) (wf := fun (r : Int32 × Wd) => r.2) hf9 (by decide) (Nat.le_of_ble_eq_true rfl) e9 (fun g C hret hini => ?_)
  clear e9 r
  have hb18 : ∀  (w : Wd) (l5 : Nat) (ol5 : okF F l5 6), BD g G F 7 (qX1_tryFrames G F g) 0 0 (fX1_tryFrames_18 F N w l5) w 18 [(5, .ref l5)] [] := by
    intro w l5 ol5
    unfold fX1_tryFrames_18
    refine bd_aload C 0 dX1_tryFrames_18 rfl ?_
    refine bd_iconst C (v := 1) dX1_tryFrames_20 (by decide) ?_
    refine bd_iconst C (v := 0) dX1_tryFrames_21 (by decide) ?_
    refine bd_callV (vs := fun (r : Int32 × Wd) => some (.int r.1)) (wf := fun (r : Int32 × Wd) => r.2) (st := []) (st1 := fun p1 => Value.int p1.1 :: []) C [.int 1, .int 0] (fun r9 e9 => mX6_refuse C.flag N ol5 e9) mwX6_refuse miX6_refuse wd_748 ol5 (by decide) rfl rfl rfl (Nat.le_of_ble_eq_true rfl) dX1_tryFrames_22 ⟨rfl, rfl, Nat.le_of_ble_eq_true rfl, Nat.le_of_ble_eq_true rfl, Nat.le_of_ble_eq_true rfl, Nat.le_of_ble_eq_true rfl⟩ (fun _ => rfl) (fun p1 ep1 => ?_)
    exact bd_iret C hret rfl _ _ rfl rfl dX1_tryFrames_25 (Nat.le_refl _) (Nat.le_refl _)
  unfold fX1_tryFrames
  refine bd_sub (lv' := [(0, .ref l0), (1, .int l1), (2, .int l2), (3, .int l3), (4, .int l4), (5, .ref l5)]) ?_ [0, 1, 2, 3, 4, 5] rfl
  refine bd_iload_n C 3 dX1_tryFrames_0 rfl rfl ?_
  refine bd_if_lt C 18 dX1_tryFrames_1 (by decide) (fun c2 => ?_) (fun c2 => ?_)
  · exact bd_sub (hb18 w l5 ol5) [5] rfl
  · refine bd_iload C 4 dX1_tryFrames_4 rfl ?_
    refine bd_sipush C (v := 1000) dX1_tryFrames_6 (by decide) ?_
    refine bd_icmp_gt C 18 dX1_tryFrames_9 (by decide) (fun c3 => ?_) (fun c3 => ?_)
    · exact bd_sub (hb18 w l5 ol5) [5] rfl
    · refine bd_iload C 4 dX1_tryFrames_12 rfl ?_
      refine bd_iload_n C 3 dX1_tryFrames_14 rfl rfl ?_
      refine bd_icmp_gt C 26 dX1_tryFrames_15 (by decide) (fun c4 => ?_) (fun c4 => ?_)
      · refine bd_aload_n C 0 dX1_tryFrames_26 rfl rfl ?_
        refine bd_iload_n C 1 dX1_tryFrames_27 rfl rfl ?_
        refine bd_callV (vs := fun (r : Nat) => some (.ref r)) (wf := fun _ => w) (st := []) (st1 := fun x5 => Value.ref x5 :: []) C [.int l1] (fun r9 e9 => mX1_present C.flag N ol0 e9) mwX1_present miX1_present wd_752 ol0 (by decide) rfl rfl rfl (Nat.le_of_ble_eq_true rfl) dX1_tryFrames_28 ⟨rfl, rfl, Nat.le_of_ble_eq_true rfl, Nat.le_of_ble_eq_true rfl, Nat.le_of_ble_eq_true rfl, Nat.le_of_ble_eq_true rfl⟩ (fun _ => rfl) (fun x5 ex5 => ?_)
        refine bd_ckF (fun h6 => ?_)
        refine bd_iload_n C 3 dX1_tryFrames_31 rfl rfl ?_
        refine bd_iload C 4 dX1_tryFrames_32 rfl ?_
        refine bd_iload_n C 2 dX1_tryFrames_34 rfl rfl ?_
        refine bd_callV (vs := fun (r : Int32) => some (.int r)) (wf := fun _ => w) (st := []) (st1 := fun x7 => Value.int x7 :: []) C [.int l3, .int l4, .int l2] (fun r9 e9 => mX7_meeting C.flag N h6 e9) mwX7_meeting miX7_meeting wd_753 h6 (by decide) rfl rfl rfl (Nat.le_of_ble_eq_true rfl) dX1_tryFrames_35 ⟨rfl, rfl, Nat.le_of_ble_eq_true rfl, Nat.le_of_ble_eq_true rfl, Nat.le_of_ble_eq_true rfl, Nat.le_of_ble_eq_true rfl⟩ (fun _ => rfl) (fun x7 ex7 => ?_)
        refine bd_istore C [(6, .int x7), (0, .ref l0), (1, .int l1), (2, .int l2), (3, .int l3), (4, .int l4), (5, .ref l5)] dX1_tryFrames_38 (by decide) rfl ?_
        refine bd_iload C 0 dX1_tryFrames_40 rfl ?_
        refine bd_if_lt C 54 dX1_tryFrames_42 (by decide) (fun c8 => ?_) (fun c8 => ?_)
        · refine bd_aload_n C 1 dX1_tryFrames_54 rfl rfl ?_
          refine bd_aload_n C 1 dX1_tryFrames_55 rfl rfl ?_
          refine bd_gI C fi106 fv106 wd_158 dX1_tryFrames_56 ol0 ?_
          refine bd_iload_n C 2 dX1_tryFrames_59 rfl rfl ?_
          refine bd_iload_n C 4 dX1_tryFrames_60 rfl rfl ?_
          refine bd_iload C 5 dX1_tryFrames_61 rfl ?_
          refine bd_callV (vs := fun (r : Int32) => some (.int r)) (wf := fun _ => w) (st := []) (st1 := fun x9 => Value.int x9 :: []) C [.int (gI w 106 l0), .int l1, .int l3, .int l4] (fun r9 e9 => mX1_lacksHost C.flag N ol0 e9) mwX1_lacksHost miX1_lacksHost wd_432 ol0 (by decide) rfl rfl rfl (Nat.le_of_ble_eq_true rfl) dX1_tryFrames_63 ⟨rfl, rfl, Nat.le_of_ble_eq_true rfl, Nat.le_of_ble_eq_true rfl, Nat.le_of_ble_eq_true rfl, Nat.le_of_ble_eq_true rfl⟩ (fun _ => rfl) (fun x9 ex9 => ?_)
          refine bd_if_eq C 79 dX1_tryFrames_66 (by decide) (fun c10 => ?_) (fun c10 => ?_)
          · refine bd_iconst C (v := 0) dX1_tryFrames_79 (by decide) ?_
            exact bd_iret C hret rfl _ _ rfl rfl dX1_tryFrames_80 (Nat.le_refl _) (Nat.le_refl _)
          · refine bd_aload C 6 dX1_tryFrames_69 rfl ?_
            refine bd_iconst C (v := 3) dX1_tryFrames_71 (by decide) ?_
            refine bd_iconst C (v := 0) dX1_tryFrames_72 (by decide) ?_
            refine bd_callV (vs := fun (r : Int32 × Wd) => some (.int r.1)) (wf := fun (r : Int32 × Wd) => r.2) (st := []) (st1 := fun p11 => Value.int p11.1 :: []) C [.int 3, .int 0] (fun r9 e9 => mX6_refuse C.flag N ol5 e9) mwX6_refuse miX6_refuse wd_748 ol5 (by decide) rfl rfl rfl (Nat.le_of_ble_eq_true rfl) dX1_tryFrames_73 ⟨rfl, rfl, Nat.le_of_ble_eq_true rfl, Nat.le_of_ble_eq_true rfl, Nat.le_of_ble_eq_true rfl, Nat.le_of_ble_eq_true rfl⟩ (fun _ => rfl) (fun p11 ep11 => ?_)
            refine bd_goto C 80 dX1_tryFrames_76 (by decide) ?_
            exact bd_iret C hret rfl _ _ rfl rfl dX1_tryFrames_80 (Nat.le_refl _) (Nat.le_refl _)
        · refine bd_aload C 6 dX1_tryFrames_45 rfl ?_
          refine bd_iconst C (v := 2) dX1_tryFrames_47 (by decide) ?_
          refine bd_iload C 0 dX1_tryFrames_48 rfl ?_
          refine bd_callV (vs := fun (r : Int32 × Wd) => some (.int r.1)) (wf := fun (r : Int32 × Wd) => r.2) (st := []) (st1 := fun p12 => Value.int p12.1 :: []) C [.int 2, .int x7] (fun r9 e9 => mX6_refuse C.flag N ol5 e9) mwX6_refuse miX6_refuse wd_748 ol5 (by decide) rfl rfl rfl (Nat.le_of_ble_eq_true rfl) dX1_tryFrames_50 ⟨rfl, rfl, Nat.le_of_ble_eq_true rfl, Nat.le_of_ble_eq_true rfl, Nat.le_of_ble_eq_true rfl, Nat.le_of_ble_eq_true rfl⟩ (fun _ => rfl) (fun p12 ep12 => ?_)
          exact bd_iret C hret rfl _ _ rfl rfl dX1_tryFrames_53 (Nat.le_refl _) (Nat.le_refl _)
      · exact bd_sub (hb18 w l5 ol5) [5] rfl
abbrev rmX7_setFrames : Room := { frames := 10, cells := 0, slots := 0, locals := 300 }
abbrev qX7_setFrames (G : Gy) (F : Fr) (g : Bd) : Wd → State → Prop := fun r => QM G F g 0 0 ((fun _ => none) r) ((fun (r : Wd) => r) r)
set_option maxRecDepth 20000 in
set_option maxHeartbeats 4000000 in
theorem mX7_setFrames {l : Launch} (hf9 : l.stackTraces = false) {G : Gy} {F : Fr} (N : Nat) {w : Wd} {l0 : Nat} {l1 : Int32} {l2 : Int32} {l3 : Int32} {r : Wd} (ol0 : okF F l0 7) (e9 : fX7_setFrames F N w l0 l1 l2 l3 = some r) : Met l yX7_setFrames [.code yX7_setFrames cX7_setFrames 4 none] rmX7_setFrames (PcB G F w [.ref l0, .int l1, .int l2, .int l3]) (QB G F ((fun _ => none) r) ((fun (r : Wd) => r) r)) 0 0 (AF F) := by
  refine bd_met (vs := fun _ => none) (wf := fun (r : Wd) => r) hf9 (by decide) (Nat.le_of_ble_eq_true rfl) e9 (fun g C hret hini => ?_)
  clear e9 r
  unfold fX7_setFrames
  refine bd_sub (lv' := [(0, .ref l0), (1, .int l1), (2, .int l2), (3, .int l3)]) ?_ [0, 1, 2, 3] rfl
  refine bd_iload_n C 1 dX7_setFrames_0 rfl rfl ?_
  refine bd_if_lt C 24 dX7_setFrames_1 (by decide) (fun c1 => ?_) (fun c1 => ?_)
  · exact bd_vret C hret rfl _ _ rfl rfl dX7_setFrames_24 (Nat.le_refl _) (Nat.le_refl _)
  · refine bd_iload_n C 1 dX7_setFrames_4 rfl rfl ?_
    refine bd_bipush C (v := 31) dX7_setFrames_5 (by decide) ?_
    refine bd_icmp_ge C 24 dX7_setFrames_7 (by decide) (fun c2 => ?_) (fun c2 => ?_)
    · exact bd_vret C hret rfl _ _ rfl rfl dX7_setFrames_24 (Nat.le_refl _) (Nat.le_refl _)
    · refine bd_aload_n C 0 dX7_setFrames_10 rfl rfl ?_
      refine bd_gR C fi700 fv700 wd_129 dX7_setFrames_11 ol0 (fun r3 gr3 hr3 => ?_)
      refine bd_iload_n C 1 dX7_setFrames_14 rfl rfl ?_
      refine bd_iload_n C 2 dX7_setFrames_15 rfl rfl ?_
      refine bd_iast C dX7_setFrames_16 hr3 (fun w4 => ?_)
      refine bd_aload_n C 0 dX7_setFrames_17 rfl rfl ?_
      refine bd_gR C fi701 fv701 wd_130 dX7_setFrames_18 ol0 (fun r5 gr5 hr5 => ?_)
      refine bd_iload_n C 1 dX7_setFrames_21 rfl rfl ?_
      refine bd_iload_n C 3 dX7_setFrames_22 rfl rfl ?_
      refine bd_iast C dX7_setFrames_23 hr5 (fun w6 => ?_)
      exact bd_vret C hret rfl _ _ rfl rfl dX7_setFrames_24 (Nat.le_refl _) (Nat.le_refl _)
abbrev rmX7_label : Room := { frames := 10, cells := 0, slots := 0, locals := 300 }
abbrev qX7_label (G : Gy) (F : Fr) (g : Bd) (w : Wd) : Int64 → State → Prop := fun r => QM G F g 0 0 ((fun (r : Int64) => some (.long r)) r) ((fun _ => w) r)
set_option maxRecDepth 20000 in
set_option maxHeartbeats 4000000 in
theorem mX7_label {l : Launch} (hf9 : l.stackTraces = false) {G : Gy} {F : Fr} (N : Nat) {w : Wd} {l0 : Nat} {l1 : Int32} {r : Int64} (ol0 : okF F l0 7) (e9 : fX7_label F N w l0 l1 = some r) : Met l yX7_label [.code yX7_label cX7_label 2 (some .long)] rmX7_label (PcB G F w [.ref l0, .int l1]) (QB G F ((fun (r : Int64) => some (.long r)) r) ((fun _ => w) r)) 0 0 (AF F) := by
  refine bd_met (vs := fun (r : Int64) => some (.long r)) (wf := fun _ => w) hf9 (by decide) (Nat.le_of_ble_eq_true rfl) e9 (fun g C hret hini => ?_)
  clear e9 r
  unfold fX7_label
  refine bd_sub (lv' := [(0, .ref l0), (1, .int l1)]) ?_ [0, 1] rfl
  refine bd_iload_n C 1 dX7_label_0 rfl rfl ?_
  refine bd_if_lt C 19 dX7_label_1 (by decide) (fun c1 => ?_) (fun c1 => ?_)
  · refine bd_lconst C (v := 0) dX7_label_19 (by decide) ?_
    exact bd_lret C hret rfl _ _ rfl rfl dX7_label_20 (Nat.le_refl _) (Nat.le_refl _)
  · refine bd_iload_n C 1 dX7_label_4 rfl rfl ?_
    refine bd_bipush C (v := 31) dX7_label_5 (by decide) ?_
    refine bd_icmp_ge C 19 dX7_label_7 (by decide) (fun c2 => ?_) (fun c2 => ?_)
    · refine bd_lconst C (v := 0) dX7_label_19 (by decide) ?_
      exact bd_lret C hret rfl _ _ rfl rfl dX7_label_20 (Nat.le_refl _) (Nat.le_refl _)
    · refine bd_aload_n C 0 dX7_label_10 rfl rfl ?_
      refine bd_gR C fi702 fv702 wd_131 dX7_label_11 ol0 (fun r3 gr3 hr3 => ?_)
      refine bd_iload_n C 1 dX7_label_14 rfl rfl ?_
      refine bd_lald C dX7_label_15 hr3 (fun x4 => ?_)
      refine bd_goto C 20 dX7_label_16 (by decide) ?_
      exact bd_lret C hret rfl _ _ rfl rfl dX7_label_20 (Nat.le_refl _) (Nat.le_refl _)
abbrev rmX7_setLabel : Room := { frames := 10, cells := 0, slots := 0, locals := 300 }
abbrev qX7_setLabel (G : Gy) (F : Fr) (g : Bd) : Wd → State → Prop := fun r => QM G F g 0 0 ((fun _ => none) r) ((fun (r : Wd) => r) r)
set_option maxRecDepth 20000 in
set_option maxHeartbeats 4000000 in
theorem mX7_setLabel {l : Launch} (hf9 : l.stackTraces = false) {G : Gy} {F : Fr} (N : Nat) {w : Wd} {l0 : Nat} {l1 : Int32} {l2 : Int64} {r : Wd} (ol0 : okF F l0 7) (e9 : fX7_setLabel F N w l0 l1 l2 = some r) : Met l yX7_setLabel [.code yX7_setLabel cX7_setLabel 4 none] rmX7_setLabel (PcB G F w [.ref l0, .int l1, .long l2]) (QB G F ((fun _ => none) r) ((fun (r : Wd) => r) r)) 0 0 (AF F) := by
  refine bd_met (vs := fun _ => none) (wf := fun (r : Wd) => r) hf9 (by decide) (Nat.le_of_ble_eq_true rfl) e9 (fun g C hret hini => ?_)
  clear e9 r
  unfold fX7_setLabel
  refine bd_sub (lv' := [(0, .ref l0), (1, .int l1), (2, .long l2)]) ?_ [0, 1, 2] rfl
  refine bd_iload_n C 1 dX7_setLabel_0 rfl rfl ?_
  refine bd_if_lt C 17 dX7_setLabel_1 (by decide) (fun c1 => ?_) (fun c1 => ?_)
  · exact bd_vret C hret rfl _ _ rfl rfl dX7_setLabel_17 (Nat.le_refl _) (Nat.le_refl _)
  · refine bd_iload_n C 1 dX7_setLabel_4 rfl rfl ?_
    refine bd_bipush C (v := 31) dX7_setLabel_5 (by decide) ?_
    refine bd_icmp_ge C 17 dX7_setLabel_7 (by decide) (fun c2 => ?_) (fun c2 => ?_)
    · exact bd_vret C hret rfl _ _ rfl rfl dX7_setLabel_17 (Nat.le_refl _) (Nat.le_refl _)
    · refine bd_aload_n C 0 dX7_setLabel_10 rfl rfl ?_
      refine bd_gR C fi702 fv702 wd_131 dX7_setLabel_11 ol0 (fun r3 gr3 hr3 => ?_)
      refine bd_iload_n C 1 dX7_setLabel_14 rfl rfl ?_
      refine bd_lload_n C 2 dX7_setLabel_15 rfl rfl ?_
      refine bd_last C dX7_setLabel_16 hr3 (fun w4 => ?_)
      exact bd_vret C hret rfl _ _ rfl rfl dX7_setLabel_17 (Nat.le_refl _) (Nat.le_refl _)
abbrev rmX7_shift : Room := { frames := 11, cells := 0, slots := 0, locals := 323 }
abbrev qX7_shift (G : Gy) (F : Fr) (g : Bd) : Wd → State → Prop := fun r => QM G F g 0 0 ((fun _ => none) r) ((fun (r : Wd) => r) r)
set_option maxRecDepth 20000 in
set_option maxHeartbeats 4000000 in
theorem mX7_shift {l : Launch} (hf9 : l.stackTraces = false) {G : Gy} {F : Fr} (N : Nat) {w : Wd} {l0 : Nat} {l1 : Int32} {l2 : Int32} {r : Wd} (ol0 : okF F l0 7) (e9 : fX7_shift F N w l0 l1 l2 = some r) : Met l yX7_shift [.code yX7_shift cX7_shift 3 none] rmX7_shift (PcB G F w [.ref l0, .int l1, .int l2]) (QB G F ((fun _ => none) r) ((fun (r : Wd) => r) r)) 0 0 (AF F) := by
  refine bd_met (vs := fun _ => none) (wf := fun (r : Wd) => r) hf9 (by decide) (Nat.le_of_ble_eq_true rfl) e9 (fun g C hret hini => ?_)
  clear e9 r
  unfold fX7_shift
  refine bd_sub (lv' := [(0, .ref l0), (1, .int l1), (2, .int l2)]) ?_ [0, 1, 2] rfl
  refine bd_aload_n C 0 dX7_shift_0 rfl rfl ?_
  refine bd_iload_n C 2 dX7_shift_1 rfl rfl ?_
  refine bd_aload_n C 0 dX7_shift_2 rfl rfl ?_
  refine bd_iload_n C 1 dX7_shift_3 rfl rfl ?_
  refine bd_callV (vs := fun (r : Int32) => some (.int r)) (wf := fun _ => w) (st := [.int l2, .ref l0]) (st1 := fun x1 => Value.int x1 :: [.int l2, .ref l0]) C [.int l1] (fun r9 e9 => mX7_first C.flag N ol0 e9) mwX7_first miX7_first wd_402 ol0 (by decide) rfl rfl rfl (Nat.le_of_ble_eq_true rfl) dX7_shift_4 ⟨rfl, rfl, Nat.le_of_ble_eq_true rfl, Nat.le_of_ble_eq_true rfl, Nat.le_of_ble_eq_true rfl, Nat.le_of_ble_eq_true rfl⟩ (fun _ => rfl) (fun x1 ex1 => ?_)
  refine bd_aload_n C 0 dX7_shift_7 rfl rfl ?_
  refine bd_iload_n C 1 dX7_shift_8 rfl rfl ?_
  refine bd_callV (vs := fun (r : Int32) => some (.int r)) (wf := fun _ => w) (st := [.int x1, .int l2, .ref l0]) (st1 := fun x2 => Value.int x2 :: [.int x1, .int l2, .ref l0]) C [.int l1] (fun r9 e9 => mX7_end C.flag N ol0 e9) mwX7_end miX7_end wd_406 ol0 (by decide) rfl rfl rfl (Nat.le_of_ble_eq_true rfl) dX7_shift_9 ⟨rfl, rfl, Nat.le_of_ble_eq_true rfl, Nat.le_of_ble_eq_true rfl, Nat.le_of_ble_eq_true rfl, Nat.le_of_ble_eq_true rfl⟩ (fun _ => rfl) (fun x2 ex2 => ?_)
  refine bd_callV (vs := fun _ => none) (wf := fun (r : Wd) => r) (st := []) (st1 := fun p3 => []) C [.int l2, .int x1, .int x2] (fun r9 e9 => mX7_setFrames C.flag N ol0 e9) mwX7_setFrames miX7_setFrames wd_765 ol0 (by decide) rfl rfl rfl (Nat.le_of_ble_eq_true rfl) dX7_shift_12 ⟨rfl, rfl, Nat.le_of_ble_eq_true rfl, Nat.le_of_ble_eq_true rfl, Nat.le_of_ble_eq_true rfl, Nat.le_of_ble_eq_true rfl⟩ (fun _ => rfl) (fun p3 ep3 => ?_)
  refine bd_aload_n C 0 dX7_shift_15 rfl rfl ?_
  refine bd_iload_n C 2 dX7_shift_16 rfl rfl ?_
  refine bd_aload_n C 0 dX7_shift_17 rfl rfl ?_
  refine bd_iload_n C 1 dX7_shift_18 rfl rfl ?_
  refine bd_callV (vs := fun (r : Int64) => some (.long r)) (wf := fun _ => p3) (st := [.int l2, .ref l0]) (st1 := fun x4 => Value.long x4 :: [.int l2, .ref l0]) C [.int l1] (fun r9 e9 => mX7_label C.flag N ol0 e9) mwX7_label miX7_label wd_671 ol0 (by decide) rfl rfl rfl (Nat.le_of_ble_eq_true rfl) dX7_shift_19 ⟨rfl, rfl, Nat.le_of_ble_eq_true rfl, Nat.le_of_ble_eq_true rfl, Nat.le_of_ble_eq_true rfl, Nat.le_of_ble_eq_true rfl⟩ (fun _ => rfl) (fun x4 ex4 => ?_)
  refine bd_callV (vs := fun _ => none) (wf := fun (r : Wd) => r) (st := []) (st1 := fun p5 => []) C [.int l2, .long x4] (fun r9 e9 => mX7_setLabel C.flag N ol0 e9) mwX7_setLabel miX7_setLabel wd_769 ol0 (by decide) rfl rfl rfl (Nat.le_of_ble_eq_true rfl) dX7_shift_22 ⟨rfl, rfl, Nat.le_of_ble_eq_true rfl, Nat.le_of_ble_eq_true rfl, Nat.le_of_ble_eq_true rfl, Nat.le_of_ble_eq_true rfl⟩ (fun _ => rfl) (fun p5 ep5 => ?_)
  exact bd_vret C hret rfl _ _ rfl rfl dX7_shift_25 (Nat.le_refl _) (Nat.le_refl _)
abbrev rmX7_insert : Room := { frames := 12, cells := 0, slots := 0, locals := 345 }
abbrev qX7_insert (G : Gy) (F : Fr) (g : Bd) : (Int32 × Wd) → State → Prop := fun r => QM G F g 0 0 ((fun (r : Int32 × Wd) => some (.int r.1)) r) ((fun (r : Int32 × Wd) => r.2) r)
set_option maxRecDepth 20000 in
set_option maxHeartbeats 4000000 in
theorem mX7_insert {l : Launch} (hf9 : l.stackTraces = false) {G : Gy} {F : Fr} (N : Nat) {w : Wd} {l0 : Nat} {l1 : Int32} {l2 : Int32} {l3 : Int64} {r : Int32 × Wd} (ol0 : okF F l0 7) (e9 : fX7_insert F N w l0 l1 l2 l3 = some r) : Met l yX7_insert [.code yX7_insert cX7_insert 6 (some .int)] rmX7_insert (PcB G F w [.ref l0, .int l1, .int l2, .long l3]) (QB G F ((fun (r : Int32 × Wd) => some (.int r.1)) r) ((fun (r : Int32 × Wd) => r.2) r)) 0 0 (AF F) := by
  refine bd_met (vs := fun (r : Int32 × Wd) => some (.int r.1)) (wf := fun (r : Int32 × Wd) => r.2) hf9 (by decide) (Nat.le_of_ble_eq_true rfl) e9 (fun g C hret hini => ?_)
  clear e9 r
  have hb50 : ∀  (w : Wd) (l0 : Nat) (l1 : Int32) (l2 : Int32) (l3 : Int64) (l5 : Int32) (ol0 : okF F l0 7), BD g G F 6 (qX7_insert G F g) 0 0 (fX7_insert_50 F N w l0 l1 l2 l3 l5) w 50 [(0, .ref l0), (1, .int l1), (2, .int l2), (3, .long l3), (5, .int l5)] [] := by
    intro w l0 l1 l2 l3 l5 ol0
    unfold fX7_insert_50
    refine bd_aload_n C 0 dX7_insert_50 rfl rfl ?_
    refine bd_iload C 4 dX7_insert_51 rfl ?_
    refine bd_iload_n C 1 dX7_insert_53 rfl rfl ?_
    refine bd_iload_n C 2 dX7_insert_54 rfl rfl ?_
    refine bd_callV (vs := fun _ => none) (wf := fun (r : Wd) => r) (st := []) (st1 := fun p5 => []) C [.int l5, .int l1, .int l2] (fun r9 e9 => mX7_setFrames C.flag N ol0 e9) mwX7_setFrames miX7_setFrames wd_765 ol0 (by decide) rfl rfl rfl (Nat.le_of_ble_eq_true rfl) dX7_insert_55 ⟨rfl, rfl, Nat.le_of_ble_eq_true rfl, Nat.le_of_ble_eq_true rfl, Nat.le_of_ble_eq_true rfl, Nat.le_of_ble_eq_true rfl⟩ (fun _ => rfl) (fun p5 ep5 => ?_)
    refine bd_aload_n C 0 dX7_insert_58 rfl rfl ?_
    refine bd_iload C 4 dX7_insert_59 rfl ?_
    refine bd_lload_n C 3 dX7_insert_61 rfl rfl ?_
    refine bd_callV (vs := fun _ => none) (wf := fun (r : Wd) => r) (st := []) (st1 := fun p6 => []) C [.int l5, .long l3] (fun r9 e9 => mX7_setLabel C.flag N ol0 e9) mwX7_setLabel miX7_setLabel wd_769 ol0 (by decide) rfl rfl rfl (Nat.le_of_ble_eq_true rfl) dX7_insert_62 ⟨rfl, rfl, Nat.le_of_ble_eq_true rfl, Nat.le_of_ble_eq_true rfl, Nat.le_of_ble_eq_true rfl, Nat.le_of_ble_eq_true rfl⟩ (fun _ => rfl) (fun p6 ep6 => ?_)
    refine bd_aload_n C 0 dX7_insert_65 rfl rfl ?_
    refine bd_dup C dX7_insert_66 rfl ?_
    refine bd_gI C fi703 fv703 wd_136 dX7_insert_67 ol0 ?_
    refine bd_iconst C (v := 1) dX7_insert_70 (by decide) ?_
    refine bd_iadd C dX7_insert_71 ?_
    refine bd_pI C fi703 ftX7 fu703 wd_136 rfl rfl rfl dX7_insert_72 ol0 (fun w7 => ?_)
    refine bd_iload C 4 dX7_insert_75 rfl ?_
    exact bd_iret C hret rfl _ _ rfl rfl dX7_insert_77 (Nat.le_refl _) (Nat.le_refl _)
  have hb17 : ∀ (n : Nat) (w : Wd) (l0 : Nat) (l1 : Int32) (l2 : Int32) (l3 : Int64) (l5 : Int32) (ol0 : okF F l0 7), BD g G F 6 (qX7_insert G F g) 0 0 (fX7_insert_17 F N n w l0 l1 l2 l3 l5) w 17 [(0, .ref l0), (1, .int l1), (2, .int l2), (3, .long l3), (5, .int l5)] [] := by
    intro n
    induction n with
    | zero =>
      intro w l0 l1 l2 l3 l5 ol0
      unfold fX7_insert_17
      exact bd_none
    | succ n ih =>
      intro w l0 l1 l2 l3 l5 ol0
      unfold fX7_insert_17
      refine bd_iload C 4 dX7_insert_17 rfl ?_
      refine bd_if_le C 50 dX7_insert_19 (by decide) (fun c1 => ?_) (fun c1 => ?_)
      · exact bd_sub (hb50 w l0 l1 l2 l3 l5 ol0) [0, 1, 2, 3, 4] rfl
      · refine bd_aload_n C 0 dX7_insert_22 rfl rfl ?_
        refine bd_iload C 4 dX7_insert_23 rfl ?_
        refine bd_iconst C (v := 1) dX7_insert_25 (by decide) ?_
        refine bd_isub C dX7_insert_26 ?_
        refine bd_callV (vs := fun (r : Int32) => some (.int r)) (wf := fun _ => w) (st := []) (st1 := fun x2 => Value.int x2 :: []) C [.int (l5 - 1)] (fun r9 e9 => mX7_first C.flag N ol0 e9) mwX7_first miX7_first wd_402 ol0 (by decide) rfl rfl rfl (Nat.le_of_ble_eq_true rfl) dX7_insert_27 ⟨rfl, rfl, Nat.le_of_ble_eq_true rfl, Nat.le_of_ble_eq_true rfl, Nat.le_of_ble_eq_true rfl, Nat.le_of_ble_eq_true rfl⟩ (fun _ => rfl) (fun x2 ex2 => ?_)
        refine bd_iload_n C 1 dX7_insert_30 rfl rfl ?_
        refine bd_icmp_le C 50 dX7_insert_31 (by decide) (fun c3 => ?_) (fun c3 => ?_)
        · exact bd_sub (hb50 w l0 l1 l2 l3 l5 ol0) [0, 1, 2, 3, 4] rfl
        · refine bd_aload_n C 0 dX7_insert_34 rfl rfl ?_
          refine bd_iload C 4 dX7_insert_35 rfl ?_
          refine bd_iconst C (v := 1) dX7_insert_37 (by decide) ?_
          refine bd_isub C dX7_insert_38 ?_
          refine bd_iload C 4 dX7_insert_39 rfl ?_
          refine bd_callV (vs := fun _ => none) (wf := fun (r : Wd) => r) (st := []) (st1 := fun p4 => []) C [.int (l5 - 1), .int l5] (fun r9 e9 => mX7_shift C.flag N ol0 e9) mwX7_shift miX7_shift wd_761 ol0 (by decide) rfl rfl rfl (Nat.le_of_ble_eq_true rfl) dX7_insert_41 ⟨rfl, rfl, Nat.le_of_ble_eq_true rfl, Nat.le_of_ble_eq_true rfl, Nat.le_of_ble_eq_true rfl, Nat.le_of_ble_eq_true rfl⟩ (fun _ => rfl) (fun p4 ep4 => ?_)
          refine bd_iinc C (v := l5 + (-1)) 4 [(5, .int (l5 + (-1))), (0, .ref l0), (1, .int l1), (2, .int l2), (3, .long l3)] dX7_insert_44 rfl rfl (by decide) rfl ?_
          refine bd_goto C 17 dX7_insert_47 (by decide) ?_
          exact bd_sub (ih p4 l0 l1 l2 l3 (l5 + (-1)) ol0) [1, 2, 3, 4, 0] rfl
  unfold fX7_insert
  refine bd_sub (lv' := [(0, .ref l0), (1, .int l1), (2, .int l2), (3, .long l3)]) ?_ [0, 1, 2, 3] rfl
  refine bd_aload_n C 0 dX7_insert_0 rfl rfl ?_
  refine bd_gI C fi703 fv703 wd_136 dX7_insert_1 ol0 ?_
  refine bd_bipush C (v := 31) dX7_insert_4 (by decide) ?_
  refine bd_icmp_lt C 11 dX7_insert_6 (by decide) (fun c8 => ?_) (fun c8 => ?_)
  · refine bd_aload_n C 0 dX7_insert_11 rfl rfl ?_
    refine bd_gI C fi703 fv703 wd_136 dX7_insert_12 ol0 ?_
    refine bd_bnd (tp := Value.int) (fun v9 ev9 => ?_)
    refine bd_istore C [(5, .int v9), (0, .ref l0), (1, .int l1), (2, .int l2), (3, .long l3)] dX7_insert_15 (by decide) rfl ?_
    exact bd_sub (hb17 N w l0 l1 l2 l3 v9 ol0) [1, 2, 3, 4, 0] rfl
  · refine bd_iconst C (v := (-1)) dX7_insert_9 (by decide) ?_
    exact bd_iret C hret rfl _ _ rfl rfl dX7_insert_10 (Nat.le_refl _) (Nat.le_refl _)
abbrev rmX1_insertSpan : Room := { frames := 14, cells := 0, slots := 0, locals := 400 }
abbrev qX1_insertSpan (G : Gy) (F : Fr) (g : Bd) : (Int32 × Wd) → State → Prop := fun r => QM G F g 0 0 ((fun (r : Int32 × Wd) => some (.int r.1)) r) ((fun (r : Int32 × Wd) => r.2) r)
set_option maxRecDepth 20000 in
set_option maxHeartbeats 4000000 in
theorem mX1_insertSpan {l : Launch} (hf9 : l.stackTraces = false) {G : Gy} {F : Fr} (N : Nat) {w : Wd} {l0 : Nat} {l1 : Int32} {l2 : Int32} {l3 : Int32} {l4 : Int64} {l6 : Nat} {r : Int32 × Wd} (ol0 : okF F l0 1) (ol6 : okF F l6 6) (e9 : fX1_insertSpan F N w l0 l1 l2 l3 l4 l6 = some r) : Met l yX1_insertSpan [.code yX1_insertSpan cX1_insertSpan 8 (some .int)] rmX1_insertSpan (PcB G F w [.ref l0, .int l1, .int l2, .int l3, .long l4, .ref l6]) (QB G F ((fun (r : Int32 × Wd) => some (.int r.1)) r) ((fun (r : Int32 × Wd) => r.2) r)) 0 0 (AF F) := by
  refine bd_met (vs := fun (r : Int32 × Wd) => some (.int r.1)) (wf := fun (r : Int32 × Wd) => r.2) hf9 (by decide) (Nat.le_of_ble_eq_true rfl) e9 (fun g C hret hini => ?_)
  clear e9 r
  unfold fX1_insertSpan
  refine bd_sub (lv' := [(0, .ref l0), (1, .int l1), (2, .int l2), (3, .int l3), (4, .long l4), (6, .ref l6)]) ?_ [0, 1, 2, 3, 4, 5] rfl
  refine bd_aload_n C 0 dX1_insertSpan_0 rfl rfl ?_
  refine bd_iload_n C 1 dX1_insertSpan_1 rfl rfl ?_
  refine bd_iconst C (v := (-1)) dX1_insertSpan_2 (by decide) ?_
  refine bd_iload_n C 2 dX1_insertSpan_3 rfl rfl ?_
  refine bd_iload_n C 3 dX1_insertSpan_4 rfl rfl ?_
  refine bd_aload C 5 dX1_insertSpan_5 rfl ?_
  refine bd_callV (vs := fun (r : Int32 × Wd) => some (.int r.1)) (wf := fun (r : Int32 × Wd) => r.2) (st := []) (st1 := fun p1 => Value.int p1.1 :: []) C [.int l1, .int (-1), .int l2, .int l3, .ref l6] (fun r9 e9 => mX1_tryFrames C.flag N ol0 ol6 e9) mwX1_tryFrames miX1_tryFrames wd_744 ol0 (by decide) rfl rfl rfl (Nat.le_of_ble_eq_true rfl) dX1_insertSpan_7 ⟨rfl, rfl, Nat.le_of_ble_eq_true rfl, Nat.le_of_ble_eq_true rfl, Nat.le_of_ble_eq_true rfl, Nat.le_of_ble_eq_true rfl⟩ (fun _ => rfl) (fun p1 ep1 => ?_)
  refine bd_if_ge C 15 dX1_insertSpan_10 (by decide) (fun c2 => ?_) (fun c2 => ?_)
  · refine bd_aload_n C 0 dX1_insertSpan_15 rfl rfl ?_
    refine bd_iload_n C 1 dX1_insertSpan_16 rfl rfl ?_
    refine bd_callV (vs := fun (r : Nat) => some (.ref r)) (wf := fun _ => p1.2) (st := []) (st1 := fun x3 => Value.ref x3 :: []) C [.int l1] (fun r9 e9 => mX1_present C.flag N ol0 e9) mwX1_present miX1_present wd_752 ol0 (by decide) rfl rfl rfl (Nat.le_of_ble_eq_true rfl) dX1_insertSpan_17 ⟨rfl, rfl, Nat.le_of_ble_eq_true rfl, Nat.le_of_ble_eq_true rfl, Nat.le_of_ble_eq_true rfl, Nat.le_of_ble_eq_true rfl⟩ (fun _ => rfl) (fun x3 ex3 => ?_)
    refine bd_ckF (fun h4 => ?_)
    refine bd_astore C [(7, .ref x3), (0, .ref l0), (1, .int l1), (2, .int l2), (3, .int l3), (4, .long l4), (6, .ref l6)] dX1_insertSpan_20 (by decide) rfl ?_
    refine bd_aload C 0 dX1_insertSpan_22 rfl ?_
    refine bd_gIN C fi703 fv703 wd_133 dX1_insertSpan_24 h4 ?_
    refine bd_bipush C (v := 30) dX1_insertSpan_27 (by decide) ?_
    refine bd_icmp_lt C 40 dX1_insertSpan_29 (by decide) (fun c5 => ?_) (fun c5 => ?_)
    · refine bd_aload C 0 dX1_insertSpan_40 rfl ?_
      refine bd_iload_n C 3 dX1_insertSpan_42 rfl rfl ?_
      refine bd_iload_n C 4 dX1_insertSpan_43 rfl rfl ?_
      refine bd_lload C 5 dX1_insertSpan_44 rfl ?_
      refine bd_callV (vs := fun (r : Int32 × Wd) => some (.int r.1)) (wf := fun (r : Int32 × Wd) => r.2) (st := []) (st1 := fun p6 => Value.int p6.1 :: []) C [.int l2, .int l3, .long l4] (fun r9 e9 => mX7_insert C.flag N h4 e9) mwX7_insert miX7_insert wd_757 h4 (by decide) rfl rfl rfl (Nat.le_of_ble_eq_true rfl) dX1_insertSpan_46 ⟨rfl, rfl, Nat.le_of_ble_eq_true rfl, Nat.le_of_ble_eq_true rfl, Nat.le_of_ble_eq_true rfl, Nat.le_of_ble_eq_true rfl⟩ (fun _ => rfl) (fun p6 ep6 => ?_)
      exact bd_iret C hret rfl _ _ rfl rfl dX1_insertSpan_49 (Nat.le_refl _) (Nat.le_refl _)
    · refine bd_aload C 6 dX1_insertSpan_32 rfl ?_
      refine bd_iconst C (v := 5) dX1_insertSpan_34 (by decide) ?_
      refine bd_iconst C (v := 0) dX1_insertSpan_35 (by decide) ?_
      refine bd_callV (vs := fun (r : Int32 × Wd) => some (.int r.1)) (wf := fun (r : Int32 × Wd) => r.2) (st := []) (st1 := fun p7 => Value.int p7.1 :: []) C [.int 5, .int 0] (fun r9 e9 => mX6_refuse C.flag N ol6 e9) mwX6_refuse miX6_refuse wd_748 ol6 (by decide) rfl rfl rfl (Nat.le_of_ble_eq_true rfl) dX1_insertSpan_36 ⟨rfl, rfl, Nat.le_of_ble_eq_true rfl, Nat.le_of_ble_eq_true rfl, Nat.le_of_ble_eq_true rfl, Nat.le_of_ble_eq_true rfl⟩ (fun _ => rfl) (fun p7 ep7 => ?_)
      exact bd_iret C hret rfl _ _ rfl rfl dX1_insertSpan_39 (Nat.le_refl _) (Nat.le_refl _)
  · refine bd_iconst C (v := (-1)) dX1_insertSpan_13 (by decide) ?_
    exact bd_iret C hret rfl _ _ rfl rfl dX1_insertSpan_14 (Nat.le_refl _) (Nat.le_refl _)
