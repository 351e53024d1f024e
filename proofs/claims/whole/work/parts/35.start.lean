/-- the law's own value, of the script, for the layout of F from h0 on -/
def fLaw (F : Fr) (N L : Nat) (xs : Nat → Int32) (w : Wd) (h0 : Nat) : Option Unit :=
  (ckH h0 h0 689 1).bind fun _ =>
  (ckN F h0 8).bind fun _ =>
  bnd (zO w h0) fun w372 =>
  (ckH h0 (h0 + 1) 689 660).bind fun _ =>
  (fX8_init F N w372 h0 (h0 + 1)).bind fun w374 =>
  (ckH h0 (h0 + 661) 689 1).bind fun _ =>
  (ckN F (h0 + 661) 9).bind fun _ =>
  bnd (zO w374 (h0 + 661)) fun w375 =>
  (ckH h0 (h0 + 662) 689 25).bind fun _ =>
  (fX9_init F N w375 (h0 + 661) (h0 + 662)).bind fun w377 =>
  (ckH h0 (h0 + 687) 689 1).bind fun _ =>
  (ckL F (h0 + 687) 12 1).bind fun _ =>
  bnd (zO w377 (h0 + 687)) fun w378 =>
  (ckH h0 (h0 + 688) 689 1).bind fun _ =>
  (ckL F (h0 + 688) 16 1).bind fun _ =>
  bnd (zO w378 (h0 + 688)) fun w380 =>
  fL_law_28 (Fnc F (h0 + 689)) N L xs N 0 w380 h0 (h0 + 661) (h0 + 687) (h0 + 688) 0
set_option maxRecDepth 20000 in
set_option maxHeartbeats 4000000 in
theorem mL_start {g : Bd} {G : Gy} {F : Fr} {Q : Unit → State → Prop} {b9 L h0 : Nat} {xs : Nat → Int32} (N : Nat) (w : Wd) (C : Cx g G (Fto F h0) cL_law RL 9 room_1) (hcm : F.2.2.2.2 = true)
    (hloop : ∀ (w : Wd) (l1 l2 l3 l4 : Nat), okF (Fto F (h0 + 689)) l1 8 → okF (Fto F (h0 + 689)) l2 9 → okF (Fto F (h0 + 689)) l3 12 → okF (Fto F (h0 + 689)) l4 16 → BD g G (Fnc F (h0 + 689)) 9 Q 689 6140368 (fL_law_28 (Fnc F (h0 + 689)) N L xs N 0 w l1 l2 l3 l4 0) w 28 [(0, .ref b9), (1, .ref l1), (2, .ref l2), (3, .ref l3), (4, .ref l4), (5, .int 0)] []) :
    BD g G (Fto F h0) 9 Q 0 0 (fLaw F N L xs w h0) w 0 [(0, .ref b9)] [] := by
  refine bd_wide (k' := h0 - h0) (n' := 8912 * (h0 - h0)) (by omega) (by omega) ?_
  unfold fLaw
  refine bd_newO (mc := 689) (SB := 8912) C hcm (kk := 8) rfl (by decide) inX8 ftX8 fzX8 wd_108 wd_109 wd_85 dL_law_0 ⟨Nat.le_of_ble_eq_true rfl, Nat.le_of_ble_eq_true rfl, Nat.le_of_ble_eq_true rfl⟩ (fun c9 o373 up9 w372 => ?_)
  have C := C.to (h0 + 1)
  refine bd_dup C dL_law_3 rfl ?_
  refine bd_callI (mc := 689) (SB := 8912) (mc' := 660) (ms' := 634260) C (fun r9 e9 => mX8_init C.flag N hcm o373 e9) mwX8_init miX8_init rfl wd_110 rfl (Nat.le_of_ble_eq_true rfl) dL_law_4 ⟨Nat.le_of_ble_eq_true rfl, Nat.le_of_ble_eq_true rfl, Nat.le_of_ble_eq_true rfl⟩ ⟨rfl, rfl, Nat.le_of_ble_eq_true rfl, Nat.le_of_ble_eq_true rfl⟩ (fun c9 up9 w374 => ?_)
  have C := C.to (h0 + 661)
  have o373 := up9 _ _ o373
  refine bd_astore_n C [(1, .ref h0), (0, .ref b9)] dL_law_7 rfl (by decide) rfl ?_
  refine bd_newO (mc := 689) (SB := 8912) C hcm (kk := 9) rfl (by decide) inX9 ftX9 fzX9 wd_1229 wd_1230 wd_94 dL_law_8 ⟨Nat.le_of_ble_eq_true rfl, Nat.le_of_ble_eq_true rfl, Nat.le_of_ble_eq_true rfl⟩ (fun c9 o376 up9 w375 => ?_)
  have C := C.to (h0 + 662)
  have o373 := up9 _ _ o373
  refine bd_dup C dL_law_11 rfl ?_
  refine bd_callI (mc := 689) (SB := 8912) (mc' := 25) (ms' := 222800) C (fun r9 e9 => mX9_init C.flag N hcm o376 e9) mwX9_init miX9_init rfl wd_1231 rfl (Nat.le_of_ble_eq_true rfl) dL_law_12 ⟨Nat.le_of_ble_eq_true rfl, Nat.le_of_ble_eq_true rfl, Nat.le_of_ble_eq_true rfl⟩ ⟨rfl, rfl, Nat.le_of_ble_eq_true rfl, Nat.le_of_ble_eq_true rfl⟩ (fun c9 up9 w377 => ?_)
  have C := C.to (h0 + 687)
  have o373 := up9 _ _ o373
  have o376 := up9 _ _ o376
  refine bd_astore_n C [(2, .ref (h0 + 661)), (1, .ref h0), (0, .ref b9)] dL_law_15 rfl (by decide) rfl ?_
  refine bd_iconst C (v := 1) dL_law_16 (by decide) ?_
  refine bd_newA (mc := 689) (SB := 8912) C hcm (kk := 12) 2 (atype := .long) (ty := .long) (N := 1) rfl (by decide) rfl wd_148 (by decide) (by decide) (Nat.le_of_ble_eq_true rfl) (fun h => h) rfl dL_law_17 ⟨Nat.le_of_ble_eq_true rfl, Nat.le_of_ble_eq_true rfl, Nat.le_of_ble_eq_true rfl⟩ (fun c9 o379 up9 w378 => ?_)
  have C := C.to (h0 + 688)
  have o373 := up9 _ _ o373
  have o376 := up9 _ _ o376
  refine bd_astore_n C [(3, .ref (h0 + 687)), (2, .ref (h0 + 661)), (1, .ref h0), (0, .ref b9)] dL_law_19 rfl (by decide) rfl ?_
  refine bd_iconst C (v := 1) dL_law_20 (by decide) ?_
  refine bd_newA (mc := 689) (SB := 8912) C hcm (kk := 16) 6 (atype := .double) (ty := .double) (N := 1) rfl (by decide) rfl wd_1775 (by decide) (by decide) (Nat.le_of_ble_eq_true rfl) (fun h => h) rfl dL_law_21 ⟨Nat.le_of_ble_eq_true rfl, Nat.le_of_ble_eq_true rfl, Nat.le_of_ble_eq_true rfl⟩ (fun c9 o381 up9 w380 => ?_)
  have C := C.to (h0 + 689)
  have o373 := up9 _ _ o373
  have o376 := up9 _ _ o376
  have o379 := up9 _ _ o379
  refine bd_astore C [(4, .ref (h0 + 688)), (3, .ref (h0 + 687)), (2, .ref (h0 + 661)), (1, .ref h0), (0, .ref b9)] dL_law_23 (by decide) rfl ?_
  refine bd_iconst C (v := 0) dL_law_25 (by decide) ?_
  refine bd_istore C [(5, .int 0), (4, .ref (h0 + 688)), (3, .ref (h0 + 687)), (2, .ref (h0 + 661)), (1, .ref h0), (0, .ref b9)] dL_law_26 (by decide) rfl ?_
  exact bd_nc (bd_wide (by omega) (by omega) (bd_sub (hloop _ _ _ _ _ o373 o376 o379 o381) [5, 4, 3, 2, 1, 0] rfl))
