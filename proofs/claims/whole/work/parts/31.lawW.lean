abbrev rmL_addTier : Room := { frames := 14, cells := 1, slots := 6, locals := 391 }
abbrev qL_addTier (G : Gy) (F : Fr) (g : Bd) : (Int32 × Wd) → State → Prop := fun r => QM G F g 1 6 ((fun (r : Int32 × Wd) => some (.int r.1)) r) ((fun (r : Int32 × Wd) => r.2) r)
set_option maxRecDepth 20000 in
set_option maxHeartbeats 4000000 in
theorem mL_addTier {l : Launch} (hf9 : l.stackTraces = false) {G : Gy} {F : Fr} (N : Nat) {w : Wd} {l0 : Nat} {l1 : Int32} {l2 : Int32} {l3 : Int32} {l4 : Nat} {r : Int32 × Wd} (ol0 : okF F l0 8) (ol4 : okF F l4 12) (hcm : F.2.2.2.2 = false) (e9 : fL_addTier F N w l0 l1 l2 l3 l4 = some r) : Met l yL_addTier [.codeWith yL_addTier cL_addTier 6 (some .int) [(0, 12, 15, 13), (0, 12, 19, 15), (0, 12, 23, 17)]] rmL_addTier (PcL G F w [.ref l0, .int l1, .int l2, .int l3, .ref l4]) (QB G F ((fun (r : Int32 × Wd) => some (.int r.1)) r) ((fun (r : Int32 × Wd) => r.2) r)) 1 6 (AF F) := by
  refine bd_metH (vs := fun (r : Int32 × Wd) => some (.int r.1)) (wf := fun (r : Int32 × Wd) => r.2) hf9 (by decide) (Nat.le_of_ble_eq_true rfl) e9 (fun g C hret hxt hNC => ?_)
  clear e9 r
  unfold fL_addTier
  refine bd_sub (lv' := [(0, .ref l0), (1, .int l1), (2, .int l2), (3, .int l3), (4, .ref l4)]) ?_ [0, 1, 2, 3, 4] rfl
  refine bd_aload C 4 dL_addTier_0 rfl ?_
  refine bd_iconst C (v := 0) dL_addTier_2 (by decide) ?_
  refine bd_aload_n C 0 dL_addTier_3 rfl rfl ?_
  refine bd_iload_n C 1 dL_addTier_4 rfl rfl ?_
  refine bd_iload_n C 2 dL_addTier_5 rfl rfl ?_
  refine bd_iload_n C 3 dL_addTier_6 rfl rfl ?_
  refine bd_callX (vx := vxint) (mk := Value.int) (kk := 8) (st := [.int 0, .ref l4]) C (fun _ => rfl) (fun _ => rfl) [.int l1, .int l2, .int l3] (fun r9 e9 => mX8_addTier C.flag N ol0 hcm e9) mwX8_addTier miX8_addTier wd_560 ol0 (by decide) rfl rfl rfl (Nat.le_of_ble_eq_true rfl) dL_addTier_7 ⟨rfl, rfl, Nat.le_of_ble_eq_true rfl, Nat.le_of_ble_eq_true rfl, Nat.le_of_ble_eq_true rfl, Nat.le_of_ble_eq_true rfl⟩ (fun p1 => ?_) (fun e2 => ?_)
  · refine bd_i2l C dL_addTier_10 ?_
    refine bd_last C dL_addTier_11 ol4 (fun w3 => ?_)
    refine bd_goto C 27 dL_addTier_12 (by decide) ?_
    refine bd_iconst C (v := 0) dL_addTier_27 (by decide) ?_
    exact bd_iret C hret rfl _ _ rfl rfl dL_addTier_28 (Nat.le_of_ble_eq_true rfl) (Nat.le_of_ble_eq_true rfl)
  · refine bdt_ite (fun c6 => ?_) (fun c6 => ?_)
    · refine bdt_catch C hNC hxt (e := 0) (by decide) (by rw [c6]) [] ⟨0, 12, 15, 13⟩ [⟨0, 12, 19, 15⟩, ⟨0, 12, 23, 17⟩] rfl (fun _ h => absurd h List.not_mem_nil) (by decide) (by decide) wd_478 wd_566 (fun q9 => ?_)
      refine bd_astore C [(5, .ref q9), (0, .ref l0), (1, .int l1), (2, .int l2), (3, .int l3), (4, .ref l4)] dL_addTier_15 (by decide) rfl ?_
      refine bd_iconst C (v := 1) dL_addTier_17 (by decide) ?_
      exact bd_iret C hret rfl _ _ rfl rfl dL_addTier_18 (Nat.le_of_ble_eq_true rfl) (Nat.le_of_ble_eq_true rfl)
    · refine bdt_ite (fun c5 => ?_) (fun c5 => ?_)
      · refine bdt_catch C hNC hxt (e := 1) (by decide) (by rw [c5]) [⟨0, 12, 15, 13⟩] ⟨0, 12, 19, 15⟩ [⟨0, 12, 23, 17⟩] rfl (List.forall_mem_cons.mpr ⟨⟨by decide, 0, by decide, by decide, wd_478⟩, (fun _ h => absurd h List.not_mem_nil)⟩) (by decide) (by decide) wd_479 wd_591 (fun q9 => ?_)
        refine bd_astore C [(5, .ref q9), (0, .ref l0), (1, .int l1), (2, .int l2), (3, .int l3), (4, .ref l4)] dL_addTier_19 (by decide) rfl ?_
        refine bd_iconst C (v := 2) dL_addTier_21 (by decide) ?_
        exact bd_iret C hret rfl _ _ rfl rfl dL_addTier_22 (Nat.le_of_ble_eq_true rfl) (Nat.le_of_ble_eq_true rfl)
      · refine bdt_ite (fun c4 => ?_) (fun c4 => ?_)
        · refine bdt_catch C hNC hxt (e := 2) (by decide) (by rw [c4]) [⟨0, 12, 15, 13⟩, ⟨0, 12, 19, 15⟩] ⟨0, 12, 23, 17⟩ [] rfl (List.forall_mem_cons.mpr ⟨⟨by decide, 0, by decide, by decide, wd_478⟩, (List.forall_mem_cons.mpr ⟨⟨by decide, 1, by decide, by decide, wd_479⟩, (fun _ h => absurd h List.not_mem_nil)⟩)⟩) (by decide) (by decide) wd_559 wd_606 (fun q9 => ?_)
          refine bd_astore C [(5, .ref q9), (0, .ref l0), (1, .int l1), (2, .int l2), (3, .int l3), (4, .ref l4)] dL_addTier_23 (by decide) rfl ?_
          refine bd_iconst C (v := 3) dL_addTier_25 (by decide) ?_
          exact bd_iret C hret rfl _ _ rfl rfl dL_addTier_26 (Nat.le_of_ble_eq_true rfl) (Nat.le_of_ble_eq_true rfl)
        · exact bdt_none
theorem mwL_addTier : MWH yL_addTier cL_addTier 6 (some .int) [(0, 12, 15, 13), (0, 12, 19, 15), (0, 12, 23, 17)] 5 := ⟨wd_477, wd_84, by decide, by decide +kernel, wd_476⟩
abbrev rmL_select : Room := { frames := 14, cells := 1, slots := 6, locals := 390 }
abbrev qL_select (G : Gy) (F : Fr) (g : Bd) : (Int32 × Wd) → State → Prop := fun r => QM G F g 1 6 ((fun (r : Int32 × Wd) => some (.int r.1)) r) ((fun (r : Int32 × Wd) => r.2) r)
set_option maxRecDepth 20000 in
set_option maxHeartbeats 4000000 in
theorem mL_select {l : Launch} (hf9 : l.stackTraces = false) {G : Gy} {F : Fr} (N : Nat) {w : Wd} {l0 : Nat} {l1 : Int32} {l2 : Nat} {r : Int32 × Wd} (ol0 : okF F l0 8) (ol2 : okF F l2 12) (hcm : F.2.2.2.2 = false) (e9 : fL_select F N w l0 l1 l2 = some r) : Met l yL_select [.codeWith yL_select cL_select 4 (some .int) [(0, 9, 12, 13)]] rmL_select (PcL G F w [.ref l0, .int l1, .ref l2]) (QB G F ((fun (r : Int32 × Wd) => some (.int r.1)) r) ((fun (r : Int32 × Wd) => r.2) r)) 1 6 (AF F) := by
  refine bd_metH (vs := fun (r : Int32 × Wd) => some (.int r.1)) (wf := fun (r : Int32 × Wd) => r.2) hf9 (by decide) (Nat.le_of_ble_eq_true rfl) e9 (fun g C hret hxt hNC => ?_)
  clear e9 r
  unfold fL_select
  refine bd_sub (lv' := [(0, .ref l0), (1, .int l1), (2, .ref l2)]) ?_ [0, 1, 2] rfl
  refine bd_aload_n C 2 dL_select_0 rfl rfl ?_
  refine bd_iconst C (v := 0) dL_select_1 (by decide) ?_
  refine bd_aload_n C 0 dL_select_2 rfl rfl ?_
  refine bd_iload_n C 1 dL_select_3 rfl rfl ?_
  refine bd_callX (vx := vxint) (mk := Value.int) (kk := 8) (st := [.int 0, .ref l2]) C (fun _ => rfl) (fun _ => rfl) [.int l1] (fun r9 e9 => mX8_select C.flag N ol0 hcm e9) mwX8_select miX8_select wd_634 ol0 (by decide) rfl rfl rfl (Nat.le_of_ble_eq_true rfl) dL_select_4 ⟨rfl, rfl, Nat.le_of_ble_eq_true rfl, Nat.le_of_ble_eq_true rfl, Nat.le_of_ble_eq_true rfl, Nat.le_of_ble_eq_true rfl⟩ (fun p1 => ?_) (fun e2 => ?_)
  · refine bd_i2l C dL_select_7 ?_
    refine bd_last C dL_select_8 ol2 (fun w3 => ?_)
    refine bd_goto C 15 dL_select_9 (by decide) ?_
    refine bd_iconst C (v := 0) dL_select_15 (by decide) ?_
    exact bd_iret C hret rfl _ _ rfl rfl dL_select_16 (Nat.le_of_ble_eq_true rfl) (Nat.le_of_ble_eq_true rfl)
  · refine bdt_ite (fun c4 => ?_) (fun c4 => ?_)
    · refine bdt_catch C hNC hxt (e := 0) (by decide) (by rw [c4]) [] ⟨0, 9, 12, 13⟩ [] rfl (fun _ h => absurd h List.not_mem_nil) (by decide) (by decide) wd_478 wd_566 (fun q9 => ?_)
      refine bd_astore_n C [(3, .ref q9), (0, .ref l0), (1, .int l1), (2, .ref l2)] dL_select_12 rfl (by decide) rfl ?_
      refine bd_iconst C (v := 1) dL_select_13 (by decide) ?_
      exact bd_iret C hret rfl _ _ rfl rfl dL_select_14 (Nat.le_of_ble_eq_true rfl) (Nat.le_of_ble_eq_true rfl)
    · exact bdt_none
theorem mwL_select : MWH yL_select cL_select 4 (some .int) [(0, 9, 12, 13)] 3 := ⟨wd_633, wd_84, by decide, by decide +kernel, wd_632⟩
abbrev rmL_setSetting : Room := { frames := 14, cells := 1, slots := 6, locals := 391 }
abbrev qL_setSetting (G : Gy) (F : Fr) (g : Bd) : (Int32 × Wd) → State → Prop := fun r => QM G F g 1 6 ((fun (r : Int32 × Wd) => some (.int r.1)) r) ((fun (r : Int32 × Wd) => r.2) r)
set_option maxRecDepth 20000 in
set_option maxHeartbeats 4000000 in
theorem mL_setSetting {l : Launch} (hf9 : l.stackTraces = false) {G : Gy} {F : Fr} (N : Nat) {w : Wd} {l0 : Nat} {l1 : Int32} {l2 : Int32} {l3 : Nat} {r : Int32 × Wd} (ol0 : okF F l0 8) (ol3 : okF F l3 12) (hcm : F.2.2.2.2 = false) (e9 : fL_setSetting F N w l0 l1 l2 l3 = some r) : Met l yL_setSetting [.codeWith yL_setSetting cL_setSetting 5 (some .int) [(0, 10, 13, 15), (0, 10, 17, 13)]] rmL_setSetting (PcL G F w [.ref l0, .int l1, .int l2, .ref l3]) (QB G F ((fun (r : Int32 × Wd) => some (.int r.1)) r) ((fun (r : Int32 × Wd) => r.2) r)) 1 6 (AF F) := by
  refine bd_metH (vs := fun (r : Int32 × Wd) => some (.int r.1)) (wf := fun (r : Int32 × Wd) => r.2) hf9 (by decide) (Nat.le_of_ble_eq_true rfl) e9 (fun g C hret hxt hNC => ?_)
  clear e9 r
  unfold fL_setSetting
  refine bd_sub (lv' := [(0, .ref l0), (1, .int l1), (2, .int l2), (3, .ref l3)]) ?_ [0, 1, 2, 3] rfl
  refine bd_aload_n C 3 dL_setSetting_0 rfl rfl ?_
  refine bd_iconst C (v := 0) dL_setSetting_1 (by decide) ?_
  refine bd_aload_n C 0 dL_setSetting_2 rfl rfl ?_
  refine bd_iload_n C 1 dL_setSetting_3 rfl rfl ?_
  refine bd_iload_n C 2 dL_setSetting_4 rfl rfl ?_
  refine bd_callX (vx := vxint) (mk := Value.int) (kk := 8) (st := [.int 0, .ref l3]) C (fun _ => rfl) (fun _ => rfl) [.int l1, .int l2] (fun r9 e9 => mX8_setSetting C.flag N ol0 hcm e9) mwX8_setSetting miX8_setSetting wd_641 ol0 (by decide) rfl rfl rfl (Nat.le_of_ble_eq_true rfl) dL_setSetting_5 ⟨rfl, rfl, Nat.le_of_ble_eq_true rfl, Nat.le_of_ble_eq_true rfl, Nat.le_of_ble_eq_true rfl, Nat.le_of_ble_eq_true rfl⟩ (fun p1 => ?_) (fun e2 => ?_)
  · refine bd_i2l C dL_setSetting_8 ?_
    refine bd_last C dL_setSetting_9 ol3 (fun w3 => ?_)
    refine bd_goto C 21 dL_setSetting_10 (by decide) ?_
    refine bd_iconst C (v := 0) dL_setSetting_21 (by decide) ?_
    exact bd_iret C hret rfl _ _ rfl rfl dL_setSetting_22 (Nat.le_of_ble_eq_true rfl) (Nat.le_of_ble_eq_true rfl)
  · refine bdt_ite (fun c5 => ?_) (fun c5 => ?_)
    · refine bdt_catch C hNC hxt (e := 1) (by decide) (by rw [c5]) [] ⟨0, 10, 13, 15⟩ [⟨0, 10, 17, 13⟩] rfl (fun _ h => absurd h List.not_mem_nil) (by decide) (by decide) wd_479 wd_591 (fun q9 => ?_)
      refine bd_astore C [(4, .ref q9), (0, .ref l0), (1, .int l1), (2, .int l2), (3, .ref l3)] dL_setSetting_13 (by decide) rfl ?_
      refine bd_iconst C (v := 1) dL_setSetting_15 (by decide) ?_
      exact bd_iret C hret rfl _ _ rfl rfl dL_setSetting_16 (Nat.le_of_ble_eq_true rfl) (Nat.le_of_ble_eq_true rfl)
    · refine bdt_ite (fun c4 => ?_) (fun c4 => ?_)
      · refine bdt_catch C hNC hxt (e := 0) (by decide) (by rw [c4]) [⟨0, 10, 13, 15⟩] ⟨0, 10, 17, 13⟩ [] rfl (List.forall_mem_cons.mpr ⟨⟨by decide, 1, by decide, by decide, wd_479⟩, (fun _ h => absurd h List.not_mem_nil)⟩) (by decide) (by decide) wd_478 wd_566 (fun q9 => ?_)
        refine bd_astore C [(4, .ref q9), (0, .ref l0), (1, .int l1), (2, .int l2), (3, .ref l3)] dL_setSetting_17 (by decide) rfl ?_
        refine bd_iconst C (v := 2) dL_setSetting_19 (by decide) ?_
        exact bd_iret C hret rfl _ _ rfl rfl dL_setSetting_20 (Nat.le_of_ble_eq_true rfl) (Nat.le_of_ble_eq_true rfl)
      · exact bdt_none
theorem mwL_setSetting : MWH yL_setSetting cL_setSetting 5 (some .int) [(0, 10, 13, 15), (0, 10, 17, 13)] 4 := ⟨wd_640, wd_84, by decide, by decide +kernel, wd_639⟩
abbrev rmL_tier : Room := { frames := 14, cells := 1, slots := 6, locals := 387 }
abbrev qL_tier (G : Gy) (F : Fr) (g : Bd) : (Int32 × Wd) → State → Prop := fun r => QM G F g 1 6 ((fun (r : Int32 × Wd) => some (.int r.1)) r) ((fun (r : Int32 × Wd) => r.2) r)
set_option maxRecDepth 20000 in
set_option maxHeartbeats 4000000 in
theorem mL_tier {l : Launch} (hf9 : l.stackTraces = false) {G : Gy} {F : Fr} (N : Nat) {w : Wd} {l0 : Nat} {l1 : Int32} {l2 : Int32} {l3 : Nat} {r : Int32 × Wd} (ol0 : okF F l0 8) (ol3 : okF F l3 12) (hcm : F.2.2.2.2 = false) (e9 : fL_tier F N w l0 l1 l2 l3 = some r) : Met l yL_tier [.codeWith yL_tier cL_tier 5 (some .int) [(0, 10, 13, 15), (0, 10, 17, 13)]] rmL_tier (PcL G F w [.ref l0, .int l1, .int l2, .ref l3]) (QB G F ((fun (r : Int32 × Wd) => some (.int r.1)) r) ((fun (r : Int32 × Wd) => r.2) r)) 1 6 (AF F) := by
  refine bd_metH (vs := fun (r : Int32 × Wd) => some (.int r.1)) (wf := fun (r : Int32 × Wd) => r.2) hf9 (by decide) (Nat.le_of_ble_eq_true rfl) e9 (fun g C hret hxt hNC => ?_)
  clear e9 r
  unfold fL_tier
  refine bd_sub (lv' := [(0, .ref l0), (1, .int l1), (2, .int l2), (3, .ref l3)]) ?_ [0, 1, 2, 3] rfl
  refine bd_aload_n C 3 dL_tier_0 rfl rfl ?_
  refine bd_iconst C (v := 0) dL_tier_1 (by decide) ?_
  refine bd_aload_n C 0 dL_tier_2 rfl rfl ?_
  refine bd_iload_n C 1 dL_tier_3 rfl rfl ?_
  refine bd_iload_n C 2 dL_tier_4 rfl rfl ?_
  refine bd_callX (vx := vxint) (mk := Value.int) (kk := 8) (st := [.int 0, .ref l3]) C (fun _ => rfl) (fun _ => rfl) [.int l1, .int l2] (fun r9 e9 => mX8_tier C.flag N ol0 hcm e9) mwX8_tier miX8_tier wd_648 ol0 (by decide) rfl rfl rfl (Nat.le_of_ble_eq_true rfl) dL_tier_5 ⟨rfl, rfl, Nat.le_of_ble_eq_true rfl, Nat.le_of_ble_eq_true rfl, Nat.le_of_ble_eq_true rfl, Nat.le_of_ble_eq_true rfl⟩ (fun p1 => ?_) (fun e2 => ?_)
  · refine bd_i2l C dL_tier_8 ?_
    refine bd_last C dL_tier_9 ol3 (fun w3 => ?_)
    refine bd_goto C 21 dL_tier_10 (by decide) ?_
    refine bd_iconst C (v := 0) dL_tier_21 (by decide) ?_
    exact bd_iret C hret rfl _ _ rfl rfl dL_tier_22 (Nat.le_of_ble_eq_true rfl) (Nat.le_of_ble_eq_true rfl)
  · refine bdt_ite (fun c5 => ?_) (fun c5 => ?_)
    · refine bdt_catch C hNC hxt (e := 1) (by decide) (by rw [c5]) [] ⟨0, 10, 13, 15⟩ [⟨0, 10, 17, 13⟩] rfl (fun _ h => absurd h List.not_mem_nil) (by decide) (by decide) wd_479 wd_591 (fun q9 => ?_)
      refine bd_astore C [(4, .ref q9), (0, .ref l0), (1, .int l1), (2, .int l2), (3, .ref l3)] dL_tier_13 (by decide) rfl ?_
      refine bd_iconst C (v := 1) dL_tier_15 (by decide) ?_
      exact bd_iret C hret rfl _ _ rfl rfl dL_tier_16 (Nat.le_of_ble_eq_true rfl) (Nat.le_of_ble_eq_true rfl)
    · refine bdt_ite (fun c4 => ?_) (fun c4 => ?_)
      · refine bdt_catch C hNC hxt (e := 0) (by decide) (by rw [c4]) [⟨0, 10, 13, 15⟩] ⟨0, 10, 17, 13⟩ [] rfl (List.forall_mem_cons.mpr ⟨⟨by decide, 1, by decide, by decide, wd_479⟩, (fun _ h => absurd h List.not_mem_nil)⟩) (by decide) (by decide) wd_478 wd_566 (fun q9 => ?_)
        refine bd_astore C [(4, .ref q9), (0, .ref l0), (1, .int l1), (2, .int l2), (3, .ref l3)] dL_tier_17 (by decide) rfl ?_
        refine bd_iconst C (v := 2) dL_tier_19 (by decide) ?_
        exact bd_iret C hret rfl _ _ rfl rfl dL_tier_20 (Nat.le_of_ble_eq_true rfl) (Nat.le_of_ble_eq_true rfl)
      · exact bdt_none
theorem mwL_tier : MWH yL_tier cL_tier 5 (some .int) [(0, 10, 13, 15), (0, 10, 17, 13)] 4 := ⟨wd_647, wd_84, by decide, by decide +kernel, wd_646⟩
abbrev rmL_book : Room := { frames := 13, cells := 1, slots := 6, locals := 367 }
abbrev qL_book (G : Gy) (F : Fr) (g : Bd) : (Int32 × Wd) → State → Prop := fun r => QM G F g 1 6 ((fun (r : Int32 × Wd) => some (.int r.1)) r) ((fun (r : Int32 × Wd) => r.2) r)
set_option maxRecDepth 20000 in
set_option maxHeartbeats 4000000 in
theorem mL_book {l : Launch} (hf9 : l.stackTraces = false) {G : Gy} {F : Fr} (N : Nat) {w : Wd} {l0 : Nat} {l1 : Int32} {l2 : Nat} {r : Int32 × Wd} (ol0 : okF F l0 8) (ol2 : okF F l2 12) (hcm : F.2.2.2.2 = false) (e9 : fL_book F N w l0 l1 l2 = some r) : Met l yL_book [.codeWith yL_book cL_book 4 (some .int) [(0, 9, 12, 13)]] rmL_book (PcL G F w [.ref l0, .int l1, .ref l2]) (QB G F ((fun (r : Int32 × Wd) => some (.int r.1)) r) ((fun (r : Int32 × Wd) => r.2) r)) 1 6 (AF F) := by
  refine bd_metH (vs := fun (r : Int32 × Wd) => some (.int r.1)) (wf := fun (r : Int32 × Wd) => r.2) hf9 (by decide) (Nat.le_of_ble_eq_true rfl) e9 (fun g C hret hxt hNC => ?_)
  clear e9 r
  unfold fL_book
  refine bd_sub (lv' := [(0, .ref l0), (1, .int l1), (2, .ref l2)]) ?_ [0, 1, 2] rfl
  refine bd_aload_n C 2 dL_book_0 rfl rfl ?_
  refine bd_iconst C (v := 0) dL_book_1 (by decide) ?_
  refine bd_aload_n C 0 dL_book_2 rfl rfl ?_
  refine bd_iload_n C 1 dL_book_3 rfl rfl ?_
  refine bd_callX (vx := vxint) (mk := Value.int) (kk := 8) (st := [.int 0, .ref l2]) C (fun _ => rfl) (fun _ => rfl) [.int l1] (fun r9 e9 => mX8_book C.flag N ol0 hcm e9) mwX8_book miX8_book wd_678 ol0 (by decide) rfl rfl rfl (Nat.le_of_ble_eq_true rfl) dL_book_4 ⟨rfl, rfl, Nat.le_of_ble_eq_true rfl, Nat.le_of_ble_eq_true rfl, Nat.le_of_ble_eq_true rfl, Nat.le_of_ble_eq_true rfl⟩ (fun p1 => ?_) (fun e2 => ?_)
  · refine bd_i2l C dL_book_7 ?_
    refine bd_last C dL_book_8 ol2 (fun w3 => ?_)
    refine bd_goto C 15 dL_book_9 (by decide) ?_
    refine bd_iconst C (v := 0) dL_book_15 (by decide) ?_
    exact bd_iret C hret rfl _ _ rfl rfl dL_book_16 (Nat.le_of_ble_eq_true rfl) (Nat.le_of_ble_eq_true rfl)
  · refine bdt_ite (fun c4 => ?_) (fun c4 => ?_)
    · refine bdt_catch C hNC hxt (e := 0) (by decide) (by rw [c4]) [] ⟨0, 9, 12, 13⟩ [] rfl (fun _ h => absurd h List.not_mem_nil) (by decide) (by decide) wd_478 wd_566 (fun q9 => ?_)
      refine bd_astore_n C [(3, .ref q9), (0, .ref l0), (1, .int l1), (2, .ref l2)] dL_book_12 rfl (by decide) rfl ?_
      refine bd_iconst C (v := 1) dL_book_13 (by decide) ?_
      exact bd_iret C hret rfl _ _ rfl rfl dL_book_14 (Nat.le_of_ble_eq_true rfl) (Nat.le_of_ble_eq_true rfl)
    · exact bdt_none
theorem mwL_book : MWH yL_book cL_book 4 (some .int) [(0, 9, 12, 13)] 3 := ⟨wd_677, wd_84, by decide, by decide +kernel, wd_676⟩
abbrev rmL_append : Room := { frames := 12, cells := 1, slots := 6, locals := 345 }
abbrev qL_append (G : Gy) (F : Fr) (g : Bd) : (Int32 × Wd) → State → Prop := fun r => QM G F g 1 6 ((fun (r : Int32 × Wd) => some (.int r.1)) r) ((fun (r : Int32 × Wd) => r.2) r)
set_option maxRecDepth 20000 in
set_option maxHeartbeats 4000000 in
theorem mL_append {l : Launch} (hf9 : l.stackTraces = false) {G : Gy} {F : Fr} (N : Nat) {w : Wd} {l0 : Nat} {l1 : Int32} {l2 : Nat} {r : Int32 × Wd} (ol0 : okF F l0 8) (ol2 : okF F l2 12) (hcm : F.2.2.2.2 = false) (e9 : fL_append F N w l0 l1 l2 = some r) : Met l yL_append [.codeWith yL_append cL_append 4 (some .int) [(0, 9, 12, 13), (0, 9, 15, 17)]] rmL_append (PcL G F w [.ref l0, .int l1, .ref l2]) (QB G F ((fun (r : Int32 × Wd) => some (.int r.1)) r) ((fun (r : Int32 × Wd) => r.2) r)) 1 6 (AF F) := by
  refine bd_metH (vs := fun (r : Int32 × Wd) => some (.int r.1)) (wf := fun (r : Int32 × Wd) => r.2) hf9 (by decide) (Nat.le_of_ble_eq_true rfl) e9 (fun g C hret hxt hNC => ?_)
  clear e9 r
  unfold fL_append
  refine bd_sub (lv' := [(0, .ref l0), (1, .int l1), (2, .ref l2)]) ?_ [0, 1, 2] rfl
  refine bd_aload_n C 2 dL_append_0 rfl rfl ?_
  refine bd_iconst C (v := 0) dL_append_1 (by decide) ?_
  refine bd_aload_n C 0 dL_append_2 rfl rfl ?_
  refine bd_iload_n C 1 dL_append_3 rfl rfl ?_
  refine bd_callX (vx := vxint) (mk := Value.int) (kk := 8) (st := [.int 0, .ref l2]) C (fun _ => rfl) (fun _ => rfl) [.int l1] (fun r9 e9 => mX8_append C.flag N ol0 hcm e9) mwX8_append miX8_append wd_689 ol0 (by decide) rfl rfl rfl (Nat.le_of_ble_eq_true rfl) dL_append_4 ⟨rfl, rfl, Nat.le_of_ble_eq_true rfl, Nat.le_of_ble_eq_true rfl, Nat.le_of_ble_eq_true rfl, Nat.le_of_ble_eq_true rfl⟩ (fun p1 => ?_) (fun e2 => ?_)
  · refine bd_i2l C dL_append_7 ?_
    refine bd_last C dL_append_8 ol2 (fun w3 => ?_)
    refine bd_goto C 18 dL_append_9 (by decide) ?_
    refine bd_iconst C (v := 0) dL_append_18 (by decide) ?_
    exact bd_iret C hret rfl _ _ rfl rfl dL_append_19 (Nat.le_of_ble_eq_true rfl) (Nat.le_of_ble_eq_true rfl)
  · refine bdt_ite (fun c5 => ?_) (fun c5 => ?_)
    · refine bdt_catch C hNC hxt (e := 0) (by decide) (by rw [c5]) [] ⟨0, 9, 12, 13⟩ [⟨0, 9, 15, 17⟩] rfl (fun _ h => absurd h List.not_mem_nil) (by decide) (by decide) wd_478 wd_566 (fun q9 => ?_)
      refine bd_astore_n C [(3, .ref q9), (0, .ref l0), (1, .int l1), (2, .ref l2)] dL_append_12 rfl (by decide) rfl ?_
      refine bd_iconst C (v := 1) dL_append_13 (by decide) ?_
      exact bd_iret C hret rfl _ _ rfl rfl dL_append_14 (Nat.le_of_ble_eq_true rfl) (Nat.le_of_ble_eq_true rfl)
    · refine bdt_ite (fun c4 => ?_) (fun c4 => ?_)
      · refine bdt_catch C hNC hxt (e := 2) (by decide) (by rw [c4]) [⟨0, 9, 12, 13⟩] ⟨0, 9, 15, 17⟩ [] rfl (List.forall_mem_cons.mpr ⟨⟨by decide, 0, by decide, by decide, wd_478⟩, (fun _ h => absurd h List.not_mem_nil)⟩) (by decide) (by decide) wd_559 wd_606 (fun q9 => ?_)
        refine bd_astore_n C [(3, .ref q9), (0, .ref l0), (1, .int l1), (2, .ref l2)] dL_append_15 rfl (by decide) rfl ?_
        refine bd_iconst C (v := 2) dL_append_16 (by decide) ?_
        exact bd_iret C hret rfl _ _ rfl rfl dL_append_17 (Nat.le_of_ble_eq_true rfl) (Nat.le_of_ble_eq_true rfl)
      · exact bdt_none
theorem mwL_append : MWH yL_append cL_append 4 (some .int) [(0, 9, 12, 13), (0, 9, 15, 17)] 3 := ⟨wd_688, wd_84, by decide, by decide +kernel, wd_687⟩
abbrev rmL_addSpan : Room := { frames := 16, cells := 1, slots := 6, locals := 453 }
abbrev qL_addSpan (G : Gy) (F : Fr) (g : Bd) : (Int32 × Wd) → State → Prop := fun r => QM G F g 1 6 ((fun (r : Int32 × Wd) => some (.int r.1)) r) ((fun (r : Int32 × Wd) => r.2) r)
set_option maxRecDepth 20000 in
set_option maxHeartbeats 4000000 in
theorem mL_addSpan {l : Launch} (hf9 : l.stackTraces = false) {G : Gy} {F : Fr} (N : Nat) {w : Wd} {l0 : Nat} {l1 : Int32} {l2 : Int32} {l3 : Int32} {l4 : Nat} {r : Int32 × Wd} (ol0 : okF F l0 8) (ol4 : okF F l4 12) (hcm : F.2.2.2.2 = false) (e9 : fL_addSpan F N w l0 l1 l2 l3 l4 = some r) : Met l yL_addSpan [.codeWith yL_addSpan cL_addSpan 6 (some .int) [(0, 12, 15, 15), (0, 12, 19, 13), (0, 12, 23, 39)]] rmL_addSpan (PcL G F w [.ref l0, .int l1, .int l2, .int l3, .ref l4]) (QB G F ((fun (r : Int32 × Wd) => some (.int r.1)) r) ((fun (r : Int32 × Wd) => r.2) r)) 1 6 (AF F) := by
  refine bd_metH (vs := fun (r : Int32 × Wd) => some (.int r.1)) (wf := fun (r : Int32 × Wd) => r.2) hf9 (by decide) (Nat.le_of_ble_eq_true rfl) e9 (fun g C hret hxt hNC => ?_)
  clear e9 r
  unfold fL_addSpan
  refine bd_sub (lv' := [(0, .ref l0), (1, .int l1), (2, .int l2), (3, .int l3), (4, .ref l4)]) ?_ [0, 1, 2, 3, 4] rfl
  refine bd_aload C 4 dL_addSpan_0 rfl ?_
  refine bd_iconst C (v := 0) dL_addSpan_2 (by decide) ?_
  refine bd_aload_n C 0 dL_addSpan_3 rfl rfl ?_
  refine bd_iload_n C 1 dL_addSpan_4 rfl rfl ?_
  refine bd_iload_n C 2 dL_addSpan_5 rfl rfl ?_
  refine bd_iload_n C 3 dL_addSpan_6 rfl rfl ?_
  refine bd_callX (vx := vxint) (mk := Value.int) (kk := 8) (st := [.int 0, .ref l4]) C (fun _ => rfl) (fun _ => rfl) [.int l1, .int l2, .int l3] (fun r9 e9 => mX8_addSpan C.flag N ol0 hcm e9) mwX8_addSpan miX8_addSpan wd_701 ol0 (by decide) rfl rfl rfl (Nat.le_of_ble_eq_true rfl) dL_addSpan_7 ⟨rfl, rfl, Nat.le_of_ble_eq_true rfl, Nat.le_of_ble_eq_true rfl, Nat.le_of_ble_eq_true rfl, Nat.le_of_ble_eq_true rfl⟩ (fun p1 => ?_) (fun e2 => ?_)
  · refine bd_i2l C dL_addSpan_10 ?_
    refine bd_last C dL_addSpan_11 ol4 (fun w3 => ?_)
    refine bd_goto C 27 dL_addSpan_12 (by decide) ?_
    refine bd_iconst C (v := 0) dL_addSpan_27 (by decide) ?_
    exact bd_iret C hret rfl _ _ rfl rfl dL_addSpan_28 (Nat.le_of_ble_eq_true rfl) (Nat.le_of_ble_eq_true rfl)
  · refine bdt_ite (fun c6 => ?_) (fun c6 => ?_)
    · refine bdt_catch C hNC hxt (e := 1) (by decide) (by rw [c6]) [] ⟨0, 12, 15, 15⟩ [⟨0, 12, 19, 13⟩, ⟨0, 12, 23, 39⟩] rfl (fun _ h => absurd h List.not_mem_nil) (by decide) (by decide) wd_479 wd_591 (fun q9 => ?_)
      refine bd_astore C [(5, .ref q9), (0, .ref l0), (1, .int l1), (2, .int l2), (3, .int l3), (4, .ref l4)] dL_addSpan_15 (by decide) rfl ?_
      refine bd_iconst C (v := 1) dL_addSpan_17 (by decide) ?_
      exact bd_iret C hret rfl _ _ rfl rfl dL_addSpan_18 (Nat.le_of_ble_eq_true rfl) (Nat.le_of_ble_eq_true rfl)
    · refine bdt_ite (fun c5 => ?_) (fun c5 => ?_)
      · refine bdt_catch C hNC hxt (e := 0) (by decide) (by rw [c5]) [⟨0, 12, 15, 15⟩] ⟨0, 12, 19, 13⟩ [⟨0, 12, 23, 39⟩] rfl (List.forall_mem_cons.mpr ⟨⟨by decide, 1, by decide, by decide, wd_479⟩, (fun _ h => absurd h List.not_mem_nil)⟩) (by decide) (by decide) wd_478 wd_566 (fun q9 => ?_)
        refine bd_astore C [(5, .ref q9), (0, .ref l0), (1, .int l1), (2, .int l2), (3, .int l3), (4, .ref l4)] dL_addSpan_19 (by decide) rfl ?_
        refine bd_iconst C (v := 2) dL_addSpan_21 (by decide) ?_
        exact bd_iret C hret rfl _ _ rfl rfl dL_addSpan_22 (Nat.le_of_ble_eq_true rfl) (Nat.le_of_ble_eq_true rfl)
      · refine bdt_ite (fun c4 => ?_) (fun c4 => ?_)
        · refine bdt_catch C hNC hxt (e := 3) (by decide) (by rw [c4]) [⟨0, 12, 15, 15⟩, ⟨0, 12, 19, 13⟩] ⟨0, 12, 23, 39⟩ [] rfl (List.forall_mem_cons.mpr ⟨⟨by decide, 1, by decide, by decide, wd_479⟩, (List.forall_mem_cons.mpr ⟨⟨by decide, 0, by decide, by decide, wd_478⟩, (fun _ h => absurd h List.not_mem_nil)⟩)⟩) (by decide) (by decide) wd_700 wd_775 (fun q9 => ?_)
          refine bd_astore C [(5, .ref q9), (0, .ref l0), (1, .int l1), (2, .int l2), (3, .int l3), (4, .ref l4)] dL_addSpan_23 (by decide) rfl ?_
          refine bd_iconst C (v := 3) dL_addSpan_25 (by decide) ?_
          exact bd_iret C hret rfl _ _ rfl rfl dL_addSpan_26 (Nat.le_of_ble_eq_true rfl) (Nat.le_of_ble_eq_true rfl)
        · exact bdt_none
theorem mwL_addSpan : MWH yL_addSpan cL_addSpan 6 (some .int) [(0, 12, 15, 15), (0, 12, 19, 13), (0, 12, 23, 39)] 5 := ⟨wd_699, wd_84, by decide, by decide +kernel, wd_698⟩
abbrev rmL_removeSpan : Room := { frames := 16, cells := 1, slots := 6, locals := 444 }
abbrev qL_removeSpan (G : Gy) (F : Fr) (g : Bd) : (Int32 × Wd) → State → Prop := fun r => QM G F g 1 6 ((fun (r : Int32 × Wd) => some (.int r.1)) r) ((fun (r : Int32 × Wd) => r.2) r)
set_option maxRecDepth 20000 in
set_option maxHeartbeats 4000000 in
theorem mL_removeSpan {l : Launch} (hf9 : l.stackTraces = false) {G : Gy} {F : Fr} (N : Nat) {w : Wd} {l0 : Nat} {l1 : Int32} {l2 : Int32} {l3 : Nat} {r : Int32 × Wd} (ol0 : okF F l0 8) (ol3 : okF F l3 12) (hcm : F.2.2.2.2 = false) (e9 : fL_removeSpan F N w l0 l1 l2 l3 = some r) : Met l yL_removeSpan [.codeWith yL_removeSpan cL_removeSpan 5 (some .int) [(0, 10, 13, 15)]] rmL_removeSpan (PcL G F w [.ref l0, .int l1, .int l2, .ref l3]) (QB G F ((fun (r : Int32 × Wd) => some (.int r.1)) r) ((fun (r : Int32 × Wd) => r.2) r)) 1 6 (AF F) := by
  refine bd_metH (vs := fun (r : Int32 × Wd) => some (.int r.1)) (wf := fun (r : Int32 × Wd) => r.2) hf9 (by decide) (Nat.le_of_ble_eq_true rfl) e9 (fun g C hret hxt hNC => ?_)
  clear e9 r
  unfold fL_removeSpan
  refine bd_sub (lv' := [(0, .ref l0), (1, .int l1), (2, .int l2), (3, .ref l3)]) ?_ [0, 1, 2, 3] rfl
  refine bd_aload_n C 3 dL_removeSpan_0 rfl rfl ?_
  refine bd_iconst C (v := 0) dL_removeSpan_1 (by decide) ?_
  refine bd_aload_n C 0 dL_removeSpan_2 rfl rfl ?_
  refine bd_iload_n C 1 dL_removeSpan_3 rfl rfl ?_
  refine bd_iload_n C 2 dL_removeSpan_4 rfl rfl ?_
  refine bd_callX (vx := vxint) (mk := Value.int) (kk := 8) (st := [.int 0, .ref l3]) C (fun _ => rfl) (fun _ => rfl) [.int l1, .int l2] (fun r9 e9 => mX8_removeSpan C.flag N ol0 hcm e9) mwX8_removeSpan miX8_removeSpan wd_795 ol0 (by decide) rfl rfl rfl (Nat.le_of_ble_eq_true rfl) dL_removeSpan_5 ⟨rfl, rfl, Nat.le_of_ble_eq_true rfl, Nat.le_of_ble_eq_true rfl, Nat.le_of_ble_eq_true rfl, Nat.le_of_ble_eq_true rfl⟩ (fun p1 => ?_) (fun e2 => ?_)
  · refine bd_i2l C dL_removeSpan_8 ?_
    refine bd_last C dL_removeSpan_9 ol3 (fun w3 => ?_)
    refine bd_goto C 17 dL_removeSpan_10 (by decide) ?_
    refine bd_iconst C (v := 0) dL_removeSpan_17 (by decide) ?_
    exact bd_iret C hret rfl _ _ rfl rfl dL_removeSpan_18 (Nat.le_of_ble_eq_true rfl) (Nat.le_of_ble_eq_true rfl)
  · refine bdt_ite (fun c4 => ?_) (fun c4 => ?_)
    · refine bdt_catch C hNC hxt (e := 1) (by decide) (by rw [c4]) [] ⟨0, 10, 13, 15⟩ [] rfl (fun _ h => absurd h List.not_mem_nil) (by decide) (by decide) wd_479 wd_591 (fun q9 => ?_)
      refine bd_astore C [(4, .ref q9), (0, .ref l0), (1, .int l1), (2, .int l2), (3, .ref l3)] dL_removeSpan_13 (by decide) rfl ?_
      refine bd_iconst C (v := 1) dL_removeSpan_15 (by decide) ?_
      exact bd_iret C hret rfl _ _ rfl rfl dL_removeSpan_16 (Nat.le_of_ble_eq_true rfl) (Nat.le_of_ble_eq_true rfl)
    · exact bdt_none
theorem mwL_removeSpan : MWH yL_removeSpan cL_removeSpan 5 (some .int) [(0, 10, 13, 15)] 4 := ⟨wd_794, wd_84, by decide, by decide +kernel, wd_793⟩
abbrev rmL_moveSpan : Room := { frames := 17, cells := 1, slots := 6, locals := 475 }
abbrev qL_moveSpan (G : Gy) (F : Fr) (g : Bd) : (Int32 × Wd) → State → Prop := fun r => QM G F g 1 6 ((fun (r : Int32 × Wd) => some (.int r.1)) r) ((fun (r : Int32 × Wd) => r.2) r)
set_option maxRecDepth 20000 in
set_option maxHeartbeats 4000000 in
theorem mL_moveSpan {l : Launch} (hf9 : l.stackTraces = false) {G : Gy} {F : Fr} (N : Nat) {w : Wd} {l0 : Nat} {l1 : Int32} {l2 : Int32} {l3 : Int32} {l4 : Int32} {l5 : Nat} {r : Int32 × Wd} (ol0 : okF F l0 8) (ol5 : okF F l5 12) (hcm : F.2.2.2.2 = false) (e9 : fL_moveSpan F N w l0 l1 l2 l3 l4 l5 = some r) : Met l yL_moveSpan [.codeWith yL_moveSpan cL_moveSpan 7 (some .int) [(0, 14, 17, 15), (0, 14, 21, 39)]] rmL_moveSpan (PcL G F w [.ref l0, .int l1, .int l2, .int l3, .int l4, .ref l5]) (QB G F ((fun (r : Int32 × Wd) => some (.int r.1)) r) ((fun (r : Int32 × Wd) => r.2) r)) 1 6 (AF F) := by
  refine bd_metH (vs := fun (r : Int32 × Wd) => some (.int r.1)) (wf := fun (r : Int32 × Wd) => r.2) hf9 (by decide) (Nat.le_of_ble_eq_true rfl) e9 (fun g C hret hxt hNC => ?_)
  clear e9 r
  unfold fL_moveSpan
  refine bd_sub (lv' := [(0, .ref l0), (1, .int l1), (2, .int l2), (3, .int l3), (4, .int l4), (5, .ref l5)]) ?_ [0, 1, 2, 3, 4, 5] rfl
  refine bd_aload C 5 dL_moveSpan_0 rfl ?_
  refine bd_iconst C (v := 0) dL_moveSpan_2 (by decide) ?_
  refine bd_aload_n C 0 dL_moveSpan_3 rfl rfl ?_
  refine bd_iload_n C 1 dL_moveSpan_4 rfl rfl ?_
  refine bd_iload_n C 2 dL_moveSpan_5 rfl rfl ?_
  refine bd_iload_n C 3 dL_moveSpan_6 rfl rfl ?_
  refine bd_iload C 4 dL_moveSpan_7 rfl ?_
  refine bd_callX (vx := vxint) (mk := Value.int) (kk := 8) (st := [.int 0, .ref l5]) C (fun _ => rfl) (fun _ => rfl) [.int l1, .int l2, .int l3, .int l4] (fun r9 e9 => mX8_moveSpan C.flag N ol0 hcm e9) mwX8_moveSpan miX8_moveSpan wd_819 ol0 (by decide) rfl rfl rfl (Nat.le_of_ble_eq_true rfl) dL_moveSpan_9 ⟨rfl, rfl, Nat.le_of_ble_eq_true rfl, Nat.le_of_ble_eq_true rfl, Nat.le_of_ble_eq_true rfl, Nat.le_of_ble_eq_true rfl⟩ (fun p1 => ?_) (fun e2 => ?_)
  · refine bd_i2l C dL_moveSpan_12 ?_
    refine bd_last C dL_moveSpan_13 ol5 (fun w3 => ?_)
    refine bd_goto C 25 dL_moveSpan_14 (by decide) ?_
    refine bd_iconst C (v := 0) dL_moveSpan_25 (by decide) ?_
    exact bd_iret C hret rfl _ _ rfl rfl dL_moveSpan_26 (Nat.le_of_ble_eq_true rfl) (Nat.le_of_ble_eq_true rfl)
  · refine bdt_ite (fun c5 => ?_) (fun c5 => ?_)
    · refine bdt_catch C hNC hxt (e := 1) (by decide) (by rw [c5]) [] ⟨0, 14, 17, 15⟩ [⟨0, 14, 21, 39⟩] rfl (fun _ h => absurd h List.not_mem_nil) (by decide) (by decide) wd_479 wd_591 (fun q9 => ?_)
      refine bd_astore C [(6, .ref q9), (0, .ref l0), (1, .int l1), (2, .int l2), (3, .int l3), (4, .int l4), (5, .ref l5)] dL_moveSpan_17 (by decide) rfl ?_
      refine bd_iconst C (v := 1) dL_moveSpan_19 (by decide) ?_
      exact bd_iret C hret rfl _ _ rfl rfl dL_moveSpan_20 (Nat.le_of_ble_eq_true rfl) (Nat.le_of_ble_eq_true rfl)
    · refine bdt_ite (fun c4 => ?_) (fun c4 => ?_)
      · refine bdt_catch C hNC hxt (e := 3) (by decide) (by rw [c4]) [⟨0, 14, 17, 15⟩] ⟨0, 14, 21, 39⟩ [] rfl (List.forall_mem_cons.mpr ⟨⟨by decide, 1, by decide, by decide, wd_479⟩, (fun _ h => absurd h List.not_mem_nil)⟩) (by decide) (by decide) wd_700 wd_775 (fun q9 => ?_)
        refine bd_astore C [(6, .ref q9), (0, .ref l0), (1, .int l1), (2, .int l2), (3, .int l3), (4, .int l4), (5, .ref l5)] dL_moveSpan_21 (by decide) rfl ?_
        refine bd_iconst C (v := 2) dL_moveSpan_23 (by decide) ?_
        exact bd_iret C hret rfl _ _ rfl rfl dL_moveSpan_24 (Nat.le_of_ble_eq_true rfl) (Nat.le_of_ble_eq_true rfl)
      · exact bdt_none
theorem mwL_moveSpan : MWH yL_moveSpan cL_moveSpan 7 (some .int) [(0, 14, 17, 15), (0, 14, 21, 39)] 6 := ⟨wd_818, wd_84, by decide, by decide +kernel, wd_817⟩
abbrev rmL_rename : Room := { frames := 16, cells := 1, slots := 6, locals := 437 }
abbrev qL_rename (G : Gy) (F : Fr) (g : Bd) : (Int32 × Wd) → State → Prop := fun r => QM G F g 1 6 ((fun (r : Int32 × Wd) => some (.int r.1)) r) ((fun (r : Int32 × Wd) => r.2) r)
set_option maxRecDepth 20000 in
set_option maxHeartbeats 4000000 in
theorem mL_rename {l : Launch} (hf9 : l.stackTraces = false) {G : Gy} {F : Fr} (N : Nat) {w : Wd} {l0 : Nat} {l1 : Int32} {l2 : Int32} {l3 : Nat} {r : Int32 × Wd} (ol0 : okF F l0 8) (ol3 : okF F l3 12) (hcm : F.2.2.2.2 = false) (e9 : fL_rename F N w l0 l1 l2 l3 = some r) : Met l yL_rename [.codeWith yL_rename cL_rename 5 (some .int) [(0, 10, 13, 15), (0, 10, 17, 13)]] rmL_rename (PcL G F w [.ref l0, .int l1, .int l2, .ref l3]) (QB G F ((fun (r : Int32 × Wd) => some (.int r.1)) r) ((fun (r : Int32 × Wd) => r.2) r)) 1 6 (AF F) := by
  refine bd_metH (vs := fun (r : Int32 × Wd) => some (.int r.1)) (wf := fun (r : Int32 × Wd) => r.2) hf9 (by decide) (Nat.le_of_ble_eq_true rfl) e9 (fun g C hret hxt hNC => ?_)
  clear e9 r
  unfold fL_rename
  refine bd_sub (lv' := [(0, .ref l0), (1, .int l1), (2, .int l2), (3, .ref l3)]) ?_ [0, 1, 2, 3] rfl
  refine bd_aload_n C 3 dL_rename_0 rfl rfl ?_
  refine bd_iconst C (v := 0) dL_rename_1 (by decide) ?_
  refine bd_aload_n C 0 dL_rename_2 rfl rfl ?_
  refine bd_iload_n C 1 dL_rename_3 rfl rfl ?_
  refine bd_iload_n C 2 dL_rename_4 rfl rfl ?_
  refine bd_callX (vx := vxint) (mk := Value.int) (kk := 8) (st := [.int 0, .ref l3]) C (fun _ => rfl) (fun _ => rfl) [.int l1, .int l2] (fun r9 e9 => mX8_rename C.flag N ol0 hcm e9) mwX8_rename miX8_rename wd_836 ol0 (by decide) rfl rfl rfl (Nat.le_of_ble_eq_true rfl) dL_rename_5 ⟨rfl, rfl, Nat.le_of_ble_eq_true rfl, Nat.le_of_ble_eq_true rfl, Nat.le_of_ble_eq_true rfl, Nat.le_of_ble_eq_true rfl⟩ (fun p1 => ?_) (fun e2 => ?_)
  · refine bd_i2l C dL_rename_8 ?_
    refine bd_last C dL_rename_9 ol3 (fun w3 => ?_)
    refine bd_goto C 21 dL_rename_10 (by decide) ?_
    refine bd_iconst C (v := 0) dL_rename_21 (by decide) ?_
    exact bd_iret C hret rfl _ _ rfl rfl dL_rename_22 (Nat.le_of_ble_eq_true rfl) (Nat.le_of_ble_eq_true rfl)
  · refine bdt_ite (fun c5 => ?_) (fun c5 => ?_)
    · refine bdt_catch C hNC hxt (e := 1) (by decide) (by rw [c5]) [] ⟨0, 10, 13, 15⟩ [⟨0, 10, 17, 13⟩] rfl (fun _ h => absurd h List.not_mem_nil) (by decide) (by decide) wd_479 wd_591 (fun q9 => ?_)
      refine bd_astore C [(4, .ref q9), (0, .ref l0), (1, .int l1), (2, .int l2), (3, .ref l3)] dL_rename_13 (by decide) rfl ?_
      refine bd_iconst C (v := 1) dL_rename_15 (by decide) ?_
      exact bd_iret C hret rfl _ _ rfl rfl dL_rename_16 (Nat.le_of_ble_eq_true rfl) (Nat.le_of_ble_eq_true rfl)
    · refine bdt_ite (fun c4 => ?_) (fun c4 => ?_)
      · refine bdt_catch C hNC hxt (e := 0) (by decide) (by rw [c4]) [⟨0, 10, 13, 15⟩] ⟨0, 10, 17, 13⟩ [] rfl (List.forall_mem_cons.mpr ⟨⟨by decide, 1, by decide, by decide, wd_479⟩, (fun _ h => absurd h List.not_mem_nil)⟩) (by decide) (by decide) wd_478 wd_566 (fun q9 => ?_)
        refine bd_astore C [(4, .ref q9), (0, .ref l0), (1, .int l1), (2, .int l2), (3, .ref l3)] dL_rename_17 (by decide) rfl ?_
        refine bd_iconst C (v := 2) dL_rename_19 (by decide) ?_
        exact bd_iret C hret rfl _ _ rfl rfl dL_rename_20 (Nat.le_of_ble_eq_true rfl) (Nat.le_of_ble_eq_true rfl)
      · exact bdt_none
theorem mwL_rename : MWH yL_rename cL_rename 5 (some .int) [(0, 10, 13, 15), (0, 10, 17, 13)] 4 := ⟨wd_835, wd_84, by decide, by decide +kernel, wd_834⟩
abbrev rmL_split : Room := { frames := 17, cells := 1, slots := 6, locals := 472 }
abbrev qL_split (G : Gy) (F : Fr) (g : Bd) : (Int32 × Wd) → State → Prop := fun r => QM G F g 1 6 ((fun (r : Int32 × Wd) => some (.int r.1)) r) ((fun (r : Int32 × Wd) => r.2) r)
set_option maxRecDepth 20000 in
set_option maxHeartbeats 4000000 in
theorem mL_split {l : Launch} (hf9 : l.stackTraces = false) {G : Gy} {F : Fr} (N : Nat) {w : Wd} {l0 : Nat} {l1 : Int32} {l2 : Int32} {l3 : Int32} {l4 : Nat} {r : Int32 × Wd} (ol0 : okF F l0 8) (ol4 : okF F l4 12) (hcm : F.2.2.2.2 = false) (e9 : fL_split F N w l0 l1 l2 l3 l4 = some r) : Met l yL_split [.codeWith yL_split cL_split 6 (some .int) [(0, 12, 15, 15), (0, 12, 19, 39)]] rmL_split (PcL G F w [.ref l0, .int l1, .int l2, .int l3, .ref l4]) (QB G F ((fun (r : Int32 × Wd) => some (.int r.1)) r) ((fun (r : Int32 × Wd) => r.2) r)) 1 6 (AF F) := by
  refine bd_metH (vs := fun (r : Int32 × Wd) => some (.int r.1)) (wf := fun (r : Int32 × Wd) => r.2) hf9 (by decide) (Nat.le_of_ble_eq_true rfl) e9 (fun g C hret hxt hNC => ?_)
  clear e9 r
  unfold fL_split
  refine bd_sub (lv' := [(0, .ref l0), (1, .int l1), (2, .int l2), (3, .int l3), (4, .ref l4)]) ?_ [0, 1, 2, 3, 4] rfl
  refine bd_aload C 4 dL_split_0 rfl ?_
  refine bd_iconst C (v := 0) dL_split_2 (by decide) ?_
  refine bd_aload_n C 0 dL_split_3 rfl rfl ?_
  refine bd_iload_n C 1 dL_split_4 rfl rfl ?_
  refine bd_iload_n C 2 dL_split_5 rfl rfl ?_
  refine bd_iload_n C 3 dL_split_6 rfl rfl ?_
  refine bd_callX (vx := vxint) (mk := Value.int) (kk := 8) (st := [.int 0, .ref l4]) C (fun _ => rfl) (fun _ => rfl) [.int l1, .int l2, .int l3] (fun r9 e9 => mX8_split C.flag N ol0 hcm e9) mwX8_split miX8_split wd_845 ol0 (by decide) rfl rfl rfl (Nat.le_of_ble_eq_true rfl) dL_split_7 ⟨rfl, rfl, Nat.le_of_ble_eq_true rfl, Nat.le_of_ble_eq_true rfl, Nat.le_of_ble_eq_true rfl, Nat.le_of_ble_eq_true rfl⟩ (fun p1 => ?_) (fun e2 => ?_)
  · refine bd_i2l C dL_split_10 ?_
    refine bd_last C dL_split_11 ol4 (fun w3 => ?_)
    refine bd_goto C 23 dL_split_12 (by decide) ?_
    refine bd_iconst C (v := 0) dL_split_23 (by decide) ?_
    exact bd_iret C hret rfl _ _ rfl rfl dL_split_24 (Nat.le_of_ble_eq_true rfl) (Nat.le_of_ble_eq_true rfl)
  · refine bdt_ite (fun c5 => ?_) (fun c5 => ?_)
    · refine bdt_catch C hNC hxt (e := 1) (by decide) (by rw [c5]) [] ⟨0, 12, 15, 15⟩ [⟨0, 12, 19, 39⟩] rfl (fun _ h => absurd h List.not_mem_nil) (by decide) (by decide) wd_479 wd_591 (fun q9 => ?_)
      refine bd_astore C [(5, .ref q9), (0, .ref l0), (1, .int l1), (2, .int l2), (3, .int l3), (4, .ref l4)] dL_split_15 (by decide) rfl ?_
      refine bd_iconst C (v := 1) dL_split_17 (by decide) ?_
      exact bd_iret C hret rfl _ _ rfl rfl dL_split_18 (Nat.le_of_ble_eq_true rfl) (Nat.le_of_ble_eq_true rfl)
    · refine bdt_ite (fun c4 => ?_) (fun c4 => ?_)
      · refine bdt_catch C hNC hxt (e := 3) (by decide) (by rw [c4]) [⟨0, 12, 15, 15⟩] ⟨0, 12, 19, 39⟩ [] rfl (List.forall_mem_cons.mpr ⟨⟨by decide, 1, by decide, by decide, wd_479⟩, (fun _ h => absurd h List.not_mem_nil)⟩) (by decide) (by decide) wd_700 wd_775 (fun q9 => ?_)
        refine bd_astore C [(5, .ref q9), (0, .ref l0), (1, .int l1), (2, .int l2), (3, .int l3), (4, .ref l4)] dL_split_19 (by decide) rfl ?_
        refine bd_iconst C (v := 2) dL_split_21 (by decide) ?_
        exact bd_iret C hret rfl _ _ rfl rfl dL_split_22 (Nat.le_of_ble_eq_true rfl) (Nat.le_of_ble_eq_true rfl)
      · exact bdt_none
theorem mwL_split : MWH yL_split cL_split 6 (some .int) [(0, 12, 15, 15), (0, 12, 19, 39)] 5 := ⟨wd_844, wd_84, by decide, by decide +kernel, wd_843⟩
abbrev rmL_join : Room := { frames := 17, cells := 1, slots := 6, locals := 470 }
abbrev qL_join (G : Gy) (F : Fr) (g : Bd) : (Int32 × Wd) → State → Prop := fun r => QM G F g 1 6 ((fun (r : Int32 × Wd) => some (.int r.1)) r) ((fun (r : Int32 × Wd) => r.2) r)
set_option maxRecDepth 20000 in
set_option maxHeartbeats 4000000 in
theorem mL_join {l : Launch} (hf9 : l.stackTraces = false) {G : Gy} {F : Fr} (N : Nat) {w : Wd} {l0 : Nat} {l1 : Int32} {l2 : Int32} {l3 : Nat} {r : Int32 × Wd} (ol0 : okF F l0 8) (ol3 : okF F l3 12) (hcm : F.2.2.2.2 = false) (e9 : fL_join F N w l0 l1 l2 l3 = some r) : Met l yL_join [.codeWith yL_join cL_join 5 (some .int) [(0, 10, 13, 15), (0, 10, 17, 39)]] rmL_join (PcL G F w [.ref l0, .int l1, .int l2, .ref l3]) (QB G F ((fun (r : Int32 × Wd) => some (.int r.1)) r) ((fun (r : Int32 × Wd) => r.2) r)) 1 6 (AF F) := by
  refine bd_metH (vs := fun (r : Int32 × Wd) => some (.int r.1)) (wf := fun (r : Int32 × Wd) => r.2) hf9 (by decide) (Nat.le_of_ble_eq_true rfl) e9 (fun g C hret hxt hNC => ?_)
  clear e9 r
  unfold fL_join
  refine bd_sub (lv' := [(0, .ref l0), (1, .int l1), (2, .int l2), (3, .ref l3)]) ?_ [0, 1, 2, 3] rfl
  refine bd_aload_n C 3 dL_join_0 rfl rfl ?_
  refine bd_iconst C (v := 0) dL_join_1 (by decide) ?_
  refine bd_aload_n C 0 dL_join_2 rfl rfl ?_
  refine bd_iload_n C 1 dL_join_3 rfl rfl ?_
  refine bd_iload_n C 2 dL_join_4 rfl rfl ?_
  refine bd_callX (vx := vxint) (mk := Value.int) (kk := 8) (st := [.int 0, .ref l3]) C (fun _ => rfl) (fun _ => rfl) [.int l1, .int l2] (fun r9 e9 => mX8_join C.flag N ol0 hcm e9) mwX8_join miX8_join wd_857 ol0 (by decide) rfl rfl rfl (Nat.le_of_ble_eq_true rfl) dL_join_5 ⟨rfl, rfl, Nat.le_of_ble_eq_true rfl, Nat.le_of_ble_eq_true rfl, Nat.le_of_ble_eq_true rfl, Nat.le_of_ble_eq_true rfl⟩ (fun p1 => ?_) (fun e2 => ?_)
  · refine bd_i2l C dL_join_8 ?_
    refine bd_last C dL_join_9 ol3 (fun w3 => ?_)
    refine bd_goto C 21 dL_join_10 (by decide) ?_
    refine bd_iconst C (v := 0) dL_join_21 (by decide) ?_
    exact bd_iret C hret rfl _ _ rfl rfl dL_join_22 (Nat.le_of_ble_eq_true rfl) (Nat.le_of_ble_eq_true rfl)
  · refine bdt_ite (fun c5 => ?_) (fun c5 => ?_)
    · refine bdt_catch C hNC hxt (e := 1) (by decide) (by rw [c5]) [] ⟨0, 10, 13, 15⟩ [⟨0, 10, 17, 39⟩] rfl (fun _ h => absurd h List.not_mem_nil) (by decide) (by decide) wd_479 wd_591 (fun q9 => ?_)
      refine bd_astore C [(4, .ref q9), (0, .ref l0), (1, .int l1), (2, .int l2), (3, .ref l3)] dL_join_13 (by decide) rfl ?_
      refine bd_iconst C (v := 1) dL_join_15 (by decide) ?_
      exact bd_iret C hret rfl _ _ rfl rfl dL_join_16 (Nat.le_of_ble_eq_true rfl) (Nat.le_of_ble_eq_true rfl)
    · refine bdt_ite (fun c4 => ?_) (fun c4 => ?_)
      · refine bdt_catch C hNC hxt (e := 3) (by decide) (by rw [c4]) [⟨0, 10, 13, 15⟩] ⟨0, 10, 17, 39⟩ [] rfl (List.forall_mem_cons.mpr ⟨⟨by decide, 1, by decide, by decide, wd_479⟩, (fun _ h => absurd h List.not_mem_nil)⟩) (by decide) (by decide) wd_700 wd_775 (fun q9 => ?_)
        refine bd_astore C [(4, .ref q9), (0, .ref l0), (1, .int l1), (2, .int l2), (3, .ref l3)] dL_join_17 (by decide) rfl ?_
        refine bd_iconst C (v := 2) dL_join_19 (by decide) ?_
        exact bd_iret C hret rfl _ _ rfl rfl dL_join_20 (Nat.le_of_ble_eq_true rfl) (Nat.le_of_ble_eq_true rfl)
      · exact bdt_none
theorem mwL_join : MWH yL_join cL_join 5 (some .int) [(0, 10, 13, 15), (0, 10, 17, 39)] 4 := ⟨wd_856, wd_84, by decide, by decide +kernel, wd_855⟩
abbrev rmL_span : Room := { frames := 14, cells := 1, slots := 6, locals := 400 }
abbrev qL_span (G : Gy) (F : Fr) (g : Bd) : (Int32 × Wd) → State → Prop := fun r => QM G F g 1 6 ((fun (r : Int32 × Wd) => some (.int r.1)) r) ((fun (r : Int32 × Wd) => r.2) r)
set_option maxRecDepth 20000 in
set_option maxHeartbeats 4000000 in
theorem mL_span {l : Launch} (hf9 : l.stackTraces = false) {G : Gy} {F : Fr} (N : Nat) {w : Wd} {l0 : Nat} {l1 : Int32} {l2 : Int32} {l3 : Int32} {l4 : Nat} {r : Int32 × Wd} (ol0 : okF F l0 8) (ol4 : okF F l4 12) (hcm : F.2.2.2.2 = false) (e9 : fL_span F N w l0 l1 l2 l3 l4 = some r) : Met l yL_span [.codeWith yL_span cL_span 6 (some .int) [(0, 12, 15, 15), (0, 12, 19, 13)]] rmL_span (PcL G F w [.ref l0, .int l1, .int l2, .int l3, .ref l4]) (QB G F ((fun (r : Int32 × Wd) => some (.int r.1)) r) ((fun (r : Int32 × Wd) => r.2) r)) 1 6 (AF F) := by
  refine bd_metH (vs := fun (r : Int32 × Wd) => some (.int r.1)) (wf := fun (r : Int32 × Wd) => r.2) hf9 (by decide) (Nat.le_of_ble_eq_true rfl) e9 (fun g C hret hxt hNC => ?_)
  clear e9 r
  unfold fL_span
  refine bd_sub (lv' := [(0, .ref l0), (1, .int l1), (2, .int l2), (3, .int l3), (4, .ref l4)]) ?_ [0, 1, 2, 3, 4] rfl
  refine bd_aload C 4 dL_span_0 rfl ?_
  refine bd_iconst C (v := 0) dL_span_2 (by decide) ?_
  refine bd_aload_n C 0 dL_span_3 rfl rfl ?_
  refine bd_iload_n C 1 dL_span_4 rfl rfl ?_
  refine bd_iload_n C 2 dL_span_5 rfl rfl ?_
  refine bd_iload_n C 3 dL_span_6 rfl rfl ?_
  refine bd_callX (vx := vxint) (mk := Value.int) (kk := 8) (st := [.int 0, .ref l4]) C (fun _ => rfl) (fun _ => rfl) [.int l1, .int l2, .int l3] (fun r9 e9 => mX8_span C.flag N ol0 hcm e9) mwX8_span miX8_span wd_868 ol0 (by decide) rfl rfl rfl (Nat.le_of_ble_eq_true rfl) dL_span_7 ⟨rfl, rfl, Nat.le_of_ble_eq_true rfl, Nat.le_of_ble_eq_true rfl, Nat.le_of_ble_eq_true rfl, Nat.le_of_ble_eq_true rfl⟩ (fun p1 => ?_) (fun e2 => ?_)
  · refine bd_i2l C dL_span_10 ?_
    refine bd_last C dL_span_11 ol4 (fun w3 => ?_)
    refine bd_goto C 23 dL_span_12 (by decide) ?_
    refine bd_iconst C (v := 0) dL_span_23 (by decide) ?_
    exact bd_iret C hret rfl _ _ rfl rfl dL_span_24 (Nat.le_of_ble_eq_true rfl) (Nat.le_of_ble_eq_true rfl)
  · refine bdt_ite (fun c5 => ?_) (fun c5 => ?_)
    · refine bdt_catch C hNC hxt (e := 1) (by decide) (by rw [c5]) [] ⟨0, 12, 15, 15⟩ [⟨0, 12, 19, 13⟩] rfl (fun _ h => absurd h List.not_mem_nil) (by decide) (by decide) wd_479 wd_591 (fun q9 => ?_)
      refine bd_astore C [(5, .ref q9), (0, .ref l0), (1, .int l1), (2, .int l2), (3, .int l3), (4, .ref l4)] dL_span_15 (by decide) rfl ?_
      refine bd_iconst C (v := 1) dL_span_17 (by decide) ?_
      exact bd_iret C hret rfl _ _ rfl rfl dL_span_18 (Nat.le_of_ble_eq_true rfl) (Nat.le_of_ble_eq_true rfl)
    · refine bdt_ite (fun c4 => ?_) (fun c4 => ?_)
      · refine bdt_catch C hNC hxt (e := 0) (by decide) (by rw [c4]) [⟨0, 12, 15, 15⟩] ⟨0, 12, 19, 13⟩ [] rfl (List.forall_mem_cons.mpr ⟨⟨by decide, 1, by decide, by decide, wd_479⟩, (fun _ h => absurd h List.not_mem_nil)⟩) (by decide) (by decide) wd_478 wd_566 (fun q9 => ?_)
        refine bd_astore C [(5, .ref q9), (0, .ref l0), (1, .int l1), (2, .int l2), (3, .int l3), (4, .ref l4)] dL_span_19 (by decide) rfl ?_
        refine bd_iconst C (v := 2) dL_span_21 (by decide) ?_
        exact bd_iret C hret rfl _ _ rfl rfl dL_span_22 (Nat.le_of_ble_eq_true rfl) (Nat.le_of_ble_eq_true rfl)
      · exact bdt_none
theorem mwL_span : MWH yL_span cL_span 6 (some .int) [(0, 12, 15, 15), (0, 12, 19, 13)] 5 := ⟨wd_867, wd_84, by decide, by decide +kernel, wd_866⟩
abbrev rmL_letter : Room := { frames := 14, cells := 1, slots := 6, locals := 392 }
abbrev qL_letter (G : Gy) (F : Fr) (g : Bd) : (Int32 × Wd) → State → Prop := fun r => QM G F g 1 6 ((fun (r : Int32 × Wd) => some (.int r.1)) r) ((fun (r : Int32 × Wd) => r.2) r)
set_option maxRecDepth 20000 in
set_option maxHeartbeats 4000000 in
theorem mL_letter {l : Launch} (hf9 : l.stackTraces = false) {G : Gy} {F : Fr} (N : Nat) {w : Wd} {l0 : Nat} {l1 : Int32} {l2 : Int32} {l3 : Int32} {l4 : Nat} {r : Int32 × Wd} (ol0 : okF F l0 8) (ol4 : okF F l4 12) (hcm : F.2.2.2.2 = false) (e9 : fL_letter F N w l0 l1 l2 l3 l4 = some r) : Met l yL_letter [.codeWith yL_letter cL_letter 6 (some .int) [(0, 12, 15, 15), (0, 12, 19, 64)]] rmL_letter (PcL G F w [.ref l0, .int l1, .int l2, .int l3, .ref l4]) (QB G F ((fun (r : Int32 × Wd) => some (.int r.1)) r) ((fun (r : Int32 × Wd) => r.2) r)) 1 6 (AF F) := by
  refine bd_metH (vs := fun (r : Int32 × Wd) => some (.int r.1)) (wf := fun (r : Int32 × Wd) => r.2) hf9 (by decide) (Nat.le_of_ble_eq_true rfl) e9 (fun g C hret hxt hNC => ?_)
  clear e9 r
  unfold fL_letter
  refine bd_sub (lv' := [(0, .ref l0), (1, .int l1), (2, .int l2), (3, .int l3), (4, .ref l4)]) ?_ [0, 1, 2, 3, 4] rfl
  refine bd_aload C 4 dL_letter_0 rfl ?_
  refine bd_iconst C (v := 0) dL_letter_2 (by decide) ?_
  refine bd_aload_n C 0 dL_letter_3 rfl rfl ?_
  refine bd_iload_n C 1 dL_letter_4 rfl rfl ?_
  refine bd_iload_n C 2 dL_letter_5 rfl rfl ?_
  refine bd_iload_n C 3 dL_letter_6 rfl rfl ?_
  refine bd_callX (vx := vxint) (mk := Value.int) (kk := 8) (st := [.int 0, .ref l4]) C (fun _ => rfl) (fun _ => rfl) [.int l1, .int l2, .int l3] (fun r9 e9 => mX8_letter C.flag N ol0 hcm e9) mwX8_letter miX8_letter wd_890 ol0 (by decide) rfl rfl rfl (Nat.le_of_ble_eq_true rfl) dL_letter_7 ⟨rfl, rfl, Nat.le_of_ble_eq_true rfl, Nat.le_of_ble_eq_true rfl, Nat.le_of_ble_eq_true rfl, Nat.le_of_ble_eq_true rfl⟩ (fun p1 => ?_) (fun e2 => ?_)
  · refine bd_i2l C dL_letter_10 ?_
    refine bd_last C dL_letter_11 ol4 (fun w3 => ?_)
    refine bd_goto C 23 dL_letter_12 (by decide) ?_
    refine bd_iconst C (v := 0) dL_letter_23 (by decide) ?_
    exact bd_iret C hret rfl _ _ rfl rfl dL_letter_24 (Nat.le_of_ble_eq_true rfl) (Nat.le_of_ble_eq_true rfl)
  · refine bdt_ite (fun c5 => ?_) (fun c5 => ?_)
    · refine bdt_catch C hNC hxt (e := 1) (by decide) (by rw [c5]) [] ⟨0, 12, 15, 15⟩ [⟨0, 12, 19, 64⟩] rfl (fun _ h => absurd h List.not_mem_nil) (by decide) (by decide) wd_479 wd_591 (fun q9 => ?_)
      refine bd_astore C [(5, .ref q9), (0, .ref l0), (1, .int l1), (2, .int l2), (3, .int l3), (4, .ref l4)] dL_letter_15 (by decide) rfl ?_
      refine bd_iconst C (v := 1) dL_letter_17 (by decide) ?_
      exact bd_iret C hret rfl _ _ rfl rfl dL_letter_18 (Nat.le_of_ble_eq_true rfl) (Nat.le_of_ble_eq_true rfl)
    · refine bdt_ite (fun c4 => ?_) (fun c4 => ?_)
      · refine bdt_catch C hNC hxt (e := 4) (by decide) (by rw [c4]) [⟨0, 12, 15, 15⟩] ⟨0, 12, 19, 64⟩ [] rfl (List.forall_mem_cons.mpr ⟨⟨by decide, 1, by decide, by decide, wd_479⟩, (fun _ h => absurd h List.not_mem_nil)⟩) (by decide) (by decide) wd_889 wd_896 (fun q9 => ?_)
        refine bd_astore C [(5, .ref q9), (0, .ref l0), (1, .int l1), (2, .int l2), (3, .int l3), (4, .ref l4)] dL_letter_19 (by decide) rfl ?_
        refine bd_iconst C (v := 2) dL_letter_21 (by decide) ?_
        exact bd_iret C hret rfl _ _ rfl rfl dL_letter_22 (Nat.le_of_ble_eq_true rfl) (Nat.le_of_ble_eq_true rfl)
      · exact bdt_none
theorem mwL_letter : MWH yL_letter cL_letter 6 (some .int) [(0, 12, 15, 15), (0, 12, 19, 64)] 5 := ⟨wd_888, wd_84, by decide, by decide +kernel, wd_887⟩
abbrev rmL_spanAt : Room := { frames := 13, cells := 1, slots := 6, locals := 367 }
abbrev qL_spanAt (G : Gy) (F : Fr) (g : Bd) : (Int32 × Wd) → State → Prop := fun r => QM G F g 1 6 ((fun (r : Int32 × Wd) => some (.int r.1)) r) ((fun (r : Int32 × Wd) => r.2) r)
set_option maxRecDepth 20000 in
set_option maxHeartbeats 4000000 in
theorem mL_spanAt {l : Launch} (hf9 : l.stackTraces = false) {G : Gy} {F : Fr} (N : Nat) {w : Wd} {l0 : Nat} {l1 : Int32} {l2 : Int32} {l3 : Nat} {r : Int32 × Wd} (ol0 : okF F l0 8) (ol3 : okF F l3 12) (hcm : F.2.2.2.2 = false) (e9 : fL_spanAt F N w l0 l1 l2 l3 = some r) : Met l yL_spanAt [.codeWith yL_spanAt cL_spanAt 5 (some .int) [(0, 10, 13, 15)]] rmL_spanAt (PcL G F w [.ref l0, .int l1, .int l2, .ref l3]) (QB G F ((fun (r : Int32 × Wd) => some (.int r.1)) r) ((fun (r : Int32 × Wd) => r.2) r)) 1 6 (AF F) := by
  refine bd_metH (vs := fun (r : Int32 × Wd) => some (.int r.1)) (wf := fun (r : Int32 × Wd) => r.2) hf9 (by decide) (Nat.le_of_ble_eq_true rfl) e9 (fun g C hret hxt hNC => ?_)
  clear e9 r
  unfold fL_spanAt
  refine bd_sub (lv' := [(0, .ref l0), (1, .int l1), (2, .int l2), (3, .ref l3)]) ?_ [0, 1, 2, 3] rfl
  refine bd_aload_n C 3 dL_spanAt_0 rfl rfl ?_
  refine bd_iconst C (v := 0) dL_spanAt_1 (by decide) ?_
  refine bd_aload_n C 0 dL_spanAt_2 rfl rfl ?_
  refine bd_iload_n C 1 dL_spanAt_3 rfl rfl ?_
  refine bd_iload_n C 2 dL_spanAt_4 rfl rfl ?_
  refine bd_callX (vx := vxint) (mk := Value.int) (kk := 8) (st := [.int 0, .ref l3]) C (fun _ => rfl) (fun _ => rfl) [.int l1, .int l2] (fun r9 e9 => mX8_spanAt C.flag N ol0 hcm e9) mwX8_spanAt miX8_spanAt wd_912 ol0 (by decide) rfl rfl rfl (Nat.le_of_ble_eq_true rfl) dL_spanAt_5 ⟨rfl, rfl, Nat.le_of_ble_eq_true rfl, Nat.le_of_ble_eq_true rfl, Nat.le_of_ble_eq_true rfl, Nat.le_of_ble_eq_true rfl⟩ (fun p1 => ?_) (fun e2 => ?_)
  · refine bd_i2l C dL_spanAt_8 ?_
    refine bd_last C dL_spanAt_9 ol3 (fun w3 => ?_)
    refine bd_goto C 17 dL_spanAt_10 (by decide) ?_
    refine bd_iconst C (v := 0) dL_spanAt_17 (by decide) ?_
    exact bd_iret C hret rfl _ _ rfl rfl dL_spanAt_18 (Nat.le_of_ble_eq_true rfl) (Nat.le_of_ble_eq_true rfl)
  · refine bdt_ite (fun c4 => ?_) (fun c4 => ?_)
    · refine bdt_catch C hNC hxt (e := 1) (by decide) (by rw [c4]) [] ⟨0, 10, 13, 15⟩ [] rfl (fun _ h => absurd h List.not_mem_nil) (by decide) (by decide) wd_479 wd_591 (fun q9 => ?_)
      refine bd_astore C [(4, .ref q9), (0, .ref l0), (1, .int l1), (2, .int l2), (3, .ref l3)] dL_spanAt_13 (by decide) rfl ?_
      refine bd_iconst C (v := 1) dL_spanAt_15 (by decide) ?_
      exact bd_iret C hret rfl _ _ rfl rfl dL_spanAt_16 (Nat.le_of_ble_eq_true rfl) (Nat.le_of_ble_eq_true rfl)
    · exact bdt_none
theorem mwL_spanAt : MWH yL_spanAt cL_spanAt 5 (some .int) [(0, 10, 13, 15)] 4 := ⟨wd_911, wd_84, by decide, by decide +kernel, wd_910⟩
abbrev rmL_refusal : Room := { frames := 11, cells := 1, slots := 6, locals := 321 }
abbrev qL_refusal (G : Gy) (F : Fr) (g : Bd) : (Int32 × Wd) → State → Prop := fun r => QM G F g 1 6 ((fun (r : Int32 × Wd) => some (.int r.1)) r) ((fun (r : Int32 × Wd) => r.2) r)
set_option maxRecDepth 20000 in
set_option maxHeartbeats 4000000 in
theorem mL_refusal {l : Launch} (hf9 : l.stackTraces = false) {G : Gy} {F : Fr} (N : Nat) {w : Wd} {l0 : Nat} {l1 : Int32} {l2 : Nat} {r : Int32 × Wd} (ol0 : okF F l0 8) (ol2 : okF F l2 12) (hcm : F.2.2.2.2 = false) (e9 : fL_refusal F N w l0 l1 l2 = some r) : Met l yL_refusal [.codeWith yL_refusal cL_refusal 4 (some .int) [(0, 9, 12, 64)]] rmL_refusal (PcL G F w [.ref l0, .int l1, .ref l2]) (QB G F ((fun (r : Int32 × Wd) => some (.int r.1)) r) ((fun (r : Int32 × Wd) => r.2) r)) 1 6 (AF F) := by
  refine bd_metH (vs := fun (r : Int32 × Wd) => some (.int r.1)) (wf := fun (r : Int32 × Wd) => r.2) hf9 (by decide) (Nat.le_of_ble_eq_true rfl) e9 (fun g C hret hxt hNC => ?_)
  clear e9 r
  unfold fL_refusal
  refine bd_sub (lv' := [(0, .ref l0), (1, .int l1), (2, .ref l2)]) ?_ [0, 1, 2] rfl
  refine bd_aload_n C 2 dL_refusal_0 rfl rfl ?_
  refine bd_iconst C (v := 0) dL_refusal_1 (by decide) ?_
  refine bd_aload_n C 0 dL_refusal_2 rfl rfl ?_
  refine bd_iload_n C 1 dL_refusal_3 rfl rfl ?_
  refine bd_callX (vx := vxint) (mk := Value.int) (kk := 8) (st := [.int 0, .ref l2]) C (fun _ => rfl) (fun _ => rfl) [.int l1] (fun r9 e9 => mX8_refusal C.flag N ol0 hcm e9) mwX8_refusal miX8_refusal wd_923 ol0 (by decide) rfl rfl rfl (Nat.le_of_ble_eq_true rfl) dL_refusal_4 ⟨rfl, rfl, Nat.le_of_ble_eq_true rfl, Nat.le_of_ble_eq_true rfl, Nat.le_of_ble_eq_true rfl, Nat.le_of_ble_eq_true rfl⟩ (fun p1 => ?_) (fun e2 => ?_)
  · refine bd_i2l C dL_refusal_7 ?_
    refine bd_last C dL_refusal_8 ol2 (fun w3 => ?_)
    refine bd_goto C 15 dL_refusal_9 (by decide) ?_
    refine bd_iconst C (v := 0) dL_refusal_15 (by decide) ?_
    exact bd_iret C hret rfl _ _ rfl rfl dL_refusal_16 (Nat.le_of_ble_eq_true rfl) (Nat.le_of_ble_eq_true rfl)
  · refine bdt_ite (fun c4 => ?_) (fun c4 => ?_)
    · refine bdt_catch C hNC hxt (e := 4) (by decide) (by rw [c4]) [] ⟨0, 9, 12, 64⟩ [] rfl (fun _ h => absurd h List.not_mem_nil) (by decide) (by decide) wd_889 wd_896 (fun q9 => ?_)
      refine bd_astore_n C [(3, .ref q9), (0, .ref l0), (1, .int l1), (2, .ref l2)] dL_refusal_12 rfl (by decide) rfl ?_
      refine bd_iconst C (v := 1) dL_refusal_13 (by decide) ?_
      exact bd_iret C hret rfl _ _ rfl rfl dL_refusal_14 (Nat.le_of_ble_eq_true rfl) (Nat.le_of_ble_eq_true rfl)
    · exact bdt_none
theorem mwL_refusal : MWH yL_refusal cL_refusal 4 (some .int) [(0, 9, 12, 64)] 3 := ⟨wd_922, wd_84, by decide, by decide +kernel, wd_921⟩
abbrev rmL_aligned : Room := { frames := 16, cells := 1, slots := 6, locals := 446 }
abbrev qL_aligned (G : Gy) (F : Fr) (g : Bd) : (Int32 × Wd) → State → Prop := fun r => QM G F g 1 6 ((fun (r : Int32 × Wd) => some (.int r.1)) r) ((fun (r : Int32 × Wd) => r.2) r)
set_option maxRecDepth 20000 in
set_option maxHeartbeats 4000000 in
theorem mL_aligned {l : Launch} (hf9 : l.stackTraces = false) {G : Gy} {F : Fr} (N : Nat) {w : Wd} {l0 : Nat} {l1 : Int32} {l2 : Int32} {l3 : Int32} {l4 : Nat} {r : Int32 × Wd} (ol0 : okF F l0 8) (ol4 : okF F l4 12) (hcm : F.2.2.2.2 = false) (e9 : fL_aligned F N w l0 l1 l2 l3 l4 = some r) : Met l yL_aligned [.codeWith yL_aligned cL_aligned 6 (some .int) [(0, 12, 15, 15)]] rmL_aligned (PcL G F w [.ref l0, .int l1, .int l2, .int l3, .ref l4]) (QB G F ((fun (r : Int32 × Wd) => some (.int r.1)) r) ((fun (r : Int32 × Wd) => r.2) r)) 1 6 (AF F) := by
  refine bd_metH (vs := fun (r : Int32 × Wd) => some (.int r.1)) (wf := fun (r : Int32 × Wd) => r.2) hf9 (by decide) (Nat.le_of_ble_eq_true rfl) e9 (fun g C hret hxt hNC => ?_)
  clear e9 r
  unfold fL_aligned
  refine bd_sub (lv' := [(0, .ref l0), (1, .int l1), (2, .int l2), (3, .int l3), (4, .ref l4)]) ?_ [0, 1, 2, 3, 4] rfl
  refine bd_aload C 4 dL_aligned_0 rfl ?_
  refine bd_iconst C (v := 0) dL_aligned_2 (by decide) ?_
  refine bd_aload_n C 0 dL_aligned_3 rfl rfl ?_
  refine bd_iload_n C 1 dL_aligned_4 rfl rfl ?_
  refine bd_iload_n C 2 dL_aligned_5 rfl rfl ?_
  refine bd_iload_n C 3 dL_aligned_6 rfl rfl ?_
  refine bd_callX (vx := vxint) (mk := Value.int) (kk := 8) (st := [.int 0, .ref l4]) C (fun _ => rfl) (fun _ => rfl) [.int l1, .int l2, .int l3] (fun r9 e9 => mX8_aligned C.flag N ol0 hcm e9) mwX8_aligned miX8_aligned wd_930 ol0 (by decide) rfl rfl rfl (Nat.le_of_ble_eq_true rfl) dL_aligned_7 ⟨rfl, rfl, Nat.le_of_ble_eq_true rfl, Nat.le_of_ble_eq_true rfl, Nat.le_of_ble_eq_true rfl, Nat.le_of_ble_eq_true rfl⟩ (fun p1 => ?_) (fun e2 => ?_)
  · refine bd_i2l C dL_aligned_10 ?_
    refine bd_last C dL_aligned_11 ol4 (fun w3 => ?_)
    refine bd_goto C 19 dL_aligned_12 (by decide) ?_
    refine bd_iconst C (v := 0) dL_aligned_19 (by decide) ?_
    exact bd_iret C hret rfl _ _ rfl rfl dL_aligned_20 (Nat.le_of_ble_eq_true rfl) (Nat.le_of_ble_eq_true rfl)
  · refine bdt_ite (fun c4 => ?_) (fun c4 => ?_)
    · refine bdt_catch C hNC hxt (e := 1) (by decide) (by rw [c4]) [] ⟨0, 12, 15, 15⟩ [] rfl (fun _ h => absurd h List.not_mem_nil) (by decide) (by decide) wd_479 wd_591 (fun q9 => ?_)
      refine bd_astore C [(5, .ref q9), (0, .ref l0), (1, .int l1), (2, .int l2), (3, .int l3), (4, .ref l4)] dL_aligned_15 (by decide) rfl ?_
      refine bd_iconst C (v := 1) dL_aligned_17 (by decide) ?_
      exact bd_iret C hret rfl _ _ rfl rfl dL_aligned_18 (Nat.le_of_ble_eq_true rfl) (Nat.le_of_ble_eq_true rfl)
    · exact bdt_none
theorem mwL_aligned : MWH yL_aligned cL_aligned 6 (some .int) [(0, 12, 15, 15)] 5 := ⟨wd_929, wd_84, by decide, by decide +kernel, wd_928⟩
abbrev rmL_alignment : Room := { frames := 16, cells := 1, slots := 6, locals := 446 }
abbrev qL_alignment (G : Gy) (F : Fr) (g : Bd) : (Int32 × Wd) → State → Prop := fun r => QM G F g 1 6 ((fun (r : Int32 × Wd) => some (.int r.1)) r) ((fun (r : Int32 × Wd) => r.2) r)
set_option maxRecDepth 20000 in
set_option maxHeartbeats 4000000 in
theorem mL_alignment {l : Launch} (hf9 : l.stackTraces = false) {G : Gy} {F : Fr} (N : Nat) {w : Wd} {l0 : Nat} {l1 : Int32} {l2 : Int32} {l3 : Int32} {l4 : Nat} {r : Int32 × Wd} (ol0 : okF F l0 8) (ol4 : okF F l4 12) (hcm : F.2.2.2.2 = false) (e9 : fL_alignment F N w l0 l1 l2 l3 l4 = some r) : Met l yL_alignment [.codeWith yL_alignment cL_alignment 6 (some .int) [(0, 12, 15, 15)]] rmL_alignment (PcL G F w [.ref l0, .int l1, .int l2, .int l3, .ref l4]) (QB G F ((fun (r : Int32 × Wd) => some (.int r.1)) r) ((fun (r : Int32 × Wd) => r.2) r)) 1 6 (AF F) := by
  refine bd_metH (vs := fun (r : Int32 × Wd) => some (.int r.1)) (wf := fun (r : Int32 × Wd) => r.2) hf9 (by decide) (Nat.le_of_ble_eq_true rfl) e9 (fun g C hret hxt hNC => ?_)
  clear e9 r
  unfold fL_alignment
  refine bd_sub (lv' := [(0, .ref l0), (1, .int l1), (2, .int l2), (3, .int l3), (4, .ref l4)]) ?_ [0, 1, 2, 3, 4] rfl
  refine bd_aload C 4 dL_alignment_0 rfl ?_
  refine bd_iconst C (v := 0) dL_alignment_2 (by decide) ?_
  refine bd_aload_n C 0 dL_alignment_3 rfl rfl ?_
  refine bd_iload_n C 1 dL_alignment_4 rfl rfl ?_
  refine bd_iload_n C 2 dL_alignment_5 rfl rfl ?_
  refine bd_iload_n C 3 dL_alignment_6 rfl rfl ?_
  refine bd_callX (vx := vxint) (mk := Value.int) (kk := 8) (st := [.int 0, .ref l4]) C (fun _ => rfl) (fun _ => rfl) [.int l1, .int l2, .int l3] (fun r9 e9 => mX8_alignment C.flag N ol0 hcm e9) mwX8_alignment miX8_alignment wd_970 ol0 (by decide) rfl rfl rfl (Nat.le_of_ble_eq_true rfl) dL_alignment_7 ⟨rfl, rfl, Nat.le_of_ble_eq_true rfl, Nat.le_of_ble_eq_true rfl, Nat.le_of_ble_eq_true rfl, Nat.le_of_ble_eq_true rfl⟩ (fun p1 => ?_) (fun e2 => ?_)
  · refine bd_i2l C dL_alignment_10 ?_
    refine bd_last C dL_alignment_11 ol4 (fun w3 => ?_)
    refine bd_goto C 19 dL_alignment_12 (by decide) ?_
    refine bd_iconst C (v := 0) dL_alignment_19 (by decide) ?_
    exact bd_iret C hret rfl _ _ rfl rfl dL_alignment_20 (Nat.le_of_ble_eq_true rfl) (Nat.le_of_ble_eq_true rfl)
  · refine bdt_ite (fun c4 => ?_) (fun c4 => ?_)
    · refine bdt_catch C hNC hxt (e := 1) (by decide) (by rw [c4]) [] ⟨0, 12, 15, 15⟩ [] rfl (fun _ h => absurd h List.not_mem_nil) (by decide) (by decide) wd_479 wd_591 (fun q9 => ?_)
      refine bd_astore C [(5, .ref q9), (0, .ref l0), (1, .int l1), (2, .int l2), (3, .int l3), (4, .ref l4)] dL_alignment_15 (by decide) rfl ?_
      refine bd_iconst C (v := 1) dL_alignment_17 (by decide) ?_
      exact bd_iret C hret rfl _ _ rfl rfl dL_alignment_18 (Nat.le_of_ble_eq_true rfl) (Nat.le_of_ble_eq_true rfl)
    · exact bdt_none
theorem mwL_alignment : MWH yL_alignment cL_alignment 6 (some .int) [(0, 12, 15, 15)] 5 := ⟨wd_969, wd_84, by decide, by decide +kernel, wd_968⟩
abbrev rmL_search : Room := { frames := 17, cells := 1, slots := 6, locals := 459 }
abbrev qL_search (G : Gy) (F : Fr) (g : Bd) : (Int32 × Wd) → State → Prop := fun r => QM G F g 1 6 ((fun (r : Int32 × Wd) => some (.int r.1)) r) ((fun (r : Int32 × Wd) => r.2) r)
set_option maxRecDepth 20000 in
set_option maxHeartbeats 4000000 in
theorem mL_search {l : Launch} (hf9 : l.stackTraces = false) {G : Gy} {F : Fr} (N : Nat) {w : Wd} {l0 : Nat} {l1 : Nat} {r : Int32 × Wd} (ol0 : okF F l0 8) (ol1 : okF F l1 12) (hcm : F.2.2.2.2 = false) (e9 : fL_search F N w l0 l1 = some r) : Met l yL_search [.codeWith yL_search cL_search 3 (some .int) [(0, 8, 11, 13)]] rmL_search (PcL G F w [.ref l0, .ref l1]) (QB G F ((fun (r : Int32 × Wd) => some (.int r.1)) r) ((fun (r : Int32 × Wd) => r.2) r)) 1 6 (AF F) := by
  refine bd_metH (vs := fun (r : Int32 × Wd) => some (.int r.1)) (wf := fun (r : Int32 × Wd) => r.2) hf9 (by decide) (Nat.le_of_ble_eq_true rfl) e9 (fun g C hret hxt hNC => ?_)
  clear e9 r
  unfold fL_search
  refine bd_sub (lv' := [(0, .ref l0), (1, .ref l1)]) ?_ [0, 1] rfl
  refine bd_aload_n C 1 dL_search_0 rfl rfl ?_
  refine bd_iconst C (v := 0) dL_search_1 (by decide) ?_
  refine bd_aload_n C 0 dL_search_2 rfl rfl ?_
  refine bd_callX (vx := vxint) (mk := Value.int) (kk := 8) (st := [.int 0, .ref l1]) C (fun _ => rfl) (fun _ => rfl) [] (fun r9 e9 => mX8_search C.flag N ol0 hcm e9) mwX8_search miX8_search wd_977 ol0 (by decide) rfl rfl rfl (Nat.le_of_ble_eq_true rfl) dL_search_3 ⟨rfl, rfl, Nat.le_of_ble_eq_true rfl, Nat.le_of_ble_eq_true rfl, Nat.le_of_ble_eq_true rfl, Nat.le_of_ble_eq_true rfl⟩ (fun p1 => ?_) (fun e2 => ?_)
  · refine bd_i2l C dL_search_6 ?_
    refine bd_last C dL_search_7 ol1 (fun w3 => ?_)
    refine bd_goto C 14 dL_search_8 (by decide) ?_
    refine bd_iconst C (v := 0) dL_search_14 (by decide) ?_
    exact bd_iret C hret rfl _ _ rfl rfl dL_search_15 (Nat.le_of_ble_eq_true rfl) (Nat.le_of_ble_eq_true rfl)
  · refine bdt_ite (fun c4 => ?_) (fun c4 => ?_)
    · refine bdt_catch C hNC hxt (e := 0) (by decide) (by rw [c4]) [] ⟨0, 8, 11, 13⟩ [] rfl (fun _ h => absurd h List.not_mem_nil) (by decide) (by decide) wd_478 wd_566 (fun q9 => ?_)
      refine bd_astore_n C [(2, .ref q9), (0, .ref l0), (1, .ref l1)] dL_search_11 rfl (by decide) rfl ?_
      refine bd_iconst C (v := 1) dL_search_12 (by decide) ?_
      exact bd_iret C hret rfl _ _ rfl rfl dL_search_13 (Nat.le_of_ble_eq_true rfl) (Nat.le_of_ble_eq_true rfl)
    · exact bdt_none
theorem mwL_search : MWH yL_search cL_search 3 (some .int) [(0, 8, 11, 13)] 2 := ⟨wd_976, wd_84, by decide, by decide +kernel, wd_975⟩
abbrev rmL_match : Room := { frames := 16, cells := 1, slots := 6, locals := 444 }
abbrev qL_match (G : Gy) (F : Fr) (g : Bd) : (Int32 × Wd) → State → Prop := fun r => QM G F g 1 6 ((fun (r : Int32 × Wd) => some (.int r.1)) r) ((fun (r : Int32 × Wd) => r.2) r)
set_option maxRecDepth 20000 in
set_option maxHeartbeats 4000000 in
theorem mL_match {l : Launch} (hf9 : l.stackTraces = false) {G : Gy} {F : Fr} (N : Nat) {w : Wd} {l0 : Nat} {l1 : Int32} {l2 : Int32} {l3 : Nat} {r : Int32 × Wd} (ol0 : okF F l0 8) (ol3 : okF F l3 12) (hcm : F.2.2.2.2 = false) (e9 : fL_match F N w l0 l1 l2 l3 = some r) : Met l yL_match [.codeWith yL_match cL_match 5 (some .int) [(0, 10, 13, 17), (0, 10, 17, 64)]] rmL_match (PcL G F w [.ref l0, .int l1, .int l2, .ref l3]) (QB G F ((fun (r : Int32 × Wd) => some (.int r.1)) r) ((fun (r : Int32 × Wd) => r.2) r)) 1 6 (AF F) := by
  refine bd_metH (vs := fun (r : Int32 × Wd) => some (.int r.1)) (wf := fun (r : Int32 × Wd) => r.2) hf9 (by decide) (Nat.le_of_ble_eq_true rfl) e9 (fun g C hret hxt hNC => ?_)
  clear e9 r
  unfold fL_match
  refine bd_sub (lv' := [(0, .ref l0), (1, .int l1), (2, .int l2), (3, .ref l3)]) ?_ [0, 1, 2, 3] rfl
  refine bd_aload_n C 3 dL_match_0 rfl rfl ?_
  refine bd_iconst C (v := 0) dL_match_1 (by decide) ?_
  refine bd_aload_n C 0 dL_match_2 rfl rfl ?_
  refine bd_iload_n C 1 dL_match_3 rfl rfl ?_
  refine bd_iload_n C 2 dL_match_4 rfl rfl ?_
  refine bd_callX (vx := vxint) (mk := Value.int) (kk := 8) (st := [.int 0, .ref l3]) C (fun _ => rfl) (fun _ => rfl) [.int l1, .int l2] (fun r9 e9 => mX8_match C.flag N ol0 hcm e9) mwX8_match miX8_match wd_1039 ol0 (by decide) rfl rfl rfl (Nat.le_of_ble_eq_true rfl) dL_match_5 ⟨rfl, rfl, Nat.le_of_ble_eq_true rfl, Nat.le_of_ble_eq_true rfl, Nat.le_of_ble_eq_true rfl, Nat.le_of_ble_eq_true rfl⟩ (fun p1 => ?_) (fun e2 => ?_)
  · refine bd_i2l C dL_match_8 ?_
    refine bd_last C dL_match_9 ol3 (fun w3 => ?_)
    refine bd_goto C 21 dL_match_10 (by decide) ?_
    refine bd_iconst C (v := 0) dL_match_21 (by decide) ?_
    exact bd_iret C hret rfl _ _ rfl rfl dL_match_22 (Nat.le_of_ble_eq_true rfl) (Nat.le_of_ble_eq_true rfl)
  · refine bdt_ite (fun c5 => ?_) (fun c5 => ?_)
    · refine bdt_catch C hNC hxt (e := 2) (by decide) (by rw [c5]) [] ⟨0, 10, 13, 17⟩ [⟨0, 10, 17, 64⟩] rfl (fun _ h => absurd h List.not_mem_nil) (by decide) (by decide) wd_559 wd_606 (fun q9 => ?_)
      refine bd_astore C [(4, .ref q9), (0, .ref l0), (1, .int l1), (2, .int l2), (3, .ref l3)] dL_match_13 (by decide) rfl ?_
      refine bd_iconst C (v := 1) dL_match_15 (by decide) ?_
      exact bd_iret C hret rfl _ _ rfl rfl dL_match_16 (Nat.le_of_ble_eq_true rfl) (Nat.le_of_ble_eq_true rfl)
    · refine bdt_ite (fun c4 => ?_) (fun c4 => ?_)
      · refine bdt_catch C hNC hxt (e := 4) (by decide) (by rw [c4]) [⟨0, 10, 13, 17⟩] ⟨0, 10, 17, 64⟩ [] rfl (List.forall_mem_cons.mpr ⟨⟨by decide, 2, by decide, by decide, wd_559⟩, (fun _ h => absurd h List.not_mem_nil)⟩) (by decide) (by decide) wd_889 wd_896 (fun q9 => ?_)
        refine bd_astore C [(4, .ref q9), (0, .ref l0), (1, .int l1), (2, .int l2), (3, .ref l3)] dL_match_17 (by decide) rfl ?_
        refine bd_iconst C (v := 2) dL_match_19 (by decide) ?_
        exact bd_iret C hret rfl _ _ rfl rfl dL_match_20 (Nat.le_of_ble_eq_true rfl) (Nat.le_of_ble_eq_true rfl)
      · exact bdt_none
theorem mwL_match : MWH yL_match cL_match 5 (some .int) [(0, 10, 13, 17), (0, 10, 17, 64)] 4 := ⟨wd_1038, wd_84, by decide, by decide +kernel, wd_1037⟩
abbrev rmL_merge : Room := { frames := 15, cells := 1, slots := 6, locals := 416 }
abbrev qL_merge (G : Gy) (F : Fr) (g : Bd) : (Int32 × Wd) → State → Prop := fun r => QM G F g 1 6 ((fun (r : Int32 × Wd) => some (.int r.1)) r) ((fun (r : Int32 × Wd) => r.2) r)
set_option maxRecDepth 20000 in
set_option maxHeartbeats 4000000 in
theorem mL_merge {l : Launch} (hf9 : l.stackTraces = false) {G : Gy} {F : Fr} (N : Nat) {w : Wd} {l0 : Nat} {l1 : Int32} {l2 : Int32} {l3 : Nat} {r : Int32 × Wd} (ol0 : okF F l0 8) (ol3 : okF F l3 12) (hcm : F.2.2.2.2 = false) (e9 : fL_merge F N w l0 l1 l2 l3 = some r) : Met l yL_merge [.codeWith yL_merge cL_merge 5 (some .int) [(0, 10, 13, 15), (0, 10, 17, 13)]] rmL_merge (PcL G F w [.ref l0, .int l1, .int l2, .ref l3]) (QB G F ((fun (r : Int32 × Wd) => some (.int r.1)) r) ((fun (r : Int32 × Wd) => r.2) r)) 1 6 (AF F) := by
  refine bd_metH (vs := fun (r : Int32 × Wd) => some (.int r.1)) (wf := fun (r : Int32 × Wd) => r.2) hf9 (by decide) (Nat.le_of_ble_eq_true rfl) e9 (fun g C hret hxt hNC => ?_)
  clear e9 r
  unfold fL_merge
  refine bd_sub (lv' := [(0, .ref l0), (1, .int l1), (2, .int l2), (3, .ref l3)]) ?_ [0, 1, 2, 3] rfl
  refine bd_aload_n C 3 dL_merge_0 rfl rfl ?_
  refine bd_iconst C (v := 0) dL_merge_1 (by decide) ?_
  refine bd_aload_n C 0 dL_merge_2 rfl rfl ?_
  refine bd_iload_n C 1 dL_merge_3 rfl rfl ?_
  refine bd_iload_n C 2 dL_merge_4 rfl rfl ?_
  refine bd_callX (vx := vxint) (mk := Value.int) (kk := 8) (st := [.int 0, .ref l3]) C (fun _ => rfl) (fun _ => rfl) [.int l1, .int l2] (fun r9 e9 => mX8_merge C.flag N ol0 hcm e9) mwX8_merge miX8_merge wd_1050 ol0 (by decide) rfl rfl rfl (Nat.le_of_ble_eq_true rfl) dL_merge_5 ⟨rfl, rfl, Nat.le_of_ble_eq_true rfl, Nat.le_of_ble_eq_true rfl, Nat.le_of_ble_eq_true rfl, Nat.le_of_ble_eq_true rfl⟩ (fun p1 => ?_) (fun e2 => ?_)
  · refine bd_i2l C dL_merge_8 ?_
    refine bd_last C dL_merge_9 ol3 (fun w3 => ?_)
    refine bd_goto C 21 dL_merge_10 (by decide) ?_
    refine bd_iconst C (v := 0) dL_merge_21 (by decide) ?_
    exact bd_iret C hret rfl _ _ rfl rfl dL_merge_22 (Nat.le_of_ble_eq_true rfl) (Nat.le_of_ble_eq_true rfl)
  · refine bdt_ite (fun c5 => ?_) (fun c5 => ?_)
    · refine bdt_catch C hNC hxt (e := 1) (by decide) (by rw [c5]) [] ⟨0, 10, 13, 15⟩ [⟨0, 10, 17, 13⟩] rfl (fun _ h => absurd h List.not_mem_nil) (by decide) (by decide) wd_479 wd_591 (fun q9 => ?_)
      refine bd_astore C [(4, .ref q9), (0, .ref l0), (1, .int l1), (2, .int l2), (3, .ref l3)] dL_merge_13 (by decide) rfl ?_
      refine bd_iconst C (v := 1) dL_merge_15 (by decide) ?_
      exact bd_iret C hret rfl _ _ rfl rfl dL_merge_16 (Nat.le_of_ble_eq_true rfl) (Nat.le_of_ble_eq_true rfl)
    · refine bdt_ite (fun c4 => ?_) (fun c4 => ?_)
      · refine bdt_catch C hNC hxt (e := 0) (by decide) (by rw [c4]) [⟨0, 10, 13, 15⟩] ⟨0, 10, 17, 13⟩ [] rfl (List.forall_mem_cons.mpr ⟨⟨by decide, 1, by decide, by decide, wd_479⟩, (fun _ h => absurd h List.not_mem_nil)⟩) (by decide) (by decide) wd_478 wd_566 (fun q9 => ?_)
        refine bd_astore C [(4, .ref q9), (0, .ref l0), (1, .int l1), (2, .int l2), (3, .ref l3)] dL_merge_17 (by decide) rfl ?_
        refine bd_iconst C (v := 2) dL_merge_19 (by decide) ?_
        exact bd_iret C hret rfl _ _ rfl rfl dL_merge_20 (Nat.le_of_ble_eq_true rfl) (Nat.le_of_ble_eq_true rfl)
      · exact bdt_none
theorem mwL_merge : MWH yL_merge cL_merge 5 (some .int) [(0, 10, 13, 15), (0, 10, 17, 13)] 4 := ⟨wd_1049, wd_84, by decide, by decide +kernel, wd_1048⟩
abbrev rmL_merged : Room := { frames := 15, cells := 1, slots := 6, locals := 417 }
abbrev qL_merged (G : Gy) (F : Fr) (g : Bd) : (Int32 × Wd) → State → Prop := fun r => QM G F g 1 6 ((fun (r : Int32 × Wd) => some (.int r.1)) r) ((fun (r : Int32 × Wd) => r.2) r)
set_option maxRecDepth 20000 in
set_option maxHeartbeats 4000000 in
theorem mL_merged {l : Launch} (hf9 : l.stackTraces = false) {G : Gy} {F : Fr} (N : Nat) {w : Wd} {l0 : Nat} {l1 : Int32} {l2 : Int32} {l3 : Int32} {l4 : Nat} {r : Int32 × Wd} (ol0 : okF F l0 8) (ol4 : okF F l4 12) (hcm : F.2.2.2.2 = false) (e9 : fL_merged F N w l0 l1 l2 l3 l4 = some r) : Met l yL_merged [.codeWith yL_merged cL_merged 6 (some .int) [(0, 12, 15, 15), (0, 12, 19, 64), (0, 12, 23, 13)]] rmL_merged (PcL G F w [.ref l0, .int l1, .int l2, .int l3, .ref l4]) (QB G F ((fun (r : Int32 × Wd) => some (.int r.1)) r) ((fun (r : Int32 × Wd) => r.2) r)) 1 6 (AF F) := by
  refine bd_metH (vs := fun (r : Int32 × Wd) => some (.int r.1)) (wf := fun (r : Int32 × Wd) => r.2) hf9 (by decide) (Nat.le_of_ble_eq_true rfl) e9 (fun g C hret hxt hNC => ?_)
  clear e9 r
  unfold fL_merged
  refine bd_sub (lv' := [(0, .ref l0), (1, .int l1), (2, .int l2), (3, .int l3), (4, .ref l4)]) ?_ [0, 1, 2, 3, 4] rfl
  refine bd_aload C 4 dL_merged_0 rfl ?_
  refine bd_iconst C (v := 0) dL_merged_2 (by decide) ?_
  refine bd_aload_n C 0 dL_merged_3 rfl rfl ?_
  refine bd_iload_n C 1 dL_merged_4 rfl rfl ?_
  refine bd_iload_n C 2 dL_merged_5 rfl rfl ?_
  refine bd_iload_n C 3 dL_merged_6 rfl rfl ?_
  refine bd_callX (vx := vxint) (mk := Value.int) (kk := 8) (st := [.int 0, .ref l4]) C (fun _ => rfl) (fun _ => rfl) [.int l1, .int l2, .int l3] (fun r9 e9 => mX8_merged C.flag N ol0 hcm e9) mwX8_merged miX8_merged wd_1100 ol0 (by decide) rfl rfl rfl (Nat.le_of_ble_eq_true rfl) dL_merged_7 ⟨rfl, rfl, Nat.le_of_ble_eq_true rfl, Nat.le_of_ble_eq_true rfl, Nat.le_of_ble_eq_true rfl, Nat.le_of_ble_eq_true rfl⟩ (fun p1 => ?_) (fun e2 => ?_)
  · refine bd_i2l C dL_merged_10 ?_
    refine bd_last C dL_merged_11 ol4 (fun w3 => ?_)
    refine bd_goto C 27 dL_merged_12 (by decide) ?_
    refine bd_iconst C (v := 0) dL_merged_27 (by decide) ?_
    exact bd_iret C hret rfl _ _ rfl rfl dL_merged_28 (Nat.le_of_ble_eq_true rfl) (Nat.le_of_ble_eq_true rfl)
  · refine bdt_ite (fun c6 => ?_) (fun c6 => ?_)
    · refine bdt_catch C hNC hxt (e := 1) (by decide) (by rw [c6]) [] ⟨0, 12, 15, 15⟩ [⟨0, 12, 19, 64⟩, ⟨0, 12, 23, 13⟩] rfl (fun _ h => absurd h List.not_mem_nil) (by decide) (by decide) wd_479 wd_591 (fun q9 => ?_)
      refine bd_astore C [(5, .ref q9), (0, .ref l0), (1, .int l1), (2, .int l2), (3, .int l3), (4, .ref l4)] dL_merged_15 (by decide) rfl ?_
      refine bd_iconst C (v := 1) dL_merged_17 (by decide) ?_
      exact bd_iret C hret rfl _ _ rfl rfl dL_merged_18 (Nat.le_of_ble_eq_true rfl) (Nat.le_of_ble_eq_true rfl)
    · refine bdt_ite (fun c5 => ?_) (fun c5 => ?_)
      · refine bdt_catch C hNC hxt (e := 4) (by decide) (by rw [c5]) [⟨0, 12, 15, 15⟩] ⟨0, 12, 19, 64⟩ [⟨0, 12, 23, 13⟩] rfl (List.forall_mem_cons.mpr ⟨⟨by decide, 1, by decide, by decide, wd_479⟩, (fun _ h => absurd h List.not_mem_nil)⟩) (by decide) (by decide) wd_889 wd_896 (fun q9 => ?_)
        refine bd_astore C [(5, .ref q9), (0, .ref l0), (1, .int l1), (2, .int l2), (3, .int l3), (4, .ref l4)] dL_merged_19 (by decide) rfl ?_
        refine bd_iconst C (v := 2) dL_merged_21 (by decide) ?_
        exact bd_iret C hret rfl _ _ rfl rfl dL_merged_22 (Nat.le_of_ble_eq_true rfl) (Nat.le_of_ble_eq_true rfl)
      · refine bdt_ite (fun c4 => ?_) (fun c4 => ?_)
        · refine bdt_catch C hNC hxt (e := 0) (by decide) (by rw [c4]) [⟨0, 12, 15, 15⟩, ⟨0, 12, 19, 64⟩] ⟨0, 12, 23, 13⟩ [] rfl (List.forall_mem_cons.mpr ⟨⟨by decide, 1, by decide, by decide, wd_479⟩, (List.forall_mem_cons.mpr ⟨⟨by decide, 4, by decide, by decide, wd_889⟩, (fun _ h => absurd h List.not_mem_nil)⟩)⟩) (by decide) (by decide) wd_478 wd_566 (fun q9 => ?_)
          refine bd_astore C [(5, .ref q9), (0, .ref l0), (1, .int l1), (2, .int l2), (3, .int l3), (4, .ref l4)] dL_merged_23 (by decide) rfl ?_
          refine bd_iconst C (v := 3) dL_merged_25 (by decide) ?_
          exact bd_iret C hret rfl _ _ rfl rfl dL_merged_26 (Nat.le_of_ble_eq_true rfl) (Nat.le_of_ble_eq_true rfl)
        · exact bdt_none
theorem mwL_merged : MWH yL_merged cL_merged 6 (some .int) [(0, 12, 15, 15), (0, 12, 19, 64), (0, 12, 23, 13)] 5 := ⟨wd_1099, wd_84, by decide, by decide +kernel, wd_1098⟩
abbrev rmL_frames : Room := { frames := 15, cells := 1, slots := 6, locals := 409 }
abbrev qL_frames (G : Gy) (F : Fr) (g : Bd) : (Int32 × Wd) → State → Prop := fun r => QM G F g 1 6 ((fun (r : Int32 × Wd) => some (.int r.1)) r) ((fun (r : Int32 × Wd) => r.2) r)
set_option maxRecDepth 20000 in
set_option maxHeartbeats 4000000 in
theorem mL_frames {l : Launch} (hf9 : l.stackTraces = false) {G : Gy} {F : Fr} (N : Nat) {w : Wd} {l0 : Nat} {l1 : Int32} {l2 : Int32} {l3 : Nat} {r : Int32 × Wd} (ol0 : okF F l0 8) (ol3 : okF F l3 12) (hcm : F.2.2.2.2 = false) (e9 : fL_frames F N w l0 l1 l2 l3 = some r) : Met l yL_frames [.codeWith yL_frames cL_frames 5 (some .int) [(0, 10, 13, 15), (0, 10, 17, 13)]] rmL_frames (PcL G F w [.ref l0, .int l1, .int l2, .ref l3]) (QB G F ((fun (r : Int32 × Wd) => some (.int r.1)) r) ((fun (r : Int32 × Wd) => r.2) r)) 1 6 (AF F) := by
  refine bd_metH (vs := fun (r : Int32 × Wd) => some (.int r.1)) (wf := fun (r : Int32 × Wd) => r.2) hf9 (by decide) (Nat.le_of_ble_eq_true rfl) e9 (fun g C hret hxt hNC => ?_)
  clear e9 r
  unfold fL_frames
  refine bd_sub (lv' := [(0, .ref l0), (1, .int l1), (2, .int l2), (3, .ref l3)]) ?_ [0, 1, 2, 3] rfl
  refine bd_aload_n C 3 dL_frames_0 rfl rfl ?_
  refine bd_iconst C (v := 0) dL_frames_1 (by decide) ?_
  refine bd_aload_n C 0 dL_frames_2 rfl rfl ?_
  refine bd_iload_n C 1 dL_frames_3 rfl rfl ?_
  refine bd_iload_n C 2 dL_frames_4 rfl rfl ?_
  refine bd_callX (vx := vxint) (mk := Value.int) (kk := 8) (st := [.int 0, .ref l3]) C (fun _ => rfl) (fun _ => rfl) [.int l1, .int l2] (fun r9 e9 => mX8_frames C.flag N ol0 hcm e9) mwX8_frames miX8_frames wd_1112 ol0 (by decide) rfl rfl rfl (Nat.le_of_ble_eq_true rfl) dL_frames_5 ⟨rfl, rfl, Nat.le_of_ble_eq_true rfl, Nat.le_of_ble_eq_true rfl, Nat.le_of_ble_eq_true rfl, Nat.le_of_ble_eq_true rfl⟩ (fun p1 => ?_) (fun e2 => ?_)
  · refine bd_i2l C dL_frames_8 ?_
    refine bd_last C dL_frames_9 ol3 (fun w3 => ?_)
    refine bd_goto C 21 dL_frames_10 (by decide) ?_
    refine bd_iconst C (v := 0) dL_frames_21 (by decide) ?_
    exact bd_iret C hret rfl _ _ rfl rfl dL_frames_22 (Nat.le_of_ble_eq_true rfl) (Nat.le_of_ble_eq_true rfl)
  · refine bdt_ite (fun c5 => ?_) (fun c5 => ?_)
    · refine bdt_catch C hNC hxt (e := 1) (by decide) (by rw [c5]) [] ⟨0, 10, 13, 15⟩ [⟨0, 10, 17, 13⟩] rfl (fun _ h => absurd h List.not_mem_nil) (by decide) (by decide) wd_479 wd_591 (fun q9 => ?_)
      refine bd_astore C [(4, .ref q9), (0, .ref l0), (1, .int l1), (2, .int l2), (3, .ref l3)] dL_frames_13 (by decide) rfl ?_
      refine bd_iconst C (v := 1) dL_frames_15 (by decide) ?_
      exact bd_iret C hret rfl _ _ rfl rfl dL_frames_16 (Nat.le_of_ble_eq_true rfl) (Nat.le_of_ble_eq_true rfl)
    · refine bdt_ite (fun c4 => ?_) (fun c4 => ?_)
      · refine bdt_catch C hNC hxt (e := 0) (by decide) (by rw [c4]) [⟨0, 10, 13, 15⟩] ⟨0, 10, 17, 13⟩ [] rfl (List.forall_mem_cons.mpr ⟨⟨by decide, 1, by decide, by decide, wd_479⟩, (fun _ h => absurd h List.not_mem_nil)⟩) (by decide) (by decide) wd_478 wd_566 (fun q9 => ?_)
        refine bd_astore C [(4, .ref q9), (0, .ref l0), (1, .int l1), (2, .int l2), (3, .ref l3)] dL_frames_17 (by decide) rfl ?_
        refine bd_iconst C (v := 2) dL_frames_19 (by decide) ?_
        exact bd_iret C hret rfl _ _ rfl rfl dL_frames_20 (Nat.le_of_ble_eq_true rfl) (Nat.le_of_ble_eq_true rfl)
      · exact bdt_none
theorem mwL_frames : MWH yL_frames cL_frames 5 (some .int) [(0, 10, 13, 15), (0, 10, 17, 13)] 4 := ⟨wd_1111, wd_84, by decide, by decide +kernel, wd_1110⟩
abbrev rmL_agreement : Room := { frames := 15, cells := 1, slots := 6, locals := 409 }
abbrev qL_agreement (G : Gy) (F : Fr) (g : Bd) : (Int32 × Wd) → State → Prop := fun r => QM G F g 1 6 ((fun (r : Int32 × Wd) => some (.int r.1)) r) ((fun (r : Int32 × Wd) => r.2) r)
set_option maxRecDepth 20000 in
set_option maxHeartbeats 4000000 in
theorem mL_agreement {l : Launch} (hf9 : l.stackTraces = false) {G : Gy} {F : Fr} (N : Nat) {w : Wd} {l0 : Nat} {l1 : Int32} {l2 : Nat} {r : Int32 × Wd} (ol0 : okF F l0 8) (ol2 : okF F l2 16) (hcm : F.2.2.2.2 = false) (e9 : fL_agreement F N w l0 l1 l2 = some r) : Met l yL_agreement [.codeWith yL_agreement cL_agreement 4 (some .int) [(0, 9, 12, 15), (0, 9, 15, 100)]] rmL_agreement (PcL G F w [.ref l0, .int l1, .ref l2]) (QB G F ((fun (r : Int32 × Wd) => some (.int r.1)) r) ((fun (r : Int32 × Wd) => r.2) r)) 1 6 (AF F) := by
  refine bd_metH (vs := fun (r : Int32 × Wd) => some (.int r.1)) (wf := fun (r : Int32 × Wd) => r.2) hf9 (by decide) (Nat.le_of_ble_eq_true rfl) e9 (fun g C hret hxt hNC => ?_)
  clear e9 r
  unfold fL_agreement
  refine bd_sub (lv' := [(0, .ref l0), (1, .int l1), (2, .ref l2)]) ?_ [0, 1, 2] rfl
  refine bd_aload_n C 2 dL_agreement_0 rfl rfl ?_
  refine bd_iconst C (v := 0) dL_agreement_1 (by decide) ?_
  refine bd_aload_n C 0 dL_agreement_2 rfl rfl ?_
  refine bd_iload_n C 1 dL_agreement_3 rfl rfl ?_
  refine bd_callX (vx := vxfloat) (mk := Value.float) (kk := 8) (st := [.int 0, .ref l2]) C (fun _ => rfl) (fun _ => rfl) [.int l1] (fun r9 e9 => mX8_agreement C.flag N ol0 hcm e9) mwX8_agreement miX8_agreement wd_1144 ol0 (by decide) rfl rfl rfl (Nat.le_of_ble_eq_true rfl) dL_agreement_4 ⟨rfl, rfl, Nat.le_of_ble_eq_true rfl, Nat.le_of_ble_eq_true rfl, Nat.le_of_ble_eq_true rfl, Nat.le_of_ble_eq_true rfl⟩ (fun p1 => ?_) (fun e2 => ?_)
  · refine bd_f2d C dL_agreement_7 (fun v3 => ?_)
    refine bd_dast C dL_agreement_8 ol2 (fun w4 => ?_)
    refine bd_goto C 18 dL_agreement_9 (by decide) ?_
    refine bd_iconst C (v := 0) dL_agreement_18 (by decide) ?_
    exact bd_iret C hret rfl _ _ rfl rfl dL_agreement_19 (Nat.le_of_ble_eq_true rfl) (Nat.le_of_ble_eq_true rfl)
  · refine bdt_ite (fun c6 => ?_) (fun c6 => ?_)
    · refine bdt_catch C hNC hxt (e := 1) (by decide) (by rw [c6]) [] ⟨0, 9, 12, 15⟩ [⟨0, 9, 15, 100⟩] rfl (fun _ h => absurd h List.not_mem_nil) (by decide) (by decide) wd_479 wd_591 (fun q9 => ?_)
      refine bd_astore_n C [(3, .ref q9), (0, .ref l0), (1, .int l1), (2, .ref l2)] dL_agreement_12 rfl (by decide) rfl ?_
      refine bd_iconst C (v := 1) dL_agreement_13 (by decide) ?_
      exact bd_iret C hret rfl _ _ rfl rfl dL_agreement_14 (Nat.le_of_ble_eq_true rfl) (Nat.le_of_ble_eq_true rfl)
    · refine bdt_ite (fun c5 => ?_) (fun c5 => ?_)
      · refine bdt_catch C hNC hxt (e := 5) (by decide) (by rw [c5]) [⟨0, 9, 12, 15⟩] ⟨0, 9, 15, 100⟩ [] rfl (List.forall_mem_cons.mpr ⟨⟨by decide, 1, by decide, by decide, wd_479⟩, (fun _ h => absurd h List.not_mem_nil)⟩) (by decide) (by decide) wd_1130 wd_1142 (fun q9 => ?_)
        refine bd_astore_n C [(3, .ref q9), (0, .ref l0), (1, .int l1), (2, .ref l2)] dL_agreement_15 rfl (by decide) rfl ?_
        refine bd_iconst C (v := 2) dL_agreement_16 (by decide) ?_
        exact bd_iret C hret rfl _ _ rfl rfl dL_agreement_17 (Nat.le_of_ble_eq_true rfl) (Nat.le_of_ble_eq_true rfl)
      · exact bdt_none
theorem mwL_agreement : MWH yL_agreement cL_agreement 4 (some .int) [(0, 9, 12, 15), (0, 9, 15, 100)] 3 := ⟨wd_1129, wd_84, by decide, by decide +kernel, wd_1128⟩
abbrev rmL_kappa : Room := { frames := 15, cells := 1, slots := 6, locals := 414 }
abbrev qL_kappa (G : Gy) (F : Fr) (g : Bd) : (Int32 × Wd) → State → Prop := fun r => QM G F g 1 6 ((fun (r : Int32 × Wd) => some (.int r.1)) r) ((fun (r : Int32 × Wd) => r.2) r)
set_option maxRecDepth 20000 in
set_option maxHeartbeats 4000000 in
theorem mL_kappa {l : Launch} (hf9 : l.stackTraces = false) {G : Gy} {F : Fr} (N : Nat) {w : Wd} {l0 : Nat} {l1 : Int32} {l2 : Nat} {r : Int32 × Wd} (ol0 : okF F l0 8) (ol2 : okF F l2 16) (hcm : F.2.2.2.2 = false) (e9 : fL_kappa F N w l0 l1 l2 = some r) : Met l yL_kappa [.codeWith yL_kappa cL_kappa 4 (some .int) [(0, 8, 11, 15), (0, 8, 14, 100)]] rmL_kappa (PcL G F w [.ref l0, .int l1, .ref l2]) (QB G F ((fun (r : Int32 × Wd) => some (.int r.1)) r) ((fun (r : Int32 × Wd) => r.2) r)) 1 6 (AF F) := by
  refine bd_metH (vs := fun (r : Int32 × Wd) => some (.int r.1)) (wf := fun (r : Int32 × Wd) => r.2) hf9 (by decide) (Nat.le_of_ble_eq_true rfl) e9 (fun g C hret hxt hNC => ?_)
  clear e9 r
  unfold fL_kappa
  refine bd_sub (lv' := [(0, .ref l0), (1, .int l1), (2, .ref l2)]) ?_ [0, 1, 2] rfl
  refine bd_aload_n C 2 dL_kappa_0 rfl rfl ?_
  refine bd_iconst C (v := 0) dL_kappa_1 (by decide) ?_
  refine bd_aload_n C 0 dL_kappa_2 rfl rfl ?_
  refine bd_iload_n C 1 dL_kappa_3 rfl rfl ?_
  refine bd_callX (vx := vxdouble) (mk := Value.double) (kk := 8) (st := [.int 0, .ref l2]) C (fun _ => rfl) (fun _ => rfl) [.int l1] (fun r9 e9 => mX8_kappa C.flag N ol0 hcm e9) mwX8_kappa miX8_kappa wd_1156 ol0 (by decide) rfl rfl rfl (Nat.le_of_ble_eq_true rfl) dL_kappa_4 ⟨rfl, rfl, Nat.le_of_ble_eq_true rfl, Nat.le_of_ble_eq_true rfl, Nat.le_of_ble_eq_true rfl, Nat.le_of_ble_eq_true rfl⟩ (fun p1 => ?_) (fun e2 => ?_)
  · refine bd_dast C dL_kappa_7 ol2 (fun w3 => ?_)
    refine bd_goto C 17 dL_kappa_8 (by decide) ?_
    refine bd_iconst C (v := 0) dL_kappa_17 (by decide) ?_
    exact bd_iret C hret rfl _ _ rfl rfl dL_kappa_18 (Nat.le_of_ble_eq_true rfl) (Nat.le_of_ble_eq_true rfl)
  · refine bdt_ite (fun c5 => ?_) (fun c5 => ?_)
    · refine bdt_catch C hNC hxt (e := 1) (by decide) (by rw [c5]) [] ⟨0, 8, 11, 15⟩ [⟨0, 8, 14, 100⟩] rfl (fun _ h => absurd h List.not_mem_nil) (by decide) (by decide) wd_479 wd_591 (fun q9 => ?_)
      refine bd_astore_n C [(3, .ref q9), (0, .ref l0), (1, .int l1), (2, .ref l2)] dL_kappa_11 rfl (by decide) rfl ?_
      refine bd_iconst C (v := 1) dL_kappa_12 (by decide) ?_
      exact bd_iret C hret rfl _ _ rfl rfl dL_kappa_13 (Nat.le_of_ble_eq_true rfl) (Nat.le_of_ble_eq_true rfl)
    · refine bdt_ite (fun c4 => ?_) (fun c4 => ?_)
      · refine bdt_catch C hNC hxt (e := 5) (by decide) (by rw [c4]) [⟨0, 8, 11, 15⟩] ⟨0, 8, 14, 100⟩ [] rfl (List.forall_mem_cons.mpr ⟨⟨by decide, 1, by decide, by decide, wd_479⟩, (fun _ h => absurd h List.not_mem_nil)⟩) (by decide) (by decide) wd_1130 wd_1142 (fun q9 => ?_)
        refine bd_astore_n C [(3, .ref q9), (0, .ref l0), (1, .int l1), (2, .ref l2)] dL_kappa_14 rfl (by decide) rfl ?_
        refine bd_iconst C (v := 2) dL_kappa_15 (by decide) ?_
        exact bd_iret C hret rfl _ _ rfl rfl dL_kappa_16 (Nat.le_of_ble_eq_true rfl) (Nat.le_of_ble_eq_true rfl)
      · exact bdt_none
theorem mwL_kappa : MWH yL_kappa cL_kappa 4 (some .int) [(0, 8, 11, 15), (0, 8, 14, 100)] 3 := ⟨wd_1155, wd_84, by decide, by decide +kernel, wd_1154⟩
abbrev rmL_read : Room := { frames := 17, cells := 1, slots := 6, locals := 471 }
abbrev qL_read (G : Gy) (F : Fr) (g : Bd) : (Int32 × Wd) → State → Prop := fun r => QM G F g 1 6 ((fun (r : Int32 × Wd) => some (.int r.1)) r) ((fun (r : Int32 × Wd) => r.2) r)
set_option maxRecDepth 20000 in
set_option maxHeartbeats 4000000 in
theorem mL_read {l : Launch} (hf9 : l.stackTraces = false) {G : Gy} {F : Fr} (N : Nat) {w : Wd} {l0 : Nat} {l1 : Nat} {r : Int32 × Wd} (ol0 : okF F l0 8) (ol1 : okF F l1 12) (hcm : F.2.2.2.2 = false) (e9 : fL_read F N w l0 l1 = some r) : Met l yL_read [.codeWith yL_read cL_read 3 (some .int) [(0, 8, 11, 13), (0, 8, 14, 39)]] rmL_read (PcL G F w [.ref l0, .ref l1]) (QB G F ((fun (r : Int32 × Wd) => some (.int r.1)) r) ((fun (r : Int32 × Wd) => r.2) r)) 1 6 (AF F) := by
  refine bd_metH (vs := fun (r : Int32 × Wd) => some (.int r.1)) (wf := fun (r : Int32 × Wd) => r.2) hf9 (by decide) (Nat.le_of_ble_eq_true rfl) e9 (fun g C hret hxt hNC => ?_)
  clear e9 r
  unfold fL_read
  refine bd_sub (lv' := [(0, .ref l0), (1, .ref l1)]) ?_ [0, 1] rfl
  refine bd_aload_n C 1 dL_read_0 rfl rfl ?_
  refine bd_iconst C (v := 0) dL_read_1 (by decide) ?_
  refine bd_aload_n C 0 dL_read_2 rfl rfl ?_
  refine bd_callX (vx := vxint) (mk := Value.int) (kk := 8) (st := [.int 0, .ref l1]) C (fun _ => rfl) (fun _ => rfl) [] (fun r9 e9 => mX8_read C.flag N ol0 hcm e9) mwX8_read miX8_read wd_1169 ol0 (by decide) rfl rfl rfl (Nat.le_of_ble_eq_true rfl) dL_read_3 ⟨rfl, rfl, Nat.le_of_ble_eq_true rfl, Nat.le_of_ble_eq_true rfl, Nat.le_of_ble_eq_true rfl, Nat.le_of_ble_eq_true rfl⟩ (fun p1 => ?_) (fun e2 => ?_)
  · refine bd_i2l C dL_read_6 ?_
    refine bd_last C dL_read_7 ol1 (fun w3 => ?_)
    refine bd_goto C 17 dL_read_8 (by decide) ?_
    refine bd_iconst C (v := 0) dL_read_17 (by decide) ?_
    exact bd_iret C hret rfl _ _ rfl rfl dL_read_18 (Nat.le_of_ble_eq_true rfl) (Nat.le_of_ble_eq_true rfl)
  · refine bdt_ite (fun c5 => ?_) (fun c5 => ?_)
    · refine bdt_catch C hNC hxt (e := 0) (by decide) (by rw [c5]) [] ⟨0, 8, 11, 13⟩ [⟨0, 8, 14, 39⟩] rfl (fun _ h => absurd h List.not_mem_nil) (by decide) (by decide) wd_478 wd_566 (fun q9 => ?_)
      refine bd_astore_n C [(2, .ref q9), (0, .ref l0), (1, .ref l1)] dL_read_11 rfl (by decide) rfl ?_
      refine bd_iconst C (v := 1) dL_read_12 (by decide) ?_
      exact bd_iret C hret rfl _ _ rfl rfl dL_read_13 (Nat.le_of_ble_eq_true rfl) (Nat.le_of_ble_eq_true rfl)
    · refine bdt_ite (fun c4 => ?_) (fun c4 => ?_)
      · refine bdt_catch C hNC hxt (e := 3) (by decide) (by rw [c4]) [⟨0, 8, 11, 13⟩] ⟨0, 8, 14, 39⟩ [] rfl (List.forall_mem_cons.mpr ⟨⟨by decide, 0, by decide, by decide, wd_478⟩, (fun _ h => absurd h List.not_mem_nil)⟩) (by decide) (by decide) wd_700 wd_775 (fun q9 => ?_)
        refine bd_astore_n C [(2, .ref q9), (0, .ref l0), (1, .ref l1)] dL_read_14 rfl (by decide) rfl ?_
        refine bd_iconst C (v := 2) dL_read_15 (by decide) ?_
        exact bd_iret C hret rfl _ _ rfl rfl dL_read_16 (Nat.le_of_ble_eq_true rfl) (Nat.le_of_ble_eq_true rfl)
      · exact bdt_none
theorem mwL_read : MWH yL_read cL_read 3 (some .int) [(0, 8, 11, 13), (0, 8, 14, 39)] 2 := ⟨wd_1168, wd_84, by decide, by decide +kernel, wd_1167⟩
abbrev rmL_errorPosition : Room := { frames := 11, cells := 1, slots := 6, locals := 320 }
abbrev qL_errorPosition (G : Gy) (F : Fr) (g : Bd) : (Int32 × Wd) → State → Prop := fun r => QM G F g 1 6 ((fun (r : Int32 × Wd) => some (.int r.1)) r) ((fun (r : Int32 × Wd) => r.2) r)
set_option maxRecDepth 20000 in
set_option maxHeartbeats 4000000 in
theorem mL_errorPosition {l : Launch} (hf9 : l.stackTraces = false) {G : Gy} {F : Fr} (N : Nat) {w : Wd} {l0 : Nat} {l1 : Nat} {r : Int32 × Wd} (ol0 : okF F l0 8) (ol1 : okF F l1 12) (hcm : F.2.2.2.2 = false) (e9 : fL_errorPosition F N w l0 l1 = some r) : Met l yL_errorPosition [.codeWith yL_errorPosition cL_errorPosition 3 (some .int) [(0, 8, 11, 64)]] rmL_errorPosition (PcL G F w [.ref l0, .ref l1]) (QB G F ((fun (r : Int32 × Wd) => some (.int r.1)) r) ((fun (r : Int32 × Wd) => r.2) r)) 1 6 (AF F) := by
  refine bd_metH (vs := fun (r : Int32 × Wd) => some (.int r.1)) (wf := fun (r : Int32 × Wd) => r.2) hf9 (by decide) (Nat.le_of_ble_eq_true rfl) e9 (fun g C hret hxt hNC => ?_)
  clear e9 r
  unfold fL_errorPosition
  refine bd_sub (lv' := [(0, .ref l0), (1, .ref l1)]) ?_ [0, 1] rfl
  refine bd_aload_n C 1 dL_errorPosition_0 rfl rfl ?_
  refine bd_iconst C (v := 0) dL_errorPosition_1 (by decide) ?_
  refine bd_aload_n C 0 dL_errorPosition_2 rfl rfl ?_
  refine bd_callX (vx := vxint) (mk := Value.int) (kk := 8) (st := [.int 0, .ref l1]) C (fun _ => rfl) (fun _ => rfl) [] (fun r9 e9 => mX8_errorPosition C.flag N ol0 hcm e9) mwX8_errorPosition miX8_errorPosition wd_1200 ol0 (by decide) rfl rfl rfl (Nat.le_of_ble_eq_true rfl) dL_errorPosition_3 ⟨rfl, rfl, Nat.le_of_ble_eq_true rfl, Nat.le_of_ble_eq_true rfl, Nat.le_of_ble_eq_true rfl, Nat.le_of_ble_eq_true rfl⟩ (fun p1 => ?_) (fun e2 => ?_)
  · refine bd_i2l C dL_errorPosition_6 ?_
    refine bd_last C dL_errorPosition_7 ol1 (fun w3 => ?_)
    refine bd_goto C 14 dL_errorPosition_8 (by decide) ?_
    refine bd_iconst C (v := 0) dL_errorPosition_14 (by decide) ?_
    exact bd_iret C hret rfl _ _ rfl rfl dL_errorPosition_15 (Nat.le_of_ble_eq_true rfl) (Nat.le_of_ble_eq_true rfl)
  · refine bdt_ite (fun c4 => ?_) (fun c4 => ?_)
    · refine bdt_catch C hNC hxt (e := 4) (by decide) (by rw [c4]) [] ⟨0, 8, 11, 64⟩ [] rfl (fun _ h => absurd h List.not_mem_nil) (by decide) (by decide) wd_889 wd_896 (fun q9 => ?_)
      refine bd_astore_n C [(2, .ref q9), (0, .ref l0), (1, .ref l1)] dL_errorPosition_11 rfl (by decide) rfl ?_
      refine bd_iconst C (v := 1) dL_errorPosition_12 (by decide) ?_
      exact bd_iret C hret rfl _ _ rfl rfl dL_errorPosition_13 (Nat.le_of_ble_eq_true rfl) (Nat.le_of_ble_eq_true rfl)
    · exact bdt_none
theorem mwL_errorPosition : MWH yL_errorPosition cL_errorPosition 3 (some .int) [(0, 8, 11, 64)] 2 := ⟨wd_1199, wd_84, by decide, by decide +kernel, wd_1198⟩
abbrev rmL_refusedItem : Room := { frames := 11, cells := 1, slots := 6, locals := 320 }
abbrev qL_refusedItem (G : Gy) (F : Fr) (g : Bd) : (Int32 × Wd) → State → Prop := fun r => QM G F g 1 6 ((fun (r : Int32 × Wd) => some (.int r.1)) r) ((fun (r : Int32 × Wd) => r.2) r)
set_option maxRecDepth 20000 in
set_option maxHeartbeats 4000000 in
theorem mL_refusedItem {l : Launch} (hf9 : l.stackTraces = false) {G : Gy} {F : Fr} (N : Nat) {w : Wd} {l0 : Nat} {l1 : Nat} {r : Int32 × Wd} (ol0 : okF F l0 8) (ol1 : okF F l1 12) (hcm : F.2.2.2.2 = false) (e9 : fL_refusedItem F N w l0 l1 = some r) : Met l yL_refusedItem [.codeWith yL_refusedItem cL_refusedItem 3 (some .int) [(0, 8, 11, 64)]] rmL_refusedItem (PcL G F w [.ref l0, .ref l1]) (QB G F ((fun (r : Int32 × Wd) => some (.int r.1)) r) ((fun (r : Int32 × Wd) => r.2) r)) 1 6 (AF F) := by
  refine bd_metH (vs := fun (r : Int32 × Wd) => some (.int r.1)) (wf := fun (r : Int32 × Wd) => r.2) hf9 (by decide) (Nat.le_of_ble_eq_true rfl) e9 (fun g C hret hxt hNC => ?_)
  clear e9 r
  unfold fL_refusedItem
  refine bd_sub (lv' := [(0, .ref l0), (1, .ref l1)]) ?_ [0, 1] rfl
  refine bd_aload_n C 1 dL_refusedItem_0 rfl rfl ?_
  refine bd_iconst C (v := 0) dL_refusedItem_1 (by decide) ?_
  refine bd_aload_n C 0 dL_refusedItem_2 rfl rfl ?_
  refine bd_callX (vx := vxint) (mk := Value.int) (kk := 8) (st := [.int 0, .ref l1]) C (fun _ => rfl) (fun _ => rfl) [] (fun r9 e9 => mX8_refusedItem C.flag N ol0 hcm e9) mwX8_refusedItem miX8_refusedItem wd_1207 ol0 (by decide) rfl rfl rfl (Nat.le_of_ble_eq_true rfl) dL_refusedItem_3 ⟨rfl, rfl, Nat.le_of_ble_eq_true rfl, Nat.le_of_ble_eq_true rfl, Nat.le_of_ble_eq_true rfl, Nat.le_of_ble_eq_true rfl⟩ (fun p1 => ?_) (fun e2 => ?_)
  · refine bd_i2l C dL_refusedItem_6 ?_
    refine bd_last C dL_refusedItem_7 ol1 (fun w3 => ?_)
    refine bd_goto C 14 dL_refusedItem_8 (by decide) ?_
    refine bd_iconst C (v := 0) dL_refusedItem_14 (by decide) ?_
    exact bd_iret C hret rfl _ _ rfl rfl dL_refusedItem_15 (Nat.le_of_ble_eq_true rfl) (Nat.le_of_ble_eq_true rfl)
  · refine bdt_ite (fun c4 => ?_) (fun c4 => ?_)
    · refine bdt_catch C hNC hxt (e := 4) (by decide) (by rw [c4]) [] ⟨0, 8, 11, 64⟩ [] rfl (fun _ h => absurd h List.not_mem_nil) (by decide) (by decide) wd_889 wd_896 (fun q9 => ?_)
      refine bd_astore_n C [(2, .ref q9), (0, .ref l0), (1, .ref l1)] dL_refusedItem_11 rfl (by decide) rfl ?_
      refine bd_iconst C (v := 1) dL_refusedItem_12 (by decide) ?_
      exact bd_iret C hret rfl _ _ rfl rfl dL_refusedItem_13 (Nat.le_of_ble_eq_true rfl) (Nat.le_of_ble_eq_true rfl)
    · exact bdt_none
theorem mwL_refusedItem : MWH yL_refusedItem cL_refusedItem 3 (some .int) [(0, 8, 11, 64)] 2 := ⟨wd_1206, wd_84, by decide, by decide +kernel, wd_1205⟩
abbrev rmL_undo : Room := { frames := 14, cells := 1, slots := 6, locals := 388 }
abbrev qL_undo (G : Gy) (F : Fr) (g : Bd) : (Int32 × Wd) → State → Prop := fun r => QM G F g 1 6 ((fun (r : Int32 × Wd) => some (.int r.1)) r) ((fun (r : Int32 × Wd) => r.2) r)
set_option maxRecDepth 20000 in
set_option maxHeartbeats 4000000 in
theorem mL_undo {l : Launch} (hf9 : l.stackTraces = false) {G : Gy} {F : Fr} (N : Nat) {w : Wd} {l0 : Nat} {l1 : Nat} {r : Int32 × Wd} (ol0 : okF F l0 8) (ol1 : okF F l1 12) (hcm : F.2.2.2.2 = false) (e9 : fL_undo F N w l0 l1 = some r) : Met l yL_undo [.codeWith yL_undo cL_undo 3 (some .int) [(0, 8, 11, 17)]] rmL_undo (PcL G F w [.ref l0, .ref l1]) (QB G F ((fun (r : Int32 × Wd) => some (.int r.1)) r) ((fun (r : Int32 × Wd) => r.2) r)) 1 6 (AF F) := by
  refine bd_metH (vs := fun (r : Int32 × Wd) => some (.int r.1)) (wf := fun (r : Int32 × Wd) => r.2) hf9 (by decide) (Nat.le_of_ble_eq_true rfl) e9 (fun g C hret hxt hNC => ?_)
  clear e9 r
  unfold fL_undo
  refine bd_sub (lv' := [(0, .ref l0), (1, .ref l1)]) ?_ [0, 1] rfl
  refine bd_aload_n C 1 dL_undo_0 rfl rfl ?_
  refine bd_iconst C (v := 0) dL_undo_1 (by decide) ?_
  refine bd_aload_n C 0 dL_undo_2 rfl rfl ?_
  refine bd_callX (vx := vxint) (mk := Value.int) (kk := 8) (st := [.int 0, .ref l1]) C (fun _ => rfl) (fun _ => rfl) [] (fun r9 e9 => mX8_undo C.flag N ol0 hcm e9) mwX8_undo miX8_undo wd_1214 ol0 (by decide) rfl rfl rfl (Nat.le_of_ble_eq_true rfl) dL_undo_3 ⟨rfl, rfl, Nat.le_of_ble_eq_true rfl, Nat.le_of_ble_eq_true rfl, Nat.le_of_ble_eq_true rfl, Nat.le_of_ble_eq_true rfl⟩ (fun p1 => ?_) (fun e2 => ?_)
  · refine bd_i2l C dL_undo_6 ?_
    refine bd_last C dL_undo_7 ol1 (fun w3 => ?_)
    refine bd_goto C 14 dL_undo_8 (by decide) ?_
    refine bd_iconst C (v := 0) dL_undo_14 (by decide) ?_
    exact bd_iret C hret rfl _ _ rfl rfl dL_undo_15 (Nat.le_of_ble_eq_true rfl) (Nat.le_of_ble_eq_true rfl)
  · refine bdt_ite (fun c4 => ?_) (fun c4 => ?_)
    · refine bdt_catch C hNC hxt (e := 2) (by decide) (by rw [c4]) [] ⟨0, 8, 11, 17⟩ [] rfl (fun _ h => absurd h List.not_mem_nil) (by decide) (by decide) wd_559 wd_606 (fun q9 => ?_)
      refine bd_astore_n C [(2, .ref q9), (0, .ref l0), (1, .ref l1)] dL_undo_11 rfl (by decide) rfl ?_
      refine bd_iconst C (v := 1) dL_undo_12 (by decide) ?_
      exact bd_iret C hret rfl _ _ rfl rfl dL_undo_13 (Nat.le_of_ble_eq_true rfl) (Nat.le_of_ble_eq_true rfl)
    · exact bdt_none
theorem mwL_undo : MWH yL_undo cL_undo 3 (some .int) [(0, 8, 11, 17)] 2 := ⟨wd_1213, wd_84, by decide, by decide +kernel, wd_1212⟩
abbrev rmL_restore : Room := { frames := 13, cells := 1, slots := 6, locals := 366 }
abbrev qL_restore (G : Gy) (F : Fr) (g : Bd) : (Int32 × Wd) → State → Prop := fun r => QM G F g 1 6 ((fun (r : Int32 × Wd) => some (.int r.1)) r) ((fun (r : Int32 × Wd) => r.2) r)
set_option maxRecDepth 20000 in
set_option maxHeartbeats 4000000 in
theorem mL_restore {l : Launch} (hf9 : l.stackTraces = false) {G : Gy} {F : Fr} (N : Nat) {w : Wd} {l0 : Nat} {l1 : Nat} {r : Int32 × Wd} (ol0 : okF F l0 8) (ol1 : okF F l1 12) (hcm : F.2.2.2.2 = false) (e9 : fL_restore F N w l0 l1 = some r) : Met l yL_restore [.codeWith yL_restore cL_restore 3 (some .int) [(0, 8, 11, 17)]] rmL_restore (PcL G F w [.ref l0, .ref l1]) (QB G F ((fun (r : Int32 × Wd) => some (.int r.1)) r) ((fun (r : Int32 × Wd) => r.2) r)) 1 6 (AF F) := by
  refine bd_metH (vs := fun (r : Int32 × Wd) => some (.int r.1)) (wf := fun (r : Int32 × Wd) => r.2) hf9 (by decide) (Nat.le_of_ble_eq_true rfl) e9 (fun g C hret hxt hNC => ?_)
  clear e9 r
  unfold fL_restore
  refine bd_sub (lv' := [(0, .ref l0), (1, .ref l1)]) ?_ [0, 1] rfl
  refine bd_aload_n C 1 dL_restore_0 rfl rfl ?_
  refine bd_iconst C (v := 0) dL_restore_1 (by decide) ?_
  refine bd_aload_n C 0 dL_restore_2 rfl rfl ?_
  refine bd_callX (vx := vxint) (mk := Value.int) (kk := 8) (st := [.int 0, .ref l1]) C (fun _ => rfl) (fun _ => rfl) [] (fun r9 e9 => mX8_restore C.flag N ol0 hcm e9) mwX8_restore miX8_restore wd_1225 ol0 (by decide) rfl rfl rfl (Nat.le_of_ble_eq_true rfl) dL_restore_3 ⟨rfl, rfl, Nat.le_of_ble_eq_true rfl, Nat.le_of_ble_eq_true rfl, Nat.le_of_ble_eq_true rfl, Nat.le_of_ble_eq_true rfl⟩ (fun p1 => ?_) (fun e2 => ?_)
  · refine bd_i2l C dL_restore_6 ?_
    refine bd_last C dL_restore_7 ol1 (fun w3 => ?_)
    refine bd_goto C 14 dL_restore_8 (by decide) ?_
    refine bd_iconst C (v := 0) dL_restore_14 (by decide) ?_
    exact bd_iret C hret rfl _ _ rfl rfl dL_restore_15 (Nat.le_of_ble_eq_true rfl) (Nat.le_of_ble_eq_true rfl)
  · refine bdt_ite (fun c4 => ?_) (fun c4 => ?_)
    · refine bdt_catch C hNC hxt (e := 2) (by decide) (by rw [c4]) [] ⟨0, 8, 11, 17⟩ [] rfl (fun _ h => absurd h List.not_mem_nil) (by decide) (by decide) wd_559 wd_606 (fun q9 => ?_)
      refine bd_astore_n C [(2, .ref q9), (0, .ref l0), (1, .ref l1)] dL_restore_11 rfl (by decide) rfl ?_
      refine bd_iconst C (v := 1) dL_restore_12 (by decide) ?_
      exact bd_iret C hret rfl _ _ rfl rfl dL_restore_13 (Nat.le_of_ble_eq_true rfl) (Nat.le_of_ble_eq_true rfl)
    · exact bdt_none
theorem mwL_restore : MWH yL_restore cL_restore 3 (some .int) [(0, 8, 11, 17)] 2 := ⟨wd_1224, wd_84, by decide, by decide +kernel, wd_1223⟩
