theorem ftX0 : FT TX0 4 tyX0 := ⟨tyX0_ok, nmX0⟩
theorem inX0 : ∀ x ∈ u_ws RX0 TX0 4, WD x := by
  show ∀ x ∈ [u_lay RX0 TX0 0, u_lay RX0 TX0 1, u_lay RX0 TX0 2, u_lay RX0 TX0 3], WD x
  exact List.forall_mem_cons.mpr ⟨wd_266, List.forall_mem_cons.mpr ⟨wd_268, List.forall_mem_cons.mpr ⟨wd_270, List.forall_mem_cons.mpr ⟨wd_272, fun _ h => absurd h List.not_mem_nil⟩⟩⟩⟩
theorem fi0 : FI 0 RX0 TX0 4 0 := ⟨rfl, by decide, inX0, by decide⟩
theorem fv0 : ∀ sl : Sl, (fieldsOf sl 0)[0]? = some (va_rf (sl.2.2.1 0)) := fun _ => rfl
theorem fu0 : ∀ (sl : Sl) (v : Option Nat), fieldsOf (upSR sl 0 v) 0 = (fieldsOf sl 0).set 0 (va_rf v) ∧ 0 < (fieldsOf sl 0).length := fun _ _ => ⟨rfl, Nat.le_of_ble_eq_true rfl⟩
theorem fi1 : FI 0 RX0 TX0 4 1 := ⟨rfl, by decide, inX0, by decide⟩
theorem fv1 : ∀ sl : Sl, (fieldsOf sl 0)[1]? = some (va_rf (sl.2.2.1 1)) := fun _ => rfl
theorem fu1 : ∀ (sl : Sl) (v : Option Nat), fieldsOf (upSR sl 1 v) 0 = (fieldsOf sl 0).set 1 (va_rf v) ∧ 1 < (fieldsOf sl 0).length := fun _ _ => ⟨rfl, Nat.le_of_ble_eq_true rfl⟩
theorem fi2 : FI 0 RX0 TX0 4 2 := ⟨rfl, by decide, inX0, by decide⟩
theorem fv2 : ∀ sl : Sl, (fieldsOf sl 0)[2]? = some (.int (sl.1 2)) := fun _ => rfl
theorem fu2 : ∀ (sl : Sl) (v : Int32), fieldsOf (upSI sl 2 v) 0 = (fieldsOf sl 0).set 2 (.int v) ∧ 2 < (fieldsOf sl 0).length := fun _ _ => ⟨rfl, Nat.le_of_ble_eq_true rfl⟩
theorem fi3 : FI 0 RX0 TX0 4 3 := ⟨rfl, by decide, inX0, by decide⟩
theorem fv3 : ∀ sl : Sl, (fieldsOf sl 0)[3]? = some (.int (sl.1 3)) := fun _ => rfl
theorem fu3 : ∀ (sl : Sl) (v : Int32), fieldsOf (upSI sl 3 v) 0 = (fieldsOf sl 0).set 3 (.int v) ∧ 3 < (fieldsOf sl 0).length := fun _ _ => ⟨rfl, Nat.le_of_ble_eq_true rfl⟩
theorem ftX1 : FT TX1 9 tyX1 := ⟨tyX1_ok, nmX1⟩
theorem inX1 : ∀ x ∈ u_ws RX1 TX1 9, WD x := by
  show ∀ x ∈ [u_lay RX1 TX1 0, u_lay RX1 TX1 1, u_lay RX1 TX1 2, u_lay RX1 TX1 3, u_lay RX1 TX1 4, u_lay RX1 TX1 5, u_lay RX1 TX1 6, u_lay RX1 TX1 7, u_lay RX1 TX1 8], WD x
  exact List.forall_mem_cons.mpr ⟨wd_165, List.forall_mem_cons.mpr ⟨wd_167, List.forall_mem_cons.mpr ⟨wd_169, List.forall_mem_cons.mpr ⟨wd_171, List.forall_mem_cons.mpr ⟨wd_173, List.forall_mem_cons.mpr ⟨wd_175, List.forall_mem_cons.mpr ⟨wd_177, List.forall_mem_cons.mpr ⟨wd_179, List.forall_mem_cons.mpr ⟨wd_181, fun _ h => absurd h List.not_mem_nil⟩⟩⟩⟩⟩⟩⟩⟩⟩
theorem fi100 : FI 1 RX1 TX1 9 0 := ⟨rfl, by decide, inX1, by decide⟩
theorem fv100 : ∀ sl : Sl, (fieldsOf sl 1)[0]? = some (va_rf (sl.2.2.1 100)) := fun _ => rfl
theorem fu100 : ∀ (sl : Sl) (v : Option Nat), fieldsOf (upSR sl 100 v) 1 = (fieldsOf sl 1).set 0 (va_rf v) ∧ 0 < (fieldsOf sl 1).length := fun _ _ => ⟨rfl, Nat.le_of_ble_eq_true rfl⟩
theorem fi101 : FI 1 RX1 TX1 9 1 := ⟨rfl, by decide, inX1, by decide⟩
theorem fv101 : ∀ sl : Sl, (fieldsOf sl 1)[1]? = some (va_rf (sl.2.2.1 101)) := fun _ => rfl
theorem fu101 : ∀ (sl : Sl) (v : Option Nat), fieldsOf (upSR sl 101 v) 1 = (fieldsOf sl 1).set 1 (va_rf v) ∧ 1 < (fieldsOf sl 1).length := fun _ _ => ⟨rfl, Nat.le_of_ble_eq_true rfl⟩
theorem fi102 : FI 1 RX1 TX1 9 2 := ⟨rfl, by decide, inX1, by decide⟩
theorem fv102 : ∀ sl : Sl, (fieldsOf sl 1)[2]? = some (va_rf (sl.2.2.1 102)) := fun _ => rfl
theorem fu102 : ∀ (sl : Sl) (v : Option Nat), fieldsOf (upSR sl 102 v) 1 = (fieldsOf sl 1).set 2 (va_rf v) ∧ 2 < (fieldsOf sl 1).length := fun _ _ => ⟨rfl, Nat.le_of_ble_eq_true rfl⟩
theorem fi103 : FI 1 RX1 TX1 9 3 := ⟨rfl, by decide, inX1, by decide⟩
theorem fv103 : ∀ sl : Sl, (fieldsOf sl 1)[3]? = some (va_rf (sl.2.2.1 103)) := fun _ => rfl
theorem fu103 : ∀ (sl : Sl) (v : Option Nat), fieldsOf (upSR sl 103 v) 1 = (fieldsOf sl 1).set 3 (va_rf v) ∧ 3 < (fieldsOf sl 1).length := fun _ _ => ⟨rfl, Nat.le_of_ble_eq_true rfl⟩
theorem fi104 : FI 1 RX1 TX1 9 4 := ⟨rfl, by decide, inX1, by decide⟩
theorem fv104 : ∀ sl : Sl, (fieldsOf sl 1)[4]? = some (va_rf (sl.2.2.1 104)) := fun _ => rfl
theorem fu104 : ∀ (sl : Sl) (v : Option Nat), fieldsOf (upSR sl 104 v) 1 = (fieldsOf sl 1).set 4 (va_rf v) ∧ 4 < (fieldsOf sl 1).length := fun _ _ => ⟨rfl, Nat.le_of_ble_eq_true rfl⟩
theorem fi105 : FI 1 RX1 TX1 9 5 := ⟨rfl, by decide, inX1, by decide⟩
theorem fv105 : ∀ sl : Sl, (fieldsOf sl 1)[5]? = some (.int (sl.1 105)) := fun _ => rfl
theorem fu105 : ∀ (sl : Sl) (v : Int32), fieldsOf (upSI sl 105 v) 1 = (fieldsOf sl 1).set 5 (.int v) ∧ 5 < (fieldsOf sl 1).length := fun _ _ => ⟨rfl, Nat.le_of_ble_eq_true rfl⟩
theorem fi106 : FI 1 RX1 TX1 9 6 := ⟨rfl, by decide, inX1, by decide⟩
theorem fv106 : ∀ sl : Sl, (fieldsOf sl 1)[6]? = some (.int (sl.1 106)) := fun _ => rfl
theorem fu106 : ∀ (sl : Sl) (v : Int32), fieldsOf (upSI sl 106 v) 1 = (fieldsOf sl 1).set 6 (.int v) ∧ 6 < (fieldsOf sl 1).length := fun _ _ => ⟨rfl, Nat.le_of_ble_eq_true rfl⟩
theorem fi107 : FI 1 RX1 TX1 9 7 := ⟨rfl, by decide, inX1, by decide⟩
theorem fv107 : ∀ sl : Sl, (fieldsOf sl 1)[7]? = some (.int (sl.1 107)) := fun _ => rfl
theorem fu107 : ∀ (sl : Sl) (v : Int32), fieldsOf (upSI sl 107 v) 1 = (fieldsOf sl 1).set 7 (.int v) ∧ 7 < (fieldsOf sl 1).length := fun _ _ => ⟨rfl, Nat.le_of_ble_eq_true rfl⟩
theorem fi108 : FI 1 RX1 TX1 9 8 := ⟨rfl, by decide, inX1, by decide⟩
theorem fv108 : ∀ sl : Sl, (fieldsOf sl 1)[8]? = some (.int (sl.1 108)) := fun _ => rfl
theorem fu108 : ∀ (sl : Sl) (v : Int32), fieldsOf (upSI sl 108 v) 1 = (fieldsOf sl 1).set 8 (.int v) ∧ 8 < (fieldsOf sl 1).length := fun _ _ => ⟨rfl, Nat.le_of_ble_eq_true rfl⟩
theorem ftX2 : FT TX2 3 tyX2 := ⟨tyX2_ok, nmX2⟩
theorem inX2 : ∀ x ∈ u_ws RX2 TX2 3, WD x := by
  show ∀ x ∈ [u_lay RX2 TX2 0, u_lay RX2 TX2 1, u_lay RX2 TX2 2], WD x
  exact List.forall_mem_cons.mpr ⟨wd_197, List.forall_mem_cons.mpr ⟨wd_199, List.forall_mem_cons.mpr ⟨wd_201, fun _ h => absurd h List.not_mem_nil⟩⟩⟩
theorem fi200 : FI 2 RX2 TX2 3 0 := ⟨rfl, by decide, inX2, by decide⟩
theorem fv200 : ∀ sl : Sl, (fieldsOf sl 2)[0]? = some (va_rf (sl.2.2.1 200)) := fun _ => rfl
theorem fu200 : ∀ (sl : Sl) (v : Option Nat), fieldsOf (upSR sl 200 v) 2 = (fieldsOf sl 2).set 0 (va_rf v) ∧ 0 < (fieldsOf sl 2).length := fun _ _ => ⟨rfl, Nat.le_of_ble_eq_true rfl⟩
theorem fi201 : FI 2 RX2 TX2 3 1 := ⟨rfl, by decide, inX2, by decide⟩
theorem fv201 : ∀ sl : Sl, (fieldsOf sl 2)[1]? = some (.int (sl.1 201)) := fun _ => rfl
theorem fu201 : ∀ (sl : Sl) (v : Int32), fieldsOf (upSI sl 201 v) 2 = (fieldsOf sl 2).set 1 (.int v) ∧ 1 < (fieldsOf sl 2).length := fun _ _ => ⟨rfl, Nat.le_of_ble_eq_true rfl⟩
theorem fi202 : FI 2 RX2 TX2 3 2 := ⟨rfl, by decide, inX2, by decide⟩
theorem fv202 : ∀ sl : Sl, (fieldsOf sl 2)[2]? = some (.int (sl.1 202)) := fun _ => rfl
theorem fu202 : ∀ (sl : Sl) (v : Int32), fieldsOf (upSI sl 202 v) 2 = (fieldsOf sl 2).set 2 (.int v) ∧ 2 < (fieldsOf sl 2).length := fun _ _ => ⟨rfl, Nat.le_of_ble_eq_true rfl⟩
theorem ftX3 : FT TX3 7 tyX3 := ⟨tyX3_ok, nmX3⟩
theorem inX3 : ∀ x ∈ u_ws RX3 TX3 7, WD x := by
  show ∀ x ∈ [u_lay RX3 TX3 0, u_lay RX3 TX3 1, u_lay RX3 TX3 2, u_lay RX3 TX3 3, u_lay RX3 TX3 4, u_lay RX3 TX3 5, u_lay RX3 TX3 6], WD x
  exact List.forall_mem_cons.mpr ⟨wd_223, List.forall_mem_cons.mpr ⟨wd_225, List.forall_mem_cons.mpr ⟨wd_227, List.forall_mem_cons.mpr ⟨wd_229, List.forall_mem_cons.mpr ⟨wd_231, List.forall_mem_cons.mpr ⟨wd_233, List.forall_mem_cons.mpr ⟨wd_235, fun _ h => absurd h List.not_mem_nil⟩⟩⟩⟩⟩⟩⟩
theorem fi300 : FI 3 RX3 TX3 7 0 := ⟨rfl, by decide, inX3, by decide⟩
theorem fv300 : ∀ sl : Sl, (fieldsOf sl 3)[0]? = some (va_rf (sl.2.2.1 300)) := fun _ => rfl
theorem fu300 : ∀ (sl : Sl) (v : Option Nat), fieldsOf (upSR sl 300 v) 3 = (fieldsOf sl 3).set 0 (va_rf v) ∧ 0 < (fieldsOf sl 3).length := fun _ _ => ⟨rfl, Nat.le_of_ble_eq_true rfl⟩
theorem fi301 : FI 3 RX3 TX3 7 1 := ⟨rfl, by decide, inX3, by decide⟩
theorem fv301 : ∀ sl : Sl, (fieldsOf sl 3)[1]? = some (.int (sl.1 301)) := fun _ => rfl
theorem fu301 : ∀ (sl : Sl) (v : Int32), fieldsOf (upSI sl 301 v) 3 = (fieldsOf sl 3).set 1 (.int v) ∧ 1 < (fieldsOf sl 3).length := fun _ _ => ⟨rfl, Nat.le_of_ble_eq_true rfl⟩
theorem fi302 : FI 3 RX3 TX3 7 2 := ⟨rfl, by decide, inX3, by decide⟩
theorem fv302 : ∀ sl : Sl, (fieldsOf sl 3)[2]? = some (.int (sl.1 302)) := fun _ => rfl
theorem fu302 : ∀ (sl : Sl) (v : Int32), fieldsOf (upSI sl 302 v) 3 = (fieldsOf sl 3).set 2 (.int v) ∧ 2 < (fieldsOf sl 3).length := fun _ _ => ⟨rfl, Nat.le_of_ble_eq_true rfl⟩
theorem fi303 : FI 3 RX3 TX3 7 3 := ⟨rfl, by decide, inX3, by decide⟩
theorem fv303 : ∀ sl : Sl, (fieldsOf sl 3)[3]? = some (.int (sl.1 303)) := fun _ => rfl
theorem fu303 : ∀ (sl : Sl) (v : Int32), fieldsOf (upSI sl 303 v) 3 = (fieldsOf sl 3).set 3 (.int v) ∧ 3 < (fieldsOf sl 3).length := fun _ _ => ⟨rfl, Nat.le_of_ble_eq_true rfl⟩
theorem fi304 : FI 3 RX3 TX3 7 4 := ⟨rfl, by decide, inX3, by decide⟩
theorem fv304 : ∀ sl : Sl, (fieldsOf sl 3)[4]? = some (.int (sl.1 304)) := fun _ => rfl
theorem fu304 : ∀ (sl : Sl) (v : Int32), fieldsOf (upSI sl 304 v) 3 = (fieldsOf sl 3).set 4 (.int v) ∧ 4 < (fieldsOf sl 3).length := fun _ _ => ⟨rfl, Nat.le_of_ble_eq_true rfl⟩
theorem fi305 : FI 3 RX3 TX3 7 5 := ⟨rfl, by decide, inX3, by decide⟩
theorem fv305 : ∀ sl : Sl, (fieldsOf sl 3)[5]? = some (.int (sl.1 305)) := fun _ => rfl
theorem fu305 : ∀ (sl : Sl) (v : Int32), fieldsOf (upSI sl 305 v) 3 = (fieldsOf sl 3).set 5 (.int v) ∧ 5 < (fieldsOf sl 3).length := fun _ _ => ⟨rfl, Nat.le_of_ble_eq_true rfl⟩
theorem fi306 : FI 3 RX3 TX3 7 6 := ⟨rfl, by decide, inX3, by decide⟩
theorem fv306 : ∀ sl : Sl, (fieldsOf sl 3)[6]? = some (.long (sl.2.1 306)) := fun _ => rfl
theorem fu306 : ∀ (sl : Sl) (v : Int64), fieldsOf (upSJ sl 306 v) 3 = (fieldsOf sl 3).set 6 (.long v) ∧ 6 < (fieldsOf sl 3).length := fun _ _ => ⟨rfl, Nat.le_of_ble_eq_true rfl⟩
theorem ftX4 : FT TX4 7 tyX4 := ⟨tyX4_ok, nmX4⟩
theorem inX4 : ∀ x ∈ u_ws RX4 TX4 7, WD x := by
  show ∀ x ∈ [u_lay RX4 TX4 0, u_lay RX4 TX4 1, u_lay RX4 TX4 2, u_lay RX4 TX4 3, u_lay RX4 TX4 4, u_lay RX4 TX4 5, u_lay RX4 TX4 6], WD x
  exact List.forall_mem_cons.mpr ⟨wd_291, List.forall_mem_cons.mpr ⟨wd_293, List.forall_mem_cons.mpr ⟨wd_295, List.forall_mem_cons.mpr ⟨wd_297, List.forall_mem_cons.mpr ⟨wd_299, List.forall_mem_cons.mpr ⟨wd_301, List.forall_mem_cons.mpr ⟨wd_303, fun _ h => absurd h List.not_mem_nil⟩⟩⟩⟩⟩⟩⟩
theorem fi400 : FI 4 RX4 TX4 7 0 := ⟨rfl, by decide, inX4, by decide⟩
theorem fv400 : ∀ sl : Sl, (fieldsOf sl 4)[0]? = some (va_rf (sl.2.2.1 400)) := fun _ => rfl
theorem fu400 : ∀ (sl : Sl) (v : Option Nat), fieldsOf (upSR sl 400 v) 4 = (fieldsOf sl 4).set 0 (va_rf v) ∧ 0 < (fieldsOf sl 4).length := fun _ _ => ⟨rfl, Nat.le_of_ble_eq_true rfl⟩
theorem fi401 : FI 4 RX4 TX4 7 1 := ⟨rfl, by decide, inX4, by decide⟩
theorem fv401 : ∀ sl : Sl, (fieldsOf sl 4)[1]? = some (va_rf (sl.2.2.1 401)) := fun _ => rfl
theorem fu401 : ∀ (sl : Sl) (v : Option Nat), fieldsOf (upSR sl 401 v) 4 = (fieldsOf sl 4).set 1 (va_rf v) ∧ 1 < (fieldsOf sl 4).length := fun _ _ => ⟨rfl, Nat.le_of_ble_eq_true rfl⟩
theorem fi402 : FI 4 RX4 TX4 7 2 := ⟨rfl, by decide, inX4, by decide⟩
theorem fv402 : ∀ sl : Sl, (fieldsOf sl 4)[2]? = some (va_rf (sl.2.2.1 402)) := fun _ => rfl
theorem fu402 : ∀ (sl : Sl) (v : Option Nat), fieldsOf (upSR sl 402 v) 4 = (fieldsOf sl 4).set 2 (va_rf v) ∧ 2 < (fieldsOf sl 4).length := fun _ _ => ⟨rfl, Nat.le_of_ble_eq_true rfl⟩
theorem fi403 : FI 4 RX4 TX4 7 3 := ⟨rfl, by decide, inX4, by decide⟩
theorem fv403 : ∀ sl : Sl, (fieldsOf sl 4)[3]? = some (va_rf (sl.2.2.1 403)) := fun _ => rfl
theorem fu403 : ∀ (sl : Sl) (v : Option Nat), fieldsOf (upSR sl 403 v) 4 = (fieldsOf sl 4).set 3 (va_rf v) ∧ 3 < (fieldsOf sl 4).length := fun _ _ => ⟨rfl, Nat.le_of_ble_eq_true rfl⟩
theorem fi404 : FI 4 RX4 TX4 7 4 := ⟨rfl, by decide, inX4, by decide⟩
theorem fv404 : ∀ sl : Sl, (fieldsOf sl 4)[4]? = some (.int (sl.1 404)) := fun _ => rfl
theorem fu404 : ∀ (sl : Sl) (v : Int32), fieldsOf (upSI sl 404 v) 4 = (fieldsOf sl 4).set 4 (.int v) ∧ 4 < (fieldsOf sl 4).length := fun _ _ => ⟨rfl, Nat.le_of_ble_eq_true rfl⟩
theorem fi405 : FI 4 RX4 TX4 7 5 := ⟨rfl, by decide, inX4, by decide⟩
theorem fv405 : ∀ sl : Sl, (fieldsOf sl 4)[5]? = some (.int (sl.1 405)) := fun _ => rfl
theorem fu405 : ∀ (sl : Sl) (v : Int32), fieldsOf (upSI sl 405 v) 4 = (fieldsOf sl 4).set 5 (.int v) ∧ 5 < (fieldsOf sl 4).length := fun _ _ => ⟨rfl, Nat.le_of_ble_eq_true rfl⟩
theorem fi406 : FI 4 RX4 TX4 7 6 := ⟨rfl, by decide, inX4, by decide⟩
theorem fv406 : ∀ sl : Sl, (fieldsOf sl 4)[6]? = some (.int (sl.1 406)) := fun _ => rfl
theorem fu406 : ∀ (sl : Sl) (v : Int32), fieldsOf (upSI sl 406 v) 4 = (fieldsOf sl 4).set 6 (.int v) ∧ 6 < (fieldsOf sl 4).length := fun _ _ => ⟨rfl, Nat.le_of_ble_eq_true rfl⟩
theorem ftX5 : FT TX5 7 tyX5 := ⟨tyX5_ok, nmX5⟩
theorem inX5 : ∀ x ∈ u_ws RX5 TX5 7, WD x := by
  show ∀ x ∈ [u_lay RX5 TX5 0, u_lay RX5 TX5 1, u_lay RX5 TX5 2, u_lay RX5 TX5 3, u_lay RX5 TX5 4, u_lay RX5 TX5 5, u_lay RX5 TX5 6], WD x
  exact List.forall_mem_cons.mpr ⟨wd_322, List.forall_mem_cons.mpr ⟨wd_324, List.forall_mem_cons.mpr ⟨wd_326, List.forall_mem_cons.mpr ⟨wd_328, List.forall_mem_cons.mpr ⟨wd_330, List.forall_mem_cons.mpr ⟨wd_332, List.forall_mem_cons.mpr ⟨wd_334, fun _ h => absurd h List.not_mem_nil⟩⟩⟩⟩⟩⟩⟩
theorem fi500 : FI 5 RX5 TX5 7 0 := ⟨rfl, by decide, inX5, by decide⟩
theorem fv500 : ∀ sl : Sl, (fieldsOf sl 5)[0]? = some (va_rf (sl.2.2.1 500)) := fun _ => rfl
theorem fu500 : ∀ (sl : Sl) (v : Option Nat), fieldsOf (upSR sl 500 v) 5 = (fieldsOf sl 5).set 0 (va_rf v) ∧ 0 < (fieldsOf sl 5).length := fun _ _ => ⟨rfl, Nat.le_of_ble_eq_true rfl⟩
theorem fi501 : FI 5 RX5 TX5 7 1 := ⟨rfl, by decide, inX5, by decide⟩
theorem fv501 : ∀ sl : Sl, (fieldsOf sl 5)[1]? = some (va_rf (sl.2.2.1 501)) := fun _ => rfl
theorem fu501 : ∀ (sl : Sl) (v : Option Nat), fieldsOf (upSR sl 501 v) 5 = (fieldsOf sl 5).set 1 (va_rf v) ∧ 1 < (fieldsOf sl 5).length := fun _ _ => ⟨rfl, Nat.le_of_ble_eq_true rfl⟩
theorem fi502 : FI 5 RX5 TX5 7 2 := ⟨rfl, by decide, inX5, by decide⟩
theorem fv502 : ∀ sl : Sl, (fieldsOf sl 5)[2]? = some (va_rf (sl.2.2.1 502)) := fun _ => rfl
theorem fu502 : ∀ (sl : Sl) (v : Option Nat), fieldsOf (upSR sl 502 v) 5 = (fieldsOf sl 5).set 2 (va_rf v) ∧ 2 < (fieldsOf sl 5).length := fun _ _ => ⟨rfl, Nat.le_of_ble_eq_true rfl⟩
theorem fi503 : FI 5 RX5 TX5 7 3 := ⟨rfl, by decide, inX5, by decide⟩
theorem fv503 : ∀ sl : Sl, (fieldsOf sl 5)[3]? = some (va_rf (sl.2.2.1 503)) := fun _ => rfl
theorem fu503 : ∀ (sl : Sl) (v : Option Nat), fieldsOf (upSR sl 503 v) 5 = (fieldsOf sl 5).set 3 (va_rf v) ∧ 3 < (fieldsOf sl 5).length := fun _ _ => ⟨rfl, Nat.le_of_ble_eq_true rfl⟩
theorem fi504 : FI 5 RX5 TX5 7 4 := ⟨rfl, by decide, inX5, by decide⟩
theorem fv504 : ∀ sl : Sl, (fieldsOf sl 5)[4]? = some (va_rf (sl.2.2.1 504)) := fun _ => rfl
theorem fu504 : ∀ (sl : Sl) (v : Option Nat), fieldsOf (upSR sl 504 v) 5 = (fieldsOf sl 5).set 4 (va_rf v) ∧ 4 < (fieldsOf sl 5).length := fun _ _ => ⟨rfl, Nat.le_of_ble_eq_true rfl⟩
theorem fi505 : FI 5 RX5 TX5 7 5 := ⟨rfl, by decide, inX5, by decide⟩
theorem fv505 : ∀ sl : Sl, (fieldsOf sl 5)[5]? = some (va_rf (sl.2.2.1 505)) := fun _ => rfl
theorem fu505 : ∀ (sl : Sl) (v : Option Nat), fieldsOf (upSR sl 505 v) 5 = (fieldsOf sl 5).set 5 (va_rf v) ∧ 5 < (fieldsOf sl 5).length := fun _ _ => ⟨rfl, Nat.le_of_ble_eq_true rfl⟩
theorem fi506 : FI 5 RX5 TX5 7 6 := ⟨rfl, by decide, inX5, by decide⟩
theorem fv506 : ∀ sl : Sl, (fieldsOf sl 5)[6]? = some (.int (sl.1 506)) := fun _ => rfl
theorem fu506 : ∀ (sl : Sl) (v : Int32), fieldsOf (upSI sl 506 v) 5 = (fieldsOf sl 5).set 6 (.int v) ∧ 6 < (fieldsOf sl 5).length := fun _ _ => ⟨rfl, Nat.le_of_ble_eq_true rfl⟩
theorem ftX6 : FT TX6 2 tyX6 := ⟨tyX6_ok, nmX6⟩
theorem inX6 : ∀ x ∈ u_ws RX6 TX6 2, WD x := by
  show ∀ x ∈ [u_lay RX6 TX6 0, u_lay RX6 TX6 1], WD x
  exact List.forall_mem_cons.mpr ⟨wd_249, List.forall_mem_cons.mpr ⟨wd_251, fun _ h => absurd h List.not_mem_nil⟩⟩
theorem fi600 : FI 6 RX6 TX6 2 0 := ⟨rfl, by decide, inX6, by decide⟩
theorem fv600 : ∀ sl : Sl, (fieldsOf sl 6)[0]? = some (.int (sl.1 600)) := fun _ => rfl
theorem fu600 : ∀ (sl : Sl) (v : Int32), fieldsOf (upSI sl 600 v) 6 = (fieldsOf sl 6).set 0 (.int v) ∧ 0 < (fieldsOf sl 6).length := fun _ _ => ⟨rfl, Nat.le_of_ble_eq_true rfl⟩
theorem fi601 : FI 6 RX6 TX6 2 1 := ⟨rfl, by decide, inX6, by decide⟩
theorem fv601 : ∀ sl : Sl, (fieldsOf sl 6)[1]? = some (.int (sl.1 601)) := fun _ => rfl
theorem fu601 : ∀ (sl : Sl) (v : Int32), fieldsOf (upSI sl 601 v) 6 = (fieldsOf sl 6).set 1 (.int v) ∧ 1 < (fieldsOf sl 6).length := fun _ _ => ⟨rfl, Nat.le_of_ble_eq_true rfl⟩
theorem ftX7 : FT TX7 4 tyX7 := ⟨tyX7_ok, nmX7⟩
theorem inX7 : ∀ x ∈ u_ws RX7 TX7 4, WD x := by
  show ∀ x ∈ [u_lay RX7 TX7 0, u_lay RX7 TX7 1, u_lay RX7 TX7 2, u_lay RX7 TX7 3], WD x
  exact List.forall_mem_cons.mpr ⟨wd_138, List.forall_mem_cons.mpr ⟨wd_140, List.forall_mem_cons.mpr ⟨wd_142, List.forall_mem_cons.mpr ⟨wd_144, fun _ h => absurd h List.not_mem_nil⟩⟩⟩⟩
theorem fi700 : FI 7 RX7 TX7 4 0 := ⟨rfl, by decide, inX7, by decide⟩
theorem fv700 : ∀ sl : Sl, (fieldsOf sl 7)[0]? = some (va_rf (sl.2.2.1 700)) := fun _ => rfl
theorem fu700 : ∀ (sl : Sl) (v : Option Nat), fieldsOf (upSR sl 700 v) 7 = (fieldsOf sl 7).set 0 (va_rf v) ∧ 0 < (fieldsOf sl 7).length := fun _ _ => ⟨rfl, Nat.le_of_ble_eq_true rfl⟩
theorem fi701 : FI 7 RX7 TX7 4 1 := ⟨rfl, by decide, inX7, by decide⟩
theorem fv701 : ∀ sl : Sl, (fieldsOf sl 7)[1]? = some (va_rf (sl.2.2.1 701)) := fun _ => rfl
theorem fu701 : ∀ (sl : Sl) (v : Option Nat), fieldsOf (upSR sl 701 v) 7 = (fieldsOf sl 7).set 1 (va_rf v) ∧ 1 < (fieldsOf sl 7).length := fun _ _ => ⟨rfl, Nat.le_of_ble_eq_true rfl⟩
theorem fi702 : FI 7 RX7 TX7 4 2 := ⟨rfl, by decide, inX7, by decide⟩
theorem fv702 : ∀ sl : Sl, (fieldsOf sl 7)[2]? = some (va_rf (sl.2.2.1 702)) := fun _ => rfl
theorem fu702 : ∀ (sl : Sl) (v : Option Nat), fieldsOf (upSR sl 702 v) 7 = (fieldsOf sl 7).set 2 (va_rf v) ∧ 2 < (fieldsOf sl 7).length := fun _ _ => ⟨rfl, Nat.le_of_ble_eq_true rfl⟩
theorem fi703 : FI 7 RX7 TX7 4 3 := ⟨rfl, by decide, inX7, by decide⟩
theorem fv703 : ∀ sl : Sl, (fieldsOf sl 7)[3]? = some (.int (sl.1 703)) := fun _ => rfl
theorem fu703 : ∀ (sl : Sl) (v : Int32), fieldsOf (upSI sl 703 v) 7 = (fieldsOf sl 7).set 3 (.int v) ∧ 3 < (fieldsOf sl 7).length := fun _ _ => ⟨rfl, Nat.le_of_ble_eq_true rfl⟩
theorem ftX8 : FT TX8 13 tyX8 := ⟨tyX8_ok, nmX8⟩
theorem inX8 : ∀ x ∈ u_ws RX8 TX8 13, WD x := by
  show ∀ x ∈ [u_lay RX8 TX8 0, u_lay RX8 TX8 1, u_lay RX8 TX8 2, u_lay RX8 TX8 3, u_lay RX8 TX8 4, u_lay RX8 TX8 5, u_lay RX8 TX8 6, u_lay RX8 TX8 7, u_lay RX8 TX8 8, u_lay RX8 TX8 9, u_lay RX8 TX8 10, u_lay RX8 TX8 11, u_lay RX8 TX8 12], WD x
  exact List.forall_mem_cons.mpr ⟨wd_351, List.forall_mem_cons.mpr ⟨wd_353, List.forall_mem_cons.mpr ⟨wd_355, List.forall_mem_cons.mpr ⟨wd_357, List.forall_mem_cons.mpr ⟨wd_359, List.forall_mem_cons.mpr ⟨wd_361, List.forall_mem_cons.mpr ⟨wd_363, List.forall_mem_cons.mpr ⟨wd_365, List.forall_mem_cons.mpr ⟨wd_367, List.forall_mem_cons.mpr ⟨wd_369, List.forall_mem_cons.mpr ⟨wd_371, List.forall_mem_cons.mpr ⟨wd_373, List.forall_mem_cons.mpr ⟨wd_375, fun _ h => absurd h List.not_mem_nil⟩⟩⟩⟩⟩⟩⟩⟩⟩⟩⟩⟩⟩
theorem fi800 : FI 8 RX8 TX8 13 0 := ⟨rfl, by decide, inX8, by decide⟩
theorem fv800 : ∀ sl : Sl, (fieldsOf sl 8)[0]? = some (va_rf (sl.2.2.1 800)) := fun _ => rfl
theorem fu800 : ∀ (sl : Sl) (v : Option Nat), fieldsOf (upSR sl 800 v) 8 = (fieldsOf sl 8).set 0 (va_rf v) ∧ 0 < (fieldsOf sl 8).length := fun _ _ => ⟨rfl, Nat.le_of_ble_eq_true rfl⟩
theorem fi801 : FI 8 RX8 TX8 13 1 := ⟨rfl, by decide, inX8, by decide⟩
theorem fv801 : ∀ sl : Sl, (fieldsOf sl 8)[1]? = some (va_rf (sl.2.2.1 801)) := fun _ => rfl
theorem fu801 : ∀ (sl : Sl) (v : Option Nat), fieldsOf (upSR sl 801 v) 8 = (fieldsOf sl 8).set 1 (va_rf v) ∧ 1 < (fieldsOf sl 8).length := fun _ _ => ⟨rfl, Nat.le_of_ble_eq_true rfl⟩
theorem fi802 : FI 8 RX8 TX8 13 2 := ⟨rfl, by decide, inX8, by decide⟩
theorem fv802 : ∀ sl : Sl, (fieldsOf sl 8)[2]? = some (va_rf (sl.2.2.1 802)) := fun _ => rfl
theorem fu802 : ∀ (sl : Sl) (v : Option Nat), fieldsOf (upSR sl 802 v) 8 = (fieldsOf sl 8).set 2 (va_rf v) ∧ 2 < (fieldsOf sl 8).length := fun _ _ => ⟨rfl, Nat.le_of_ble_eq_true rfl⟩
theorem fi803 : FI 8 RX8 TX8 13 3 := ⟨rfl, by decide, inX8, by decide⟩
theorem fv803 : ∀ sl : Sl, (fieldsOf sl 8)[3]? = some (va_rf (sl.2.2.1 803)) := fun _ => rfl
theorem fu803 : ∀ (sl : Sl) (v : Option Nat), fieldsOf (upSR sl 803 v) 8 = (fieldsOf sl 8).set 3 (va_rf v) ∧ 3 < (fieldsOf sl 8).length := fun _ _ => ⟨rfl, Nat.le_of_ble_eq_true rfl⟩
theorem fi804 : FI 8 RX8 TX8 13 4 := ⟨rfl, by decide, inX8, by decide⟩
theorem fv804 : ∀ sl : Sl, (fieldsOf sl 8)[4]? = some (va_rf (sl.2.2.1 804)) := fun _ => rfl
theorem fu804 : ∀ (sl : Sl) (v : Option Nat), fieldsOf (upSR sl 804 v) 8 = (fieldsOf sl 8).set 4 (va_rf v) ∧ 4 < (fieldsOf sl 8).length := fun _ _ => ⟨rfl, Nat.le_of_ble_eq_true rfl⟩
theorem fi805 : FI 8 RX8 TX8 13 5 := ⟨rfl, by decide, inX8, by decide⟩
theorem fv805 : ∀ sl : Sl, (fieldsOf sl 8)[5]? = some (va_rf (sl.2.2.1 805)) := fun _ => rfl
theorem fu805 : ∀ (sl : Sl) (v : Option Nat), fieldsOf (upSR sl 805 v) 8 = (fieldsOf sl 8).set 5 (va_rf v) ∧ 5 < (fieldsOf sl 8).length := fun _ _ => ⟨rfl, Nat.le_of_ble_eq_true rfl⟩
theorem fi806 : FI 8 RX8 TX8 13 6 := ⟨rfl, by decide, inX8, by decide⟩
theorem fv806 : ∀ sl : Sl, (fieldsOf sl 8)[6]? = some (va_rf (sl.2.2.1 806)) := fun _ => rfl
theorem fu806 : ∀ (sl : Sl) (v : Option Nat), fieldsOf (upSR sl 806 v) 8 = (fieldsOf sl 8).set 6 (va_rf v) ∧ 6 < (fieldsOf sl 8).length := fun _ _ => ⟨rfl, Nat.le_of_ble_eq_true rfl⟩
theorem fi807 : FI 8 RX8 TX8 13 7 := ⟨rfl, by decide, inX8, by decide⟩
theorem fv807 : ∀ sl : Sl, (fieldsOf sl 8)[7]? = some (va_rf (sl.2.2.1 807)) := fun _ => rfl
theorem fu807 : ∀ (sl : Sl) (v : Option Nat), fieldsOf (upSR sl 807 v) 8 = (fieldsOf sl 8).set 7 (va_rf v) ∧ 7 < (fieldsOf sl 8).length := fun _ _ => ⟨rfl, Nat.le_of_ble_eq_true rfl⟩
theorem fi808 : FI 8 RX8 TX8 13 8 := ⟨rfl, by decide, inX8, by decide⟩
theorem fv808 : ∀ sl : Sl, (fieldsOf sl 8)[8]? = some (va_rf (sl.2.2.1 808)) := fun _ => rfl
theorem fu808 : ∀ (sl : Sl) (v : Option Nat), fieldsOf (upSR sl 808 v) 8 = (fieldsOf sl 8).set 8 (va_rf v) ∧ 8 < (fieldsOf sl 8).length := fun _ _ => ⟨rfl, Nat.le_of_ble_eq_true rfl⟩
theorem fi809 : FI 8 RX8 TX8 13 9 := ⟨rfl, by decide, inX8, by decide⟩
theorem fv809 : ∀ sl : Sl, (fieldsOf sl 8)[9]? = some (va_rf (sl.2.2.1 809)) := fun _ => rfl
theorem fu809 : ∀ (sl : Sl) (v : Option Nat), fieldsOf (upSR sl 809 v) 8 = (fieldsOf sl 8).set 9 (va_rf v) ∧ 9 < (fieldsOf sl 8).length := fun _ _ => ⟨rfl, Nat.le_of_ble_eq_true rfl⟩
theorem fi810 : FI 8 RX8 TX8 13 10 := ⟨rfl, by decide, inX8, by decide⟩
theorem fv810 : ∀ sl : Sl, (fieldsOf sl 8)[10]? = some (.int (sl.1 810)) := fun _ => rfl
theorem fu810 : ∀ (sl : Sl) (v : Int32), fieldsOf (upSI sl 810 v) 8 = (fieldsOf sl 8).set 10 (.int v) ∧ 10 < (fieldsOf sl 8).length := fun _ _ => ⟨rfl, Nat.le_of_ble_eq_true rfl⟩
theorem fi811 : FI 8 RX8 TX8 13 11 := ⟨rfl, by decide, inX8, by decide⟩
theorem fv811 : ∀ sl : Sl, (fieldsOf sl 8)[11]? = some (.int (sl.1 811)) := fun _ => rfl
theorem fu811 : ∀ (sl : Sl) (v : Int32), fieldsOf (upSI sl 811 v) 8 = (fieldsOf sl 8).set 11 (.int v) ∧ 11 < (fieldsOf sl 8).length := fun _ _ => ⟨rfl, Nat.le_of_ble_eq_true rfl⟩
theorem fi812 : FI 8 RX8 TX8 13 12 := ⟨rfl, by decide, inX8, by decide⟩
theorem fv812 : ∀ sl : Sl, (fieldsOf sl 8)[12]? = some (.int (sl.1 812)) := fun _ => rfl
theorem fu812 : ∀ (sl : Sl) (v : Int32), fieldsOf (upSI sl 812 v) 8 = (fieldsOf sl 8).set 12 (.int v) ∧ 12 < (fieldsOf sl 8).length := fun _ _ => ⟨rfl, Nat.le_of_ble_eq_true rfl⟩
theorem ftX9 : FT TX9 47 tyX9 := ⟨tyX9_ok, nmX9⟩
theorem inX9 : ∀ x ∈ u_ws RX9 TX9 47, WD x := by
  show ∀ x ∈ [u_lay RX9 TX9 0, u_lay RX9 TX9 1, u_lay RX9 TX9 2, u_lay RX9 TX9 3, u_lay RX9 TX9 4, u_lay RX9 TX9 5, u_lay RX9 TX9 6, u_lay RX9 TX9 7, u_lay RX9 TX9 8, u_lay RX9 TX9 9, u_lay RX9 TX9 10, u_lay RX9 TX9 11, u_lay RX9 TX9 12, u_lay RX9 TX9 13, u_lay RX9 TX9 14, u_lay RX9 TX9 15, u_lay RX9 TX9 16, u_lay RX9 TX9 17, u_lay RX9 TX9 18, u_lay RX9 TX9 19, u_lay RX9 TX9 20, u_lay RX9 TX9 21, u_lay RX9 TX9 22, u_lay RX9 TX9 23, u_lay RX9 TX9 24, u_lay RX9 TX9 25, u_lay RX9 TX9 26, u_lay RX9 TX9 27, u_lay RX9 TX9 28, u_lay RX9 TX9 29, u_lay RX9 TX9 30, u_lay RX9 TX9 31, u_lay RX9 TX9 32, u_lay RX9 TX9 33, u_lay RX9 TX9 34, u_lay RX9 TX9 35, u_lay RX9 TX9 36, u_lay RX9 TX9 37, u_lay RX9 TX9 38, u_lay RX9 TX9 39, u_lay RX9 TX9 40, u_lay RX9 TX9 41, u_lay RX9 TX9 42, u_lay RX9 TX9 43, u_lay RX9 TX9 44, u_lay RX9 TX9 45, u_lay RX9 TX9 46], WD x
  exact List.forall_mem_cons.mpr ⟨wd_1288, List.forall_mem_cons.mpr ⟨wd_1290, List.forall_mem_cons.mpr ⟨wd_1292, List.forall_mem_cons.mpr ⟨wd_1294, List.forall_mem_cons.mpr ⟨wd_1296, List.forall_mem_cons.mpr ⟨wd_1298, List.forall_mem_cons.mpr ⟨wd_1300, List.forall_mem_cons.mpr ⟨wd_1302, List.forall_mem_cons.mpr ⟨wd_1304, List.forall_mem_cons.mpr ⟨wd_1306, List.forall_mem_cons.mpr ⟨wd_1308, List.forall_mem_cons.mpr ⟨wd_1310, List.forall_mem_cons.mpr ⟨wd_1312, List.forall_mem_cons.mpr ⟨wd_1314, List.forall_mem_cons.mpr ⟨wd_1316, List.forall_mem_cons.mpr ⟨wd_1318, List.forall_mem_cons.mpr ⟨wd_1320, List.forall_mem_cons.mpr ⟨wd_1322, List.forall_mem_cons.mpr ⟨wd_1324, List.forall_mem_cons.mpr ⟨wd_1326, List.forall_mem_cons.mpr ⟨wd_1328, List.forall_mem_cons.mpr ⟨wd_1330, List.forall_mem_cons.mpr ⟨wd_1332, List.forall_mem_cons.mpr ⟨wd_1334, List.forall_mem_cons.mpr ⟨wd_1336, List.forall_mem_cons.mpr ⟨wd_1338, List.forall_mem_cons.mpr ⟨wd_1340, List.forall_mem_cons.mpr ⟨wd_1342, List.forall_mem_cons.mpr ⟨wd_1344, List.forall_mem_cons.mpr ⟨wd_1346, List.forall_mem_cons.mpr ⟨wd_1348, List.forall_mem_cons.mpr ⟨wd_1350, List.forall_mem_cons.mpr ⟨wd_1352, List.forall_mem_cons.mpr ⟨wd_1354, List.forall_mem_cons.mpr ⟨wd_1356, List.forall_mem_cons.mpr ⟨wd_1358, List.forall_mem_cons.mpr ⟨wd_1360, List.forall_mem_cons.mpr ⟨wd_1362, List.forall_mem_cons.mpr ⟨wd_1364, List.forall_mem_cons.mpr ⟨wd_1366, List.forall_mem_cons.mpr ⟨wd_1368, List.forall_mem_cons.mpr ⟨wd_1370, List.forall_mem_cons.mpr ⟨wd_1372, List.forall_mem_cons.mpr ⟨wd_1374, List.forall_mem_cons.mpr ⟨wd_1376, List.forall_mem_cons.mpr ⟨wd_1378, List.forall_mem_cons.mpr ⟨wd_1380, fun _ h => absurd h List.not_mem_nil⟩⟩⟩⟩⟩⟩⟩⟩⟩⟩⟩⟩⟩⟩⟩⟩⟩⟩⟩⟩⟩⟩⟩⟩⟩⟩⟩⟩⟩⟩⟩⟩⟩⟩⟩⟩⟩⟩⟩⟩⟩⟩⟩⟩⟩⟩⟩
theorem fi900 : FI 9 RX9 TX9 47 0 := ⟨rfl, by decide, inX9, by decide⟩
theorem fv900 : ∀ sl : Sl, (fieldsOf sl 9)[0]? = some (va_rf (sl.2.2.1 900)) := fun _ => rfl
theorem fu900 : ∀ (sl : Sl) (v : Option Nat), fieldsOf (upSR sl 900 v) 9 = (fieldsOf sl 9).set 0 (va_rf v) ∧ 0 < (fieldsOf sl 9).length := fun _ _ => ⟨rfl, Nat.le_of_ble_eq_true rfl⟩
theorem fi901 : FI 9 RX9 TX9 47 1 := ⟨rfl, by decide, inX9, by decide⟩
theorem fv901 : ∀ sl : Sl, (fieldsOf sl 9)[1]? = some (va_rf (sl.2.2.1 901)) := fun _ => rfl
theorem fu901 : ∀ (sl : Sl) (v : Option Nat), fieldsOf (upSR sl 901 v) 9 = (fieldsOf sl 9).set 1 (va_rf v) ∧ 1 < (fieldsOf sl 9).length := fun _ _ => ⟨rfl, Nat.le_of_ble_eq_true rfl⟩
theorem fi902 : FI 9 RX9 TX9 47 2 := ⟨rfl, by decide, inX9, by decide⟩
theorem fv902 : ∀ sl : Sl, (fieldsOf sl 9)[2]? = some (va_rf (sl.2.2.1 902)) := fun _ => rfl
theorem fu902 : ∀ (sl : Sl) (v : Option Nat), fieldsOf (upSR sl 902 v) 9 = (fieldsOf sl 9).set 2 (va_rf v) ∧ 2 < (fieldsOf sl 9).length := fun _ _ => ⟨rfl, Nat.le_of_ble_eq_true rfl⟩
theorem fi903 : FI 9 RX9 TX9 47 3 := ⟨rfl, by decide, inX9, by decide⟩
theorem fv903 : ∀ sl : Sl, (fieldsOf sl 9)[3]? = some (.int (sl.1 903)) := fun _ => rfl
theorem fu903 : ∀ (sl : Sl) (v : Int32), fieldsOf (upSI sl 903 v) 9 = (fieldsOf sl 9).set 3 (.int v) ∧ 3 < (fieldsOf sl 9).length := fun _ _ => ⟨rfl, Nat.le_of_ble_eq_true rfl⟩
theorem fi904 : FI 9 RX9 TX9 47 4 := ⟨rfl, by decide, inX9, by decide⟩
theorem fv904 : ∀ sl : Sl, (fieldsOf sl 9)[4]? = some (va_rf (sl.2.2.1 904)) := fun _ => rfl
theorem fu904 : ∀ (sl : Sl) (v : Option Nat), fieldsOf (upSR sl 904 v) 9 = (fieldsOf sl 9).set 4 (va_rf v) ∧ 4 < (fieldsOf sl 9).length := fun _ _ => ⟨rfl, Nat.le_of_ble_eq_true rfl⟩
theorem fi905 : FI 9 RX9 TX9 47 5 := ⟨rfl, by decide, inX9, by decide⟩
theorem fv905 : ∀ sl : Sl, (fieldsOf sl 9)[5]? = some (.int (sl.1 905)) := fun _ => rfl
theorem fu905 : ∀ (sl : Sl) (v : Int32), fieldsOf (upSI sl 905 v) 9 = (fieldsOf sl 9).set 5 (.int v) ∧ 5 < (fieldsOf sl 9).length := fun _ _ => ⟨rfl, Nat.le_of_ble_eq_true rfl⟩
theorem fi906 : FI 9 RX9 TX9 47 6 := ⟨rfl, by decide, inX9, by decide⟩
theorem fv906 : ∀ sl : Sl, (fieldsOf sl 9)[6]? = some (.int (sl.1 906)) := fun _ => rfl
theorem fu906 : ∀ (sl : Sl) (v : Int32), fieldsOf (upSI sl 906 v) 9 = (fieldsOf sl 9).set 6 (.int v) ∧ 6 < (fieldsOf sl 9).length := fun _ _ => ⟨rfl, Nat.le_of_ble_eq_true rfl⟩
theorem fi907 : FI 9 RX9 TX9 47 7 := ⟨rfl, by decide, inX9, by decide⟩
theorem fv907 : ∀ sl : Sl, (fieldsOf sl 9)[7]? = some (va_rf (sl.2.2.1 907)) := fun _ => rfl
theorem fu907 : ∀ (sl : Sl) (v : Option Nat), fieldsOf (upSR sl 907 v) 9 = (fieldsOf sl 9).set 7 (va_rf v) ∧ 7 < (fieldsOf sl 9).length := fun _ _ => ⟨rfl, Nat.le_of_ble_eq_true rfl⟩
theorem fi908 : FI 9 RX9 TX9 47 8 := ⟨rfl, by decide, inX9, by decide⟩
theorem fv908 : ∀ sl : Sl, (fieldsOf sl 9)[8]? = some (.int (sl.1 908)) := fun _ => rfl
theorem fu908 : ∀ (sl : Sl) (v : Int32), fieldsOf (upSI sl 908 v) 9 = (fieldsOf sl 9).set 8 (.int v) ∧ 8 < (fieldsOf sl 9).length := fun _ _ => ⟨rfl, Nat.le_of_ble_eq_true rfl⟩
theorem fi909 : FI 9 RX9 TX9 47 9 := ⟨rfl, by decide, inX9, by decide⟩
theorem fv909 : ∀ sl : Sl, (fieldsOf sl 9)[9]? = some (.int (sl.1 909)) := fun _ => rfl
theorem fu909 : ∀ (sl : Sl) (v : Int32), fieldsOf (upSI sl 909 v) 9 = (fieldsOf sl 9).set 9 (.int v) ∧ 9 < (fieldsOf sl 9).length := fun _ _ => ⟨rfl, Nat.le_of_ble_eq_true rfl⟩
theorem fi910 : FI 9 RX9 TX9 47 10 := ⟨rfl, by decide, inX9, by decide⟩
theorem fv910 : ∀ sl : Sl, (fieldsOf sl 9)[10]? = some (.int (sl.1 910)) := fun _ => rfl
theorem fu910 : ∀ (sl : Sl) (v : Int32), fieldsOf (upSI sl 910 v) 9 = (fieldsOf sl 9).set 10 (.int v) ∧ 10 < (fieldsOf sl 9).length := fun _ _ => ⟨rfl, Nat.le_of_ble_eq_true rfl⟩
theorem fi911 : FI 9 RX9 TX9 47 11 := ⟨rfl, by decide, inX9, by decide⟩
theorem fv911 : ∀ sl : Sl, (fieldsOf sl 9)[11]? = some (.int (sl.1 911)) := fun _ => rfl
theorem fu911 : ∀ (sl : Sl) (v : Int32), fieldsOf (upSI sl 911 v) 9 = (fieldsOf sl 9).set 11 (.int v) ∧ 11 < (fieldsOf sl 9).length := fun _ _ => ⟨rfl, Nat.le_of_ble_eq_true rfl⟩
theorem fi912 : FI 9 RX9 TX9 47 12 := ⟨rfl, by decide, inX9, by decide⟩
theorem fv912 : ∀ sl : Sl, (fieldsOf sl 9)[12]? = some (.int (sl.1 912)) := fun _ => rfl
theorem fu912 : ∀ (sl : Sl) (v : Int32), fieldsOf (upSI sl 912 v) 9 = (fieldsOf sl 9).set 12 (.int v) ∧ 12 < (fieldsOf sl 9).length := fun _ _ => ⟨rfl, Nat.le_of_ble_eq_true rfl⟩
theorem fi913 : FI 9 RX9 TX9 47 13 := ⟨rfl, by decide, inX9, by decide⟩
theorem fv913 : ∀ sl : Sl, (fieldsOf sl 9)[13]? = some (.int (sl.1 913)) := fun _ => rfl
theorem fu913 : ∀ (sl : Sl) (v : Int32), fieldsOf (upSI sl 913 v) 9 = (fieldsOf sl 9).set 13 (.int v) ∧ 13 < (fieldsOf sl 9).length := fun _ _ => ⟨rfl, Nat.le_of_ble_eq_true rfl⟩
theorem fi914 : FI 9 RX9 TX9 47 14 := ⟨rfl, by decide, inX9, by decide⟩
theorem fv914 : ∀ sl : Sl, (fieldsOf sl 9)[14]? = some (va_rf (sl.2.2.1 914)) := fun _ => rfl
theorem fu914 : ∀ (sl : Sl) (v : Option Nat), fieldsOf (upSR sl 914 v) 9 = (fieldsOf sl 9).set 14 (va_rf v) ∧ 14 < (fieldsOf sl 9).length := fun _ _ => ⟨rfl, Nat.le_of_ble_eq_true rfl⟩
theorem fi915 : FI 9 RX9 TX9 47 15 := ⟨rfl, by decide, inX9, by decide⟩
theorem fv915 : ∀ sl : Sl, (fieldsOf sl 9)[15]? = some (va_rf (sl.2.2.1 915)) := fun _ => rfl
theorem fu915 : ∀ (sl : Sl) (v : Option Nat), fieldsOf (upSR sl 915 v) 9 = (fieldsOf sl 9).set 15 (va_rf v) ∧ 15 < (fieldsOf sl 9).length := fun _ _ => ⟨rfl, Nat.le_of_ble_eq_true rfl⟩
theorem fi916 : FI 9 RX9 TX9 47 16 := ⟨rfl, by decide, inX9, by decide⟩
theorem fv916 : ∀ sl : Sl, (fieldsOf sl 9)[16]? = some (.int (sl.1 916)) := fun _ => rfl
theorem fu916 : ∀ (sl : Sl) (v : Int32), fieldsOf (upSI sl 916 v) 9 = (fieldsOf sl 9).set 16 (.int v) ∧ 16 < (fieldsOf sl 9).length := fun _ _ => ⟨rfl, Nat.le_of_ble_eq_true rfl⟩
theorem fi917 : FI 9 RX9 TX9 47 17 := ⟨rfl, by decide, inX9, by decide⟩
theorem fv917 : ∀ sl : Sl, (fieldsOf sl 9)[17]? = some (va_rf (sl.2.2.1 917)) := fun _ => rfl
theorem fu917 : ∀ (sl : Sl) (v : Option Nat), fieldsOf (upSR sl 917 v) 9 = (fieldsOf sl 9).set 17 (va_rf v) ∧ 17 < (fieldsOf sl 9).length := fun _ _ => ⟨rfl, Nat.le_of_ble_eq_true rfl⟩
theorem fi918 : FI 9 RX9 TX9 47 18 := ⟨rfl, by decide, inX9, by decide⟩
theorem fv918 : ∀ sl : Sl, (fieldsOf sl 9)[18]? = some (va_rf (sl.2.2.1 918)) := fun _ => rfl
theorem fu918 : ∀ (sl : Sl) (v : Option Nat), fieldsOf (upSR sl 918 v) 9 = (fieldsOf sl 9).set 18 (va_rf v) ∧ 18 < (fieldsOf sl 9).length := fun _ _ => ⟨rfl, Nat.le_of_ble_eq_true rfl⟩
theorem fi919 : FI 9 RX9 TX9 47 19 := ⟨rfl, by decide, inX9, by decide⟩
theorem fv919 : ∀ sl : Sl, (fieldsOf sl 9)[19]? = some (va_rf (sl.2.2.1 919)) := fun _ => rfl
theorem fu919 : ∀ (sl : Sl) (v : Option Nat), fieldsOf (upSR sl 919 v) 9 = (fieldsOf sl 9).set 19 (va_rf v) ∧ 19 < (fieldsOf sl 9).length := fun _ _ => ⟨rfl, Nat.le_of_ble_eq_true rfl⟩
theorem fi920 : FI 9 RX9 TX9 47 20 := ⟨rfl, by decide, inX9, by decide⟩
theorem fv920 : ∀ sl : Sl, (fieldsOf sl 9)[20]? = some (va_rf (sl.2.2.1 920)) := fun _ => rfl
theorem fu920 : ∀ (sl : Sl) (v : Option Nat), fieldsOf (upSR sl 920 v) 9 = (fieldsOf sl 9).set 20 (va_rf v) ∧ 20 < (fieldsOf sl 9).length := fun _ _ => ⟨rfl, Nat.le_of_ble_eq_true rfl⟩
theorem fi921 : FI 9 RX9 TX9 47 21 := ⟨rfl, by decide, inX9, by decide⟩
theorem fv921 : ∀ sl : Sl, (fieldsOf sl 9)[21]? = some (va_rf (sl.2.2.1 921)) := fun _ => rfl
theorem fu921 : ∀ (sl : Sl) (v : Option Nat), fieldsOf (upSR sl 921 v) 9 = (fieldsOf sl 9).set 21 (va_rf v) ∧ 21 < (fieldsOf sl 9).length := fun _ _ => ⟨rfl, Nat.le_of_ble_eq_true rfl⟩
theorem fi922 : FI 9 RX9 TX9 47 22 := ⟨rfl, by decide, inX9, by decide⟩
theorem fv922 : ∀ sl : Sl, (fieldsOf sl 9)[22]? = some (va_rf (sl.2.2.1 922)) := fun _ => rfl
theorem fu922 : ∀ (sl : Sl) (v : Option Nat), fieldsOf (upSR sl 922 v) 9 = (fieldsOf sl 9).set 22 (va_rf v) ∧ 22 < (fieldsOf sl 9).length := fun _ _ => ⟨rfl, Nat.le_of_ble_eq_true rfl⟩
theorem fi923 : FI 9 RX9 TX9 47 23 := ⟨rfl, by decide, inX9, by decide⟩
theorem fv923 : ∀ sl : Sl, (fieldsOf sl 9)[23]? = some (va_rf (sl.2.2.1 923)) := fun _ => rfl
theorem fu923 : ∀ (sl : Sl) (v : Option Nat), fieldsOf (upSR sl 923 v) 9 = (fieldsOf sl 9).set 23 (va_rf v) ∧ 23 < (fieldsOf sl 9).length := fun _ _ => ⟨rfl, Nat.le_of_ble_eq_true rfl⟩
theorem fi924 : FI 9 RX9 TX9 47 24 := ⟨rfl, by decide, inX9, by decide⟩
theorem fv924 : ∀ sl : Sl, (fieldsOf sl 9)[24]? = some (.int (sl.1 924)) := fun _ => rfl
theorem fu924 : ∀ (sl : Sl) (v : Int32), fieldsOf (upSI sl 924 v) 9 = (fieldsOf sl 9).set 24 (.int v) ∧ 24 < (fieldsOf sl 9).length := fun _ _ => ⟨rfl, Nat.le_of_ble_eq_true rfl⟩
theorem fi925 : FI 9 RX9 TX9 47 25 := ⟨rfl, by decide, inX9, by decide⟩
theorem fv925 : ∀ sl : Sl, (fieldsOf sl 9)[25]? = some (va_rf (sl.2.2.1 925)) := fun _ => rfl
theorem fu925 : ∀ (sl : Sl) (v : Option Nat), fieldsOf (upSR sl 925 v) 9 = (fieldsOf sl 9).set 25 (va_rf v) ∧ 25 < (fieldsOf sl 9).length := fun _ _ => ⟨rfl, Nat.le_of_ble_eq_true rfl⟩
theorem fi926 : FI 9 RX9 TX9 47 26 := ⟨rfl, by decide, inX9, by decide⟩
theorem fv926 : ∀ sl : Sl, (fieldsOf sl 9)[26]? = some (va_rf (sl.2.2.1 926)) := fun _ => rfl
theorem fu926 : ∀ (sl : Sl) (v : Option Nat), fieldsOf (upSR sl 926 v) 9 = (fieldsOf sl 9).set 26 (va_rf v) ∧ 26 < (fieldsOf sl 9).length := fun _ _ => ⟨rfl, Nat.le_of_ble_eq_true rfl⟩
theorem fi927 : FI 9 RX9 TX9 47 27 := ⟨rfl, by decide, inX9, by decide⟩
theorem fv927 : ∀ sl : Sl, (fieldsOf sl 9)[27]? = some (.int (sl.1 927)) := fun _ => rfl
theorem fu927 : ∀ (sl : Sl) (v : Int32), fieldsOf (upSI sl 927 v) 9 = (fieldsOf sl 9).set 27 (.int v) ∧ 27 < (fieldsOf sl 9).length := fun _ _ => ⟨rfl, Nat.le_of_ble_eq_true rfl⟩
theorem fi928 : FI 9 RX9 TX9 47 28 := ⟨rfl, by decide, inX9, by decide⟩
theorem fv928 : ∀ sl : Sl, (fieldsOf sl 9)[28]? = some (.int (sl.1 928)) := fun _ => rfl
theorem fu928 : ∀ (sl : Sl) (v : Int32), fieldsOf (upSI sl 928 v) 9 = (fieldsOf sl 9).set 28 (.int v) ∧ 28 < (fieldsOf sl 9).length := fun _ _ => ⟨rfl, Nat.le_of_ble_eq_true rfl⟩
theorem fi929 : FI 9 RX9 TX9 47 29 := ⟨rfl, by decide, inX9, by decide⟩
theorem fv929 : ∀ sl : Sl, (fieldsOf sl 9)[29]? = some (va_rf (sl.2.2.1 929)) := fun _ => rfl
theorem fu929 : ∀ (sl : Sl) (v : Option Nat), fieldsOf (upSR sl 929 v) 9 = (fieldsOf sl 9).set 29 (va_rf v) ∧ 29 < (fieldsOf sl 9).length := fun _ _ => ⟨rfl, Nat.le_of_ble_eq_true rfl⟩
theorem fi930 : FI 9 RX9 TX9 47 30 := ⟨rfl, by decide, inX9, by decide⟩
theorem fv930 : ∀ sl : Sl, (fieldsOf sl 9)[30]? = some (va_rf (sl.2.2.1 930)) := fun _ => rfl
theorem fu930 : ∀ (sl : Sl) (v : Option Nat), fieldsOf (upSR sl 930 v) 9 = (fieldsOf sl 9).set 30 (va_rf v) ∧ 30 < (fieldsOf sl 9).length := fun _ _ => ⟨rfl, Nat.le_of_ble_eq_true rfl⟩
theorem fi931 : FI 9 RX9 TX9 47 31 := ⟨rfl, by decide, inX9, by decide⟩
theorem fv931 : ∀ sl : Sl, (fieldsOf sl 9)[31]? = some (va_rf (sl.2.2.1 931)) := fun _ => rfl
theorem fu931 : ∀ (sl : Sl) (v : Option Nat), fieldsOf (upSR sl 931 v) 9 = (fieldsOf sl 9).set 31 (va_rf v) ∧ 31 < (fieldsOf sl 9).length := fun _ _ => ⟨rfl, Nat.le_of_ble_eq_true rfl⟩
theorem fi932 : FI 9 RX9 TX9 47 32 := ⟨rfl, by decide, inX9, by decide⟩
theorem fv932 : ∀ sl : Sl, (fieldsOf sl 9)[32]? = some (va_rf (sl.2.2.1 932)) := fun _ => rfl
theorem fu932 : ∀ (sl : Sl) (v : Option Nat), fieldsOf (upSR sl 932 v) 9 = (fieldsOf sl 9).set 32 (va_rf v) ∧ 32 < (fieldsOf sl 9).length := fun _ _ => ⟨rfl, Nat.le_of_ble_eq_true rfl⟩
theorem fi933 : FI 9 RX9 TX9 47 33 := ⟨rfl, by decide, inX9, by decide⟩
theorem fv933 : ∀ sl : Sl, (fieldsOf sl 9)[33]? = some (.int (sl.1 933)) := fun _ => rfl
theorem fu933 : ∀ (sl : Sl) (v : Int32), fieldsOf (upSI sl 933 v) 9 = (fieldsOf sl 9).set 33 (.int v) ∧ 33 < (fieldsOf sl 9).length := fun _ _ => ⟨rfl, Nat.le_of_ble_eq_true rfl⟩
theorem fi934 : FI 9 RX9 TX9 47 34 := ⟨rfl, by decide, inX9, by decide⟩
theorem fv934 : ∀ sl : Sl, (fieldsOf sl 9)[34]? = some (.int (sl.1 934)) := fun _ => rfl
theorem fu934 : ∀ (sl : Sl) (v : Int32), fieldsOf (upSI sl 934 v) 9 = (fieldsOf sl 9).set 34 (.int v) ∧ 34 < (fieldsOf sl 9).length := fun _ _ => ⟨rfl, Nat.le_of_ble_eq_true rfl⟩
theorem fi935 : FI 9 RX9 TX9 47 35 := ⟨rfl, by decide, inX9, by decide⟩
theorem fv935 : ∀ sl : Sl, (fieldsOf sl 9)[35]? = some (.int (sl.1 935)) := fun _ => rfl
theorem fu935 : ∀ (sl : Sl) (v : Int32), fieldsOf (upSI sl 935 v) 9 = (fieldsOf sl 9).set 35 (.int v) ∧ 35 < (fieldsOf sl 9).length := fun _ _ => ⟨rfl, Nat.le_of_ble_eq_true rfl⟩
theorem fi936 : FI 9 RX9 TX9 47 36 := ⟨rfl, by decide, inX9, by decide⟩
theorem fv936 : ∀ sl : Sl, (fieldsOf sl 9)[36]? = some (va_rf (sl.2.2.1 936)) := fun _ => rfl
theorem fu936 : ∀ (sl : Sl) (v : Option Nat), fieldsOf (upSR sl 936 v) 9 = (fieldsOf sl 9).set 36 (va_rf v) ∧ 36 < (fieldsOf sl 9).length := fun _ _ => ⟨rfl, Nat.le_of_ble_eq_true rfl⟩
theorem fi937 : FI 9 RX9 TX9 47 37 := ⟨rfl, by decide, inX9, by decide⟩
theorem fv937 : ∀ sl : Sl, (fieldsOf sl 9)[37]? = some (.int (sl.1 937)) := fun _ => rfl
theorem fu937 : ∀ (sl : Sl) (v : Int32), fieldsOf (upSI sl 937 v) 9 = (fieldsOf sl 9).set 37 (.int v) ∧ 37 < (fieldsOf sl 9).length := fun _ _ => ⟨rfl, Nat.le_of_ble_eq_true rfl⟩
theorem fi938 : FI 9 RX9 TX9 47 38 := ⟨rfl, by decide, inX9, by decide⟩
theorem fv938 : ∀ sl : Sl, (fieldsOf sl 9)[38]? = some (.int (sl.1 938)) := fun _ => rfl
theorem fu938 : ∀ (sl : Sl) (v : Int32), fieldsOf (upSI sl 938 v) 9 = (fieldsOf sl 9).set 38 (.int v) ∧ 38 < (fieldsOf sl 9).length := fun _ _ => ⟨rfl, Nat.le_of_ble_eq_true rfl⟩
theorem fi939 : FI 9 RX9 TX9 47 39 := ⟨rfl, by decide, inX9, by decide⟩
theorem fv939 : ∀ sl : Sl, (fieldsOf sl 9)[39]? = some (.int (sl.1 939)) := fun _ => rfl
theorem fu939 : ∀ (sl : Sl) (v : Int32), fieldsOf (upSI sl 939 v) 9 = (fieldsOf sl 9).set 39 (.int v) ∧ 39 < (fieldsOf sl 9).length := fun _ _ => ⟨rfl, Nat.le_of_ble_eq_true rfl⟩
theorem fi940 : FI 9 RX9 TX9 47 40 := ⟨rfl, by decide, inX9, by decide⟩
theorem fv940 : ∀ sl : Sl, (fieldsOf sl 9)[40]? = some (.int (sl.1 940)) := fun _ => rfl
theorem fu940 : ∀ (sl : Sl) (v : Int32), fieldsOf (upSI sl 940 v) 9 = (fieldsOf sl 9).set 40 (.int v) ∧ 40 < (fieldsOf sl 9).length := fun _ _ => ⟨rfl, Nat.le_of_ble_eq_true rfl⟩
theorem fi941 : FI 9 RX9 TX9 47 41 := ⟨rfl, by decide, inX9, by decide⟩
theorem fv941 : ∀ sl : Sl, (fieldsOf sl 9)[41]? = some (va_rf (sl.2.2.1 941)) := fun _ => rfl
theorem fu941 : ∀ (sl : Sl) (v : Option Nat), fieldsOf (upSR sl 941 v) 9 = (fieldsOf sl 9).set 41 (va_rf v) ∧ 41 < (fieldsOf sl 9).length := fun _ _ => ⟨rfl, Nat.le_of_ble_eq_true rfl⟩
theorem fi942 : FI 9 RX9 TX9 47 42 := ⟨rfl, by decide, inX9, by decide⟩
theorem fv942 : ∀ sl : Sl, (fieldsOf sl 9)[42]? = some (va_rf (sl.2.2.1 942)) := fun _ => rfl
theorem fu942 : ∀ (sl : Sl) (v : Option Nat), fieldsOf (upSR sl 942 v) 9 = (fieldsOf sl 9).set 42 (va_rf v) ∧ 42 < (fieldsOf sl 9).length := fun _ _ => ⟨rfl, Nat.le_of_ble_eq_true rfl⟩
theorem fi943 : FI 9 RX9 TX9 47 43 := ⟨rfl, by decide, inX9, by decide⟩
theorem fv943 : ∀ sl : Sl, (fieldsOf sl 9)[43]? = some (va_rf (sl.2.2.1 943)) := fun _ => rfl
theorem fu943 : ∀ (sl : Sl) (v : Option Nat), fieldsOf (upSR sl 943 v) 9 = (fieldsOf sl 9).set 43 (va_rf v) ∧ 43 < (fieldsOf sl 9).length := fun _ _ => ⟨rfl, Nat.le_of_ble_eq_true rfl⟩
theorem fi944 : FI 9 RX9 TX9 47 44 := ⟨rfl, by decide, inX9, by decide⟩
theorem fv944 : ∀ sl : Sl, (fieldsOf sl 9)[44]? = some (va_rf (sl.2.2.1 944)) := fun _ => rfl
theorem fu944 : ∀ (sl : Sl) (v : Option Nat), fieldsOf (upSR sl 944 v) 9 = (fieldsOf sl 9).set 44 (va_rf v) ∧ 44 < (fieldsOf sl 9).length := fun _ _ => ⟨rfl, Nat.le_of_ble_eq_true rfl⟩
theorem fi945 : FI 9 RX9 TX9 47 45 := ⟨rfl, by decide, inX9, by decide⟩
theorem fv945 : ∀ sl : Sl, (fieldsOf sl 9)[45]? = some (.int (sl.1 945)) := fun _ => rfl
theorem fu945 : ∀ (sl : Sl) (v : Int32), fieldsOf (upSI sl 945 v) 9 = (fieldsOf sl 9).set 45 (.int v) ∧ 45 < (fieldsOf sl 9).length := fun _ _ => ⟨rfl, Nat.le_of_ble_eq_true rfl⟩
theorem fi946 : FI 9 RX9 TX9 47 46 := ⟨rfl, by decide, inX9, by decide⟩
theorem fv946 : ∀ sl : Sl, (fieldsOf sl 9)[46]? = some (.int (sl.1 946)) := fun _ => rfl
theorem fu946 : ∀ (sl : Sl) (v : Int32), fieldsOf (upSI sl 946 v) 9 = (fieldsOf sl 9).set 46 (.int v) ∧ 46 < (fieldsOf sl 9).length := fun _ _ => ⟨rfl, Nat.le_of_ble_eq_true rfl⟩
