/-! floats: a share of frames, and the agreement beyond chance, are numbers -/
theorem fl_d {r : UInt64} (h : FP.Core.val64 r ≠ .nan) : r &&& 0x7fffffffffffffff ≤ 0x7ff0000000000000 := by
  have h1 := (FP.Core.ne_nan r).mp h
  rw [UInt64.le_iff_toNat_le, FP.Core.mask_toNat]
  exact h1
theorem fl_f {r : UInt32} (h : FP.Core.val32 r ≠ .nan) : r &&& 0x7fffffff ≤ 0x7f800000 := by
  have h1 := (FP.Core.ne_nan32 r).mp h
  rw [UInt32.le_iff_toNat_le, UInt32.toNat_and, show (0x7fffffff : UInt32).toNat = 2 ^ 31 - 1 from rfl, Nat.and_two_pow_sub_one_eq_mod]
  exact h1
theorem fl_share (x y : Int32) (h : y ≠ 0) : FP.Core.val32 (FP.fdiv (FP.i2f x) (FP.i2f y)) ≠ .nan :=
  (FP.Core.notNaN_iff32 _).mp (FP.Core.fdiv_out (FP.Core.i2f_fin x).notNaN (FP.Core.i2f_fin y) (fun hz => FP.Core.i2f_ne_zero h ((FP.Core.zero_bits232 _).mp hz)))
theorem fl_wide {x : UInt32} (h : FP.Core.val32 x ≠ .nan) : FP.Core.val64 (FP.f2d x) ≠ .nan :=
  (FP.Core.notNaN_iff _).mp (by
    have h1 := FP.f2d_nan x
    have h2 : FP.fIsNaN x = false := (FP.Core.notNaN_iff32 x).mpr h
    rw [h2] at h1
    exact h1)
theorem fl_same {x : UInt64} (h : FP.Core.val64 x ≠ .nan) : Op.cmpValue (FP.dcmp x x) .l = 0 := by
  rw [show FP.dcmp x x = some .eq from FP.Core.dcmp_self h]
  rfl
/-- chance: the products, divided -/
def kc (P : Int32) : UInt64 := FP.ddiv (FP.i2d P) 4696837146684686336
/-- the frames alike, divided -/
def kp (x : Int32) : UInt64 := FP.ddiv (FP.i2d x) 4652007308841189376
abbrev zv (a : UInt64) : Int := FP.Core.zval FP.Core.b64 (FP.Core.val64 a)
def u9 : Nat := 2 ^ 1021
theorem zm_top : FP.Core.zmag FP.Core.b64 (FP.Core.val64 0x3fefffffffffffff) = 9007199254740991 * u9 := by decide +kernel
theorem zv_one : zv FP.dconst1 = 9007199254740992 * (u9 : Int) := by decide +kernel
theorem zv_low : zv 0x3ca0000000000000 = (u9 : Int) := by decide +kernel
theorem u9_pos : 0 < u9 := by decide +kernel
theorem one_u9 : FP.Core.one64 = 9007199254740992 * u9 := by decide +kernel
theorem mil_is : FP.Core.val64 4696837146684686336 = .fin false 8589934592000000 (-33) := by decide +kernel
theorem thou_is : FP.Core.DFin 4652007308841189376 ∧ ¬ FP.Core.DZero 4652007308841189376 :=
  ⟨(FP.Core.fin_bits _).mpr (by decide +kernel), fun h => absurd ((FP.Core.zero_bits2 _).mp h) (by decide +kernel)⟩
theorem kp_num (x : Int32) : FP.Core.dIsNaN (kp x) = false := FP.Core.ddiv_out (FP.Core.i2d_fin x).notNaN thou_is.1 thou_is.2
theorem kc_mag (P : Int32) : (kc P).toNat % 2 ^ 63 < 1038 * 2 ^ 52 :=
  FP.Core.ddiv_mag (a := FP.i2d P) (b := 4696837146684686336) (K := 1056) (L := 1042) (FP.Core.i2d_mag P) (by decide +kernel) (by decide +kernel) (by decide) (by decide)
theorem kc_fin (P : Int32) : FP.Core.DFin (kc P) := FP.Core.fin_of_lt (K := 1038) (kc_mag P) (by decide)
theorem signed_le (s : Bool) (n : Nat) : FP.Core.signed s n ≤ (n : Int) := by
  cases s
  · exact Int.le_refl _
  · show -(n : Int) ≤ n
    omega
theorem kc_le {P : Int32} (h0 : 0 ≤ P.toInt) (h1 : P.toInt < 1000000) : zv (kc P) ≤ 9007199254740991 * (u9 : Int) := by
  obtain ⟨p, hp⟩ := Int.eq_ofNat_of_zero_le h0
  obtain ⟨s, c, q, hv⟩ := FP.Core.i2d_fin P
  have hf := FP.Core.val64_fits (FP.i2d P)
  have hz := FP.Core.DInt_zval (FP.Core.i2d_int P)
  rw [hv] at hf hz
  have hq : FP.Core.b64.qmin ≤ q := hf.2.1
  have hz2 : FP.Core.inUnits c q FP.Core.b64.qmin = p * (9007199254740992 * u9) := by
    have h9 := congrArg Int.natAbs hz
    rw [show FP.Core.zval FP.Core.b64 (.fin s c q) = FP.Core.signed s (FP.Core.inUnits c q FP.Core.b64.qmin) from rfl, FP.Core.natAbs_signed, hp, ← Int.natCast_mul, Int.natAbs_natCast, one_u9] at h9
    exact h9
  have e1 : FP.Core.val64 (kc P) = FP.Core.roundRatio FP.Core.b64 (s != false) c 8589934592000000 (q - (-33)) := by
    show FP.Core.val64 (FP.Core.ddiv (FP.i2d P) 4696837146684686336) = _
    rw [FP.Core.val64_ddiv, hv, mil_is]
    show (if (8589934592000000 : Nat) = 0 then (if c = 0 then FP.Core.Datum.nan else FP.Core.Datum.inf (s != false)) else FP.Core.roundRatio FP.Core.b64 (s != false) c 8589934592000000 (q - (-33))) = _
    rw [if_neg (by decide)]
  have e2 : FP.Core.inUnits c (q - (-33)) FP.Core.b64.qmin = FP.Core.inUnits c q FP.Core.b64.qmin * 8589934592 := by
    unfold FP.Core.inUnits
    rw [show (q - (-33) - FP.Core.b64.qmin).toNat = (q - FP.Core.b64.qmin).toNat + 33 from by omega, Nat.pow_add, Nat.mul_assoc]
  have h5 := FP.Core.zmag_roundRatio_le FP.Core.good_b64 (s := s != false) (A := c) (B := 8589934592000000) (e := q - (-33)) (e0 := FP.Core.b64.qmin) (V := FP.Core.val64 0x3fefffffffffffff) (by decide) (FP.Core.val64_fits _) (by rw [FP.Core.ne_nan]; decide +kernel) (Int.le_refl _) (by omega) (by
    rw [e2, hz2, zm_top, Int.sub_self]
    have h6 : p * 9007199254740992 * 8589934592 ≤ 9007199254740991 * 8589934592000000 := by omega
    have h7 := Nat.mul_le_mul_right u9 h6
    rw [show (2 : Nat) ^ (0 : Int).toNat = 1 from rfl, Nat.mul_one]
    generalize u9 = u at h7 ⊢
    rw [show p * (9007199254740992 * u) * 8589934592 = p * 9007199254740992 * 8589934592 * u from by rw [← Nat.mul_assoc]; exact Nat.mul_right_comm _ _ _, show 9007199254740991 * u * 8589934592000000 = 9007199254740991 * 8589934592000000 * u from Nat.mul_right_comm _ _ _]
    exact h7)
  rw [← e1, zm_top] at h5
  have h8 := signed_le (FP.Core.sgn (FP.Core.val64 (kc P))) (FP.Core.zmag FP.Core.b64 (FP.Core.val64 (kc P)))
  show FP.Core.signed (FP.Core.sgn (FP.Core.val64 (kc P))) (FP.Core.zmag FP.Core.b64 (FP.Core.val64 (kc P))) ≤ _
  omega
theorem kc_one : Op.cmpValue (FP.dcmp (kc 1000000) FP.dconst1) .l = 0 := by decide +kernel
theorem kc_not {P : Int32} (h0 : 0 ≤ P.toInt) (h1 : P.toInt < 1000000) : ¬ Op.cmpValue (FP.dcmp (kc P) FP.dconst1) .l = 0 := by
  have h2 := kc_le h0 h1
  have h3 := u9_pos
  have h4 : FP.dcmp (kc P) FP.dconst1 = some .lt := FP.Core.dcmp_lt.mpr ⟨(kc_fin P).ne_nan, by rw [FP.Core.ne_nan]; decide +kernel, by
    show zv (kc P) < zv FP.dconst1
    rw [zv_one]
    omega⟩
  rw [h4]
  decide
/-- what is left of one -/
theorem kc_left {P : Int32} (h0 : 0 ≤ P.toInt) (h1 : P.toInt < 1000000) : FP.Core.DFin (FP.dsub FP.dconst1 (kc P)) ∧ ¬ FP.Core.DZero (FP.dsub FP.dconst1 (kc P)) := by
  have h2 := kc_le h0 h1
  have h3 := u9_pos
  have hF : FP.Core.DFin (FP.dsub FP.dconst1 (kc P)) := FP.Core.fin_of_lt (K := 1040) (FP.Core.dsub_mag (a := FP.dconst1) (b := kc P) (K := 1038) (by decide +kernel) (kc_mag P) (by decide)) (by decide)
  refine ⟨hF, fun hz => ?_⟩
  obtain ⟨t, d, r, hv⟩ := kc_fin P
  have hx : FP.Core.val64 FP.dconst1 = .fin false (2 ^ 52) (-52) := FP.Core.val64_dconst1
  have f1 := FP.Core.val64_fits FP.dconst1
  have f2 := FP.Core.negate_fits (FP.Core.val64_fits (kc P))
  rw [hx] at f1
  rw [hv] at f2
  obtain ⟨sg, n, e, g1, g2, g3⟩ := FP.Core.sum_units f1 (show FP.Core.fits FP.Core.b64 (.fin (!t) d r) from f2)
  have e1 : FP.Core.val64 (FP.dsub FP.dconst1 (kc P)) = FP.Core.round FP.Core.b64 (.fin sg n e) := by
    rw [← g1]
    show FP.Core.val64 (FP.Core.dsub FP.dconst1 (kc P)) = _
    rw [FP.Core.val64_dsub, hx, hv]
    rfl
  have h5 := FP.Core.zval_round_ge FP.Core.good_b64 (s := sg) (c := n) (q := e) (e0 := FP.Core.b64.qmin) (V := FP.Core.val64 0x3ca0000000000000) (FP.Core.val64_fits _) (by rw [FP.Core.ne_nan]; decide +kernel) (Int.le_refl _) g2 (by
    rw [g3, Int.sub_self, show (2 : Nat) ^ (0 : Int).toNat = 1 from rfl]
    have k1 := zv_low
    have k2 := zv_one
    have k3 : FP.Core.zval FP.Core.b64 (.fin (!t) d r) = -zv (kc P) := by
      show FP.Core.zval FP.Core.b64 (FP.Core.negate (.fin t d r)) = _
      rw [FP.Core.zval_negate, ← hv]
    unfold zv at k1 k2
    rw [hx] at k2
    rw [k1, k2, k3]
    omega)
  rw [← e1] at h5
  have k1 := zv_low
  unfold zv at k1
  rw [k1] at h5
  have h6 := (FP.Core.zval_eq_zero hF.ne_nan).mpr ((FP.Core.zero_bits2 _).mp hz)
  omega
theorem kc_num (x : Int32) {P : Int32} (h0 : 0 ≤ P.toInt) (h1 : P.toInt < 1000000) : FP.Core.dIsNaN (FP.dsub (kp x) (kc P)) = false ∧ FP.Core.dIsNaN (FP.ddiv (FP.dsub (kp x) (kc P)) (FP.dsub FP.dconst1 (kc P))) = false := by
  have k := kc_left h0 h1
  have e : FP.Core.dIsNaN (FP.dsub (kp x) (kc P)) = false := FP.Core.dsub_out (kp_num x) (kc_fin P)
  exact ⟨e, FP.Core.ddiv_out e k.1 k.2⟩
