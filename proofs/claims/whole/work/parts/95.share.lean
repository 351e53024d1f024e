/-! agreement and kappa -/
def told (r q : Rw) : Int := fsum r + fsum q - com false r q
def alike (r q : Rw) : Int := com true r q + 1000 - told r q
def prods (r q : Rw) : Int := prd r q + (1000 - fsum r) * (1000 - fsum q)
def laS (q : Rw) (l : List Nat) (j : Nat) : Int := if rl q j = l then re q j - rf q j else 0
/-- agreement and kappa: code and answer; they leave the state as it is -/
def spAg (s : St) (t : Int) : Int × UInt32 :=
  if 0 ≤ t ∧ t < bn (snw s) then (if told (brw (snw s) 0 t.toNat) (brw (snw s) 1 t.toNat) = 0 then (2, 0) else (0, FP.fdiv (FP.i2f (zI (com true (brw (snw s) 0 t.toNat) (brw (snw s) 1 t.toNat)))) (FP.i2f (zI (told (brw (snw s) 0 t.toNat) (brw (snw s) 1 t.toNat)))))) else (1, 0)
def kap (a P : Int32) : UInt64 := FP.ddiv (FP.dsub (kp a) (kc P)) (FP.dsub FP.dconst1 (kc P))
def spKa (s : St) (t : Int) : Int × UInt64 :=
  if 0 ≤ t ∧ t < bn (snw s) then (if prods (brw (snw s) 0 t.toNat) (brw (snw s) 1 t.toNat) = 1000000 then (2, 0) else (0, kap (zI (alike (brw (snw s) 0 t.toNat) (brw (snw s) 1 t.toNat))) (zI (prods (brw (snw s) 0 t.toNat) (brw (snw s) 1 t.toNat))))) else (1, 0)
theorem nnD_ok {r : UInt64} (h : FP.Core.dIsNaN r = false) : nnD r = some r := by
  unfold nnD
  rw [if_pos (fl_d ((FP.Core.notNaN_iff _).mp h))]
theorem nnF_ok {r : UInt32} (h : FP.Core.val32 r ≠ .nan) : nnF r = some r := by
  unfold nnF
  rw [if_pos (fl_f h)]
theorem sumN_mul (c : Int) (g : Nat → Int) : ∀ n, sumN (fun j => c * g j) n = c * sumN g n := by
  intro n
  induction n with
  | zero => exact (Int.mul_zero c).symm
  | succ n ih =>
    show sumN (fun j => c * g j) n + c * g n = c * (sumN g n + g n)
    rw [ih, Int.mul_add]
theorem sumN_mono {g h : Nat → Int} : ∀ n, (∀ j, j < n → g j ≤ h j) → sumN g n ≤ sumN h n := by
  intro n
  induction n with
  | zero => intro _; exact Int.le_refl _
  | succ n ih =>
    intro hh
    have h1 := ih (fun j hj => hh j (by omega))
    have h2 := hh n (by omega)
    show sumN g n + g n ≤ sumN h n + h n
    omega
theorem fsum_lim {r : Rw} (g : GRow r) (hs : SRow r) : 0 ≤ fsum r ∧ fsum r ≤ 1000 := by
  rw [← fsum_on g hs]
  have h := sumN_lim (g := onF r) (B := 1) 1000 (fun j _ => by unfold onF; split <;> omega)
  omega
theorem told_lim {r q : Rw} (g : GRow r) (g2 : GRow q) (hs : SRow r) (ht : SRow q) : 0 ≤ told r q ∧ told r q ≤ 1000 := by
  unfold told
  rw [← an_sum g g2 hs ht]
  have h := sumN_lim (g := anF r q) (B := 1) 1000 (fun j _ => by unfold anF; split <;> omega)
  omega
theorem prd_is (r q : Rw) : prd r q = sumN (fun i => (re r i - rf r i) * sumN (laS q (rl r i)) (rn q)) (rn r) := by
  unfold prd
  refine sumN_congr _ fun i _ => ?_
  rw [← sumN_mul]
  refine sumN_congr _ fun j _ => ?_
  unfold prdS laS
  by_cases c : rl r i = rl q j
  · rw [if_pos c, if_pos c.symm]
  · rw [if_neg c, if_neg (fun e => c e.symm), Int.mul_zero]
theorem prd_lim {r q : Rw} (hs : SRow r) (ht : SRow q) : 0 ≤ prd r q ∧ prd r q ≤ fsum r * fsum q := by
  rw [prd_is]
  have a : ∀ l, 0 ≤ sumN (laS q l) (rn q) ∧ sumN (laS q l) (rn q) ≤ fsum q := by
    intro l
    constructor
    · refine sumN_nn _ fun j hj => ?_
      have := ht.1 j hj
      unfold laS
      split <;> omega
    · refine sumN_mono _ fun j hj => ?_
      have := ht.1 j hj
      unfold laS
      split <;> omega
  constructor
  · refine sumN_nn _ fun i hi => ?_
    have := hs.1 i hi
    exact Int.mul_nonneg (by omega) (a _).1
  · have e : fsum r * fsum q = sumN (fun i => fsum q * (re r i - rf r i)) (rn r) := by
      rw [sumN_mul, Int.mul_comm]
      rfl
    rw [e]
    refine sumN_mono _ fun i hi => ?_
    have := hs.1 i hi
    rw [Int.mul_comm (fsum q)]
    exact Int.mul_le_mul_of_nonneg_left (a _).2 (by omega)
theorem prods_lim {r q : Rw} (g : GRow r) (g2 : GRow q) (hs : SRow r) (ht : SRow q) : 0 ≤ prods r q ∧ prods r q ≤ 1000000 := by
  have h1 := prd_lim hs ht
  have h2 := fsum_lim g hs
  have h3 := fsum_lim g2 ht
  unfold prods
  have h4 := Int.mul_nonneg (a := 1000 - fsum r) (b := 1000 - fsum q) (by omega) (by omega)
  have h5 := Int.mul_nonneg (a := fsum r) (b := 1000 - fsum q) (by omega) (by omega)
  have h6 := Int.mul_nonneg (a := fsum q) (b := 1000 - fsum r) (by omega) (by omega)
  rw [Int.sub_mul, Int.mul_sub, Int.mul_sub] at h4 ⊢
  rw [Int.mul_sub] at h5 h6
  rw [Int.mul_comm (fsum q) (fsum r)] at h6
  generalize fsum r * fsum q = ab at *
  generalize fsum r = a at *
  generalize fsum q = b at *
  omega
theorem kap_num (a : Int32) {P : Int} (h0 : 0 ≤ P) (h1 : P < 1000000) : FP.Core.dIsNaN (kap a (zI P)) = false := by
  have e : (zI P).toInt = P := zI_int (by omega) (by omega)
  exact (kc_num a (P := zI P) (by omega) (by omega)).2
section SHC
variable {F : Fr} {N : Nat} {w w' : Wd} {h zp zn : Nat} {s s' : St}
theorem c8_agreement (C : CStP F w h zp zn s) (V : VSt s) (hN : 40 ≤ N) {t : Int} (ht : I32 t) : fX8_agreement F N w h (zI t) = some (if (spAg s t).1 = 0 then .inl ((spAg s t).2, w) else if (spAg s t).1 = 1 then .inr (1, w) else .inr (5, w)) := by
  have B := C.bk
  refine ev_is ?_
  unfold fX8_agreement spAg
  refine ev_eq C.a0 (ev_eq (c_hasTier B ht) ?_)
  by_cases c : 0 ≤ t ∧ t < bn (snw s)
  · rw [if_pos c, if_pos c]
    refine ev_neg (by decide) ?_
    obtain ⟨t', rfl⟩ := Int.eq_ofNat_of_zero_le c.1
    have hb : t' < bn (snw s) := by omega
    have R := B.row (show 0 < 2 by omega) hb
    have Q := B.row (show 1 < 2 by omega) hb
    rw [Int.toNat_natCast]
    have hl := told_lim R.2.2.2 Q.2.2.2 (V.1.2.2.1 0 _ (by omega) hb) (V.1.2.2.1 1 _ (by omega) hb)
    refine ev_eq C.a0 (ev_eq (c_row B (x := 0) (by omega) hb) (ev_eq (ckF_is R.1.1) (ev_eq C.a0 (ev_eq (c_row B (x := 1) (by omega) hb) (ev_eq (ckF_is Q.1.1) (ev_eq (c_framesWith R Q hN) ?_))))))
    show Ev (if zI (told (brw (snw s) 0 t') (brw (snw s) 1 t')) = 0 then _ else _) _
    by_cases c2 : told (brw (snw s) 0 t') (brw (snw s) 1 t') = 0
    · rw [if_pos (c := told (brw (snw s) 0 t') (brw (snw s) 1 t') = 0) c2]
      exact ev_pos (by rw [c2]; rfl) (ev_some rfl)
    · rw [if_neg (c := told (brw (snw s) 0 t') (brw (snw s) 1 t') = 0) c2]
      have hz : ¬ zI (told (brw (snw s) 0 t') (brw (snw s) 1 t')) = 0 := by simp (disch := omega) only [z_0, z_1, z_2, z_3, z_4, z_5, z_6, z_7, z_8, z_9, z_10, z_12, z_13, z_16, z_20, z_24, z_30, z_31, z_32, z_38, z_42, z_44, z_45, z_47, z_48, z_49, z_50, z_57, z_58, z_59, z_60, z_61, z_91, z_97, z_98, z_100, z_108, z_114, z_120, z_122, z_126, z_127, z_128, z_200, z_255, z_961, z_990, z_992, z_998, z_999, z_1000, z_1092, z_1114, z_7798, z_10000, z_1000000, zI_neg, zI_add, zI_sub, zI_mul, zI_lt, zI_le, zI_eq, if_pos, if_neg, if_true, if_false, Option.bind_some, bnd, ldI_is, ldJ_is, Int.toNat_natCast, ]; exact c2
      exact ev_neg hz (ev_eq (c_commonFrames R Q hN true) (ev_eq (nnF_ok (fl_share _ _ hz)) (ev_some rfl)))
  · rw [if_neg c, if_neg c]
    exact ev_pos (by rfl) (ev_some rfl)
theorem c8_kappa (C : CStP F w h zp zn s) (V : VSt s) (hN : 40 ≤ N) {t : Int} (ht : I32 t) : fX8_kappa F N w h (zI t) = some (if (spKa s t).1 = 0 then .inl ((spKa s t).2, w) else if (spKa s t).1 = 1 then .inr (1, w) else .inr (5, w)) := by
  have B := C.bk
  refine ev_is ?_
  unfold fX8_kappa spKa
  refine ev_eq C.a0 (ev_eq (c_hasTier B ht) ?_)
  by_cases c : 0 ≤ t ∧ t < bn (snw s)
  · rw [if_pos c, if_pos c]
    refine ev_neg (by decide) ?_
    obtain ⟨t', rfl⟩ := Int.eq_ofNat_of_zero_le c.1
    have hb : t' < bn (snw s) := by omega
    have R := B.row (show 0 < 2 by omega) hb
    have Q := B.row (show 1 < 2 by omega) hb
    rw [Int.toNat_natCast]
    have hl := prods_lim R.2.2.2 Q.2.2.2 (V.1.2.2.1 0 _ (by omega) hb) (V.1.2.2.1 1 _ (by omega) hb)
    refine ev_eq C.a0 (ev_eq (c_row B (x := 0) (by omega) hb) (ev_eq (ckF_is R.1.1) (ev_eq C.a0 (ev_eq (c_row B (x := 1) (by omega) hb) (ev_eq (ckF_is Q.1.1) (ev_eq (c_commonFrames R Q hN true) (ev_eq (c_framesWith R Q hN) (ev_bnd ?_))))))))
    refine ev_eq (c_labelProducts R Q hN) (ev_eq (c_frameSum R hN) (ev_eq (c_frameSum Q hN) (ev_bnd ?_)))
    rw [show (zI (com true (brw (snw s) 0 t') (brw (snw s) 1 t')) + 1000 - zI (fsum (brw (snw s) 0 t') + fsum (brw (snw s) 1 t') - com false (brw (snw s) 0 t') (brw (snw s) 1 t'))) = zI (alike (brw (snw s) 0 t') (brw (snw s) 1 t')) from by rw [z_1000, zI_add, zI_sub]; rfl,
      show (zI (prd (brw (snw s) 0 t') (brw (snw s) 1 t')) + (1000 - zI (fsum (brw (snw s) 0 t'))) * (1000 - zI (fsum (brw (snw s) 1 t')))) = zI (prods (brw (snw s) 0 t') (brw (snw s) 1 t')) from by rw [z_1000, zI_sub, zI_sub, zI_mul, zI_add]; rfl]
    generalize prods (brw (snw s) 0 t') (brw (snw s) 1 t') = P at *
    generalize alike (brw (snw s) 0 t') (brw (snw s) 1 t') = a at *
    have e : (zI P).toInt = P := zI_int (by omega) (by omega)
    refine ev_eq (nnD_ok (kp_num (zI a))) (ev_eq (nnD_ok (kc_fin (zI P)).notNaN) ?_)
    by_cases c2 : P = 1000000
    · rw [if_pos (c := P = 1000000) c2]
      subst c2
      exact ev_pos kc_one (ev_some rfl)
    · rw [if_neg (c := P = 1000000) c2]
      have n := kc_num (zI a) (P := zI P) (by omega) (by omega)
      exact ev_neg (kc_not (P := zI P) (by omega) (by omega)) (ev_eq (nnD_ok n.1) (ev_eq (nnD_ok (kc_left (P := zI P) (by omega) (by omega)).1.notNaN) (ev_eq (nnD_ok n.2) (ev_some rfl))))
  · rw [if_neg c, if_neg c]
    exact ev_pos (by rfl) (ev_some rfl)
end SHC
section SHM
variable {F : Fr} {N : Nat} {w : Wd} {z : Nat} {s : St} {k : Bk}
theorem m_la_13 (h : MS F w z k) {x t : Nat} (hx : x < 2) (ht : t < bn k) {l : List Nat} (hl : VL l) : ∀ (m n i : Nat), i + n = rn (brw k x t) → n < m →
    fX9_labelledAs_13 F N w m z (mL l) (zI (mo x t : Nat)) (zI (sumN (laS (brw k x t) l) i)) (zI i) = some (zI (sumN (laS (brw k x t) l) (rn (brw k x t)))) := by
  intro m
  induction m with
  | zero => intro n i _ h; omega
  | succ m ih =>
    intro n i hi hm
    have hlm := h.lim hx ht
    unfold fX9_labelledAs_13
    rw [h.r]
    simp only [Option.bind_some]
    rw [h.cnt hx ht]
    simp only [Option.bind_some]
    rw [zI_64 (by omega) (by omega)]
    have hg := lg_ge (x := (i : Int)) (y := (rn (brw k x t) : Int)) (by omega) (by omega) (by omega) (by omega)
    cases n with
    | zero =>
      have e9 : i = rn (brw k x t) := by omega
      rw [if_pos (by rw [hg]; omega), e9]
    | succ n =>
      have hi2 : i < rn (brw k x t) := by omega
      have b := h.at hx ht hi2
      have hv := ((h.grow hx ht).2 i hi2).2.2.2.2
      have e1 := sumN_succ (laS (brw k x t) l) i
      rw [if_neg (by rw [hg]; omega)]
      unfold fX9_labelledAs_82
      simp only [z_1, z_2, z_3, zI_mul, zI_add]
      rw [show ((mo x t : Nat) : Int) + 3 + 3 * (i : Int) = ((mo x t + 3 + 3 * i : Nat) : Int) from by omega, show ((mo x t : Nat) : Int) + 2 + 3 * (i : Int) = ((mo x t + 2 + 3 * i : Nat) : Int) from by omega, show ((mo x t : Nat) : Int) + 1 + 3 * (i : Int) = ((mo x t + 1 + 3 * i : Nat) : Int) from by omega, b.2.2, b.2.1, b.1]
      simp only [Option.bind_some, bnd, zJ_sub, zJ_32]
      have ih2 := ih n (i + 1) (by omega) (by omega)
      rw [← e1, show ((i + 1 : Nat) : Int) = (i : Int) + 1 from by omega] at ih2
      by_cases c : rl (brw k x t) i = l
      · rw [if_pos (by rw [lg_cmp_eq, c])]
        rw [show laS (brw k x t) l i = re (brw k x t) i - rf (brw k x t) i from if_pos c] at ih2
        rw [zI_add]
        exact ih2
      · rw [if_neg (by rw [lg_cmp_eq, mL_inj hv hl]; exact c)]
        rw [show laS (brw k x t) l i = 0 from if_neg c] at ih2
        rw [z_0, zI_add]
        exact ih2
theorem m_labelledAs (h : MS F w z k) (hN : 40 ≤ N) {x t : Nat} (hx : x < 2) (ht : t < bn k) {l : List Nat} (hl : VL l) : fX9_labelledAs F N w z (zI x) (zI t) (mL l) = some (zI (sumN (laS (brw k x t) l) (rn (brw k x t)))) := by
  have hlm := h.lim hx ht
  unfold fX9_labelledAs
  rw [m_row]
  simp only [Option.bind_some]
  exact m_la_13 h hx ht hl N (rn (brw k x t)) 0 (by omega) (by omega)
theorem m_pr_31 (h : MS F w z k) (hN : 40 ≤ N) {t : Nat} (ht : t < bn k) {A : Int} : ∀ (m n i : Nat), i + n = rn (brw k 0 t) → n < m →
    fX9_products_31 F N w m z (zI t) (zI (A + sumN (fun i => (re (brw k 0 t) i - rf (brw k 0 t) i) * sumN (laS (brw k 1 t) (rl (brw k 0 t) i)) (rn (brw k 1 t))) i)) (zI (mo 0 t : Nat)) (zI i) = some (zI (A + sumN (fun i => (re (brw k 0 t) i - rf (brw k 0 t) i) * sumN (laS (brw k 1 t) (rl (brw k 0 t) i)) (rn (brw k 1 t))) (rn (brw k 0 t)))) := by
  intro m
  induction m with
  | zero => intro n i _ h; omega
  | succ m ih =>
    intro n i hi hm
    have hlm := h.lim (show 0 < 2 by omega) ht
    unfold fX9_products_31
    rw [h.r]
    simp only [Option.bind_some]
    rw [h.cnt (show 0 < 2 by omega) ht]
    simp only [Option.bind_some]
    rw [zI_64 (by omega) (by omega)]
    have hg := lg_ge (x := (i : Int)) (y := (rn (brw k 0 t) : Int)) (by omega) (by omega) (by omega) (by omega)
    cases n with
    | zero =>
      have e9 : i = rn (brw k 0 t) := by omega
      rw [if_pos (by rw [hg]; omega), e9]
    | succ n =>
      have hi2 : i < rn (brw k 0 t) := by omega
      have b := h.at (show 0 < 2 by omega) ht hi2
      have hv := ((h.grow (show 0 < 2 by omega) ht).2 i hi2).2.2.2.2
      have e1 := sumN_succ (fun i => (re (brw k 0 t) i - rf (brw k 0 t) i) * sumN (laS (brw k 1 t) (rl (brw k 0 t) i)) (rn (brw k 1 t))) i
      have hla := m_labelledAs (N := N) h hN (show 1 < 2 by omega) ht hv
      rw [if_neg (by rw [hg]; omega)]
      rw [show (zI (mo 0 t : Nat) + 2) + 3 * zI i = zI (mo 0 t + 2 + 3 * i : Nat) from by rw [z_2, z_3, zI_mul, zI_add, zI_add]; exact congrArg zI (by omega), show (zI (mo 0 t : Nat) + 1) + 3 * zI i = zI (mo 0 t + 1 + 3 * i : Nat) from by rw [z_1, z_3, zI_mul, zI_add, zI_add]; exact congrArg zI (by omega), show (zI (mo 0 t : Nat) + 3) + 3 * zI i = zI (mo 0 t + 3 + 3 * i : Nat) from by rw [z_3, zI_mul, zI_add, zI_add]; exact congrArg zI (by omega), b.2.2, b.2.1, b.1]
      simp only [Option.bind_some, bnd, zJ_sub, zJ_32]
      rw [show fX9_labelledAs F N w z 1 (zI t) (mL (rl (brw k 0 t) i)) = _ from hla]
      simp only [Option.bind_some]
      have ih2 := ih n (i + 1) (by omega) (by omega)
      rw [← e1, ← Int.add_assoc] at ih2
      rw [zI_mul, zI_add, zI_succ i]
      exact ih2
theorem m_products (h : MS F w z k) (hN : 40 ≤ N) {t : Nat} (ht : t < bn k) : fX9_products F N w z (zI t) = some (zI (prods (brw k 0 t) (brw k 1 t))) := by
  have hlm := h.lim (show 0 < 2 by omega) ht
  unfold fX9_products
  have e0 := m_framesOf (N := N) h hN (show 0 < 2 by omega) ht
  have e1 := m_framesOf (N := N) h hN (show 1 < 2 by omega) ht
  rw [show fX9_framesOf F N w z 0 (zI t) = _ from e0]
  simp only [Option.bind_some]
  rw [show fX9_framesOf F N w z 1 (zI t) = _ from e1]
  simp only [Option.bind_some, bnd]
  rw [show fX9_row F N w 0 (zI t) = _ from m_row 0 t]
  simp only [Option.bind_some]
  have e := m_pr_31 (N := N) h hN ht (A := (1000 - fsum (brw k 0 t)) * (1000 - fsum (brw k 1 t))) N (rn (brw k 0 t)) 0 (by omega) (by omega)
  rw [← prd_is, show sumN (fun i => (re (brw k 0 t) i - rf (brw k 0 t) i) * sumN (laS (brw k 1 t) (rl (brw k 0 t) i)) (rn (brw k 1 t))) 0 = 0 from rfl, Int.add_zero] at e
  rw [z_1000, zI_sub, zI_sub, zI_mul]
  refine (show _ = _ from e).trans ?_
  unfold prods
  rw [Int.add_comm]
/-- what agreement and kappa come to -/
def MQf {α : Type} (F : Fr) (z : Nat) (w : Wd) (s : St) (r : Int × α) (x : α × Wd) : Prop := gI x.2 906 z = zI r.1 ∧ (r.1 = 0 → x.1 = r.2) ∧ MSt F x.2 z s ∧ Kp (Rg z 26) w x.2
theorem mqf_err {α : Type} (h : MSt F w z s) {c : Int} {v : Int32} {u y : α} (hc : 0 < c) (hv : v = zI c) : MQf F z w s (c, u) (y, sI w 906 z v) := by
  subst hv
  exact ⟨gI_same _ _ _ _, fun e => absurd e (show ¬ c = 0 by omega), h.thr _, kp_thr _ _ _⟩
theorem m_agreement (h : MSt F w z s) (V : VSt s) (hN : 2100 ≤ N) {t : Int} (ht : I32 t) : Ev (fX9_agreement F N w z (zI t)) (MQf F z w s (spAg s t)) := by
  have B := h.ms V
  unfold fX9_agreement spAg
  refine ev_eq (m_isTier B ht) ?_
  by_cases c : 0 ≤ t ∧ t < bn (snw s)
  · rw [if_pos c, if_pos c]
    refine ev_neg (by decide) ?_
    obtain ⟨t', rfl⟩ := Int.eq_ofNat_of_zero_le c.1
    have hb : t' < bn (snw s) := by omega
    rw [Int.toNat_natCast]
    unfold fX9_agreement_14
    have h1 := h.thr (zI 0)
    have B1 : MS F (sI w 906 z (zI 0)) z (snw s) := B
    have s0 := V.1.2.2.1 0 _ (by omega) hb
    have s1 := V.1.2.2.1 1 _ (by omega) hb
    have hl := told_lim (B.grow (show 0 < 2 by omega) hb) (B.grow (show 1 < 2 by omega) hb) s0 s1
    refine ev_bnd (ev_pos (by rw [gI_same]; decide) ?_)
    obtain ⟨w', r1, r2, r3, r4, r5, r6, r7⟩ := m_cmp (N := N) B1 hb s0 s1 hN
    refine ev_eq r1 ?_
    rw [r6]
    show Ev (if zI (told (brw (snw s) 0 t') (brw (snw s) 1 t')) = 0 then _ else _) _
    have h2 : MSt F w' z s := h1.sc r2
    have kk : Kp (Rg z 26) w w' := (kp_thr _ _ _).trans r2.2.2.2.2
    by_cases c2 : told (brw (snw s) 0 t') (brw (snw s) 1 t') = 0
    · rw [if_pos (c := told (brw (snw s) 0 t') (brw (snw s) 1 t') = 0) c2]
      refine ev_pos (by rw [c2]; rfl) ?_
      unfold fX9_agreement_44
      refine ev_bnd (ev_neg (by rw [gI_same]; decide) (ev_some ?_))
      exact ⟨gI_same _ _ _ _, fun e => absurd e (show ¬ (2 : Int) = 0 by decide), h2.thr _, kk.trans (kp_thr _ _ _)⟩
    · rw [if_neg (c := told (brw (snw s) 0 t') (brw (snw s) 1 t') = 0) c2]
      have hz : ¬ zI (told (brw (snw s) 0 t') (brw (snw s) 1 t')) = 0 := by simp (disch := omega) only [z_0, z_1, z_2, z_3, z_4, z_5, z_6, z_7, z_8, z_9, z_10, z_12, z_13, z_16, z_20, z_24, z_30, z_31, z_32, z_38, z_42, z_44, z_45, z_47, z_48, z_49, z_50, z_57, z_58, z_59, z_60, z_61, z_91, z_97, z_98, z_100, z_108, z_114, z_120, z_122, z_126, z_127, z_128, z_200, z_255, z_961, z_990, z_992, z_998, z_999, z_1000, z_1092, z_1114, z_7798, z_10000, z_1000000, zI_neg, zI_add, zI_sub, zI_mul, zI_lt, zI_le, zI_eq, if_pos, if_neg, if_true, if_false, Option.bind_some, bnd, ldI_is, ldJ_is, Int.toNat_natCast, ]; exact c2
      refine ev_neg hz ?_
      unfold fX9_agreement_44
      refine ev_bnd (ev_pos (by rw [gI_same]; decide) ?_)
      rw [gI_ne _ (by omega), gI_ne _ (by omega), r4, r6]
      refine ev_eq (nnF_ok (fl_share _ _ hz)) (ev_some ?_)
      exact ⟨gI_same _ _ _ _, fun _ => rfl, h2.thr _, kk.trans (kp_thr _ _ _)⟩
  · rw [if_neg c, if_neg c]
    refine ev_pos (by rfl) ?_
    unfold fX9_agreement_14
    exact ev_bnd (ev_neg (by rw [gI_same]; decide) (ev_some (mqf_err h (by omega) rfl)))
theorem m_kappa (h : MSt F w z s) (V : VSt s) (hN : 2100 ≤ N) {t : Int} (ht : I32 t) : Ev (fX9_kappa F N w z (zI t)) (MQf F z w s (spKa s t)) := by
  have B := h.ms V
  unfold fX9_kappa spKa
  refine ev_eq (m_isTier B ht) ?_
  by_cases c : 0 ≤ t ∧ t < bn (snw s)
  · rw [if_pos c, if_pos c]
    refine ev_neg (by decide) ?_
    obtain ⟨t', rfl⟩ := Int.eq_ofNat_of_zero_le c.1
    have hb : t' < bn (snw s) := by omega
    rw [Int.toNat_natCast]
    unfold fX9_kappa_14
    have h1 := h.thr (zI 0)
    have B1 : MS F (sI w 906 z (zI 0)) z (snw s) := B
    have s0 := V.1.2.2.1 0 _ (by omega) hb
    have s1 := V.1.2.2.1 1 _ (by omega) hb
    have hl := prods_lim (B.grow (show 0 < 2 by omega) hb) (B.grow (show 1 < 2 by omega) hb) s0 s1
    refine ev_bnd (ev_pos (by rw [gI_same]; decide) ?_)
    refine ev_eq (m_products (N := N) B1 (by omega) hb) ?_
    have e : (zI (prods (brw (snw s) 0 t') (brw (snw s) 1 t'))).toInt = prods (brw (snw s) 0 t') (brw (snw s) 1 t') := zI_int (by omega) (by omega)
    by_cases c2 : prods (brw (snw s) 0 t') (brw (snw s) 1 t') = 1000000
    · rw [if_pos (c := prods (brw (snw s) 0 t') (brw (snw s) 1 t') = 1000000) c2]
      refine ev_pos (by rw [c2]; rfl) ?_
      unfold fX9_kappa_45
      refine ev_bnd (ev_neg (by rw [gI_same]; decide) (ev_some ?_))
      exact ⟨gI_same _ _ _ _, fun e => absurd e (show ¬ (2 : Int) = 0 by decide), h1.thr _, (kp_thr _ _ _).trans (kp_thr _ _ _)⟩
    · rw [if_neg (c := prods (brw (snw s) 0 t') (brw (snw s) 1 t') = 1000000) c2]
      refine ev_neg (by simp (disch := omega) only [z_0, z_1, z_2, z_3, z_4, z_5, z_6, z_7, z_8, z_9, z_10, z_12, z_13, z_16, z_20, z_24, z_30, z_31, z_32, z_38, z_42, z_44, z_45, z_47, z_48, z_49, z_50, z_57, z_58, z_59, z_60, z_61, z_91, z_97, z_98, z_100, z_108, z_114, z_120, z_122, z_126, z_127, z_128, z_200, z_255, z_961, z_990, z_992, z_998, z_999, z_1000, z_1092, z_1114, z_7798, z_10000, z_1000000, zI_neg, zI_add, zI_sub, zI_mul, zI_lt, zI_le, zI_eq, if_pos, if_neg, if_true, if_false, Option.bind_some, bnd, ldI_is, ldJ_is, Int.toNat_natCast, ]; exact c2) ?_
      unfold fX9_kappa_45
      refine ev_bnd (ev_pos (by rw [gI_same]; decide) ?_)
      have h2 := h1.thr (zI 0)
      have B2 : MS F (sI (sI w 906 z (zI 0)) 906 z (zI 0)) z (snw s) := B
      obtain ⟨w', r1, r2, r3, r4, r5, r6, r7⟩ := m_cmp (N := N) B2 hb s0 s1 hN
      refine ev_eq r1 ?_
      rw [r7]
      have n := kc_num (zI (alike (brw (snw s) 0 t') (brw (snw s) 1 t'))) (P := zI (prods (brw (snw s) 0 t') (brw (snw s) 1 t'))) (by omega) (by omega)
      refine ev_eq (nnD_ok (kp_num (zI (alike (brw (snw s) 0 t') (brw (snw s) 1 t'))))) (ev_eq (nnD_ok (kc_fin (zI (prods (brw (snw s) 0 t') (brw (snw s) 1 t')))).notNaN) ?_)
      refine ev_eq (nnD_ok n.1) (ev_eq (nnD_ok (kc_left (P := zI (prods (brw (snw s) 0 t') (brw (snw s) 1 t'))) (by omega) (by omega)).1.notNaN) (ev_eq (nnD_ok n.2) (ev_some ?_)))
      exact ⟨r3.trans (gI_same _ _ _ _), fun _ => rfl, h2.sc r2, ((kp_thr _ _ _).trans (kp_thr _ _ _)).trans r2.2.2.2.2⟩
  · rw [if_neg c, if_neg c]
    refine ev_pos (by rfl) ?_
    unfold fX9_kappa_14
    exact ev_bnd (ev_neg (by rw [gI_same]; decide) (ev_some (mqf_err h (by omega) rfl)))
end SHM
