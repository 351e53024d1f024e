/-! the reference lays frames out and compares them -/
/-- the array when the first k spans of a row have been laid out from o on -/
def layG (r : Rw) (o : Nat) (g : Nat → Int64) : Nat → Nat → Int64
  | 0 => g
  | k + 1 => fun j => if (o : Int) + rf r k ≤ (j : Int) ∧ (j : Int) < (o : Int) + re r k then mL (rl r k) else layG r o g k j
theorem layG_out {r : Rw} (gr : GRow r) (o : Nat) (g : Nat → Int64) : ∀ k, k ≤ rn r → ∀ j, (j < o ∨ o + 1000 ≤ j) → layG r o g k j = g j := by
  intro k
  induction k with
  | zero => intro _ j _; rfl
  | succ k ih =>
    intro hk j hj
    have b := gr.2 k (by omega)
    show (if (o : Int) + rf r k ≤ (j : Int) ∧ (j : Int) < (o : Int) + re r k then mL (rl r k) else layG r o g k j) = _
    rw [if_neg (by omega)]
    exact ih (by omega) j hj
theorem layG_in {r : Rw} (hs : SRow r) (o : Nat) (g : Nat → Int64) (f : Nat) : ∀ k, k ≤ rn r → (∀ i, i < k → inS r i f → layG r o g k (o + f) = mL (rl r i)) ∧ ((∀ i, i < k → ¬ inS r i f) → layG r o g k (o + f) = g (o + f)) := by
  intro k
  induction k with
  | zero => intro _; exact ⟨fun i hi => absurd hi (Nat.not_lt_zero _), fun _ => rfl⟩
  | succ k ih =>
    intro hk
    obtain ⟨h1, h2⟩ := ih (by omega)
    have e : layG r o g (k + 1) (o + f) = if (o : Int) + rf r k ≤ ((o + f : Nat) : Int) ∧ ((o + f : Nat) : Int) < (o : Int) + re r k then mL (rl r k) else layG r o g k (o + f) := rfl
    refine ⟨fun i hi hin => ?_, fun hn => ?_⟩
    · rw [e]
      by_cases c : i = k
      · subst c
        unfold inS at hin
        rw [if_pos (by omega)]
      · have hlt := hs.lt (show i < k by omega) (by omega)
        unfold inS at hin
        rw [if_neg (by omega)]
        exact h1 i (by omega) hin
    · have hk2 := hn k (by omega)
      unfold inS at hk2
      rw [e, if_neg (by omega)]
      exact h2 fun i hi => hn i (by omega)
theorem layG_lab {r : Rw} (hs : SRow r) (o : Nat) (g : Nat → Int64) (f : Nat) (h0 : g (o + f) = 0) : layG r o g (rn r) (o + f) = labF r f := by
  obtain ⟨h1, h2⟩ := layG_in hs o g f (rn r) (Nat.le_refl _)
  rcases ix_cases hs f with ⟨a, b⟩ | ⟨i, hi, a, b, -⟩
  · rw [h2 b, h0]
    exact (if_pos a).symm
  · rw [h1 i hi b]
    have e : labF r f = mL (rl r (ix r f).toNat) := if_neg (by omega)
    rw [e, a, Int.toNat_natCast]
section FRM
variable {F : Fr} {N : Nat} {w : Wd} {z : Nat} {s : St} {k : Bk}
theorem lay_71 (B : MS F w z k) {x t : Nat} (hx : x < 2) (ht : t < bn k) {i : Nat} (hi : i < rn (brw k x t)) {k24 : Wd → Nat → Int32 → Int32 → Option Wd} {k38 : Wd → Nat → Int32 → Int32 → Int32 → Int32 → Option Wd} {tt : Int32} : ∀ (m n f : Nat) (g : Nat → Int64), rf (brw k x t) i ≤ f → (f : Int) ≤ 1000 → (f : Int) + n = max (f : Int) (re (brw k x t) i) → n < m →
    ∃ g', fX9_layOut_71 F N k24 k38 m (sAJ w (z + 21) g) z tt (zI (x : Nat)) (zI (mo x t : Nat)) (zI (i : Nat)) (zI (mo x t + 1 + 3 * i : Nat)) (zI (f : Nat)) = k38 (sAJ w (z + 21) g') z tt (zI (x : Nat)) (zI (mo x t : Nat)) (zI (i + 1 : Nat)) ∧ ∀ j, g' j = if 1000 * (x : Int) + f ≤ (j : Int) ∧ (j : Int) < 1000 * (x : Int) + re (brw k x t) i then mL (rl (brw k x t) i) else g j := by
  have b := (B.grow hx ht).2 i hi
  obtain ⟨a1, a2, a3⟩ := B.at hx ht hi
  have hm := mo_lim hx (Nat.lt_of_lt_of_le ht B.g.1)
  have hl := B.lim hx ht
  intro m
  induction m with
  | zero => intro n f g _ _ _ h; omega
  | succ m ih =>
    intro n f g hf hf1 hn hm2
    have B1 : MS F (sAJ w (z + 21) g) z k := ⟨B.1, by rw [q_aJ_sAJ, if_neg (by omega)]; exact B.2.1, B.g, B.2.2.2⟩
    obtain ⟨a1, a2, a3⟩ := B1.at hx ht hi
    have lg := lg_ge (x := (f : Int)) (y := re (brw k x t) i) (by omega) (by omega) (by omega) (by omega)
    rw [fX9_layOut_71, B1.r]
    simp only [Option.bind_some]
    rw [z_1, zI_add, show ((mo x t + 1 + 3 * i : Nat) : Int) + 1 = ((mo x t + 2 + 3 * i : Nat) : Int) from by omega, a2]
    simp only [Option.bind_some]
    rw [zI_64 (by omega) (by omega)]
    cases n with
    | zero =>
      rw [if_pos (by rw [lg]; omega), zI_add, show (i : Int) + 1 = ((i + 1 : Nat) : Int) from by omega]
      exact ⟨g, rfl, fun j => by rw [if_neg (by omega)]⟩
    | succ n =>
      have hfl : (f : Int) < re (brw k x t) i := by omega
      rw [if_neg (by rw [lg]; omega), rdR_is B1.1.p936.1 B1.1.p936.2.1]
      simp only [Option.bind_some]
      rw [z_2, zI_add, show ((mo x t + 1 + 3 * i : Nat) : Int) + 2 = ((mo x t + 3 + 3 * i : Nat) : Int) from by omega, a3]
      simp only [Option.bind_some]
      rw [z_1000, zI_mul, zI_add, stJ_is (by omega) (by rw [B1.1.p936.2.2]; omega) (by omega), aJ_same, sAJ_sAJ]
      simp only [Option.bind_some]
      rw [zI_add, show (f : Int) + 1 = ((f + 1 : Nat) : Int) from by omega]
      obtain ⟨g', r1, r2⟩ := ih n (f + 1) (vp_updL g (1000 * (x : Int) + f).toNat (mL (rl (brw k x t) i))) (by omega) (by omega) (by omega) (by omega)
      refine ⟨g', r1, fun j => ?_⟩
      rw [r2, updL_is]
      by_cases c : j = (1000 * (x : Int) + f).toNat
      · rw [if_pos c, if_neg (by omega), if_pos (by omega)]
      · rw [if_neg c]
        by_cases d : 1000 * (x : Int) + ((f + 1 : Nat) : Int) ≤ (j : Int) ∧ (j : Int) < 1000 * (x : Int) + re (brw k x t) i
        · rw [if_pos d, if_pos (by omega)]
        · rw [if_neg d, if_neg (by omega)]
theorem lay_38 (B : MS F w z k) (hN : 1100 ≤ N) {x t : Nat} (hx : x < 2) (ht : t < bn k) {k24 : Wd → Nat → Int32 → Int32 → Option Wd} {tt : Int32} (g0 : Nat → Int64) (S : SRow (brw k x t)) : ∀ (m n i : Nat) (g : Nat → Int64), i + n = rn (brw k x t) → n < m → (∀ j, g j = layG (brw k x t) (1000 * x) g0 i j) →
    ∃ g', fX9_layOut_38 F N k24 m (sAJ w (z + 21) g) z tt (zI (x : Nat)) (zI (mo x t : Nat)) (zI (i : Nat)) = k24 (sAJ w (z + 21) g') z tt (zI (x + 1 : Nat)) ∧ ∀ j, g' j = layG (brw k x t) (1000 * x) g0 (rn (brw k x t)) j := by
  have hl := B.lim hx ht
  intro m
  induction m with
  | zero => intro n i g _ h; omega
  | succ m ih =>
    intro n i g hi hm hg
    have B1 : MS F (sAJ w (z + 21) g) z k := ⟨B.1, by rw [q_aJ_sAJ, if_neg (by omega)]; exact B.2.1, B.g, B.2.2.2⟩
    have lg := lg_ge (x := (i : Int)) (y := (rn (brw k x t) : Int)) (by omega) (by omega) (by omega) (by omega)
    rw [fX9_layOut_38, B1.r]
    simp only [Option.bind_some]
    rw [B1.cnt hx ht]
    simp only [Option.bind_some]
    rw [zI_64 (by omega) (by omega)]
    cases n with
    | zero =>
      have e9 : i = rn (brw k x t) := by omega
      rw [if_pos (by rw [lg]; omega), z_1, zI_add, show (x : Int) + 1 = ((x + 1 : Nat) : Int) from by omega]
      exact ⟨g, rfl, fun j => by rw [hg, e9]⟩
    | succ n =>
      have hi2 : i < rn (brw k x t) := by omega
      have b := (B.grow hx ht).2 i hi2
      have s1 := S.1 i hi2
      obtain ⟨a1, a2, a3⟩ := B1.at hx ht hi2
      rw [if_neg (by rw [lg]; omega)]
      simp only [bnd]
      rw [z_1, z_3, zI_add, zI_mul, zI_add, show ((mo x t : Nat) : Int) + 1 + 3 * (i : Int) = ((mo x t + 1 + 3 * i : Nat) : Int) from by omega, a1]
      simp only [Option.bind_some]
      rw [zJ_32, show rf (brw k x t) i = ((rf (brw k x t) i).toNat : Int) from by omega]
      obtain ⟨g2, r1, r2⟩ := lay_71 (N := N) (k24 := k24) (k38 := fX9_layOut_38 F N k24 m) (tt := tt) B hx ht hi2 N (re (brw k x t) i - rf (brw k x t) i).toNat (rf (brw k x t) i).toNat g (by omega) (by omega) (by omega) (by omega)
      rw [r1]
      refine ih n (i + 1) g2 (by omega) (by omega) fun j => ?_
      rw [r2, hg]
      show _ = if ((1000 * x : Nat) : Int) + rf (brw k x t) i ≤ (j : Int) ∧ (j : Int) < ((1000 * x : Nat) : Int) + re (brw k x t) i then mL (rl (brw k x t) i) else layG (brw k x t) (1000 * x) g0 i j
      by_cases d : 1000 * (x : Int) + (((rf (brw k x t) i).toNat : Nat) : Int) ≤ (j : Int) ∧ (j : Int) < 1000 * (x : Int) + re (brw k x t) i
      · rw [if_pos d, if_pos (by omega)]
      · rw [if_neg d, if_neg (by omega)]
theorem lay_24 (B : MS F w z k) (hN : 1100 ≤ N) {t : Nat} (ht : t < bn k) (S0 : SRow (brw k 0 t)) (S1 : SRow (brw k 1 t)) (g0 : Nat → Int64) (h0 : ∀ j, j < 2000 → g0 j = 0) : ∃ g', fX9_layOut_24 F N N (sAJ w (z + 21) g0) z (zI (t : Nat)) 0 = some (sAJ w (z + 21) g') ∧ ∀ f, f < 1000 → g' f = labF (brw k 0 t) f ∧ g' (1000 + f) = labF (brw k 1 t) f := by
  obtain ⟨N', rfl⟩ : ∃ N', N = N' + 3 := ⟨N - 3, by omega⟩
  have l0 := B.lim (show 0 < 2 by omega) ht
  have l1 := B.lim (show 1 < 2 by omega) ht
  rw [fX9_layOut_24, if_neg (by decide), show ∀ w : Wd, fX9_row F (N' + 3) w 0 (zI (t : Nat)) = _ from fun w => m_row 0 t]
  simp only [Option.bind_some]
  obtain ⟨g1, r1, r2⟩ := lay_38 (N := N' + 3) (k24 := fX9_layOut_24 F (N' + 3) (N' + 2)) (tt := zI (t : Nat)) B hN (show 0 < 2 by omega) ht g0 S0 (N' + 3) (rn (brw k 0 t)) 0 g0 (by omega) (by omega) (fun j => rfl)
  rw [show fX9_layOut_38 F (N' + 3) (fX9_layOut_24 F (N' + 3) (N' + 2)) (N' + 3) (sAJ w (z + 21) g0) z (zI (t : Nat)) 0 (zI (mo 0 t : Nat)) 0 = _ from r1]
  rw [fX9_layOut_24, if_neg (by decide), m_row (0 + 1) t]
  simp only [Option.bind_some]
  obtain ⟨g2, t1, t2⟩ := lay_38 (N := N' + 3) (k24 := fX9_layOut_24 F (N' + 3) (N' + 1)) (tt := zI (t : Nat)) B hN (show 1 < 2 by omega) ht g1 S1 (N' + 3) (rn (brw k 1 t)) 0 g1 (by omega) (by omega) (fun j => rfl)
  rw [show fX9_layOut_38 F (N' + 3) (fX9_layOut_24 F (N' + 3) (N' + 1)) (N' + 3) (sAJ w (z + 21) g1) z (zI (t : Nat)) (zI (0 + 1 : Nat)) (zI (mo (0 + 1) t : Nat)) 0 = _ from t1]
  rw [fX9_layOut_24, if_pos (by decide)]
  refine ⟨g2, rfl, fun f hf => ⟨?_, ?_⟩⟩
  · rw [t2, layG_out (B.grow (show 1 < 2 by omega) ht) _ _ _ (Nat.le_refl _) f (by omega), r2]
    have := layG_lab S0 (1000 * 0) g0 f (h0 _ (by omega))
    rw [show 1000 * 0 + f = f from by omega] at this
    exact this
  · rw [t2]
    refine layG_lab S1 (1000 * 1) g1 f ?_
    rw [r2, layG_out (B.grow (show 0 < 2 by omega) ht) _ _ _ (Nat.le_refl _) _ (by omega)]
    exact h0 _ (by omega)
theorem lay_2 (A : CMod F w z) : ∀ (m n i : Nat) (g : Nat → Int64) (tt : Int32), i + n = 2000 → n < m → (∀ j, j < i → g j = 0) →
    ∃ g', fX9_layOut_2 F N m (sAJ w (z + 21) g) z tt (zI (i : Nat)) = fX9_layOut_24 F N N (sAJ w (z + 21) g') z tt 0 ∧ ∀ j, j < 2000 → g' j = 0 := by
  intro m
  induction m with
  | zero => intro n i g tt _ h; omega
  | succ m ih =>
    intro n i g tt hi hm hg
    rw [fX9_layOut_2]
    have e2000 : (2000 : Int32) = zI 2000 := rfl
    cases n with
    | zero =>
      rw [e2000, if_pos (by simp (disch := omega) only [z_0, z_1, z_2, z_3, z_4, z_5, z_6, z_7, z_8, z_9, z_10, z_12, z_13, z_16, z_20, z_24, z_30, z_31, z_32, z_38, z_42, z_44, z_45, z_47, z_48, z_49, z_50, z_57, z_58, z_59, z_60, z_61, z_91, z_97, z_98, z_100, z_108, z_114, z_120, z_122, z_126, z_127, z_128, z_200, z_255, z_961, z_990, z_992, z_998, z_999, z_1000, z_1092, z_1114, z_7798, z_10000, z_1000000, zI_neg, zI_add, zI_sub, zI_mul, zI_lt, zI_le, zI_eq, if_pos, if_neg, if_true, if_false, Option.bind_some, bnd, ldI_is, ldJ_is, Int.toNat_natCast, ]; omega)]
      exact ⟨g, rfl, fun j hj => hg j (by omega)⟩
    | succ n =>
      rw [e2000, if_neg (by simp (disch := omega) only [z_0, z_1, z_2, z_3, z_4, z_5, z_6, z_7, z_8, z_9, z_10, z_12, z_13, z_16, z_20, z_24, z_30, z_31, z_32, z_38, z_42, z_44, z_45, z_47, z_48, z_49, z_50, z_57, z_58, z_59, z_60, z_61, z_91, z_97, z_98, z_100, z_108, z_114, z_120, z_122, z_126, z_127, z_128, z_200, z_255, z_961, z_990, z_992, z_998, z_999, z_1000, z_1092, z_1114, z_7798, z_10000, z_1000000, zI_neg, zI_add, zI_sub, zI_mul, zI_lt, zI_le, zI_eq, if_pos, if_neg, if_true, if_false, Option.bind_some, bnd, ldI_is, ldJ_is, Int.toNat_natCast,  Int.not_le]; omega), rdR_is (w := sAJ w (z + 21) g) A.p936.1 A.p936.2.1]
      simp only [Option.bind_some]
      rw [stJ_is (by omega) (by rw [A.p936.2.2]; omega) (by omega), aJ_same, sAJ_sAJ, Int.toNat_natCast]
      simp only [Option.bind_some]
      rw [zI_succ]
      refine ih n (i + 1) _ tt (by omega) (by omega) fun j hj => ?_
      rw [updL_is]
      by_cases c : j = i
      · rw [if_pos c]
      · rw [if_neg c]; exact hg j (by omega)
def cw (w : Wd) (z : Nat) (a b c d : Int) : Wd := sI (sI (sI (sI w 937 z (zI a)) 938 z (zI b)) 939 z (zI c)) 940 z (zI d)
theorem cw_937 (w : Wd) (z : Nat) (a b c d : Int) : gI (cw w z a b c d) 937 z = zI a := by unfold cw; rw [gI_ne _ (by omega), gI_ne _ (by omega), gI_ne _ (by omega), gI_same]
theorem cw_938 (w : Wd) (z : Nat) (a b c d : Int) : gI (cw w z a b c d) 938 z = zI b := by unfold cw; rw [gI_ne _ (by omega), gI_ne _ (by omega), gI_same]
theorem cw_939 (w : Wd) (z : Nat) (a b c d : Int) : gI (cw w z a b c d) 939 z = zI c := by unfold cw; rw [gI_ne _ (by omega), gI_same]
theorem cw_940 (w : Wd) (z : Nat) (a b c d : Int) : gI (cw w z a b c d) 940 z = zI d := gI_same _ _ _ _
theorem cw_s937 (w : Wd) (z : Nat) (a b c d v : Int) : sI (cw w z a b c d) 937 z (zI v) = cw w z v b c d := by
  unfold cw
  rw [sI_swap _ _ _ _ (by decide), sI_swap _ _ _ _ (show ¬ 939 = 937 by decide), sI_swap _ _ _ _ (show ¬ 938 = 937 by decide), sI_sI]
theorem cw_s938 (w : Wd) (z : Nat) (a b c d v : Int) : sI (cw w z a b c d) 938 z (zI v) = cw w z a v c d := by
  unfold cw
  rw [sI_swap _ _ _ _ (show ¬ 940 = 938 by decide), sI_swap _ _ _ _ (show ¬ 939 = 938 by decide), sI_sI]
theorem cw_s939 (w : Wd) (z : Nat) (a b c d v : Int) : sI (cw w z a b c d) 939 z (zI v) = cw w z a b v d := by
  unfold cw
  rw [sI_swap _ _ _ _ (show ¬ 940 = 939 by decide), sI_sI]
theorem cw_s940 (w : Wd) (z : Nat) (a b c d v : Int) : sI (cw w z a b c d) 940 z (zI v) = cw w z a b c v := by
  unfold cw
  rw [sI_sI]
theorem sc_cw (w : Wd) (z : Nat) (a b c d : Int) : Sc z w (cw w z a b c d) := (((Sc.sI _ _ (by unfold KF; omega)).trans (Sc.sI _ _ (by unfold KF; omega))).trans (Sc.sI _ _ (by unfold KF; omega))).trans (Sc.sI _ _ (by unfold KF; omega))
theorem m_cmp_27 (A : CMod F w z) {r q : Rw} (g : GRow r) (g2 : GRow q) (hs : SRow r) (ht : SRow q) (L : ∀ f, f < 1000 → aJ w (z + 21) f = labF r f ∧ aJ w (z + 21) (1000 + f) = labF q f) : ∀ (m n f : Nat), f + n = 1000 → n < m →
    fX9_compareFrames_27 F N m (cw w z (sumN (smF true r q) f) (sumN (smF false r q) f) (sumN (anF r q) f) (sumN (alF r q) f)) z (zI (f : Nat)) = some (cw w z (sumN (smF true r q) 1000) (sumN (smF false r q) 1000) (sumN (anF r q) 1000) (sumN (alF r q) 1000)) := by
  intro m
  induction m with
  | zero => intro n f _ h; omega
  | succ m ih =>
    intro n f hf hm
    rw [fX9_compareFrames_27]
    cases n with
    | zero =>
      have e9 : f = 1000 := by omega
      rw [if_pos (by simp (disch := omega) only [z_0, z_1, z_2, z_3, z_4, z_5, z_6, z_7, z_8, z_9, z_10, z_12, z_13, z_16, z_20, z_24, z_30, z_31, z_32, z_38, z_42, z_44, z_45, z_47, z_48, z_49, z_50, z_57, z_58, z_59, z_60, z_61, z_91, z_97, z_98, z_100, z_108, z_114, z_120, z_122, z_126, z_127, z_128, z_200, z_255, z_961, z_990, z_992, z_998, z_999, z_1000, z_1092, z_1114, z_7798, z_10000, z_1000000, zI_neg, zI_add, zI_sub, zI_mul, zI_lt, zI_le, zI_eq, if_pos, if_neg, if_true, if_false, Option.bind_some, bnd, ldI_is, ldJ_is, Int.toNat_natCast, ]; omega), e9]
    | succ n =>
      obtain ⟨la, lb⟩ := L f (by omega)
      have ih := ih n (f + 1) (by omega) (by omega)
      rw [← sumN_succ, ← sumN_succ, ← sumN_succ, ← sumN_succ] at ih
      have eJ : ∀ a b c d, aJ (cw w z a b c d) = aJ w := fun _ _ _ _ => rfl
      rw [if_neg (by simp (disch := omega) only [z_0, z_1, z_2, z_3, z_4, z_5, z_6, z_7, z_8, z_9, z_10, z_12, z_13, z_16, z_20, z_24, z_30, z_31, z_32, z_38, z_42, z_44, z_45, z_47, z_48, z_49, z_50, z_57, z_58, z_59, z_60, z_61, z_91, z_97, z_98, z_100, z_108, z_114, z_120, z_122, z_126, z_127, z_128, z_200, z_255, z_961, z_990, z_992, z_998, z_999, z_1000, z_1092, z_1114, z_7798, z_10000, z_1000000, zI_neg, zI_add, zI_sub, zI_mul, zI_lt, zI_le, zI_eq, if_pos, if_neg, if_true, if_false, Option.bind_some, bnd, ldI_is, ldJ_is, Int.toNat_natCast,  Int.not_le]; omega), rdR_is (w := cw w z _ _ _ _) A.p936.1 A.p936.2.1]
      simp only [Option.bind_some]
      rw [z_1000, zI_add, ldJ_is (by omega) (by rw [A.p936.2.2]; omega) (by omega), ldJ_is (by omega) (by rw [A.p936.2.2]; omega) (by omega), eJ, Int.toNat_natCast, la, show (1000 + (f : Int)).toNat = 1000 + f from by omega, lb]
      simp only [Option.bind_some]
      have go : ∀ (x1 x2 x3 x4 : Int), x1 = smF true r q f → x2 = smF false r q f → x3 = anF r q f → x4 = alF r q f → fX9_compareFrames_27 F N m (cw w z (sumN (smF true r q) f + x1) (sumN (smF false r q) f + x2) (sumN (anF r q) f + x3) (sumN (alF r q) f + x4)) z (zI (f + 1 : Nat)) = some (cw w z (sumN (smF true r q) 1000) (sumN (smF false r q) 1000) (sumN (anF r q) 1000) (sumN (alF r q) 1000)) := by
        intro x1 x2 x3 x4 h1 h2 h3 h4
        rw [h1, h2, h3, h4]
        exact ih
      unfold fX9_compareFrames_70 fX9_compareFrames_71 fX9_compareFrames_94 fX9_compareFrames_95 fX9_compareFrames_114 fX9_compareFrames_136 fX9_compareFrames_141 fX9_compareFrames_162
      simp only [bnd]
      rw [zI_succ]
      rcases lab_cases g hs f with ⟨c, e⟩ | ⟨c, e, v, nz⟩
      · rw [if_pos (by (first | rw [lg_cmp_eq] | rw [lg_z]); exact e), if_pos trivial, if_pos trivial, cw_937, z_0, zI_add, cw_s937, cw_938, zI_add, cw_s938, if_pos (by (first | rw [lg_cmp_eq] | rw [lg_z]); exact e)]
        rcases lab_cases g2 ht f with ⟨d, e'⟩ | ⟨d, e', v', nz'⟩
        · rw [if_pos (by (first | rw [lg_cmp_eq] | rw [lg_z]); exact e'), cw_939, zI_add, cw_s939, if_pos (by (first | rw [lg_cmp_eq] | rw [lg_z]); rw [e, e']), cw_940, z_1, zI_add, cw_s940]
          exact go 0 0 0 1 (by unfold smF; rw [if_neg (fun x => x.1 c)]) (by unfold smF; rw [if_neg (fun x => x.1 c)]) (by unfold anF; rw [if_pos ⟨c, d⟩]) (by unfold alF; rw [if_pos (by rw [e, e'])])
        · rw [if_neg (by (first | rw [lg_cmp_eq] | rw [lg_z]); exact nz'), cw_939, z_1, zI_add, cw_s939, if_neg (by (first | rw [lg_cmp_eq] | rw [lg_z]); rw [e]; exact fun x => nz' x.symm), cw_940, zI_add, cw_s940]
          exact go 0 0 1 0 (by unfold smF; rw [if_neg (fun x => x.1 c)]) (by unfold smF; rw [if_neg (fun x => x.1 c)]) (by unfold anF; rw [if_neg (fun x => d x.2)]) (by unfold alF; rw [if_neg (by rw [e]; exact fun x => nz' x.symm)])
      · rw [if_neg (by (first | rw [lg_cmp_eq] | rw [lg_z]); exact nz)]
        rcases lab_cases g2 ht f with ⟨d, e'⟩ | ⟨d, e', v', nz'⟩
        · rw [if_pos (by (first | rw [lg_cmp_eq] | rw [lg_z]); exact e'), if_pos trivial, if_pos trivial, cw_937, z_0, zI_add, cw_s937, cw_938, zI_add, cw_s938, if_neg (by (first | rw [lg_cmp_eq] | rw [lg_z]); exact nz), cw_939, z_1, zI_add, cw_s939, if_neg (by (first | rw [lg_cmp_eq] | rw [lg_z]); rw [e']; exact nz), cw_940, zI_add, cw_s940]
          exact go 0 0 1 0 (by unfold smF; rw [if_neg (fun x => x.2.1 d)]) (by unfold smF; rw [if_neg (fun x => x.2.1 d)]) (by unfold anF; rw [if_neg (fun x => c x.1)]) (by unfold alF; rw [if_neg (by rw [e']; exact nz)])
        · rw [if_neg (by (first | rw [lg_cmp_eq] | rw [lg_z]); exact nz'), if_neg (by decide)]
          by_cases h : labF r f = labF q f
          · have h2 : rl r (ix r f).toNat = rl q (ix q f).toNat := by rw [e, e', mL_inj v v'] at h; exact h
            rw [if_pos (by (first | rw [lg_cmp_eq] | rw [lg_z]); exact h), if_neg (by decide), cw_937, z_1, zI_add, cw_s937, cw_938, zI_add, cw_s938, if_neg (by (first | rw [lg_cmp_eq] | rw [lg_z]); exact nz), cw_939, zI_add, cw_s939, if_pos (by (first | rw [lg_cmp_eq] | rw [lg_z]); exact h), cw_940, zI_add, cw_s940]
            exact go 1 1 1 1 (by unfold smF; rw [if_pos ⟨c, d, Or.inr h2⟩]) (by unfold smF; rw [if_pos ⟨c, d, Or.inl rfl⟩]) (by unfold anF; rw [if_neg (fun x => c x.1)]) (by unfold alF; rw [if_pos h])
          · have h2 : ¬ rl r (ix r f).toNat = rl q (ix q f).toNat := fun x => h (by rw [e, e', x])
            rw [if_neg (by (first | rw [lg_cmp_eq] | rw [lg_z]); exact h), if_neg (by decide), cw_937, z_0, zI_add, cw_s937, cw_938, z_1, zI_add, cw_s938, if_neg (by (first | rw [lg_cmp_eq] | rw [lg_z]); exact nz), cw_939, zI_add, cw_s939, if_neg (by (first | rw [lg_cmp_eq] | rw [lg_z]); exact h), cw_940, zI_add, cw_s940]
            exact go 0 1 1 0 (by unfold smF; rw [if_neg (fun x => by rcases x.2.2 with y | y; exact absurd y (by decide); exact h2 y)]) (by unfold smF; rw [if_pos ⟨c, d, Or.inl rfl⟩]) (by unfold anF; rw [if_neg (fun x => c x.1)]) (by unfold alF; rw [if_neg h])
theorem m_cmp (B : MS F w z k) {t : Nat} (ht : t < bn k) (S0 : SRow (brw k 0 t)) (S1 : SRow (brw k 1 t)) (hN : 2100 ≤ N) : ∃ w', fX9_compareFrames F N w z (zI (t : Nat)) = some w' ∧ Sc z w w' ∧ gI w' 906 z = gI w 906 z ∧ gI w' 937 z = zI (com true (brw k 0 t) (brw k 1 t)) ∧ gI w' 938 z = zI (com false (brw k 0 t) (brw k 1 t)) ∧ gI w' 939 z = zI (fsum (brw k 0 t) + fsum (brw k 1 t) - com false (brw k 0 t) (brw k 1 t)) ∧ gI w' 940 z = zI (com true (brw k 0 t) (brw k 1 t) + 1000 - (fsum (brw k 0 t) + fsum (brw k 1 t) - com false (brw k 0 t) (brw k 1 t))) := by
  have g0 := B.grow (show 0 < 2 by omega) ht
  have g1 := B.grow (show 1 < 2 by omega) ht
  unfold fX9_compareFrames fX9_layOut
  obtain ⟨ga, a1, a2⟩ := lay_2 (N := N) B.1 N 2000 0 (aJ w (z + 21)) (zI (t : Nat)) (by omega) (by omega) (fun j hj => absurd hj (Nat.not_lt_zero _))
  rw [sAJ_self] at a1
  obtain ⟨gb, b1, b2⟩ := lay_24 (N := N) B (by omega) ht S0 S1 ga a2
  rw [show fX9_layOut_2 F N N w z (zI (t : Nat)) 0 = _ from a1, b1]
  simp only [Option.bind_some, bnd]
  have s1 : Sc z w (sAJ w (z + 21) gb) := Sc.sAJ _ _ ⟨by omega, by omega⟩ (by omega) (by omega) (by omega) (by omega)
  have e := m_cmp_27 (N := N) (w := sAJ w (z + 21) gb) (z := z) (B.1.sc s1.1) g0 g1 S0 S1 (fun f hf => by rw [aJ_same]; exact b2 f hf) N 1000 0 (by omega) (by omega)
  have e' : fX9_compareFrames_27 F N N (sI (sI (sI (sI (sAJ w (z + 21) gb) 937 z 0) 938 z 0) 939 z 0) 940 z 0) z 0 = _ := e
  rw [e', sm_com g0 g1 S0 S1, sm_com g0 g1 S0 S1, an_sum g0 g1 S0 S1, al_sum g0 g1 S0 S1]
  refine ⟨_, rfl, s1.trans (sc_cw _ _ _ _ _ _), ?_, cw_937 _ _ _ _ _ _, cw_938 _ _ _ _ _ _, cw_939 _ _ _ _ _ _, cw_940 _ _ _ _ _ _⟩
  unfold cw
  rw [gI_ne _ (by omega), gI_ne _ (by omega), gI_ne _ (by omega), gI_ne _ (by omega)]
  rfl
def spFrames (s : St) (t q : Int) : Rs :=
  if 0 ≤ t ∧ t < bn (snw s) then
    (if 0 ≤ q ∧ q ≤ 4 then (0, (if q = 0 then zI (fsum (brw (snw s) 0 t.toNat)) else if q = 1 then zI (fsum (brw (snw s) 1 t.toNat)) else if q = 2 then zI (com true (brw (snw s) 0 t.toNat) (brw (snw s) 1 t.toNat)) else if q = 3 then zI (com false (brw (snw s) 0 t.toNat) (brw (snw s) 1 t.toNat)) else zI (fsum (brw (snw s) 0 t.toNat) + fsum (brw (snw s) 1 t.toNat) - com false (brw (snw s) 0 t.toNat) (brw (snw s) 1 t.toNat))), s) else (2, 0, s))
  else (1, 0, s)
theorem m_frames (h : MSt F w z s) (V : VSt s) (hN : 2100 ≤ N) {t q : Int} (ht : I32 t) (hq : I32 q) : Ev (fX9_frames F N w z (zI t) (zI q)) (MO F z w (spFrames s t q)) := by
  have B := h.ms V
  unfold fX9_frames spFrames
  refine ev_eq (m_isTier B ht) ?_
  by_cases c : 0 ≤ t ∧ t < bn (snw s)
  · rw [if_pos c, if_pos c]
    refine ev_neg (by decide) ?_
    rw [show (0 : Int32) = zI 0 from rfl, z_4, m_in hq (by omega) (by omega)]
    simp only [Option.bind_some]
    by_cases c2 : 0 ≤ q ∧ q ≤ 4
    · rw [if_pos c2, if_pos c2]
      refine ev_neg (by decide) ?_
      obtain ⟨t', rfl⟩ := Int.eq_ofNat_of_zero_le c.1
      have hb : t' < bn (snw s) := by omega
      rw [Int.toNat_natCast]
      unfold fX9_frames_27
      have h1 := h.thr (zI 0)
      have B1 : MS F (sI w 906 z (zI 0)) z (snw s) := B
      refine ev_bnd (ev_pos (by rw [gI_same]; decide) ?_)
      by_cases q2 : 2 ≤ q
      · rw [if_neg (c := q = 0) (by omega), if_neg (c := q = 1) (by omega)]
        obtain ⟨w', r1, r2, r3, r4, r5, r6, r7⟩ := m_cmp (N := N) B1 hb (V.1.2.2.1 0 _ (by omega) hb) (V.1.2.2.1 1 _ (by omega) hb) hN
        refine ev_pos (by simp (disch := omega) only [z_0, z_1, z_2, z_3, z_4, z_5, z_6, z_7, z_8, z_9, z_10, z_12, z_13, z_16, z_20, z_24, z_30, z_31, z_32, z_38, z_42, z_44, z_45, z_47, z_48, z_49, z_50, z_57, z_58, z_59, z_60, z_61, z_91, z_97, z_98, z_100, z_108, z_114, z_120, z_122, z_126, z_127, z_128, z_200, z_255, z_961, z_990, z_992, z_998, z_999, z_1000, z_1092, z_1114, z_7798, z_10000, z_1000000, zI_neg, zI_add, zI_sub, zI_mul, zI_lt, zI_le, zI_eq, if_pos, if_neg, if_true, if_false, Option.bind_some, bnd, ldI_is, ldJ_is, Int.toNat_natCast, ]; exact q2) (ev_eq r1 ?_)
        have fin : ∀ v u : Int32, v = u → MO F z w (0, u, s) (v, w') := fun v u e => ⟨r3.trans (gI_same _ _ _ _), fun _ => e, h1.sc r2, (kp_thr _ _ _).trans r2.2.2.2.2⟩
        by_cases e2 : q = 2
        · rw [if_pos e2]
          exact ev_pos (by simp (disch := omega) only [z_0, z_1, z_2, z_3, z_4, z_5, z_6, z_7, z_8, z_9, z_10, z_12, z_13, z_16, z_20, z_24, z_30, z_31, z_32, z_38, z_42, z_44, z_45, z_47, z_48, z_49, z_50, z_57, z_58, z_59, z_60, z_61, z_91, z_97, z_98, z_100, z_108, z_114, z_120, z_122, z_126, z_127, z_128, z_200, z_255, z_961, z_990, z_992, z_998, z_999, z_1000, z_1092, z_1114, z_7798, z_10000, z_1000000, zI_neg, zI_add, zI_sub, zI_mul, zI_lt, zI_le, zI_eq, if_pos, if_neg, if_true, if_false, Option.bind_some, bnd, ldI_is, ldJ_is, Int.toNat_natCast, ]; exact e2) (ev_some (fin _ _ r4))
        rw [if_neg e2]
        refine ev_neg (by simp (disch := omega) only [z_0, z_1, z_2, z_3, z_4, z_5, z_6, z_7, z_8, z_9, z_10, z_12, z_13, z_16, z_20, z_24, z_30, z_31, z_32, z_38, z_42, z_44, z_45, z_47, z_48, z_49, z_50, z_57, z_58, z_59, z_60, z_61, z_91, z_97, z_98, z_100, z_108, z_114, z_120, z_122, z_126, z_127, z_128, z_200, z_255, z_961, z_990, z_992, z_998, z_999, z_1000, z_1092, z_1114, z_7798, z_10000, z_1000000, zI_neg, zI_add, zI_sub, zI_mul, zI_lt, zI_le, zI_eq, if_pos, if_neg, if_true, if_false, Option.bind_some, bnd, ldI_is, ldJ_is, Int.toNat_natCast, ]; exact e2) ?_
        by_cases e3 : q = 3
        · rw [if_pos e3]
          exact ev_pos (by simp (disch := omega) only [z_0, z_1, z_2, z_3, z_4, z_5, z_6, z_7, z_8, z_9, z_10, z_12, z_13, z_16, z_20, z_24, z_30, z_31, z_32, z_38, z_42, z_44, z_45, z_47, z_48, z_49, z_50, z_57, z_58, z_59, z_60, z_61, z_91, z_97, z_98, z_100, z_108, z_114, z_120, z_122, z_126, z_127, z_128, z_200, z_255, z_961, z_990, z_992, z_998, z_999, z_1000, z_1092, z_1114, z_7798, z_10000, z_1000000, zI_neg, zI_add, zI_sub, zI_mul, zI_lt, zI_le, zI_eq, if_pos, if_neg, if_true, if_false, Option.bind_some, bnd, ldI_is, ldJ_is, Int.toNat_natCast, ]; exact e3) (ev_some (fin _ _ r5))
        rw [if_neg e3]
        exact ev_neg (by simp (disch := omega) only [z_0, z_1, z_2, z_3, z_4, z_5, z_6, z_7, z_8, z_9, z_10, z_12, z_13, z_16, z_20, z_24, z_30, z_31, z_32, z_38, z_42, z_44, z_45, z_47, z_48, z_49, z_50, z_57, z_58, z_59, z_60, z_61, z_91, z_97, z_98, z_100, z_108, z_114, z_120, z_122, z_126, z_127, z_128, z_200, z_255, z_961, z_990, z_992, z_998, z_999, z_1000, z_1092, z_1114, z_7798, z_10000, z_1000000, zI_neg, zI_add, zI_sub, zI_mul, zI_lt, zI_le, zI_eq, if_pos, if_neg, if_true, if_false, Option.bind_some, bnd, ldI_is, ldJ_is, Int.toNat_natCast, ]; exact e3) (ev_some (fin _ _ r6))
      · refine ev_neg (by simp (disch := omega) only [z_0, z_1, z_2, z_3, z_4, z_5, z_6, z_7, z_8, z_9, z_10, z_12, z_13, z_16, z_20, z_24, z_30, z_31, z_32, z_38, z_42, z_44, z_45, z_47, z_48, z_49, z_50, z_57, z_58, z_59, z_60, z_61, z_91, z_97, z_98, z_100, z_108, z_114, z_120, z_122, z_126, z_127, z_128, z_200, z_255, z_961, z_990, z_992, z_998, z_999, z_1000, z_1092, z_1114, z_7798, z_10000, z_1000000, zI_neg, zI_add, zI_sub, zI_mul, zI_lt, zI_le, zI_eq, if_pos, if_neg, if_true, if_false, Option.bind_some, bnd, ldI_is, ldJ_is, Int.toNat_natCast,  Int.not_le]; omega) ?_
        obtain ⟨q', rfl⟩ := Int.eq_ofNat_of_zero_le c2.1
        refine ev_eq (m_framesOf B1 (by omega) (show q' < 2 by omega) hb) (ev_some (mo_ok h ?_))
        by_cases e0 : q' = 0
        · rw [if_pos (c := ((q' : Nat) : Int) = 0) (by omega), e0]
        · rw [if_neg (c := ((q' : Nat) : Int) = 0) (by omega), if_pos (c := ((q' : Nat) : Int) = 1) (by omega), show q' = 1 from by omega]
    · rw [if_neg c2, if_neg c2]
      refine ev_pos (by rfl) ?_
      unfold fX9_frames_27
      exact ev_bnd (ev_neg (by rw [gI_same]; decide) (ev_some (mo_err h (by omega) rfl)))
  · rw [if_neg c, if_neg c]
    refine ev_pos (by rfl) ?_
    unfold fX9_frames_27
    exact ev_bnd (ev_neg (by rw [gI_same]; decide) (ev_some (mo_err h (by omega) rfl)))
end FRM
