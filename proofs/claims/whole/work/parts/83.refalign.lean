/-! the reference aligns -/
def Rep (v p s : Int) (m : Nat) : Prop := v = 10000 * p - s ∧ 0 ≤ s ∧ s ≤ 200 * p ∧ 0 ≤ p ∧ p ≤ m ∧ m ≤ 30
theorem Rep.uniq {v p s p' s' : Int} {m m' : Nat} (h : Rep v p s m) (k : Rep v p' s' m') : p = p' ∧ s = s' := by
  unfold Rep at h k
  omega
def AT (w : Wd) (z i j : Nat) (v : Int) (m : Nat) : Prop := ∃ p s, Rep v p s m ∧ aI w (z + 6) (31 * i + j) = zI p ∧ aI w (z + 7) (31 * i + j) = zI s
theorem AT.mono {w : Wd} {z i j : Nat} {v : Int} {m m' : Nat} (h : AT w z i j v m) (hm : m ≤ m') (h30 : m' ≤ 30) : AT w z i j v m' := by
  obtain ⟨p, s, ⟨h1, h2, h3, h4, h5, h6⟩, h7⟩ := h
  exact ⟨p, s, ⟨h1, h2, h3, h4, by omega, h30⟩, h7⟩
theorem bst_mono (r q : Rw) (W : Int) {hW : 0 ≤ W ∧ W ≤ 200} {i j : Nat} (hi : i ≤ rn r) (hj : j < rn q) : bst r q W (rn r - i) (rn q - (j + 1)) ≤ bst r q W (rn r - i) (rn q - j) := by
  by_cases c : i = rn r
  · rw [bst_0 r q W _ _ (Or.inl (by omega)), bst_0 r q W _ _ (Or.inl (by omega))]; omega
  · rw [bst_s r q W (show i < rn r by omega) hj]
    split <;> omega
theorem bst_choose (r q : Rw) {W : Int} (hW : 0 ≤ W ∧ W ≤ 200) {i : Nat} (hi : i < rn r) : ∀ n f, f + n = rn q → (bst r q W (rn r - i) (rn q - f) = bst r q W (rn r - (i + 1)) (rn q - f)) ∨ ∃ j, f ≤ j ∧ j < rn q ∧ 0 < wor r q W i j ∧ wor r q W i j + bst r q W (rn r - (i + 1)) (rn q - (j + 1)) = bst r q W (rn r - i) (rn q - f) := by
  intro n
  induction n with
  | zero =>
    intro f hf
    left
    rw [bst_0 r q W _ _ (Or.inr (by omega)), bst_0 r q W _ _ (Or.inr (by omega))]
  | succ n ih =>
    intro f hf
    have hf2 : f < rn q := by omega
    have e := bst_s r q W hi hf2
    have m1 := bst_mono r q W (hW := hW) (show i + 1 ≤ rn r by omega) hf2
    have go : bst r q W (rn r - i) (rn q - f) = bst r q W (rn r - i) (rn q - (f + 1)) → bst r q W (rn r - (i + 1)) (rn q - f) ≤ bst r q W (rn r - i) (rn q - f) → (bst r q W (rn r - i) (rn q - f) = bst r q W (rn r - (i + 1)) (rn q - f)) ∨ ∃ j, f ≤ j ∧ j < rn q ∧ 0 < wor r q W i j ∧ wor r q W i j + bst r q W (rn r - (i + 1)) (rn q - (j + 1)) = bst r q W (rn r - i) (rn q - f) := by
      intro h1 h2
      rcases ih (f + 1) (by omega) with h | ⟨j, j1, j2, j3, j4⟩
      · left; omega
      · right; exact ⟨j, by omega, j2, j3, by rw [j4, h1]⟩
    by_cases c : 0 < wor r q W i f
    · rw [if_pos c] at e
      by_cases d : bst r q W (rn r - i) (rn q - f) = wor r q W i f + bst r q W (rn r - (i + 1)) (rn q - (f + 1))
      · exact Or.inr ⟨f, Nat.le_refl _, hf2, c, d.symm⟩
      · by_cases d2 : bst r q W (rn r - i) (rn q - f) = bst r q W (rn r - (i + 1)) (rn q - f)
        · exact Or.inl d2
        · refine go ?_ ?_ <;> (clear go ih; omega)
    · rw [if_neg c] at e
      by_cases d2 : bst r q W (rn r - i) (rn q - f) = bst r q W (rn r - (i + 1)) (rn q - f)
      · exact Or.inl d2
      · refine go ?_ ?_ <;> (clear go ih; omega)
theorem bst_part (r q : Rw) {W : Int} (hW : 0 ≤ W ∧ W ≤ 200) : ∀ i, i ≤ rn r → 10000 * sumN (prS r q W) i - sumN (dsS r q W) i + bst r q W (rn r - i) (rn q - frI r q W i) = bst r q W (rn r) (rn q) := by
  intro i
  induction i with
  | zero => intro _; show 10000 * 0 - 0 + bst r q W (rn r) (rn q) = _; omega
  | succ i ih =>
    intro hi
    have ih := ih (by omega)
    rw [← sumN_succ, ← sumN_succ]
    have hf := frI_lim r q W i
    have hp : prtI r q W i = fnd (chsP r q W i (frI r q W i)) (rn q - frI r q W i) (frI r q W i) := rfl
    have hfr : frI r q W (i + 1) = if 0 ≤ prtI r q W i then (prtI r q W i).toNat + 1 else frI r q W i := rfl
    rcases fnd_cases (chsP r q W i (frI r q W i)) (rn q - frI r q W i) (frI r q W i) with ⟨h1, h2⟩ | ⟨j, h1, h2, h3, h4, -⟩
    · have e1 : prS r q W i = 0 := if_neg (by rw [hp, h1]; omega)
      have e2 : dsS r q W i = 0 := if_neg (by rw [hp, h1]; omega)
      rw [hfr, if_neg (by rw [hp, h1]; omega), e1, e2]
      rcases bst_choose r q hW (show i < rn r by omega) (rn q - frI r q W i) (frI r q W i) (by omega) with h | ⟨j, j1, j2, j3, j4⟩
      · omega
      · have := of_decide_eq_false (h2 j j1 (by omega))
        exact absurd ⟨j3, j4⟩ this
    · have h4 : 0 < wor r q W i j ∧ wor r q W i j + bst r q W (rn r - (i + 1)) (rn q - (j + 1)) = bst r q W (rn r - i) (rn q - frI r q W i) := of_decide_eq_true h4
      have e0 : prtI r q W i = (j : Nat) := hp.trans h1
      have e1 : prS r q W i = 1 := if_pos (by rw [e0]; omega)
      have e2 : dsS r q W i = dst r q i j := by unfold dsS; rw [if_pos (by rw [e0]; omega), e0, Int.toNat_natCast]
      have hd := (wor_lim r q hW i j).2.2.mp h4.1
      have ew : wor r q W i j = 10000 - dst r q i j := if_pos hd
      rw [hfr, if_pos (by rw [e0]; omega), e0, Int.toNat_natCast, e1, e2]
      omega
theorem bst_tot (r q : Rw) {W : Int} (hW : 0 ≤ W ∧ W ≤ 200) (h30 : rn r ≤ 30) : Rep (bst r q W (rn r) (rn q)) (sumN (prS r q W) (rn r)) (sumN (dsS r q W) (rn r)) (rn r) := by
  have h := bst_part r q hW (rn r) (Nat.le_refl _)
  rw [Nat.sub_self, bst_0 r q W _ _ (Or.inl rfl)] at h
  have l := sum_lim r q hW (rn r)
  unfold Rep
  omega
section ALI
variable {F : Fr} {N : Nat} {w : Wd} {z : Nat} {s : St} {k : Bk}
theorem m_cell (i j : Nat) : fX9_cell F N w (zI (i : Nat)) (zI (j : Nat)) = some (zI (31 * i + j : Nat)) := by
  unfold fX9_cell
  rw [z_31, zI_mul, zI_add, show ((31 * i + j : Nat) : Int) = 31 * (i : Int) + j from by omega]
theorem m_distance (B : MS F w z k) {t o i j : Nat} (ht : t < bn k) (ho : o < bn k) (hi : i < rn (brw k (ban k) t)) (hj : j < rn (brw k (ban k) o)) : fX9_distance F N w z (zI t) (zI i) (zI o) (zI j) = some (zI (dst (brw k (ban k) t) (brw k (ban k) o) i j)) := by
  have b1 := (B.grow B.g.2.1 ht).2 i hi
  have b2 := (B.grow B.g.2.1 ho).2 j hj
  unfold fX9_distance dst
  rw [m_first B ht hi, m_first B ho hj, m_end B ht hi, m_end B ho hj]
  simp only [Option.bind_some, zI_sub]
  rw [iabs_z (by omega) (by omega), iabs_z (by omega) (by omega), zI_add]
/-- only the two tables were written, and there only place c -/
def Tb (z c : Nat) (w w' : Wd) : Prop := Sc z w w' ∧ gI w' 906 z = gI w 906 z ∧ (∀ x, ¬ x = c → aI w' (z + 6) x = aI w (z + 6) x) ∧ ∀ x, ¬ x = c → aI w' (z + 7) x = aI w (z + 7) x
theorem Tb.trans {z c : Nat} {u v w : Wd} (h : Tb z c u v) (k : Tb z c v w) : Tb z c u w := ⟨h.1.trans k.1, k.2.1.trans h.2.1, fun x hx => (k.2.2.1 x hx).trans (h.2.2.1 x hx), fun x hx => (k.2.2.2 x hx).trans (h.2.2.2 x hx)⟩
theorem Tb.refl (z c : Nat) (w : Wd) : Tb z c w w := ⟨Sc.refl _ _, rfl, fun _ _ => rfl, fun _ _ => rfl⟩
theorem Tb.at {z c : Nat} {w w' : Wd} (h : Tb z c w w') {i j : Nat} {v : Int} {m : Nat} (hc : ¬ 31 * i + j = c) (a : AT w z i j v m) : AT w' z i j v m := by
  obtain ⟨p, s, h1, h2, h3⟩ := a
  exact ⟨p, s, h1, (h.2.2.1 _ hc).trans h2, (h.2.2.2 _ hc).trans h3⟩
theorem put2 (A : CMod F w z) {c : Nat} (hc : c < 961) (x y : Int32) : ∃ w', ((stI F w (z + 6) (zI (c : Nat)) x).bind fun w2 => (rdR F w2 915 z 11).bind fun r3 => (stI F w2 r3 (zI (c : Nat)) y).bind fun w4 => some w4) = some w' ∧ Tb z c w w' ∧ aI w' (z + 6) c = x ∧ aI w' (z + 7) c = y := by
  rw [stI_is (by omega) (by rw [A.p914.2.2]; omega) (by omega), Int.toNat_natCast]
  simp only [Option.bind_some]
  generalize hw1 : sAI w (z + 6) (upd (aI w (z + 6)) c x) = w1
  have s1 : Sc z w w1 := hw1 ▸ Sc.sAI _ _ ⟨by omega, by omega⟩ (by omega) (by omega) (by omega) (by omega)
  have A1 := A.sc s1.1
  rw [rdR_is A1.p915.1 A1.p915.2.1]
  simp only [Option.bind_some]
  rw [stI_is (by omega) (by rw [A1.p915.2.2]; omega) (by omega), Int.toNat_natCast]
  have v6 : ∀ i, aI (sAI w1 (z + 7) (upd (aI w1 (z + 7)) c y)) (z + 6) i = if i = c then x else aI w (z + 6) i := by
    intro i
    rw [q_aI_sAI, if_neg (by omega), ← hw1, q_aI_sAI, if_pos rfl, upd_is]
  have v7 : ∀ i, aI (sAI w1 (z + 7) (upd (aI w1 (z + 7)) c y)) (z + 7) i = if i = c then y else aI w (z + 7) i := by
    intro i
    rw [q_aI_sAI, if_pos rfl, upd_is, ← hw1, q_aI_sAI, if_neg (c := z + 7 = z + 6) (by omega)]
  refine ⟨_, rfl, ⟨s1.trans (Sc.sAI _ _ ⟨by omega, by omega⟩ (by omega) (by omega) (by omega) (by omega)), ?_, fun i hi => ?_, fun i hi => ?_⟩, ?_, ?_⟩
  · rw [← hw1]; rfl
  · rw [v6, if_neg hi]
  · rw [v7, if_neg hi]
  · rw [v6, if_pos rfl]
  · rw [v7, if_pos rfl]
theorem m_take (A : CMod F w z) {i j i' j' : Nat} (hc : 31 * i + j < 961) (hc' : 31 * i' + j' < 961) {v v' a d : Int} {m m' : Nat} (T : AT w z i j v m) (T' : AT w z i' j' v' m') (ha : (a = 0 ∧ d = 0 ∧ m' ≤ m) ∨ (a = 1 ∧ 0 ≤ d ∧ d ≤ 200 ∧ m' + 1 ≤ m)) :
    ∃ w', fX9_take F N w z (zI (31 * i + j : Nat)) (zI (31 * i' + j' : Nat)) (zI a) (zI d) = some w' ∧ Tb z (31 * i + j) w w' ∧ AT w' z i j (max v (10000 * a - d + v')) m := by
  obtain ⟨p, s, R, h6, h7⟩ := T
  obtain ⟨p', s', R', h6', h7'⟩ := T'
  have R0 := R
  have R0' := R'
  unfold Rep at R0 R0'
  have P6 := rdR_is A.p914.1 A.p914.2.1
  have P7 := rdR_is A.p915.1 A.p915.2.1
  have l6' : ldI F w (z + 6) (zI (31 * i' + j' : Nat)) = some (zI p') := by rw [ldI_is (by omega) (by rw [A.p914.2.2]; omega) (by omega), Int.toNat_natCast, h6']
  have l7' : ldI F w (z + 7) (zI (31 * i' + j' : Nat)) = some (zI s') := by rw [ldI_is (by omega) (by rw [A.p915.2.2]; omega) (by omega), Int.toNat_natCast, h7']
  have l6 : ldI F w (z + 6) (zI (31 * i + j : Nat)) = some (zI p) := by rw [ldI_is (by omega) (by rw [A.p914.2.2]; omega) (by omega), Int.toNat_natCast, h6]
  have l7 : ldI F w (z + 7) (zI (31 * i + j : Nat)) = some (zI s) := by rw [ldI_is (by omega) (by rw [A.p915.2.2]; omega) (by omega), Int.toNat_natCast, h7]
  have put : ∃ w', fX9_take_54 F N w z (zI (31 * i + j : Nat)) (zI (p' + a)) (zI (s' + d)) = some w' ∧ Tb z (31 * i + j) w w' ∧ aI w' (z + 6) (31 * i + j) = zI (p' + a) ∧ aI w' (z + 7) (31 * i + j) = zI (s' + d) := by
    unfold fX9_take_54
    rw [P6]
    simp only [Option.bind_some]
    exact put2 A hc _ _
  obtain ⟨w1, q1, q2, q3, q4⟩ := put
  have setc : (p < p' + a ∨ (p' + a = p ∧ s' + d < s)) → AT w1 z i j (max v (10000 * a - d + v')) m := by
    intro hc
    refine ⟨p' + a, s' + d, ?_, q3, q4⟩
    unfold Rep
    omega
  have keepc : ¬ (p < p' + a ∨ (p' + a = p ∧ s' + d < s)) → AT w z i j (max v (10000 * a - d + v')) m := by
    intro hc
    refine ⟨p, s, ?_, h6, h7⟩
    unfold Rep
    omega
  unfold fX9_take
  rw [P6]
  simp only [Option.bind_some]
  rw [l6', P7]
  simp only [Option.bind_some, bnd]
  rw [l7', l6, l7]
  simp only [Option.bind_some]
  rw [zI_add, zI_add]
  by_cases c1 : p < p' + a
  · rw [if_pos (by simp (disch := omega) only [z_0, z_1, z_2, z_3, z_4, z_5, z_6, z_7, z_8, z_9, z_10, z_12, z_13, z_16, z_20, z_24, z_30, z_31, z_32, z_38, z_42, z_44, z_45, z_47, z_48, z_49, z_50, z_57, z_58, z_59, z_60, z_61, z_91, z_97, z_98, z_100, z_108, z_114, z_120, z_122, z_126, z_127, z_128, z_200, z_255, z_961, z_990, z_992, z_998, z_999, z_1000, z_1092, z_1114, z_7798, z_10000, z_1000000, zI_neg, zI_add, zI_sub, zI_mul, zI_lt, zI_le, zI_eq, if_pos, if_neg, if_true, if_false, Option.bind_some, bnd, ldI_is, ldJ_is, Int.toNat_natCast, ]; exact c1)]
    exact ⟨w1, q1, q2, setc (Or.inl c1)⟩
  · rw [if_neg (by simp (disch := omega) only [z_0, z_1, z_2, z_3, z_4, z_5, z_6, z_7, z_8, z_9, z_10, z_12, z_13, z_16, z_20, z_24, z_30, z_31, z_32, z_38, z_42, z_44, z_45, z_47, z_48, z_49, z_50, z_57, z_58, z_59, z_60, z_61, z_91, z_97, z_98, z_100, z_108, z_114, z_120, z_122, z_126, z_127, z_128, z_200, z_255, z_961, z_990, z_992, z_998, z_999, z_1000, z_1092, z_1114, z_7798, z_10000, z_1000000, zI_neg, zI_add, zI_sub, zI_mul, zI_lt, zI_le, zI_eq, if_pos, if_neg, if_true, if_false, Option.bind_some, bnd, ldI_is, ldJ_is, Int.toNat_natCast,  Int.not_lt]; omega)]
    by_cases c2 : p' + a = p
    · rw [if_pos (by rw [c2])]
      by_cases c3 : s ≤ s' + d
      · rw [if_pos (by simp (disch := omega) only [z_0, z_1, z_2, z_3, z_4, z_5, z_6, z_7, z_8, z_9, z_10, z_12, z_13, z_16, z_20, z_24, z_30, z_31, z_32, z_38, z_42, z_44, z_45, z_47, z_48, z_49, z_50, z_57, z_58, z_59, z_60, z_61, z_91, z_97, z_98, z_100, z_108, z_114, z_120, z_122, z_126, z_127, z_128, z_200, z_255, z_961, z_990, z_992, z_998, z_999, z_1000, z_1092, z_1114, z_7798, z_10000, z_1000000, zI_neg, zI_add, zI_sub, zI_mul, zI_lt, zI_le, zI_eq, if_pos, if_neg, if_true, if_false, Option.bind_some, bnd, ldI_is, ldJ_is, Int.toNat_natCast, ]; exact c3)]
        exact ⟨w, rfl, Tb.refl _ _ _, keepc (by omega)⟩
      · rw [if_neg (by simp (disch := omega) only [z_0, z_1, z_2, z_3, z_4, z_5, z_6, z_7, z_8, z_9, z_10, z_12, z_13, z_16, z_20, z_24, z_30, z_31, z_32, z_38, z_42, z_44, z_45, z_47, z_48, z_49, z_50, z_57, z_58, z_59, z_60, z_61, z_91, z_97, z_98, z_100, z_108, z_114, z_120, z_122, z_126, z_127, z_128, z_200, z_255, z_961, z_990, z_992, z_998, z_999, z_1000, z_1092, z_1114, z_7798, z_10000, z_1000000, zI_neg, zI_add, zI_sub, zI_mul, zI_lt, zI_le, zI_eq, if_pos, if_neg, if_true, if_false, Option.bind_some, bnd, ldI_is, ldJ_is, Int.toNat_natCast,  Int.not_le]; omega)]
        exact ⟨w1, q1, q2, setc (Or.inr ⟨c2, by omega⟩)⟩
    · rw [if_neg (by simp (disch := omega) only [z_0, z_1, z_2, z_3, z_4, z_5, z_6, z_7, z_8, z_9, z_10, z_12, z_13, z_16, z_20, z_24, z_30, z_31, z_32, z_38, z_42, z_44, z_45, z_47, z_48, z_49, z_50, z_57, z_58, z_59, z_60, z_61, z_91, z_97, z_98, z_100, z_108, z_114, z_120, z_122, z_126, z_127, z_128, z_200, z_255, z_961, z_990, z_992, z_998, z_999, z_1000, z_1092, z_1114, z_7798, z_10000, z_1000000, zI_neg, zI_add, zI_sub, zI_mul, zI_lt, zI_le, zI_eq, if_pos, if_neg, if_true, if_false, Option.bind_some, bnd, ldI_is, ldJ_is, Int.toNat_natCast, ]; exact c2)]
      exact ⟨w, rfl, Tb.refl _ _ _, keepc (by omega)⟩
theorem MS.tb {w' : Wd} {c : Nat} (B : MS F w z k) (h : Tb z c w w') : MS F w' z k := ⟨B.1.sc h.1.1, h.1.2.2.1.1 ▸ B.2.1, B.g, B.2.2.2⟩
/-- the tables hold the best of each place from i on (and in row i from j on) -/
def Tab (w : Wd) (z : Nat) (r q : Rw) (W : Int) (i j : Nat) : Prop := ∀ i' j', i' ≤ rn r → j' ≤ rn q → (i < i' ∨ (i = i' ∧ j ≤ j')) → AT w z i' j' (bst r q W (rn r - i') (rn q - j')) (rn r - i')
theorem m_align_17 (hN : 40 ≤ N) {t o : Nat} (ht : t < bn k) (ho : o < bn k) {k6 : Wd → Nat → Int32 → Int32 → Int32 → Option Wd} {i : Nat} (hi : i ≤ rn (brw k (ban k) t)) : ∀ (m n : Nat) (w : Wd), MS F w z k → n ≤ rn (brw k (ban k) o) + 1 → n < m → Tab w z (brw k (ban k) t) (brw k (ban k) o) (bwi k) i n →
    ∃ w', fX9_align_17 F N k6 m w z (zI t) (zI o) (zI i) (zI ((n : Int) - 1)) = k6 w' z (zI t) (zI o) (zI ((i : Int) - 1)) ∧ MS F w' z k ∧ Sc z w w' ∧ gI w' 906 z = gI w 906 z ∧ Tab w' z (brw k (ban k) t) (brw k (ban k) o) (bwi k) i 0 := by
  intro m
  induction m with
  | zero => intro n w _ _ h; omega
  | succ m ih =>
    intro n w B hn hm T
    have hx := B.g.2.1
    have hW := B.g.2.2.1
    have lr := B.lim hx ht
    have lq := B.lim hx ho
    rw [fX9_align_17]
    cases n with
    | zero =>
      rw [if_pos (by simp (disch := omega) only [z_0, z_1, z_2, z_3, z_4, z_5, z_6, z_7, z_8, z_9, z_10, z_12, z_13, z_16, z_20, z_24, z_30, z_31, z_32, z_38, z_42, z_44, z_45, z_47, z_48, z_49, z_50, z_57, z_58, z_59, z_60, z_61, z_91, z_97, z_98, z_100, z_108, z_114, z_120, z_122, z_126, z_127, z_128, z_200, z_255, z_961, z_990, z_992, z_998, z_999, z_1000, z_1092, z_1114, z_7798, z_10000, z_1000000, zI_neg, zI_add, zI_sub, zI_mul, zI_lt, zI_le, zI_eq, if_pos, if_neg, if_true, if_false, Option.bind_some, bnd, ldI_is, ldJ_is, Int.toNat_natCast, ]; omega), show (-1 : Int32) = zI (-1) from rfl, zI_add]
      exact ⟨w, rfl, B, Sc.refl _ _, rfl, T⟩
    | succ j =>
      have hj : j ≤ rn (brw k (ban k) o) := by omega
      rw [show ((j + 1 : Nat) : Int) - 1 = (j : Int) from by omega, if_neg (by simp (disch := omega) only [z_0, z_1, z_2, z_3, z_4, z_5, z_6, z_7, z_8, z_9, z_10, z_12, z_13, z_16, z_20, z_24, z_30, z_31, z_32, z_38, z_42, z_44, z_45, z_47, z_48, z_49, z_50, z_57, z_58, z_59, z_60, z_61, z_91, z_97, z_98, z_100, z_108, z_114, z_120, z_122, z_126, z_127, z_128, z_200, z_255, z_961, z_990, z_992, z_998, z_999, z_1000, z_1092, z_1114, z_7798, z_10000, z_1000000, zI_neg, zI_add, zI_sub, zI_mul, zI_lt, zI_le, zI_eq, if_pos, if_neg, if_true, if_false, Option.bind_some, bnd, ldI_is, ldJ_is, Int.toNat_natCast,  Int.not_lt]; omega), m_cell]
      simp only [Option.bind_some]
      rw [rdR_is B.1.p914.1 B.1.p914.2.1]
      simp only [Option.bind_some]
      obtain ⟨w1, e1, t1, v6, v7⟩ := put2 (F := F) (z := z) B.1 (c := 31 * i + j) (by omega) 0 0
      have e1' : ∀ f : Wd → Option Wd, ((stI F w (z + 6) (zI (31 * i + j : Nat)) 0).bind fun w6 => (rdR F w6 915 z 11).bind fun r7 => (stI F w6 r7 (zI (31 * i + j : Nat)) 0).bind f) = f w1 := by
        intro f
        have e2 : ((stI F w (z + 6) (zI (31 * i + j : Nat)) 0).bind fun w6 => (rdR F w6 915 z 11).bind fun r7 => (stI F w6 r7 (zI (31 * i + j : Nat)) 0).bind f) = (((stI F w (z + 6) (zI (31 * i + j : Nat)) 0).bind fun w2 => (rdR F w2 915 z 11).bind fun r3 => (stI F w2 r3 (zI (31 * i + j : Nat)) 0).bind fun w4 => some w4)).bind f := by
          simp only [Option.bind_assoc, Option.bind_some]
        rw [e2, e1]
        rfl
      rw [e1']
      have B1 := B.tb t1
      have T0 : AT w1 z i j 0 (rn (brw k (ban k) t) - i) := ⟨0, 0, ⟨by omega, by omega, by omega, by omega, by omega, by omega⟩, v6, v7⟩
      have Tk : ∀ i' j', i' ≤ rn (brw k (ban k) t) → j' ≤ rn (brw k (ban k) o) → (i < i' ∨ (i = i' ∧ j + 1 ≤ j')) → AT w1 z i' j' (bst (brw k (ban k) t) (brw k (ban k) o) (bwi k) (rn (brw k (ban k) t) - i') (rn (brw k (ban k) o) - j')) (rn (brw k (ban k) t) - i') := fun i' j' a b c => t1.at (by omega) (T i' j' a b c)
      -- the rest, once the cell is done
      have fin : ∀ w2 : Wd, MS F w2 z k → Sc z w w2 → gI w2 906 z = gI w 906 z → (∀ i' j', i' ≤ rn (brw k (ban k) t) → j' ≤ rn (brw k (ban k) o) → (i < i' ∨ (i = i' ∧ j + 1 ≤ j')) → AT w2 z i' j' (bst (brw k (ban k) t) (brw k (ban k) o) (bwi k) (rn (brw k (ban k) t) - i') (rn (brw k (ban k) o) - j')) (rn (brw k (ban k) t) - i')) → AT w2 z i j (bst (brw k (ban k) t) (brw k (ban k) o) (bwi k) (rn (brw k (ban k) t) - i) (rn (brw k (ban k) o) - j)) (rn (brw k (ban k) t) - i) →
          ∃ w', fX9_align_140 F N k6 (fX9_align_17 F N k6 m) w2 z (zI t) (zI o) (zI i) (zI (j : Nat)) = k6 w' z (zI t) (zI o) (zI ((i : Int) - 1)) ∧ MS F w' z k ∧ Sc z w w' ∧ gI w' 906 z = gI w 906 z ∧ Tab w' z (brw k (ban k) t) (brw k (ban k) o) (bwi k) i 0 := by
        intro w2 B2 s2 g2 T2 C2
        unfold fX9_align_140
        rw [show (-1 : Int32) = zI (-1) from rfl, zI_add, show (j : Int) + -1 = (j : Int) - 1 from rfl]
        obtain ⟨w', r1, r2, r3, r4, r5⟩ := ih j w2 B2 (by omega) (by omega) (fun i' j' a b c => by
          by_cases x : i = i' ∧ j = j'
          · rw [← x.1, ← x.2]; exact C2
          · exact T2 i' j' a b (by omega))
        exact ⟨w', r1, r2, s2.trans r3, r4.trans g2, r5⟩
      rw [m_many B1 ht]
      simp only [Option.bind_some]
      by_cases c1 : rn (brw k (ban k) t) ≤ i
      · rw [if_pos (by simp (disch := omega) only [z_0, z_1, z_2, z_3, z_4, z_5, z_6, z_7, z_8, z_9, z_10, z_12, z_13, z_16, z_20, z_24, z_30, z_31, z_32, z_38, z_42, z_44, z_45, z_47, z_48, z_49, z_50, z_57, z_58, z_59, z_60, z_61, z_91, z_97, z_98, z_100, z_108, z_114, z_120, z_122, z_126, z_127, z_128, z_200, z_255, z_961, z_990, z_992, z_998, z_999, z_1000, z_1092, z_1114, z_7798, z_10000, z_1000000, zI_neg, zI_add, zI_sub, zI_mul, zI_lt, zI_le, zI_eq, if_pos, if_neg, if_true, if_false, Option.bind_some, bnd, ldI_is, ldJ_is, Int.toNat_natCast, ]; omega)]
        refine fin w1 B1 t1.1 t1.2.1 Tk ?_
        rw [bst_0 _ _ _ _ _ (Or.inl (by omega))]; exact T0
      · rw [if_neg (by simp (disch := omega) only [z_0, z_1, z_2, z_3, z_4, z_5, z_6, z_7, z_8, z_9, z_10, z_12, z_13, z_16, z_20, z_24, z_30, z_31, z_32, z_38, z_42, z_44, z_45, z_47, z_48, z_49, z_50, z_57, z_58, z_59, z_60, z_61, z_91, z_97, z_98, z_100, z_108, z_114, z_120, z_122, z_126, z_127, z_128, z_200, z_255, z_961, z_990, z_992, z_998, z_999, z_1000, z_1092, z_1114, z_7798, z_10000, z_1000000, zI_neg, zI_add, zI_sub, zI_mul, zI_lt, zI_le, zI_eq, if_pos, if_neg, if_true, if_false, Option.bind_some, bnd, ldI_is, ldJ_is, Int.toNat_natCast,  Int.not_le]; omega), m_many B1 ho]
        simp only [Option.bind_some]
        by_cases c2 : rn (brw k (ban k) o) ≤ j
        · rw [if_pos (by simp (disch := omega) only [z_0, z_1, z_2, z_3, z_4, z_5, z_6, z_7, z_8, z_9, z_10, z_12, z_13, z_16, z_20, z_24, z_30, z_31, z_32, z_38, z_42, z_44, z_45, z_47, z_48, z_49, z_50, z_57, z_58, z_59, z_60, z_61, z_91, z_97, z_98, z_100, z_108, z_114, z_120, z_122, z_126, z_127, z_128, z_200, z_255, z_961, z_990, z_992, z_998, z_999, z_1000, z_1092, z_1114, z_7798, z_10000, z_1000000, zI_neg, zI_add, zI_sub, zI_mul, zI_lt, zI_le, zI_eq, if_pos, if_neg, if_true, if_false, Option.bind_some, bnd, ldI_is, ldJ_is, Int.toNat_natCast, ]; omega)]
          refine fin w1 B1 t1.1 t1.2.1 Tk ?_
          rw [bst_0 _ _ _ _ _ (Or.inr (by omega))]; exact T0
        · have hi2 : i < rn (brw k (ban k) t) := by omega
          have hj2 : j < rn (brw k (ban k) o) := by omega
          rw [if_neg (by simp (disch := omega) only [z_0, z_1, z_2, z_3, z_4, z_5, z_6, z_7, z_8, z_9, z_10, z_12, z_13, z_16, z_20, z_24, z_30, z_31, z_32, z_38, z_42, z_44, z_45, z_47, z_48, z_49, z_50, z_57, z_58, z_59, z_60, z_61, z_91, z_97, z_98, z_100, z_108, z_114, z_120, z_122, z_126, z_127, z_128, z_200, z_255, z_961, z_990, z_992, z_998, z_999, z_1000, z_1092, z_1114, z_7798, z_10000, z_1000000, zI_neg, zI_add, zI_sub, zI_mul, zI_lt, zI_le, zI_eq, if_pos, if_neg, if_true, if_false, Option.bind_some, bnd, ldI_is, ldJ_is, Int.toNat_natCast,  Int.not_le]; omega), zI_succ i, m_cell]
          simp only [Option.bind_some]
          have b1 := (bst_lim (brw k (ban k) t) (brw k (ban k) o) hW (rn (brw k (ban k) t) - (i + 1)) (rn (brw k (ban k) o) - j)).1
          obtain ⟨w2, a1, a2, a3⟩ := m_take (N := N) B1.1 (a := 0) (d := 0) (by omega) (by omega) T0 (Tk (i + 1) j (by omega) hj (Or.inl (by omega))) (Or.inl ⟨rfl, rfl, by omega⟩)
          rw [show fX9_take F N w1 z (zI (31 * i + j : Nat)) (zI (31 * (i + 1) + j : Nat)) 0 0 = _ from a1]
          simp only [Option.bind_some]
          rw [zI_succ j, m_cell]
          simp only [Option.bind_some]
          have B2 := B1.tb a2
          have Tk2 : ∀ i' j', i' ≤ rn (brw k (ban k) t) → j' ≤ rn (brw k (ban k) o) → (i < i' ∨ (i = i' ∧ j + 1 ≤ j')) → AT w2 z i' j' (bst (brw k (ban k) t) (brw k (ban k) o) (bwi k) (rn (brw k (ban k) t) - i') (rn (brw k (ban k) o) - j')) (rn (brw k (ban k) t) - i') := fun i' j' a b c => a2.at (by omega) (Tk i' j' a b c)
          obtain ⟨w3, d1, d2, d3⟩ := m_take (N := N) B2.1 (a := 0) (d := 0) (by omega) (by omega) a3 (Tk2 i (j + 1) hi (by omega) (Or.inr ⟨rfl, Nat.le_refl _⟩)) (Or.inl ⟨rfl, rfl, Nat.le_refl _⟩)
          rw [show fX9_take F N w2 z (zI (31 * i + j : Nat)) (zI (31 * i + (j + 1) : Nat)) 0 0 = _ from d1]
          simp only [Option.bind_some]
          have B3 := B2.tb d2
          have Tk3 : ∀ i' j', i' ≤ rn (brw k (ban k) t) → j' ≤ rn (brw k (ban k) o) → (i < i' ∨ (i = i' ∧ j + 1 ≤ j')) → AT w3 z i' j' (bst (brw k (ban k) t) (brw k (ban k) o) (bwi k) (rn (brw k (ban k) t) - i') (rn (brw k (ban k) o) - j')) (rn (brw k (ban k) t) - i') := fun i' j' a b c => d2.at (by omega) (Tk2 i' j' a b c)
          have s3 : Sc z w w3 := (t1.1.trans a2.1).trans d2.1
          have g3 : gI w3 906 z = gI w 906 z := d2.2.1.trans (a2.2.1.trans t1.2.1)
          rw [m_distance B3 ht ho hi2 hj2, B3.r]
          simp only [Option.bind_some]
          rw [z_2, B3.get (by omega) (by omega), show (2 : Int).toNat = 2 from rfl, B3.2.1.1.2.2.1]
          simp only [Option.bind_some]
          have dl := dst_lim (B.grow hx ht) (B.grow hx ho) hi2 hj2
          rw [zI_64 (by omega) (by omega)]
          have hlg := lg_gt (x := dst (brw k (ban k) t) (brw k (ban k) o) i j) (y := bwi k) (by omega) (by omega) (by omega) (by omega)
          have hwl := wor_lim (brw k (ban k) t) (brw k (ban k) o) hW i j
          have ebs := bst_s (brw k (ban k) t) (brw k (ban k) o) (bwi k) hi2 hj2
          by_cases c3 : bwi k < dst (brw k (ban k) t) (brw k (ban k) o) i j
          · rw [if_pos (by rw [hlg]; exact c3)]
            refine fin w3 B3 s3 g3 Tk3 ?_
            rw [if_neg (fun x => by have := hwl.2.2.mp x; omega)] at ebs
            rw [ebs]
            obtain ⟨p, s', x1, x2⟩ := d3
            refine ⟨p, s', ?_, x2⟩
            unfold Rep at x1 ⊢
            omega
          · rw [if_neg (by rw [hlg]; exact c3), m_cell]
            simp only [Option.bind_some]
            obtain ⟨w4, f1, f2, f3⟩ := m_take (N := N) B3.1 (a := 1) (d := dst (brw k (ban k) t) (brw k (ban k) o) i j) (by omega) (by omega) d3 (Tk3 (i + 1) (j + 1) (by omega) (by omega) (Or.inl (by omega))) (Or.inr ⟨rfl, dl.1, by omega, by omega⟩)
            rw [show fX9_take F N w3 z (zI (31 * i + j : Nat)) (zI (31 * (i + 1) + (j + 1) : Nat)) 1 (zI (dst (brw k (ban k) t) (brw k (ban k) o) i j)) = _ from f1]
            simp only [Option.bind_some]
            have ew : wor (brw k (ban k) t) (brw k (ban k) o) (bwi k) i j = 10000 - dst (brw k (ban k) t) (brw k (ban k) o) i j := if_pos (by omega)
            refine fin w4 (B3.tb f2) (s3.trans f2.1) (f2.2.1.trans g3) (fun i' j' a b c => f2.at (by omega) (Tk3 i' j' a b c)) ?_
            rw [if_pos (hwl.2.2.mpr (by omega))] at ebs
            rw [ebs]
            obtain ⟨p, s', x1, x2⟩ := f3
            refine ⟨p, s', ?_, x2⟩
            unfold Rep at x1 ⊢
            omega
theorem m_align_6 (hN : 40 ≤ N) {t o : Nat} (ht : t < bn k) (ho : o < bn k) : ∀ (m n : Nat) (w : Wd), MS F w z k → n ≤ rn (brw k (ban k) t) + 1 → n < m → (∀ i' j', i' ≤ rn (brw k (ban k) t) → j' ≤ rn (brw k (ban k) o) → n ≤ i' → AT w z i' j' (bst (brw k (ban k) t) (brw k (ban k) o) (bwi k) (rn (brw k (ban k) t) - i') (rn (brw k (ban k) o) - j')) (rn (brw k (ban k) t) - i')) →
    ∃ w', fX9_align_6 F N m w z (zI t) (zI o) (zI ((n : Int) - 1)) = some w' ∧ MS F w' z k ∧ Sc z w w' ∧ gI w' 906 z = gI w 906 z ∧ ∀ i' j', i' ≤ rn (brw k (ban k) t) → j' ≤ rn (brw k (ban k) o) → AT w' z i' j' (bst (brw k (ban k) t) (brw k (ban k) o) (bwi k) (rn (brw k (ban k) t) - i') (rn (brw k (ban k) o) - j')) (rn (brw k (ban k) t) - i') := by
  intro m
  induction m with
  | zero => intro n w _ _ h; omega
  | succ m ih =>
    intro n w B hn hm T
    have hx := B.g.2.1
    have lr := B.lim hx ht
    have lq := B.lim hx ho
    rw [fX9_align_6]
    cases n with
    | zero =>
      rw [if_pos (by simp (disch := omega) only [z_0, z_1, z_2, z_3, z_4, z_5, z_6, z_7, z_8, z_9, z_10, z_12, z_13, z_16, z_20, z_24, z_30, z_31, z_32, z_38, z_42, z_44, z_45, z_47, z_48, z_49, z_50, z_57, z_58, z_59, z_60, z_61, z_91, z_97, z_98, z_100, z_108, z_114, z_120, z_122, z_126, z_127, z_128, z_200, z_255, z_961, z_990, z_992, z_998, z_999, z_1000, z_1092, z_1114, z_7798, z_10000, z_1000000, zI_neg, zI_add, zI_sub, zI_mul, zI_lt, zI_le, zI_eq, if_pos, if_neg, if_true, if_false, Option.bind_some, bnd, ldI_is, ldJ_is, Int.toNat_natCast, ]; omega)]
      exact ⟨w, rfl, B, Sc.refl _ _, rfl, fun i' j' a b => T i' j' a b (Nat.zero_le _)⟩
    | succ i =>
      rw [show ((i + 1 : Nat) : Int) - 1 = (i : Int) from by omega, if_neg (by simp (disch := omega) only [z_0, z_1, z_2, z_3, z_4, z_5, z_6, z_7, z_8, z_9, z_10, z_12, z_13, z_16, z_20, z_24, z_30, z_31, z_32, z_38, z_42, z_44, z_45, z_47, z_48, z_49, z_50, z_57, z_58, z_59, z_60, z_61, z_91, z_97, z_98, z_100, z_108, z_114, z_120, z_122, z_126, z_127, z_128, z_200, z_255, z_961, z_990, z_992, z_998, z_999, z_1000, z_1092, z_1114, z_7798, z_10000, z_1000000, zI_neg, zI_add, zI_sub, zI_mul, zI_lt, zI_le, zI_eq, if_pos, if_neg, if_true, if_false, Option.bind_some, bnd, ldI_is, ldJ_is, Int.toNat_natCast,  Int.not_lt]; omega), m_many B ho]
      simp only [Option.bind_some]
      obtain ⟨w1, e1, e2, e3, e4, e5⟩ := m_align_17 (N := N) (k6 := fX9_align_6 F N m) hN ht ho (show i ≤ rn (brw k (ban k) t) by omega) N (rn (brw k (ban k) o) + 1) w B (Nat.le_refl _) (by omega) (fun i' j' a b c => T i' j' a b (by omega))
      rw [show (((rn (brw k (ban k) o) + 1 : Nat) : Int) - 1) = ((rn (brw k (ban k) o) : Nat) : Int) from by omega] at e1
      rw [e1]
      obtain ⟨w2, f1, f2, f3, f4, f5⟩ := ih i w1 e2 (by omega) (by omega) (fun i' j' a b c => e5 i' j' a b (by omega))
      exact ⟨w2, f1, f2, e3.trans f3, f4.trans e4, f5⟩
theorem m_align (B : MS F w z k) (hN : 40 ≤ N) {t o : Nat} (ht : t < bn k) (ho : o < bn k) : ∃ w', fX9_align F N w z (zI t) (zI o) = some w' ∧ MS F w' z k ∧ Sc z w w' ∧ gI w' 906 z = gI w 906 z ∧ ∀ i' j', i' ≤ rn (brw k (ban k) t) → j' ≤ rn (brw k (ban k) o) → AT w' z i' j' (bst (brw k (ban k) t) (brw k (ban k) o) (bwi k) (rn (brw k (ban k) t) - i') (rn (brw k (ban k) o) - j')) (rn (brw k (ban k) t) - i') := by
  have lr := B.lim B.g.2.1 ht
  unfold fX9_align
  rw [m_many B ht]
  simp only [Option.bind_some]
  have e := m_align_6 (N := N) hN ht ho N (rn (brw k (ban k) t) + 1) w B (Nat.le_refl _) (by omega) (fun i' j' a b c => by omega)
  rw [show (((rn (brw k (ban k) t) + 1 : Nat) : Int) - 1) = ((rn (brw k (ban k) t) : Nat) : Int) from by omega] at e
  exact e
end ALI
