/-! the reference counts matches, and finds one -/
theorem sAI_sAI (w : Wd) (a : Nat) (u v : Nat → Int32) : sAI (sAI w a u) a v = sAI w a v := by
  unfold sAI up1
  congr 4
  funext b
  by_cases c : b = a
  · rw [if_pos c, if_pos c]
  · rw [if_neg c, if_neg c]
    exact if_neg c
theorem sAI_swap (w : Wd) {a b : Nat} (u v : Nat → Int32) (h : ¬ a = b) : sAI (sAI w a u) b v = sAI (sAI w b v) a u := by
  unfold sAI up1
  congr 4
  funext x
  dsimp only
  by_cases c : x = b
  · rw [if_pos c, if_neg (fun d => h (d.symm.trans c)), if_pos c]
  · rw [if_neg c]
    by_cases d : x = a
    · rw [if_pos d, if_pos d]
    · rw [if_neg d, if_neg d, if_neg c]
/-- the world of a search: so many found, the spans of now, the spans seen -/
def mw (w : Wd) (z : Nat) (c : Int) (nw sn : Nat → Int32) : Wd := sI (sAI (sAI w (z + 15) nw) (z + 16) sn) 927 z (zI c)
section MATCH
variable {F : Fr} {N : Nat} {w : Wd} {z : Nat} {s : St} {k : Bk} {p : List Pe} {c : Int} {nw sn : Nat → Int32}
theorem mw_927 : gI (mw w z c nw sn) 927 z = zI c := gI_same _ _ _ _
theorem mw_ne {f : Nat} (h : ¬ f = 927) : gI (mw w z c nw sn) f z = gI w f z := gI_ne (w := sAI (sAI w (z + 15) nw) (z + 16) sn) _ h
theorem mw_15 : aI (mw w z c nw sn) (z + 15) = nw := by unfold mw; rw [q_aI_sI, q_aI_sAI, if_neg (by omega), q_aI_sAI, if_pos rfl]
theorem mw_16 : aI (mw w z c nw sn) (z + 16) = sn := by unfold mw; rw [q_aI_sI, q_aI_sAI, if_pos rfl]
theorem mw_aI {a : Nat} (h1 : ¬ a = z + 15) (h2 : ¬ a = z + 16) : aI (mw w z c nw sn) a = aI w a := by unfold mw; rw [q_aI_sI, q_aI_sAI, if_neg h2, q_aI_sAI, if_neg h1]
theorem mw_c (d : Int) : sI (mw w z c nw sn) 927 z (zI d) = mw w z d nw sn := sI_sI _ _ _ _ _
theorem mw_now (f : Nat → Int32) : sAI (mw w z c nw sn) (z + 15) f = mw w z c f sn := by
  unfold mw
  show sI (sAI (sAI (sAI w (z + 15) nw) (z + 16) sn) (z + 15) f) 927 z (zI c) = _
  rw [sAI_swap _ _ _ (by omega), sAI_sAI]
theorem mw_seen (f : Nat → Int32) : sAI (mw w z c nw sn) (z + 16) f = mw w z c nw f := by
  unfold mw
  show sI (sAI (sAI (sAI w (z + 15) nw) (z + 16) sn) (z + 16) f) 927 z (zI c) = _
  rw [sAI_sAI]
theorem sc_mw : Sc z w (mw w z c nw sn) := ((Sc.sAI _ _ ⟨by omega, by omega⟩ (by omega) (by omega) (by omega) (by omega)).trans (Sc.sAI _ _ ⟨by omega, by omega⟩ (by omega) (by omega) (by omega) (by omega))).trans (Sc.sI _ _ (by unfold KF; omega))
theorem prow_ok {e : Pe} {j : Nat} (hj : j < rn (prow k e)) : e.1 < bn k ∧ bkd k e.1 = e.2.1 ∧ prow k e = brw k (ban k) e.1 := by
  unfold prow at hj ⊢
  by_cases c : e.1 < bn k ∧ bkd k e.1 = e.2.1
  · rw [if_pos c]; exact ⟨c.1, c.2, rfl⟩
  · rw [if_neg c] at hj; exact absurd hj (Nat.not_lt_zero _)
theorem mL98 : (98 : Int64) = mL [98] := rfl
theorem m_isFitting (B : MS F w z k) (D : MPt w z p) (G : PGs p) {i : Nat} {e : Pe} (he : p[i]? = some e) {j : Nat} (hj : j < rn (prow k e)) : fX9_isFitting F N w z (zI i) (zI j) = some (if fitR e (prow k e) j = true then 1 else 0) := by
  obtain ⟨hi, ge⟩ := G.at he
  obtain ⟨d1, d2, d3, -⟩ := D.2 i e he
  obtain ⟨q1, q2, q3⟩ := prow_ok hj
  rw [q3] at hj ⊢
  have v := ((B.grow B.g.2.1 q1).2 j hj).2.2.2.2
  unfold fX9_isFitting fX9_isFitting_57
  rw [rdR_is B.1.p917.1 B.1.p917.2.1]
  simp only [Option.bind_some]
  rw [ldI_is (by omega) (by rw [B.1.p917.2.2]; omega) (by omega), Int.toNat_natCast, d1]
  simp only [Option.bind_some]
  rw [m_label B q1 hj, rdR_is B.1.p919.1 B.1.p919.2.1]
  simp only [Option.bind_some]
  rw [ldJ_is (by omega) (by rw [B.1.p919.2.2]; omega) (by omega), Int.toNat_natCast, d3]
  simp only [Option.bind_some]
  have fit : fitR e (brw k (ban k) e.1) j = true ↔ (e.2.2.1 = [] ∨ e.2.2.1 = rl (brw k (ban k) e.1) j ∨ (e.2.1 = 1 ∧ rl (brw k (ban k) e.1) j = [98])) := by unfold fitR; rw [decide_eq_true_eq]
  rcases ge.2.2 with h0 | hv
  · rw [h0, if_pos (by rw [lg_cmp_eq]; rfl), if_pos (fit.mpr (Or.inl h0))]
  · have hne : ¬ e.2.2.1 = [] := fun h => by have := hv.1; rw [h] at this; simp at this
    rw [if_neg (by rw [lg_cmp_eq]; exact mL_ne hv)]
    by_cases c : rl (brw k (ban k) e.1) j = e.2.2.1
    · rw [if_pos (by rw [lg_cmp_eq, c]), if_pos (fit.mpr (Or.inr (Or.inl c.symm)))]
    · rw [if_neg (by rw [lg_cmp_eq, mL_inj v hv]; exact c), rdR_is B.1.p918.1 B.1.p918.2.1]
      simp only [Option.bind_some]
      rw [ldI_is (by omega) (by rw [B.1.p918.2.2]; omega) (by omega), Int.toNat_natCast, d2]
      simp only [Option.bind_some]
      have hk2 := ge.2.1
      by_cases c1 : e.2.1 = 1
      · rw [if_pos (by rw [c1]; rfl), mL98]
        by_cases c2 : rl (brw k (ban k) e.1) j = [98]
        · rw [if_pos (by rw [lg_cmp_eq, c2]), if_pos (fit.mpr (Or.inr (Or.inr ⟨c1, c2⟩)))]
        · rw [if_neg (by rw [lg_cmp_eq, mL_inj v VL98]; exact c2), if_neg (fun x => by rcases fit.mp x with y | y | y; exact hne y; exact c y.symm; exact c2 y.2)]
      · rw [if_neg (by simp (disch := omega) only [z_0, z_1, z_2, z_3, z_4, z_5, z_6, z_7, z_8, z_9, z_10, z_12, z_13, z_16, z_20, z_24, z_30, z_31, z_32, z_38, z_42, z_44, z_45, z_47, z_48, z_49, z_50, z_57, z_58, z_59, z_60, z_61, z_91, z_97, z_98, z_100, z_108, z_114, z_120, z_122, z_126, z_127, z_128, z_200, z_255, z_961, z_990, z_992, z_998, z_999, z_1000, z_1092, z_1114, z_7798, z_10000, z_1000000, zI_neg, zI_add, zI_sub, zI_mul, zI_lt, zI_le, zI_eq, if_pos, if_neg, if_true, if_false, Option.bind_some, bnd, ldI_is, ldJ_is, Int.toNat_natCast, ]; exact c1), if_neg (fun x => by rcases fit.mp x with y | y | y; exact hne y; exact c y.symm; exact c1 y.1)]
theorem m_isLinked0 (j : Int32) : fX9_isLinked F N w z 0 j = some 1 := if_pos rfl
theorem m_isLinked (B : MS F w z k) (D : MPt w z p) (G : PGs p) {i : Nat} {e f : Pe} (he : p[i]? = some e) (hf : p[i + 1]? = some f) {j0 j : Nat} (h0 : j0 < rn (prow k e)) (hj : j < rn (prow k f)) (hn : aI w (z + 15) i = zI (j0 : Nat)) : fX9_isLinked F N w z (zI (i + 1 : Nat)) (zI j) = some (if lnkR f.2.2.2 (bga k) (prow k e) j0 (prow k f) j = true then 1 else 0) := by
  obtain ⟨hi, ge⟩ := G.at he
  obtain ⟨hi2, gf⟩ := G.at hf
  obtain ⟨d1, -, -, -⟩ := D.2 i e he
  obtain ⟨f1, -, -, f4⟩ := D.2 (i + 1) f hf
  obtain ⟨q1, q2, q3⟩ := prow_ok h0
  obtain ⟨r1, r2, r3⟩ := prow_ok hj
  rw [q3] at h0 ⊢
  rw [r3] at hj ⊢
  have b0 := (B.grow B.g.2.1 q1).2 j0 h0
  have b1 := (B.grow B.g.2.1 r1).2 j hj
  have hg := B.g.2.2.2.1
  have P := rdR_is B.1.p917.1 B.1.p917.2.1
  have P2 := rdR_is B.1.p925.1 B.1.p925.2.1
  have L1 : ldI F w (z + 8) (zI (i + 1 : Nat)) = some (zI (f.1 : Nat)) := by rw [ldI_is (by omega) (by rw [B.1.p917.2.2]; omega) (by omega), Int.toNat_natCast, f1]
  have L0 : ldI F w (z + 8) (zI (i : Nat)) = some (zI (e.1 : Nat)) := by rw [ldI_is (by omega) (by rw [B.1.p917.2.2]; omega) (by omega), Int.toNat_natCast, d1]
  have Ln : ldI F w (z + 15) (zI (i : Nat)) = some (zI (j0 : Nat)) := by rw [ldI_is (by omega) (by rw [B.1.p925.2.2]; omega) (by omega), Int.toNat_natCast, hn]
  have Lx : ldI F w (z + 11) (zI (i + 1 : Nat)) = some (if f.2.2.2 = true then 0 else 1) := by rw [ldI_is (by omega) (by rw [B.1.p920.2.2]; omega) (by omega), Int.toNat_natCast, f4 (by omega)]
  unfold fX9_isLinked fX9_isLinked_109 lnkR
  rw [if_neg (by simp (disch := omega) only [z_0, z_1, z_2, z_3, z_4, z_5, z_6, z_7, z_8, z_9, z_10, z_12, z_13, z_16, z_20, z_24, z_30, z_31, z_32, z_38, z_42, z_44, z_45, z_47, z_48, z_49, z_50, z_57, z_58, z_59, z_60, z_61, z_91, z_97, z_98, z_100, z_108, z_114, z_120, z_122, z_126, z_127, z_128, z_200, z_255, z_961, z_990, z_992, z_998, z_999, z_1000, z_1092, z_1114, z_7798, z_10000, z_1000000, zI_neg, zI_add, zI_sub, zI_mul, zI_lt, zI_le, zI_eq, if_pos, if_neg, if_true, if_false, Option.bind_some, bnd, ldI_is, ldJ_is, Int.toNat_natCast, ]; omega), zI_prd, P]
  simp only [Option.bind_some]
  rw [L1]
  simp only [Option.bind_some]
  rw [m_first B r1 hj, m_end B r1 hj]
  simp only [Option.bind_some]
  rw [L0]
  simp only [Option.bind_some]
  rw [P2]
  simp only [Option.bind_some]
  rw [Ln]
  simp only [Option.bind_some]
  rw [m_first B q1 h0, m_end B q1 h0]
  simp only [Option.bind_some]
  rw [rdR_is B.1.p920.1 B.1.p920.2.1]
  simp only [Option.bind_some]
  rw [Lx]
  simp only [Option.bind_some]
  by_cases m : f.2.2.2 = true
  · rw [if_pos m, if_pos rfl, if_pos m]
    simp only [decide_eq_true_eq]
    by_cases x : re (brw k (ban k) e.1) j0 ≤ rf (brw k (ban k) f.1) j
    · rw [if_pos (by simp (disch := omega) only [z_0, z_1, z_2, z_3, z_4, z_5, z_6, z_7, z_8, z_9, z_10, z_12, z_13, z_16, z_20, z_24, z_30, z_31, z_32, z_38, z_42, z_44, z_45, z_47, z_48, z_49, z_50, z_57, z_58, z_59, z_60, z_61, z_91, z_97, z_98, z_100, z_108, z_114, z_120, z_122, z_126, z_127, z_128, z_200, z_255, z_961, z_990, z_992, z_998, z_999, z_1000, z_1092, z_1114, z_7798, z_10000, z_1000000, zI_neg, zI_add, zI_sub, zI_mul, zI_lt, zI_le, zI_eq, if_pos, if_neg, if_true, if_false, Option.bind_some, bnd, ldI_is, ldJ_is, Int.toNat_natCast, ]; exact x), if_neg (fun y => by omega)]
    · rw [if_neg (by simp (disch := omega) only [z_0, z_1, z_2, z_3, z_4, z_5, z_6, z_7, z_8, z_9, z_10, z_12, z_13, z_16, z_20, z_24, z_30, z_31, z_32, z_38, z_42, z_44, z_45, z_47, z_48, z_49, z_50, z_57, z_58, z_59, z_60, z_61, z_91, z_97, z_98, z_100, z_108, z_114, z_120, z_122, z_126, z_127, z_128, z_200, z_255, z_961, z_990, z_992, z_998, z_999, z_1000, z_1092, z_1114, z_7798, z_10000, z_1000000, zI_neg, zI_add, zI_sub, zI_mul, zI_lt, zI_le, zI_eq, if_pos, if_neg, if_true, if_false, Option.bind_some, bnd, ldI_is, ldJ_is, Int.toNat_natCast,  Int.not_le]; omega)]
      by_cases y : re (brw k (ban k) f.1) j ≤ rf (brw k (ban k) e.1) j0
      · rw [if_pos (by simp (disch := omega) only [z_0, z_1, z_2, z_3, z_4, z_5, z_6, z_7, z_8, z_9, z_10, z_12, z_13, z_16, z_20, z_24, z_30, z_31, z_32, z_38, z_42, z_44, z_45, z_47, z_48, z_49, z_50, z_57, z_58, z_59, z_60, z_61, z_91, z_97, z_98, z_100, z_108, z_114, z_120, z_122, z_126, z_127, z_128, z_200, z_255, z_961, z_990, z_992, z_998, z_999, z_1000, z_1092, z_1114, z_7798, z_10000, z_1000000, zI_neg, zI_add, zI_sub, zI_mul, zI_lt, zI_le, zI_eq, if_pos, if_neg, if_true, if_false, Option.bind_some, bnd, ldI_is, ldJ_is, Int.toNat_natCast, ]; exact y), if_neg (fun y => by omega)]
      · rw [if_neg (by simp (disch := omega) only [z_0, z_1, z_2, z_3, z_4, z_5, z_6, z_7, z_8, z_9, z_10, z_12, z_13, z_16, z_20, z_24, z_30, z_31, z_32, z_38, z_42, z_44, z_45, z_47, z_48, z_49, z_50, z_57, z_58, z_59, z_60, z_61, z_91, z_97, z_98, z_100, z_108, z_114, z_120, z_122, z_126, z_127, z_128, z_200, z_255, z_961, z_990, z_992, z_998, z_999, z_1000, z_1092, z_1114, z_7798, z_10000, z_1000000, zI_neg, zI_add, zI_sub, zI_mul, zI_lt, zI_le, zI_eq, if_pos, if_neg, if_true, if_false, Option.bind_some, bnd, ldI_is, ldJ_is, Int.toNat_natCast,  Int.not_le]; omega), if_pos ⟨by omega, by omega⟩]
  · rw [if_neg m, if_neg (by decide), if_neg m]
    simp only [decide_eq_true_eq]
    by_cases x : rf (brw k (ban k) f.1) j < re (brw k (ban k) e.1) j0
    · rw [if_pos (by simp (disch := omega) only [z_0, z_1, z_2, z_3, z_4, z_5, z_6, z_7, z_8, z_9, z_10, z_12, z_13, z_16, z_20, z_24, z_30, z_31, z_32, z_38, z_42, z_44, z_45, z_47, z_48, z_49, z_50, z_57, z_58, z_59, z_60, z_61, z_91, z_97, z_98, z_100, z_108, z_114, z_120, z_122, z_126, z_127, z_128, z_200, z_255, z_961, z_990, z_992, z_998, z_999, z_1000, z_1092, z_1114, z_7798, z_10000, z_1000000, zI_neg, zI_add, zI_sub, zI_mul, zI_lt, zI_le, zI_eq, if_pos, if_neg, if_true, if_false, Option.bind_some, bnd, ldI_is, ldJ_is, Int.toNat_natCast, ]; exact x), if_neg (fun y => by omega)]
    · rw [if_neg (by simp (disch := omega) only [z_0, z_1, z_2, z_3, z_4, z_5, z_6, z_7, z_8, z_9, z_10, z_12, z_13, z_16, z_20, z_24, z_30, z_31, z_32, z_38, z_42, z_44, z_45, z_47, z_48, z_49, z_50, z_57, z_58, z_59, z_60, z_61, z_91, z_97, z_98, z_100, z_108, z_114, z_120, z_122, z_126, z_127, z_128, z_200, z_255, z_961, z_990, z_992, z_998, z_999, z_1000, z_1092, z_1114, z_7798, z_10000, z_1000000, zI_neg, zI_add, zI_sub, zI_mul, zI_lt, zI_le, zI_eq, if_pos, if_neg, if_true, if_false, Option.bind_some, bnd, ldI_is, ldJ_is, Int.toNat_natCast,  Int.not_lt]; omega), B.r]
      simp only [Option.bind_some]
      rw [z_3, B.get (by omega) (by omega)]
      simp only [Option.bind_some]
      rw [show (3 : Int).toNat = 3 from rfl, B.2.1.1.2.2.2.1, zI_sub, zI_64 (by omega) (by omega)]
      have hlg := lg_gt (x := rf (brw k (ban k) f.1) j - re (brw k (ban k) e.1) j0) (y := bga k) (by omega) (by omega) (by omega) (by omega)
      by_cases y : bga k < rf (brw k (ban k) f.1) j - re (brw k (ban k) e.1) j0
      · rw [if_pos (by rw [hlg]; exact y), if_neg (fun y => by omega)]
      · rw [if_neg (by rw [hlg]; exact y), if_pos ⟨by omega, by omega⟩]
/-- how many ways go on from a part whose spans are free where ok says so -/
def gsum (k : Bk) (e : Pe) (es : List Pe) (ok : Nat → Bool) (n : Nat) : Int := sumN (fun j => if ok j = true then way k (e :: es) j else 0) n
/-- what one call of match does: from c found on, v wanted -/
def MR (z : Nat) (w : Wd) (p : List Pe) (v c : Int) (nw sn : Nat → Int32) (part : Nat) (x : Option Wd) (c2 : Int) (sel : Nat → Nat) : Prop :=
  ∃ nw' sn', x = some (mw w z c2 nw' sn') ∧ (∀ i, i < part → nw' i = nw i) ∧ (c ≤ v ∧ v < c2 → ∀ it, it < p.length → sn' it = if it < part then nw it else zI (sel (it - part) : Nat)) ∧ (¬ (c ≤ v ∧ v < c2) → sn' = sn)
theorem MR.mono {z : Nat} {w : Wd} {p : List Pe} {v c : Int} {nw sn : Nat → Int32} {part : Nat} {x : Option Wd} {c2 : Int} {sel sel' : Nat → Nat} (h : MR z w p v c nw sn part x c2 sel) (e : c ≤ v → v < c2 → ∀ i, sel i = sel' i) : MR z w p v c nw sn part x c2 sel' := by
  obtain ⟨nw', sn', h1, h2, h3, h4⟩ := h
  exact ⟨nw', sn', h1, h2, fun a it hit => by rw [h3 a it hit, e a.1 a.2], h4⟩
theorem mw_ms (B : MS F w z k) : MS F (mw w z c nw sn) z k := B
theorem mw_pt (D : MPt w z p) : MPt (mw w z c nw sn) z p := ⟨by rw [mw_ne (by omega)]; exact D.1, fun i e he => (D.2 i e he).sc sc_mw⟩
theorem m_match_82 (B : MS F w z k) (D : MPt w z p) (G : PGs p) {v : Int} (hv : v < 1000) {part : Nat} {e : Pe} {es : List Pe} (hd : p.drop part = e :: es) {rc : Wd → Nat → Int32 → Option Wd} {ok : Nat → Bool} (h1 : e.1 < bn k) (h2 : bkd k e.1 = e.2.1) {nw0 : Nat → Int32}
    (hl : ∀ (nw' : Nat → Int32) (c' : Int) (sn' : Nat → Int32) (j : Nat), (∀ i, i < part → nw' i = nw0 i) → j < rn (prow k e) → fX9_isLinked F N (mw w z c' nw' sn') z (zI part) (zI j) = some (if ok j = true then 1 else 0))
    (H : ∀ (nw' : Nat → Int32) (c' : Int) (sn' : Nat → Int32) (j : Nat), (∀ i, i < part → nw' i = nw0 i) → nw' part = zI (j : Nat) → j < rn (prow k e) → fitR e (prow k e) j = true → 0 ≤ c' → c' < 1000 → MR z w p v c' nw' sn' (part + 1) (rc (mw w z c' nw' sn') z (zI (part + 1 : Nat))) (min (c' + way k (e :: es) j) 1000) (fun i => (selM k es (lnkO k e j es) (v - c')).getD i 0)) :
    ∀ (m n j : Nat) (c : Int) (nw sn : Nat → Int32), j + n = rn (prow k e) → n < m → 0 ≤ c → c ≤ 1000 → (∀ i, i < part → nw i = nw0 i) →
      MR z w p v c nw sn part (fX9_match_82 F N rc m (mw w z c nw sn) z (zI part) (zI (e.1 : Nat)) 1 (zI j)) (min (c + (gsum k e es ok (j + n) - gsum k e es ok j)) 1000) (fun i => ((pck (fun j => if ok j = true then way k (e :: es) j else 0) n j (v - c)).1 :: selM k es (lnkO k e (pck (fun j => if ok j = true then way k (e :: es) j else 0) n j (v - c)).1 es) (pck (fun j => if ok j = true then way k (e :: es) j else 0) n j (v - c)).2).getD i 0) := by
  have d1 := drop_is hd
  have hi := (G.at d1.1).1
  have er : prow k e = brw k (ban k) e.1 := by unfold prow; rw [if_pos ⟨h1, h2⟩]
  have h30 : rn (prow k e) ≤ 30 := by rw [er]; exact B.lim B.g.2.1 h1
  intro m
  induction m with
  | zero => intro n j c nw sn _ h; omega
  | succ m ih =>
    intro n j c nw sn hj hm hc0 hc1 hnw
    rw [fX9_match_82, if_neg (by decide), m_many (mw_ms B) h1, ← er]
    simp only [Option.bind_some]
    cases n with
    | zero =>
      rw [if_pos (by simp (disch := omega) only [z_0, z_1, z_2, z_3, z_4, z_5, z_6, z_7, z_8, z_9, z_10, z_12, z_13, z_16, z_20, z_24, z_30, z_31, z_32, z_38, z_42, z_44, z_45, z_47, z_48, z_49, z_50, z_57, z_58, z_59, z_60, z_61, z_91, z_97, z_98, z_100, z_108, z_114, z_120, z_122, z_126, z_127, z_128, z_200, z_255, z_961, z_990, z_992, z_998, z_999, z_1000, z_1092, z_1114, z_7798, z_10000, z_1000000, zI_neg, zI_add, zI_sub, zI_mul, zI_lt, zI_le, zI_eq, if_pos, if_neg, if_true, if_false, Option.bind_some, bnd, ldI_is, ldJ_is, Int.toNat_natCast, ]; omega)]
      have e0 : min (c + (gsum k e es ok (j + 0) - gsum k e es ok j)) 1000 = c := by rw [Nat.add_zero]; omega
      rw [e0]
      exact ⟨nw, sn, rfl, fun _ _ => rfl, fun a => by omega, fun _ => rfl⟩
    | succ n =>
      have hj2 : j < rn (prow k e) := by omega
      have hw := way_lim k (e :: es) j
      rw [if_neg (by simp (disch := omega) only [z_0, z_1, z_2, z_3, z_4, z_5, z_6, z_7, z_8, z_9, z_10, z_12, z_13, z_16, z_20, z_24, z_30, z_31, z_32, z_38, z_42, z_44, z_45, z_47, z_48, z_49, z_50, z_57, z_58, z_59, z_60, z_61, z_91, z_97, z_98, z_100, z_108, z_114, z_120, z_122, z_126, z_127, z_128, z_200, z_255, z_961, z_990, z_992, z_998, z_999, z_1000, z_1092, z_1114, z_7798, z_10000, z_1000000, zI_neg, zI_add, zI_sub, zI_mul, zI_lt, zI_le, zI_eq, if_pos, if_neg, if_true, if_false, Option.bind_some, bnd, ldI_is, ldJ_is, Int.toNat_natCast,  Int.not_le]; omega), mw_927]
      have gs : gsum k e es ok (j + 1) = gsum k e es ok j + (if ok j = true then way k (e :: es) j else 0) := rfl
      have gm : ∀ a b, gsum k e es ok a ≤ gsum k e es ok (a + b) := by
        intro a b
        induction b with
        | zero => exact Int.le_refl _
        | succ b ihb =>
          have e9 : gsum k e es ok (a + (b + 1)) = gsum k e es ok (a + b) + (if ok (a + b) = true then way k (e :: es) (a + b) else 0) := rfl
          have := way_lim k (e :: es) (a + b)
          rw [e9]
          split <;> omega
      have gle := gm (j + 1) n
      rw [show j + 1 + n = j + (n + 1) from by omega] at gle
      by_cases cc : c = 1000
      · rw [if_pos (by simp (disch := omega) only [z_0, z_1, z_2, z_3, z_4, z_5, z_6, z_7, z_8, z_9, z_10, z_12, z_13, z_16, z_20, z_24, z_30, z_31, z_32, z_38, z_42, z_44, z_45, z_47, z_48, z_49, z_50, z_57, z_58, z_59, z_60, z_61, z_91, z_97, z_98, z_100, z_108, z_114, z_120, z_122, z_126, z_127, z_128, z_200, z_255, z_961, z_990, z_992, z_998, z_999, z_1000, z_1092, z_1114, z_7798, z_10000, z_1000000, zI_neg, zI_add, zI_sub, zI_mul, zI_lt, zI_le, zI_eq, if_pos, if_neg, if_true, if_false, Option.bind_some, bnd, ldI_is, ldJ_is, Int.toNat_natCast, ]; omega)]
        have := gm j (n + 1)
        have e0 : min (c + (gsum k e es ok (j + (n + 1)) - gsum k e es ok j)) 1000 = c := by omega
        rw [e0]
        exact ⟨nw, sn, rfl, fun _ _ => rfl, fun a => by omega, fun _ => rfl⟩
      · rw [if_neg (by simp (disch := omega) only [z_0, z_1, z_2, z_3, z_4, z_5, z_6, z_7, z_8, z_9, z_10, z_12, z_13, z_16, z_20, z_24, z_30, z_31, z_32, z_38, z_42, z_44, z_45, z_47, z_48, z_49, z_50, z_57, z_58, z_59, z_60, z_61, z_91, z_97, z_98, z_100, z_108, z_114, z_120, z_122, z_126, z_127, z_128, z_200, z_255, z_961, z_990, z_992, z_998, z_999, z_1000, z_1092, z_1114, z_7798, z_10000, z_1000000, zI_neg, zI_add, zI_sub, zI_mul, zI_lt, zI_le, zI_eq, if_pos, if_neg, if_true, if_false, Option.bind_some, bnd, ldI_is, ldJ_is, Int.toNat_natCast,  Int.not_le]; omega), m_isFitting (mw_ms B) (mw_pt D) G d1.1 hj2]
        simp only [Option.bind_some]
        unfold fX9_match_141
        rw [zI_succ j]
        have skip : (if ok j = true then way k (e :: es) j else 0) = 0 → MR z w p v c nw sn part (fX9_match_82 F N rc m (mw w z c nw sn) z (zI part) (zI (e.1 : Nat)) 1 (zI (j + 1 : Nat))) (min (c + (gsum k e es ok (j + (n + 1)) - gsum k e es ok j)) 1000) (fun i => ((pck (fun j => if ok j = true then way k (e :: es) j else 0) (n + 1) j (v - c)).1 :: selM k es (lnkO k e (pck (fun j => if ok j = true then way k (e :: es) j else 0) (n + 1) j (v - c)).1 es) (pck (fun j => if ok j = true then way k (e :: es) j else 0) (n + 1) j (v - c)).2).getD i 0) := by
          intro g0
          have r := ih n (j + 1) c nw sn (by omega) (by omega) hc0 hc1 hnw
          rw [show j + 1 + n = j + (n + 1) from by omega, gs, g0, Int.add_zero] at r
          refine r.mono fun a b i => ?_
          have ep : pck (fun j => if ok j = true then way k (e :: es) j else 0) (n + 1) j (v - c) = pck (fun j => if ok j = true then way k (e :: es) j else 0) n (j + 1) (v - c) := by
            show (if v - c < (if ok j = true then way k (e :: es) j else 0) then (j, v - c) else pck (fun j => if ok j = true then way k (e :: es) j else 0) n (j + 1) (v - c - (if ok j = true then way k (e :: es) j else 0))) = _
            rw [g0, if_neg (by omega), Int.sub_zero]
          rw [ep]
        by_cases cf : fitR e (prow k e) j = true
        · rw [if_pos cf, if_neg (by decide), hl nw c sn j hnw hj2]
          simp only [Option.bind_some]
          by_cases co : ok j = true
          · have gj : (if ok j = true then way k (e :: es) j else 0) = way k (e :: es) j := if_pos co
            rw [if_pos co, if_neg (by decide), rdR_is (w := mw w z c nw sn) B.1.p925.1 B.1.p925.2.1]
            simp only [Option.bind_some]
            rw [stI_is (by omega) (by rw [B.1.p925.2.2]; omega) (by omega), Int.toNat_natCast, mw_15, mw_now, zI_succ]
            simp only [Option.bind_some]
            have hn1 : ∀ i, i < part → upd nw part (zI (j : Nat)) i = nw i := fun i hi => by rw [upd_is, if_neg (by omega)]
            obtain ⟨nw2, sn2, a1, a2, a3, a4⟩ := H (upd nw part (zI (j : Nat))) c sn j (fun i hi => (hn1 i hi).trans (hnw i hi)) (by rw [upd_is, if_pos rfl]) hj2 cf hc0 (by omega)
            rw [a1]
            simp only [Option.bind_some]
            have hn2 : ∀ i, i < part → nw2 i = nw i := fun i hi => (a2 i (by omega)).trans (hn1 i hi)
            obtain ⟨nw3, sn3, b1, b2, b3, b4⟩ := ih n (j + 1) (min (c + way k (e :: es) j) 1000) nw2 sn2 (by omega) (by omega) (by omega) (by omega) (fun i hi => (hn2 i hi).trans (hnw i hi))
            rw [show j + 1 + n = j + (n + 1) from by omega, gs, gj] at b1 b3 b4
            rw [gs, gj] at gle
            have ec : min (min (c + way k (e :: es) j) 1000 + (gsum k e es ok (j + (n + 1)) - (gsum k e es ok j + way k (e :: es) j))) 1000 = min (c + (gsum k e es ok (j + (n + 1)) - gsum k e es ok j)) 1000 := by omega
            rw [ec] at b1 b3 b4
            have pk1 : pck (fun j => if ok j = true then way k (e :: es) j else 0) (n + 1) j (v - c) = if v - c < way k (e :: es) j then (j, v - c) else pck (fun j => if ok j = true then way k (e :: es) j else 0) n (j + 1) (v - c - way k (e :: es) j) := by
              show (if v - c < (if ok j = true then way k (e :: es) j else 0) then (j, v - c) else pck (fun j => if ok j = true then way k (e :: es) j else 0) n (j + 1) (v - c - (if ok j = true then way k (e :: es) j else 0))) = _
              rw [gj]
            refine ⟨nw3, sn3, b1, fun i hi => (b2 i hi).trans (hn2 i hi), fun hs it hit => ?_, fun hs => ?_⟩
            · by_cases cv : v < min (c + way k (e :: es) j) 1000
              · rw [b4 (by omega), a3 ⟨hs.1, cv⟩ it hit, pk1, if_pos (c := v - c < way k (e :: es) j) (by omega)]
                by_cases i1 : it < part
                · rw [if_pos (by omega), if_pos i1, upd_is, if_neg (by omega)]
                · rw [if_neg i1]
                  by_cases i2 : it = part
                  · rw [if_pos (by omega), upd_is, if_pos i2, i2, Nat.sub_self]
                    rfl
                  · rw [if_neg (by omega)]
                    obtain ⟨d, hd9⟩ : ∃ d, it - part = d + 1 := ⟨it - part - 1, by omega⟩
                    rw [hd9, show it - (part + 1) = d from by omega]
                    rfl
              · have hcw : min (c + way k (e :: es) j) 1000 = c + way k (e :: es) j := by omega
                rw [b3 ⟨by omega, hs.2⟩ it hit, pk1, if_neg (c := v - c < way k (e :: es) j) (by omega), hcw, show v - c - way k (e :: es) j = v - (c + way k (e :: es) j) from by omega]
                by_cases i1 : it < part
                · rw [if_pos i1, if_pos i1, hn2 it i1]
                · rw [if_neg i1, if_neg i1]
            · rw [b4 (by omega), a4 (by omega)]
          · rw [if_neg co, if_pos rfl]
            exact skip (if_neg co)
        · rw [if_neg cf, if_pos rfl]
          refine skip ?_
          have : way k (e :: es) j = 0 := by unfold way; rw [if_neg cf]
          rw [this, ite_self]
def m2 (k : Bk) (ok : Nat → Bool) (c : Int) : List Pe → Int
  | [] => c + 1
  | e :: es => min (c + gsum k e es ok (rn (prow k e))) 1000
theorem m2_nil (k : Bk) (ok : Nat → Bool) (c : Int) : m2 k ok c [] = c + 1 := rfl
theorem m_matchP (B : MS F w z k) (D : MPt w z p) (G : PGs p) (h30 : H30 k) {v : Int} (hv : -1 ≤ v ∧ v < 1000) (h928 : gI w 928 z = zI v) (hN : 40 ≤ N) : ∀ (es : List Pe) (part n : Nat) (c : Int) (nw sn : Nat → Int32) (ok : Nat → Bool), p.drop part = es → part ≤ p.length → es.length < n → 0 ≤ c → c ≤ 1000 → (es = [] → c < 1000) →
    (∀ e es', es = e :: es' → ∀ (nw' : Nat → Int32) (c' : Int) (sn' : Nat → Int32) (j : Nat), (∀ i, i < part → nw' i = nw i) → j < rn (prow k e) → fX9_isLinked F N (mw w z c' nw' sn') z (zI part) (zI j) = some (if ok j = true then 1 else 0)) →
    MR z w p v c nw sn part (fX9_match F N n (mw w z c nw sn) z (zI part)) (m2 k ok c es) (fun i => (selM k es ok (v - c)).getD i 0) := by
  have hp := G.1
  intro es
  induction es with
  | nil =>
    intro part n c nw sn ok hd hpl hn hc0 hc1 hc hlk
    obtain ⟨n', rfl⟩ : ∃ n', n = n' + 1 := ⟨n - 1, by omega⟩
    have hc := hc rfl
    rw [m2_nil]
    have hl : part = p.length := by
      have := congrArg List.length hd
      rw [List.length_drop] at this
      simp at this
      omega
    rw [fX9_match]
    unfold fX9_match_b fX9_match_33
    rw [mw_ne (by omega), D.1, if_pos (by rw [hl]), mw_927, mw_ne (by omega), h928]
    by_cases cv : c = v
    · rw [if_pos (by rw [cv]), rdR_is (w := mw w z c nw sn) B.1.p925.1 B.1.p925.2.1, rdR_is (w := mw w z c nw sn) B.1.p926.1 B.1.p926.2.1]
      simp only [Option.bind_some]
      rw [z_0, z_4, cpI_is (by omega) (by rw [B.1.p925.2.2]; omega) (by rw [B.1.p926.2.2]; omega) (by omega)]
      simp only [Option.bind_some, bnd]
      rw [mw_15, mw_16, mw_seen, mw_927, show zI c + 1 = zI (c + 1) from zI_add c 1, mw_c]
      refine ⟨nw, _, rfl, fun _ _ => rfl, fun _ it hit => ?_, fun a => by omega⟩
      rw [if_pos (by omega), if_pos (by omega)]
    · rw [if_neg (by simp (disch := omega) only [z_0, z_1, z_2, z_3, z_4, z_5, z_6, z_7, z_8, z_9, z_10, z_12, z_13, z_16, z_20, z_24, z_30, z_31, z_32, z_38, z_42, z_44, z_45, z_47, z_48, z_49, z_50, z_57, z_58, z_59, z_60, z_61, z_91, z_97, z_98, z_100, z_108, z_114, z_120, z_122, z_126, z_127, z_128, z_200, z_255, z_961, z_990, z_992, z_998, z_999, z_1000, z_1092, z_1114, z_7798, z_10000, z_1000000, zI_neg, zI_add, zI_sub, zI_mul, zI_lt, zI_le, zI_eq, if_pos, if_neg, if_true, if_false, Option.bind_some, bnd, ldI_is, ldJ_is, Int.toNat_natCast, ]; exact cv)]
      simp only [bnd]
      rw [show zI c + 1 = zI (c + 1) from zI_add c 1, mw_c]
      exact ⟨nw, sn, rfl, fun _ _ => rfl, fun a => by omega, fun _ => rfl⟩
  | cons e es ih =>
    intro part n c nw sn ok hd hpl hn hc0 hc1 hc hlk
    obtain ⟨n', rfl⟩ : ∃ n', n = n' + 1 := ⟨n - 1, by omega⟩
    have d1 := drop_is hd
    obtain ⟨hi, ge⟩ := G.at d1.1
    obtain ⟨a1, a2, a3, -⟩ := D.2 part e d1.1
    have hb := B.g.1
    rw [fX9_match]
    unfold fX9_match_b
    rw [mw_ne (by omega), D.1, if_neg (by simp (disch := omega) only [z_0, z_1, z_2, z_3, z_4, z_5, z_6, z_7, z_8, z_9, z_10, z_12, z_13, z_16, z_20, z_24, z_30, z_31, z_32, z_38, z_42, z_44, z_45, z_47, z_48, z_49, z_50, z_57, z_58, z_59, z_60, z_61, z_91, z_97, z_98, z_100, z_108, z_114, z_120, z_122, z_126, z_127, z_128, z_200, z_255, z_961, z_990, z_992, z_998, z_999, z_1000, z_1092, z_1114, z_7798, z_10000, z_1000000, zI_neg, zI_add, zI_sub, zI_mul, zI_lt, zI_le, zI_eq, if_pos, if_neg, if_true, if_false, Option.bind_some, bnd, ldI_is, ldJ_is, Int.toNat_natCast, ]; omega), rdR_is (w := mw w z c nw sn) B.1.p917.1 B.1.p917.2.1]
    simp only [Option.bind_some]
    rw [ldI_is (by omega) (by rw [B.1.p917.2.2]; omega) (by omega), Int.toNat_natCast, mw_aI (by omega) (by omega), a1]
    simp only [Option.bind_some]
    rw [m_isTier (mw_ms B) (by have := ge.1; omega)]
    simp only [Option.bind_some]
    unfold fX9_match_77 fX9_match_78
    obtain ⟨N', rfl⟩ : ∃ N', N = N' + 1 := ⟨N - 1, by omega⟩
    have none' : rn (prow k e) = 0 → MR z w p v c nw sn part (fX9_match_82 F (N' + 1) (fX9_match F (N' + 1) n') (N' + 1) (mw w z c nw sn) z (zI part) (zI (e.1 : Nat)) 0 0) (min (c + gsum k e es ok (rn (prow k e))) 1000) (fun i => (selM k (e :: es) ok (v - c)).getD i 0) := by
      intro h0
      rw [fX9_match_82, if_pos rfl, h0]
      have e0 : min (c + gsum k e es ok 0) 1000 = c := by show min (c + 0) 1000 = c; omega
      rw [e0]
      exact ⟨nw, sn, rfl, fun _ _ => rfl, fun a => by omega, fun _ => rfl⟩
    by_cases c1 : 0 ≤ ((e.1 : Nat) : Int) ∧ ((e.1 : Nat) : Int) < bn k
    · have h1 : e.1 < bn k := by omega
      rw [if_pos c1, if_neg (by decide), m_kind (mw_ms B) h1]
      simp only [Option.bind_some]
      rw [rdR_is (w := mw w z c nw sn) B.1.p918.1 B.1.p918.2.1]
      simp only [Option.bind_some]
      rw [ldI_is (by omega) (by rw [B.1.p918.2.2]; omega) (by omega), Int.toNat_natCast, mw_aI (by omega) (by omega), a2]
      simp only [Option.bind_some]
      have gk := (B.g.2.2.2.2 e.1 h1).1
      have ek := ge.2.1
      by_cases c2 : bkd k e.1 = e.2.1
      · rw [if_pos (by rw [c2])]
        have r := m_match_82 (F := F) (N := N' + 1) B D G (v := v) hv.2 hd (rc := fX9_match F (N' + 1) n') (ok := ok) h1 c2 (nw0 := nw) (fun nw' c' sn' j q1 q2 => hlk e es rfl nw' c' sn' j q1 q2) (fun nw' c' sn' j q1 q2 q3 q4 q5 q6 => ?_) (N' + 1) (rn (prow k e)) 0 c nw sn (by omega) (by have := prow_lim B.g h30 e; omega) hc0 hc1 (fun _ _ => rfl)
        · rw [Nat.zero_add] at r
          rw [show gsum k e es ok (rn (prow k e)) - gsum k e es ok 0 = gsum k e es ok (rn (prow k e)) from by show _ - 0 = _; omega] at r
          exact r
        · have d2 : p.drop (part + 1) = es := d1.2.1
          have rr := ih (part + 1) n' c' nw' sn' (lnkO k e j es) d2 (by omega) (by rw [List.length_cons] at hn; omega) q5 (by omega) (fun _ => q6) (fun f fs hf nw2 c2 sn2 j2 g1 g2 => by
            have d3 := drop_is (d2.trans hf)
            have := m_isLinked (N := N' + 1) (mw_ms (c := c2) (nw := nw2) (sn := sn2) B) (mw_pt D) G d1.1 d3.1 q3 g2 (by rw [mw_15, g1 part (by omega)]; exact q2)
            rw [this, hf]
            rfl)
          cases es with
          | nil =>
            have ew : way k [e] j = 1 := by unfold way; rw [if_pos q4]
            rw [ew, show min (c' + 1) 1000 = c' + 1 from by omega]
            exact rr
          | cons f fs =>
            have ew := way_cons k e f fs j
            rw [if_pos q4] at ew
            rw [ew, show min (c' + min (sumN (fun j_1 => if lnkO k e j (f :: fs) j_1 = true then way k (f :: fs) j_1 else 0) (rn (prow k f))) 1000) 1000 = min (c' + gsum k f fs (lnkO k e j (f :: fs)) (rn (prow k f))) 1000 from by
              show min (c' + min (gsum k f fs (lnkO k e j (f :: fs)) (rn (prow k f))) 1000) 1000 = _
              omega]
            exact rr
      · rw [if_neg (by simp (disch := omega) only [z_0, z_1, z_2, z_3, z_4, z_5, z_6, z_7, z_8, z_9, z_10, z_12, z_13, z_16, z_20, z_24, z_30, z_31, z_32, z_38, z_42, z_44, z_45, z_47, z_48, z_49, z_50, z_57, z_58, z_59, z_60, z_61, z_91, z_97, z_98, z_100, z_108, z_114, z_120, z_122, z_126, z_127, z_128, z_200, z_255, z_961, z_990, z_992, z_998, z_999, z_1000, z_1092, z_1114, z_7798, z_10000, z_1000000, zI_neg, zI_add, zI_sub, zI_mul, zI_lt, zI_le, zI_eq, if_pos, if_neg, if_true, if_false, Option.bind_some, bnd, ldI_is, ldJ_is, Int.toNat_natCast, ]; exact c2)]
        exact none' (by unfold prow; rw [if_neg (fun x => c2 x.2)]; rfl)
    · rw [if_neg c1, if_pos (by rfl)]
      exact none' (by unfold prow; rw [if_neg (fun x => c1 ⟨by omega, by have := x.1; omega⟩)]; rfl)
theorem m_match0 (B : MS F w z k) (D : MPt w z p) (G : PGs p) (h30 : H30 k) {v : Int} (hv : -1 ≤ v ∧ v < 1000) (h928 : gI w 928 z = zI v) (h927 : gI w 927 z = zI 0) (hp0 : 1 ≤ p.length) (hN : 40 ≤ N) : ∃ w', fX9_match F N 6 w z 0 = some w' ∧ gI w' 927 z = zI (min (tot k p) 1000) ∧ Sc z w w' ∧ gI w' 906 z = gI w 906 z ∧ (0 ≤ v → v < min (tot k p) 1000 → ∀ it, it < p.length → aI w' (z + 16) it = zI ((selM k p (fun _ => true) v).getD it 0 : Nat)) := by
  have hl := G.1
  have e0 : w = mw w z 0 (aI w (z + 15)) (aI w (z + 16)) := by
    have s1 : ∀ a, sAI w a (aI w a) = w := by
      intro a
      unfold sAI up1
      have e : (fun b => if b = a then aI w a else w.2.2.2.1 b) = w.2.2.2.1 := by
        funext b
        by_cases c : b = a
        · rw [if_pos c, c]; rfl
        · rw [if_neg c]
      rw [e]
    unfold mw
    rw [s1, s1, sI_self h927]
  obtain ⟨nw', sn', r1, r2, r3, r4⟩ := m_matchP B D G h30 hv h928 hN p 0 6 0 (aI w (z + 15)) (aI w (z + 16)) (fun _ => true) (List.drop_zero ..) (Nat.zero_le _) (by omega) (by omega) (by omega) (fun h => by rw [h] at hp0; simp at hp0) (fun e es he nw' c' sn' j q1 q2 => by rw [if_pos rfl]; exact m_isLinked0 _)
  rw [← e0] at r1
  have et : m2 k (fun _ => true) 0 p = min (tot k p) 1000 := by
    clear r1 r2 r3 r4 D G hl
    cases p with
    | nil => simp at hp0
    | cons e es =>
      show min (0 + gsum k e es (fun _ => true) (rn (prow k e))) 1000 = min (sumN (way k (e :: es)) (rn (prow k e))) 1000
      have : gsum k e es (fun _ => true) (rn (prow k e)) = sumN (way k (e :: es)) (rn (prow k e)) := sumN_congr _ fun j _ => if_pos rfl
      rw [this, Int.zero_add]
  rw [et] at r1 r3
  refine ⟨_, r1, mw_927, sc_mw, ?_, fun a b it hit => ?_⟩
  · rw [mw_ne (by omega)]
  · rw [mw_16, r3 ⟨a, b⟩ it hit, if_neg (Nat.not_lt_zero _), Nat.sub_zero, Int.sub_zero]
end MATCH
