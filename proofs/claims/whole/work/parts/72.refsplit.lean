/-! the reference splits -/
section CHG
variable {F : Fr} {N : Nat} {w : Wd} {z : Nat} {s : St} {k : Bk}
theorem m_isHosted (B : MS F w z k) {c j : Nat} (hc : c < bn k) (hj : j < rn (brw k (ban k) c)) {g e : Int} (hg : 0 ≤ g ∧ g ≤ 1000) (he : 0 ≤ e ∧ e ≤ 1000) (hu : ¬ brl k c = 0) {r : Rw} {i : Nat} (h1 : rf r i = g) (h2 : re r i = e) : fX9_isHosted F N w z (zI c) (zI j) (zI g) (zI e) = some (if hstP (brl k c) r (rf (brw k (ban k) c) j) (re (brw k (ban k) c) j) i = true then 1 else 0) := by
  have gb := B.g.2.2.2.2 c hc
  have b := (B.grow B.g.2.1 hc).2 j hj
  unfold fX9_isHosted fX9_isHosted_42 fX9_isHosted_68
  rw [m_first B hc hj, m_end B hc hj, m_rule B hc]
  simp only [Option.bind_some]
  by_cases u1 : brl k c = 1
  · rw [if_pos (by simp (disch := omega) only [z_0, z_1, z_2, z_3, z_4, z_5, z_6, z_7, z_8, z_9, z_10, z_12, z_13, z_16, z_20, z_24, z_30, z_31, z_32, z_38, z_42, z_44, z_45, z_47, z_48, z_49, z_50, z_57, z_58, z_59, z_60, z_61, z_91, z_97, z_98, z_100, z_108, z_114, z_120, z_122, z_126, z_127, z_128, z_200, z_255, z_961, z_990, z_992, z_998, z_999, z_1000, z_1092, z_1114, z_7798, z_10000, z_1000000, zI_neg, zI_add, zI_sub, zI_mul, zI_lt, zI_le, zI_eq, if_pos, if_neg, if_true, if_false, Option.bind_some, bnd, ldI_is, ldJ_is, Int.toNat_natCast, ]; exact u1)]
    by_cases c1 : rf (brw k (ban k) c) j < g
    · rw [if_pos (by simp (disch := omega) only [z_0, z_1, z_2, z_3, z_4, z_5, z_6, z_7, z_8, z_9, z_10, z_12, z_13, z_16, z_20, z_24, z_30, z_31, z_32, z_38, z_42, z_44, z_45, z_47, z_48, z_49, z_50, z_57, z_58, z_59, z_60, z_61, z_91, z_97, z_98, z_100, z_108, z_114, z_120, z_122, z_126, z_127, z_128, z_200, z_255, z_961, z_990, z_992, z_998, z_999, z_1000, z_1092, z_1114, z_7798, z_10000, z_1000000, zI_neg, zI_add, zI_sub, zI_mul, zI_lt, zI_le, zI_eq, if_pos, if_neg, if_true, if_false, Option.bind_some, bnd, ldI_is, ldJ_is, Int.toNat_natCast, ]; exact c1), if_neg (fun x => by rw [hstP_iff] at x; omega)]
    · rw [if_neg (by simp (disch := omega) only [z_0, z_1, z_2, z_3, z_4, z_5, z_6, z_7, z_8, z_9, z_10, z_12, z_13, z_16, z_20, z_24, z_30, z_31, z_32, z_38, z_42, z_44, z_45, z_47, z_48, z_49, z_50, z_57, z_58, z_59, z_60, z_61, z_91, z_97, z_98, z_100, z_108, z_114, z_120, z_122, z_126, z_127, z_128, z_200, z_255, z_961, z_990, z_992, z_998, z_999, z_1000, z_1092, z_1114, z_7798, z_10000, z_1000000, zI_neg, zI_add, zI_sub, zI_mul, zI_lt, zI_le, zI_eq, if_pos, if_neg, if_true, if_false, Option.bind_some, bnd, ldI_is, ldJ_is, Int.toNat_natCast,  Int.not_lt]; omega)]
      by_cases c2 : e < re (brw k (ban k) c) j
      · rw [if_pos (by simp (disch := omega) only [z_0, z_1, z_2, z_3, z_4, z_5, z_6, z_7, z_8, z_9, z_10, z_12, z_13, z_16, z_20, z_24, z_30, z_31, z_32, z_38, z_42, z_44, z_45, z_47, z_48, z_49, z_50, z_57, z_58, z_59, z_60, z_61, z_91, z_97, z_98, z_100, z_108, z_114, z_120, z_122, z_126, z_127, z_128, z_200, z_255, z_961, z_990, z_992, z_998, z_999, z_1000, z_1092, z_1114, z_7798, z_10000, z_1000000, zI_neg, zI_add, zI_sub, zI_mul, zI_lt, zI_le, zI_eq, if_pos, if_neg, if_true, if_false, Option.bind_some, bnd, ldI_is, ldJ_is, Int.toNat_natCast, ]; exact c2), if_neg (fun x => by rw [hstP_iff] at x; omega)]
      · rw [if_neg (by simp (disch := omega) only [z_0, z_1, z_2, z_3, z_4, z_5, z_6, z_7, z_8, z_9, z_10, z_12, z_13, z_16, z_20, z_24, z_30, z_31, z_32, z_38, z_42, z_44, z_45, z_47, z_48, z_49, z_50, z_57, z_58, z_59, z_60, z_61, z_91, z_97, z_98, z_100, z_108, z_114, z_120, z_122, z_126, z_127, z_128, z_200, z_255, z_961, z_990, z_992, z_998, z_999, z_1000, z_1092, z_1114, z_7798, z_10000, z_1000000, zI_neg, zI_add, zI_sub, zI_mul, zI_lt, zI_le, zI_eq, if_pos, if_neg, if_true, if_false, Option.bind_some, bnd, ldI_is, ldJ_is, Int.toNat_natCast,  Int.not_lt]; omega), if_pos (by rw [hstP_iff]; omega)]
  · rw [if_neg (by simp (disch := omega) only [z_0, z_1, z_2, z_3, z_4, z_5, z_6, z_7, z_8, z_9, z_10, z_12, z_13, z_16, z_20, z_24, z_30, z_31, z_32, z_38, z_42, z_44, z_45, z_47, z_48, z_49, z_50, z_57, z_58, z_59, z_60, z_61, z_91, z_97, z_98, z_100, z_108, z_114, z_120, z_122, z_126, z_127, z_128, z_200, z_255, z_961, z_990, z_992, z_998, z_999, z_1000, z_1092, z_1114, z_7798, z_10000, z_1000000, zI_neg, zI_add, zI_sub, zI_mul, zI_lt, zI_le, zI_eq, if_pos, if_neg, if_true, if_false, Option.bind_some, bnd, ldI_is, ldJ_is, Int.toNat_natCast, ]; exact u1)]
    by_cases c1 : g = rf (brw k (ban k) c) j
    · rw [if_pos (by rw [c1])]
      by_cases u3 : brl k c = 3
      · rw [if_pos (by simp (disch := omega) only [z_0, z_1, z_2, z_3, z_4, z_5, z_6, z_7, z_8, z_9, z_10, z_12, z_13, z_16, z_20, z_24, z_30, z_31, z_32, z_38, z_42, z_44, z_45, z_47, z_48, z_49, z_50, z_57, z_58, z_59, z_60, z_61, z_91, z_97, z_98, z_100, z_108, z_114, z_120, z_122, z_126, z_127, z_128, z_200, z_255, z_961, z_990, z_992, z_998, z_999, z_1000, z_1092, z_1114, z_7798, z_10000, z_1000000, zI_neg, zI_add, zI_sub, zI_mul, zI_lt, zI_le, zI_eq, if_pos, if_neg, if_true, if_false, Option.bind_some, bnd, ldI_is, ldJ_is, Int.toNat_natCast, ]; exact u3), if_pos (by rw [hstP_iff]; omega)]
      · rw [if_neg (by simp (disch := omega) only [z_0, z_1, z_2, z_3, z_4, z_5, z_6, z_7, z_8, z_9, z_10, z_12, z_13, z_16, z_20, z_24, z_30, z_31, z_32, z_38, z_42, z_44, z_45, z_47, z_48, z_49, z_50, z_57, z_58, z_59, z_60, z_61, z_91, z_97, z_98, z_100, z_108, z_114, z_120, z_122, z_126, z_127, z_128, z_200, z_255, z_961, z_990, z_992, z_998, z_999, z_1000, z_1092, z_1114, z_7798, z_10000, z_1000000, zI_neg, zI_add, zI_sub, zI_mul, zI_lt, zI_le, zI_eq, if_pos, if_neg, if_true, if_false, Option.bind_some, bnd, ldI_is, ldJ_is, Int.toNat_natCast, ]; exact u3)]
        by_cases c3 : e = re (brw k (ban k) c) j
        · rw [if_pos (by rw [c3]), if_pos (by rw [hstP_iff]; omega)]
        · rw [if_neg (by simp (disch := omega) only [z_0, z_1, z_2, z_3, z_4, z_5, z_6, z_7, z_8, z_9, z_10, z_12, z_13, z_16, z_20, z_24, z_30, z_31, z_32, z_38, z_42, z_44, z_45, z_47, z_48, z_49, z_50, z_57, z_58, z_59, z_60, z_61, z_91, z_97, z_98, z_100, z_108, z_114, z_120, z_122, z_126, z_127, z_128, z_200, z_255, z_961, z_990, z_992, z_998, z_999, z_1000, z_1092, z_1114, z_7798, z_10000, z_1000000, zI_neg, zI_add, zI_sub, zI_mul, zI_lt, zI_le, zI_eq, if_pos, if_neg, if_true, if_false, Option.bind_some, bnd, ldI_is, ldJ_is, Int.toNat_natCast, ]; exact c3), if_neg (fun x => by rw [hstP_iff] at x; omega)]
    · rw [if_neg (by simp (disch := omega) only [z_0, z_1, z_2, z_3, z_4, z_5, z_6, z_7, z_8, z_9, z_10, z_12, z_13, z_16, z_20, z_24, z_30, z_31, z_32, z_38, z_42, z_44, z_45, z_47, z_48, z_49, z_50, z_57, z_58, z_59, z_60, z_61, z_91, z_97, z_98, z_100, z_108, z_114, z_120, z_122, z_126, z_127, z_128, z_200, z_255, z_961, z_990, z_992, z_998, z_999, z_1000, z_1092, z_1114, z_7798, z_10000, z_1000000, zI_neg, zI_add, zI_sub, zI_mul, zI_lt, zI_le, zI_eq, if_pos, if_neg, if_true, if_false, Option.bind_some, bnd, ldI_is, ldJ_is, Int.toNat_natCast, ]; exact c1), if_neg (fun x => by rw [hstP_iff] at x; omega)]
theorem lack_cut (K : OKB k) {t i : Nat} (ht : t < bn k) (hi : i < rn (brw k (ban k) t)) {g : Int} {c : Nat} (hc : c < bn k) (hp : bpr k c = (t : Int)) (f e : Int) :
    lack (bset k (ban k) t (cutR (brw k (ban k) t) i g)) (ban k) c f e = false ↔ (¬ hostB (bset k (ban k) t (setR (brw k (ban k) t) i (rf (brw k (ban k) t) i) g)) (ban k) c f e = -1 ∨ hstP (brl k c) (cutR (brw k (ban k) t) i g) f e (i + 1) = true) := by
  have gb := K.1.2.2.2.2 c hc
  have hu : ¬ brl k c = 0 := fun x => by have := gb.2.2.2.1 x; omega
  have et : (bpr k c).toNat = t := by omega
  have e1 : brw (bset k (ban k) t (cutR (brw k (ban k) t) i g)) (ban k) (bpr k c).toNat = cutR (brw k (ban k) t) i g := by rw [brw_bset, if_pos ⟨rfl, et⟩]
  have e2 : brw (bset k (ban k) t (setR (brw k (ban k) t) i (rf (brw k (ban k) t) i) g)) (ban k) (bpr k c).toNat = setR (brw k (ban k) t) i (rf (brw k (ban k) t) i) g := by rw [brw_bset, if_pos ⟨rfl, et⟩]
  have ern : rn (setR (brw k (ban k) t) i (rf (brw k (ban k) t) i) g) = rn (brw k (ban k) t) := rfl
  rw [lack_iff]
  have eh : hostB (bset k (ban k) t (setR (brw k (ban k) t) i (rf (brw k (ban k) t) i) g)) (ban k) c f e = hst (brl k c) (setR (brw k (ban k) t) i (rf (brw k (ban k) t) i) g) f e := by
    show (if brl k c = 0 then (-1 : Int) else hst (brl k c) (brw (bset k (ban k) t (setR (brw k (ban k) t) i (rf (brw k (ban k) t) i) g)) (ban k) (bpr k c).toNat) f e) = _
    rw [if_neg hu, e2]
  rw [eh]
  unfold hst
  rw [fnd_iff]
  show (brl k c = 0 ∨ ∃ j, j < rn (brw (bset k (ban k) t (cutR (brw k (ban k) t) i g)) (ban k) (bpr k c).toNat) ∧ hstP (brl k c) (brw (bset k (ban k) t (cutR (brw k (ban k) t) i g)) (ban k) (bpr k c).toNat) f e j = true) ↔ _
  rw [e1]
  constructor
  · rintro (x | ⟨j, hj, hh⟩)
    · exact absurd x hu
    · rcases ins_cases (setR (brw k (ban k) t) i (rf (brw k (ban k) t) i) g) (p := i + 1) (by rw [ern]; omega) (g, re (brw k (ban k) t) i, rl (brw k (ban k) t) i) hj with x | ⟨j', hj', x⟩
      · refine Or.inr ?_
        have e9 : rs (cutR (brw k (ban k) t) i g) (i + 1) = (g, re (brw k (ban k) t) i, rl (brw k (ban k) t) i) := by
          unfold cutR; rw [rs_ins, if_neg (by omega), if_pos rfl]
        rw [← hh]
        exact hstP_rs (e9.trans x.symm)
      · refine Or.inl fun y => ?_
        have := y j' hj'
        rw [← hstP_rs x] at this
        rw [show hstP (brl k c) (cutR (brw k (ban k) t) i g) f e j = hstP (brl k c) (insR (setR (brw k (ban k) t) i (rf (brw k (ban k) t) i) g) (i + 1) (g, re (brw k (ban k) t) i, rl (brw k (ban k) t) i)) f e j from rfl, this] at hh
        exact absurd hh (by decide)
  · rintro (x | x)
    · refine Or.inr ?_
      by_cases d : ∃ j', j' < rn (setR (brw k (ban k) t) i (rf (brw k (ban k) t) i) g) ∧ hstP (brl k c) (setR (brw k (ban k) t) i (rf (brw k (ban k) t) i) g) f e j' = true
      · obtain ⟨j', hj', hh⟩ := d
        obtain ⟨j, hj, ej⟩ := ins_old (p := i + 1) (g, re (brw k (ban k) t) i, rl (brw k (ban k) t) i) hj'
        exact ⟨j, hj, by rw [← hh]; exact hstP_rs ej⟩
      · refine absurd (fun j' hj' => ?_) x
        cases hb : hstP (brl k c) (setR (brw k (ban k) t) i (rf (brw k (ban k) t) i) g) f e j'
        · rfl
        · exact absurd ⟨j', hj', hb⟩ d
    · exact Or.inr ⟨i + 1, by show i + 1 < rn (brw k (ban k) t) + 1; omega, x⟩
theorem m_sf_20 (K : OKB k) {t i : Nat} (ht : t < bn k) (hi : i < rn (brw k (ban k) t)) {g : Int} (hg : 0 ≤ g ∧ g ≤ 1000) (B : MS F w z (bset k (ban k) t (setR (brw k (ban k) t) i (rf (brw k (ban k) t) i) g))) (hN : 40 ≤ N) {c : Nat} (hc : c < bn k) (htc : t < c) {k11 : Wd → Nat → Int32 → Int32 → Int32 → Int32 → Int32 → Option (Int32 × Wd)} : ∀ (m n j : Nat) (v : Int), j + n = rn (brw k (ban k) c) → n < m →
    fX9_splitFull_20 F N k11 m w z (zI t) (zI g) (zI (re (brw k (ban k) t) i)) (zI v) (zI c) (zI j) = k11 w z (zI t) (zI g) (zI (re (brw k (ban k) t) i)) (zI (if bpr k c = t ∧ ¬ fnd (orpP (bset k (ban k) t (cutR (brw k (ban k) t) i g)) (ban k) c) n j = -1 then (c : Int) else v)) (zI ((c : Int) - 1)) := by
  have gb := K.1.2.2.2.2 c hc
  have hn := K.1.1
  have er : brw (bset k (ban k) t (setR (brw k (ban k) t) i (rf (brw k (ban k) t) i) g)) (ban k) c = brw k (ban k) c := by rw [brw_bset, if_neg (by omega)]
  have er1 : brw (bset k (ban k) t (cutR (brw k (ban k) t) i g)) (ban k) c = brw k (ban k) c := by rw [brw_bset, if_neg (by omega)]
  have hl := K.2.1 _ _ K.1.2.1 hc
  have bi := ((K.row ht).1).2 i hi
  intro m
  induction m with
  | zero => intro n j v _ h; omega
  | succ m ih =>
    intro n j v hj hm
    unfold fX9_splitFull_20
    have em := m_many (N := N) B (t := c) hc
    rw [show brw (bset k (ban k) t (setR (brw k (ban k) t) i (rf (brw k (ban k) t) i) g)) (ban (bset k (ban k) t (setR (brw k (ban k) t) i (rf (brw k (ban k) t) i) g))) c = brw k (ban k) c from er] at em
    rw [em]
    simp only [Option.bind_some]
    cases n with
    | zero =>
      rw [if_pos (by simp (disch := omega) only [z_0, z_1, z_2, z_3, z_4, z_5, z_6, z_7, z_8, z_9, z_10, z_12, z_13, z_16, z_20, z_24, z_30, z_31, z_32, z_38, z_42, z_44, z_45, z_47, z_48, z_49, z_50, z_57, z_58, z_59, z_60, z_61, z_91, z_97, z_98, z_100, z_108, z_114, z_120, z_122, z_126, z_127, z_128, z_200, z_255, z_961, z_990, z_992, z_998, z_999, z_1000, z_1092, z_1114, z_7798, z_10000, z_1000000, zI_neg, zI_add, zI_sub, zI_mul, zI_lt, zI_le, zI_eq, if_pos, if_neg, if_true, if_false, Option.bind_some, bnd, ldI_is, ldJ_is, Int.toNat_natCast, ]; omega), if_neg (fun x => x.2 rfl), show (-1 : Int32) = zI (-1) from rfl, zI_add]
      rfl
    | succ n =>
      have hj2 : j < rn (brw k (ban k) c) := by omega
      have hj3 : j < rn (brw (bset k (ban k) t (setR (brw k (ban k) t) i (rf (brw k (ban k) t) i) g)) (ban (bset k (ban k) t (setR (brw k (ban k) t) i (rf (brw k (ban k) t) i) g))) c) := by
        show j < rn (brw (bset k (ban k) t (setR (brw k (ban k) t) i (rf (brw k (ban k) t) i) g)) (ban k) c)
        rw [er]; exact hj2
      have ep := m_parent (N := N) B (t := c) hc
      rw [if_neg (by simp (disch := omega) only [z_0, z_1, z_2, z_3, z_4, z_5, z_6, z_7, z_8, z_9, z_10, z_12, z_13, z_16, z_20, z_24, z_30, z_31, z_32, z_38, z_42, z_44, z_45, z_47, z_48, z_49, z_50, z_57, z_58, z_59, z_60, z_61, z_91, z_97, z_98, z_100, z_108, z_114, z_120, z_122, z_126, z_127, z_128, z_200, z_255, z_961, z_990, z_992, z_998, z_999, z_1000, z_1092, z_1114, z_7798, z_10000, z_1000000, zI_neg, zI_add, zI_sub, zI_mul, zI_lt, zI_le, zI_eq, if_pos, if_neg, if_true, if_false, Option.bind_some, bnd, ldI_is, ldJ_is, Int.toNat_natCast,  Int.not_le]; omega), ep]
      simp only [Option.bind_some]
      unfold fX9_splitFull_46 fX9_splitFull_96 fX9_splitFull_92 fX9_splitFull_97 fX9_splitFull_114 fX9_splitFull_116
      rw [show bpr (bset k (ban k) t (setR (brw k (ban k) t) i (rf (brw k (ban k) t) i) g)) c = bpr k c from rfl]
      by_cases d : bpr k c = (t : Int)
      · have hu : ¬ brl k c = 0 := fun x => by have := gb.2.2.2.1 x; omega
        rw [if_pos (by rw [d]), if_neg (by decide), m_first B (t := c) hc hj3, m_end B (t := c) hc hj3]
        simp only [Option.bind_some]
        rw [show brw (bset k (ban k) t (setR (brw k (ban k) t) i (rf (brw k (ban k) t) i) g)) (ban (bset k (ban k) t (setR (brw k (ban k) t) i (rf (brw k (ban k) t) i) g))) c = brw k (ban k) c from er]
        have b := ((K.1.2.2.2.2 c hc).2.2.2.2.2 _ K.1.2.1).2 j hj2
        rw [m_hostOf B hN (t := c) hc (by omega) (by omega)]
        simp only [Option.bind_some]
        have hlm := hostB_lim B.g B.g.2.1 (t := c) hc (rf (brw k (ban k) c) j) (re (brw k (ban k) c) j)
        have lc := lack_cut K ht hi (g := g) hc d (rf (brw k (ban k) c) j) (re (brw k (ban k) c) j)
        have eo : orpP (bset k (ban k) t (cutR (brw k (ban k) t) i g)) (ban k) c j = lack (bset k (ban k) t (cutR (brw k (ban k) t) i g)) (ban k) c (rf (brw k (ban k) c) j) (re (brw k (ban k) c) j) := by unfold orpP; rw [er1]
        rw [show ban (bset k (ban k) t (setR (brw k (ban k) t) i (rf (brw k (ban k) t) i) g)) = ban k from rfl] at hlm ⊢
        rw [fnd_succ, eo]
        by_cases h0 : hostB (bset k (ban k) t (setR (brw k (ban k) t) i (rf (brw k (ban k) t) i) g)) (ban k) c (rf (brw k (ban k) c) j) (re (brw k (ban k) c) j) = -1
        · rw [if_neg (by simp (disch := omega) only [z_0, z_1, z_2, z_3, z_4, z_5, z_6, z_7, z_8, z_9, z_10, z_12, z_13, z_16, z_20, z_24, z_30, z_31, z_32, z_38, z_42, z_44, z_45, z_47, z_48, z_49, z_50, z_57, z_58, z_59, z_60, z_61, z_91, z_97, z_98, z_100, z_108, z_114, z_120, z_122, z_126, z_127, z_128, z_200, z_255, z_961, z_990, z_992, z_998, z_999, z_1000, z_1092, z_1114, z_7798, z_10000, z_1000000, zI_neg, zI_add, zI_sub, zI_mul, zI_lt, zI_le, zI_eq, if_pos, if_neg, if_true, if_false, Option.bind_some, bnd, ldI_is, ldJ_is, Int.toNat_natCast,  Int.not_le]; omega)]
          have e1 : rf (cutR (brw k (ban k) t) i g) (i + 1) = g := by
            have : rs (cutR (brw k (ban k) t) i g) (i + 1) = (g, re (brw k (ban k) t) i, rl (brw k (ban k) t) i) := by unfold cutR; rw [rs_ins, if_neg (by omega), if_pos rfl]
            exact congrArg (fun s : Int × Int × List Nat => s.1) this
          have e2 : re (cutR (brw k (ban k) t) i g) (i + 1) = re (brw k (ban k) t) i := by
            have : rs (cutR (brw k (ban k) t) i g) (i + 1) = (g, re (brw k (ban k) t) i, rl (brw k (ban k) t) i) := by unfold cutR; rw [rs_ins, if_neg (by omega), if_pos rfl]
            exact congrArg (fun s : Int × Int × List Nat => s.2.1) this
          have ei := m_isHosted (N := N) B (c := c) hc hj3 hg (e := re (brw k (ban k) t) i) (by omega) hu (r := cutR (brw k (ban k) t) i g) (i := i + 1) e1 e2
          rw [show brw (bset k (ban k) t (setR (brw k (ban k) t) i (rf (brw k (ban k) t) i) g)) (ban (bset k (ban k) t (setR (brw k (ban k) t) i (rf (brw k (ban k) t) i) g))) c = brw k (ban k) c from er, show brl (bset k (ban k) t (setR (brw k (ban k) t) i (rf (brw k (ban k) t) i) g)) c = brl k c from rfl] at ei
          rw [ei]
          simp only [Option.bind_some]
          by_cases x : hstP (brl k c) (cutR (brw k (ban k) t) i g) (rf (brw k (ban k) c) j) (re (brw k (ban k) c) j) (i + 1) = true
          · rw [if_pos x, if_neg (by decide), if_neg (by decide), if_neg (by decide), zI_succ]
            rw [lc.mpr (Or.inr x), if_neg (show ¬ false = true by decide)]
            exact ih n (j + 1) v (by omega) (by omega)
          · have hlk : lack (bset k (ban k) t (cutR (brw k (ban k) t) i g)) (ban k) c (rf (brw k (ban k) c) j) (re (brw k (ban k) c) j) = true := by
              cases hb : lack (bset k (ban k) t (cutR (brw k (ban k) t) i g)) (ban k) c (rf (brw k (ban k) c) j) (re (brw k (ban k) c) j)
              · rcases lc.mp hb with y | y
                · exact absurd h0 y
                · exact absurd y x
              · rfl
            rw [if_neg x, if_pos (by rfl), if_neg (by decide), if_pos (by first | rfl | trivial), zI_succ, ih n (j + 1) c (by omega) (by omega), hlk]
            rw [ite_self, if_pos (show true = true from rfl), if_pos (show bpr k c = (t : Int) ∧ ¬ (j : Int) = -1 from ⟨d, by omega⟩)]
        · rw [if_pos (by simp (disch := omega) only [z_0, z_1, z_2, z_3, z_4, z_5, z_6, z_7, z_8, z_9, z_10, z_12, z_13, z_16, z_20, z_24, z_30, z_31, z_32, z_38, z_42, z_44, z_45, z_47, z_48, z_49, z_50, z_57, z_58, z_59, z_60, z_61, z_91, z_97, z_98, z_100, z_108, z_114, z_120, z_122, z_126, z_127, z_128, z_200, z_255, z_961, z_990, z_992, z_998, z_999, z_1000, z_1092, z_1114, z_7798, z_10000, z_1000000, zI_neg, zI_add, zI_sub, zI_mul, zI_lt, zI_le, zI_eq, if_pos, if_neg, if_true, if_false, Option.bind_some, bnd, ldI_is, ldJ_is, Int.toNat_natCast, ]; omega), if_neg (by decide), if_neg (by decide), zI_succ]
          rw [lc.mpr (Or.inl h0), if_neg (show ¬ false = true by decide)]
          exact ih n (j + 1) v (by omega) (by omega)
      · rw [if_neg (by simp (disch := omega) only [z_0, z_1, z_2, z_3, z_4, z_5, z_6, z_7, z_8, z_9, z_10, z_12, z_13, z_16, z_20, z_24, z_30, z_31, z_32, z_38, z_42, z_44, z_45, z_47, z_48, z_49, z_50, z_57, z_58, z_59, z_60, z_61, z_91, z_97, z_98, z_100, z_108, z_114, z_120, z_122, z_126, z_127, z_128, z_200, z_255, z_961, z_990, z_992, z_998, z_999, z_1000, z_1092, z_1114, z_7798, z_10000, z_1000000, zI_neg, zI_add, zI_sub, zI_mul, zI_lt, zI_le, zI_eq, if_pos, if_neg, if_true, if_false, Option.bind_some, bnd, ldI_is, ldJ_is, Int.toNat_natCast, ]; exact d), if_pos (by rfl), if_pos (by rfl), zI_succ, ih n (j + 1) v (by omega) (by omega), if_neg (fun x => d x.1), if_neg (fun x => d x.1)]
theorem m_sf_11 (K : OKB k) {t i : Nat} (ht : t < bn k) (hi : i < rn (brw k (ban k) t)) {g : Int} (hg : 0 ≤ g ∧ g ≤ 1000) (B : MS F w z (bset k (ban k) t (setR (brw k (ban k) t) i (rf (brw k (ban k) t) i) g))) (hN : 40 ≤ N) : ∀ (m n c : Nat) (v : Int), c = t + 1 + n → c ≤ bn k → n < m → v = fnd (berP (bset k (ban k) t (cutR (brw k (ban k) t) i g)) t) (bn k - c) c →
    ∃ m', fX9_splitFull_11 F N m w z (zI t) (zI g) (zI (re (brw k (ban k) t) i)) (zI v) (zI ((c : Int) - 1)) = fX9_splitFull_11 F N (m' + 1) w z (zI t) (zI g) (zI (re (brw k (ban k) t) i)) (zI (ber (bset k (ban k) t (cutR (brw k (ban k) t) i g)) t)) (zI t) := by
  have hn := K.1.1
  intro m
  induction m with
  | zero => intro n c v _ _ h; omega
  | succ m ih =>
    intro n c v hcn hcb hm hv
    cases n with
    | zero =>
      refine ⟨m, ?_⟩
      have e9 : c = t + 1 := by omega
      rw [hv, e9, show ((t + 1 : Nat) : Int) - 1 = (t : Int) from by omega]
      rfl
    | succ n =>
      have hl := K.2.1 _ _ K.1.2.1 (show c - 1 < bn k by omega)
      rw [fX9_splitFull_11, if_neg (by simp (disch := omega) only [z_0, z_1, z_2, z_3, z_4, z_5, z_6, z_7, z_8, z_9, z_10, z_12, z_13, z_16, z_20, z_24, z_30, z_31, z_32, z_38, z_42, z_44, z_45, z_47, z_48, z_49, z_50, z_57, z_58, z_59, z_60, z_61, z_91, z_97, z_98, z_100, z_108, z_114, z_120, z_122, z_126, z_127, z_128, z_200, z_255, z_961, z_990, z_992, z_998, z_999, z_1000, z_1092, z_1114, z_7798, z_10000, z_1000000, zI_neg, zI_add, zI_sub, zI_mul, zI_lt, zI_le, zI_eq, if_pos, if_neg, if_true, if_false, Option.bind_some, bnd, ldI_is, ldJ_is, Int.toNat_natCast,  Int.not_le]; omega)]
      rw [show ((c : Int) - 1) = ((c - 1 : Nat) : Int) from by omega]
      have e := m_sf_20 (N := N) (k11 := fX9_splitFull_11 F N m) K ht hi hg B hN (c := c - 1) (by omega) (by omega) N (rn (brw k (ban k) (c - 1))) 0 v (by omega) (by omega)
      rw [show (0 : Int32) = zI ((0 : Nat) : Int) from rfl, e]
      refine ih n (c - 1) _ (by omega) (by omega) (by omega) ?_
      rw [show bn k - (c - 1) = (bn k - c) + 1 from by omega, fnd_succ, show c - 1 + 1 = c from by omega, ← hv]
      have er1 : brw (bset k (ban k) t (cutR (brw k (ban k) t) i g)) (ban k) (c - 1) = brw k (ban k) (c - 1) := by rw [brw_bset, if_neg (by omega)]
      have eb : berP (bset k (ban k) t (cutR (brw k (ban k) t) i g)) t (c - 1) = true ↔ (bpr k (c - 1) = (t : Int) ∧ ¬ fnd (orpP (bset k (ban k) t (cutR (brw k (ban k) t) i g)) (ban k) (c - 1)) (rn (brw k (ban k) (c - 1))) 0 = -1) := by
        show (decide (bpr k (c - 1) = (t : Int)) && decide (¬ fnd (orpP (bset k (ban k) t (cutR (brw k (ban k) t) i g)) (ban k) (c - 1)) (rn (brw (bset k (ban k) t (cutR (brw k (ban k) t) i g)) (ban k) (c - 1))) 0 = -1)) = true ↔ _
        rw [er1, Bool.and_eq_true, decide_eq_true_eq, decide_eq_true_eq]
      by_cases x : berP (bset k (ban k) t (cutR (brw k (ban k) t) i g)) t (c - 1) = true
      · rw [if_pos x, if_pos (eb.mp x)]
      · rw [if_neg x, if_neg (fun y => x (eb.mpr y))]
theorem m_split (h : MSt F w z s) (V : VSt s) (hN : 40 ≤ N) {t i g : Int} (ht : I32 t) (hi : I32 i) (hg : I32 g) : Ev (fX9_split F N w z (zI t) (zI i) (zI g)) (MO F z w (spSplit s t i g)) := by
  have B := h.ms V
  unfold fX9_split spSplit
  refine ev_eq (m_isSpan B ht hi) ?_
  by_cases c : 0 ≤ t ∧ t < bn (snw s) ∧ 0 ≤ i ∧ i < rn (brw (snw s) (ban (snw s)) t.toNat)
  · rw [if_pos c, if_pos c]
    refine ev_neg (by decide) ?_
    obtain ⟨t', rfl⟩ := Int.eq_ofNat_of_zero_le c.1
    obtain ⟨i', rfl⟩ := Int.eq_ofNat_of_zero_le c.2.2.1
    have hb : t' < bn (snw s) := by omega
    have hi' : i' < rn (brw (snw s) (ban (snw s)) t') := by have := c.2.2.2; rw [Int.toNat_natCast] at this; omega
    have hn := B.g.1
    have hx := B.g.2.1
    have h30 := B.lim hx hb
    have b1 := (B.grow hx hb).2 i' hi'
    rw [Int.toNat_natCast, Int.toNat_natCast]
    unfold fX9_split_15
    have B1 : MS F (sI w 906 z 0) z (snw s) := B
    have h1 := h.thr 0
    refine ev_bnd (ev_pos (by rw [gI_same]; decide) (ev_eq (m_first B1 hb hi') (ev_eq (m_end B1 hb hi') ?_)))
    have er : ∀ q : Int, 0 < q ∧ q ≤ 5 → ∀ x : Int32, Ev (fX9_split_92 F N (sI w 906 z 0) z (zI t') (zI i') (zI g) x (zI q)) (MO F z w (2, 0, setrf s q 0)) := by
      intro q hq x
      unfold fX9_split_92 fX9_split_108
      refine ev_eq (m_refp (b := 0) hq) (ev_neg (show ¬ (1 : Int32) = 0 by decide) (ev_bnd (ev_neg (by rw [gI_same]; decide) (ev_some ⟨gI_same _ _ _ _, fun x => absurd x (show ¬ (2 : Int) = 0 by decide), (h1.fref).thr _, ((kp_thr _ _ _).trans (kp_rfw _ _ _ _)).trans (kp_thr _ _ _)⟩))))
    rw [show zI (rf (brw (snw s) (ban (snw s)) t') i') + 1 = zI (rf (brw (snw s) (ban (snw s)) t') i' + 1) from zI_add _ 1, zI_sb1, m_in hg (by omega) (by omega)]
    refine ev_eq rfl ?_
    unfold fX9_split_89
    by_cases d : g ≤ rf (brw (snw s) (ban (snw s)) t') i' ∨ re (brw (snw s) (ban (snw s)) t') i' ≤ g
    · rw [if_pos d, if_neg (c := rf (brw (snw s) (ban (snw s)) t') i' + 1 ≤ g ∧ g ≤ re (brw (snw s) (ban (snw s)) t') i' - 1) (by omega)]
      exact ev_pos (by rfl) (er 1 (by omega) _)
    · rw [if_neg d, if_pos (c := rf (brw (snw s) (ban (snw s)) t') i' + 1 ≤ g ∧ g ≤ re (brw (snw s) (ban (snw s)) t') i' - 1) (by omega)]
      refine ev_neg (by decide) (ev_eq (m_lacksHost B1 hN hb (by omega) (by omega)) ?_)
      by_cases l1 : lack (snw s) (ban (snw s)) t' (rf (brw (snw s) (ban (snw s)) t') i') g = true
      · rw [if_pos l1, if_pos (Or.inl l1)]
        exact ev_neg (by decide) (er 3 (by omega) _)
      rw [if_neg l1]
      refine ev_pos (by rfl) (ev_eq (m_lacksHost B1 hN hb (by omega) (by omega)) ?_)
      by_cases l2 : lack (snw s) (ban (snw s)) t' g (re (brw (snw s) (ban (snw s)) t') i') = true
      · rw [if_pos l2, if_pos (Or.inr l2)]
        exact ev_neg (by decide) (er 3 (by omega) _)
      rw [if_neg l2]
      refine ev_pos (by rfl) ?_
      rw [if_neg (c := lack (snw s) (ban (snw s)) t' (rf (brw (snw s) (ban (snw s)) t') i') g = true ∨ lack (snw s) (ban (snw s)) t' g (re (brw (snw s) (ban (snw s)) t') i') = true) (fun x => x.elim l1 l2)]
      have l10 : lack (snw s) (ban (snw s)) t' (rf (brw (snw s) (ban (snw s)) t') i') g = false := by simpa using l1
      have l20 : lack (snw s) (ban (snw s)) t' g (re (brw (snw s) (ban (snw s)) t') i') = false := by simpa using l2
      have hg1 : rf (brw (snw s) (ban (snw s)) t') i' < g := by omega
      have hg2 : g < re (brw (snw s) (ban (snw s)) t') i' := by omega
      obtain ⟨R0, R⟩ := cutR_ok V.1 hb hi' hg1 hg2 (lack_iff.mp l10) (lack_iff.mp l20)
      have hat := cutR_at V.1 hb hi' hg1 hg2
      unfold fX9_split_92 fX9_split_108
      refine ev_eq (m_ref0 0) (ev_pos rfl (ev_bnd (ev_pos (by rw [gI_same]; decide) ?_)))
      have h2 : MSt F (sI (sI w 906 z 0) 906 z 0) z s := h1.thr 0
      obtain ⟨g2, k1, k2, k3, k4⟩ := h2.keepS (N := N) V
      have B2 : MS F (sAJ (sI (sI w 906 z 0) 906 z 0) (z + 2) g2) z (snw s) := ⟨k2.1, k2.2.1, V.1.1, V.1.2.1⟩
      refine ev_eq k1 (ev_eq (m_label B2 hb hi') (ev_eq (m_many B2 hb) ?_))
      have M5 := k2.2.1.setE V.1.1 V.1.2.1 hb hi' g
      have k5 := k2.setnow M5
      have es := brw_same (snw s) (ban (snw s)) t' (setR (brw (snw s) (ban (snw s)) t') i' (rf (brw (snw s) (ban (snw s)) t') i') g)
      have ern : rn (setR (brw (snw s) (ban (snw s)) t') i' (rf (brw (snw s) (ban (snw s)) t') i') g) = rn (brw (snw s) (ban (snw s)) t') := rfl
      have hm := mo_lim hx (show t' < 6 by omega)
      have B3 : MS F _ z (bset (snw s) (ban (snw s)) t' (setR (brw (snw s) (ban (snw s)) t') i' (rf (brw (snw s) (ban (snw s)) t') i') g)) := ⟨k5.1, k5.2.1, V.1.1.set R0.1, V.1.2.1.set h30⟩
      have kk : Kp (Rg z 26) w (sAJ (sAJ (sI (sI w 906 z 0) 906 z 0) (z + 2) g2) (z + 1) (vp_updL (aJ (sAJ (sI (sI w 906 z 0) 906 z 0) (z + 2) g2) (z + 1)) (mo (ban (snw s)) t' + 2 + 3 * i') (zJ g))) := (((kp_thr _ _ _).trans (kp_thr _ _ _)).trans k4).trans (kp_now _ _ _)
      have M : MBook (aJ (sAJ (sAJ (sI (sI w 906 z 0) 906 z 0) (z + 2) g2) (z + 1) (vp_updL (aJ (sAJ (sI (sI w 906 z 0) 906 z 0) (z + 2) g2) (z + 1)) (mo (ban (snw s)) t' + 2 + 3 * i') (zJ g))) (z + 2)) (snw s) := by
        rw [q_aJ_sAJ, if_neg (by omega)]; exact k3
      have hlim := ber_lims (k := bset (snw s) (ban (snw s)) t' (cutR (brw (snw s) (ban (snw s)) t') i' g)) hn t'
      unfold fX9_split_147
      by_cases f30 : rn (brw (snw s) (ban (snw s)) t') = 30
      · refine ev_pos (by rw [f30]; rfl) (ev_eq B2.r (ev_eq (m_at B2 t' i') ?_))
        rw [z_1, zI_add, show ((mo (ban (snw s)) t' + 1 + 3 * i' : Nat) : Int) + 1 = ((mo (ban (snw s)) t' + 2 + 3 * i' : Nat) : Int) from by omega, zI_64 hg.1 hg.2]
        refine ev_eq (k2.stj (by omega) (by omega)) (ev_neg (show ¬ (1 : Int32) = 0 by decide) ?_)
        rw [Int.toNat_natCast]
        unfold fX9_splitFull
        rw [m_tiers B3]
        simp only [Option.bind_some, bnd]
        rw [zI_sb1]
        obtain ⟨m', e9⟩ := m_sf_11 (N := N) V.1 hb hi' (g := g) (by omega) B3 hN N (bn (snw s) - (t' + 1)) (bn (snw s)) (-1) (by omega) (by omega) (by omega) (by rw [Nat.sub_self]; rfl)
        rw [show (-1 : Int32) = zI (-1) from rfl, show bn (bset (snw s) (ban (snw s)) t' (setR (brw (snw s) (ban (snw s)) t') i' (rf (brw (snw s) (ban (snw s)) t') i') g)) = bn (snw s) from rfl, e9, fX9_splitFull_11, if_pos (by simp (disch := omega) only [z_0, z_1, z_2, z_3, z_4, z_5, z_6, z_7, z_8, z_9, z_10, z_12, z_13, z_16, z_20, z_24, z_30, z_31, z_32, z_38, z_42, z_44, z_45, z_47, z_48, z_49, z_50, z_57, z_58, z_59, z_60, z_61, z_91, z_97, z_98, z_100, z_108, z_114, z_120, z_122, z_126, z_127, z_128, z_200, z_255, z_961, z_990, z_992, z_998, z_999, z_1000, z_1092, z_1114, z_7798, z_10000, z_1000000, zI_neg, zI_add, zI_sub, zI_mul, zI_lt, zI_le, zI_eq, if_pos, if_neg, if_true, if_false, Option.bind_some, bnd, ldI_is, ldJ_is, Int.toNat_natCast, ]; omega)]
        obtain ⟨g6, p1, p2⟩ := m_putBack (N := N) k5.1 M V.1.1 V.1.2.1
        rw [p1]
        simp only [Option.bind_some]
        have k6 := k5.setnow p2
        unfold fX9_splitFull_155
        by_cases q : ber (bset (snw s) (ban (snw s)) t' (cutR (brw (snw s) (ban (snw s)) t') i' g)) t' = -1
        · rw [if_pos q, if_pos f30, if_pos (by rw [q]; decide), show ∀ w : Wd, fX9_isRefused F N w z 5 0 = _ from fun w => m_refp (a := 5) (b := 0) (by omega)]
          simp only [Option.bind_some]
          rw [if_neg (by decide)]
          exact ev_some ⟨gI_same _ _ _ _, fun x => absurd x (show ¬ (2 : Int) = 0 by decide), (k6.fref).thr _, ((kk.trans (kp_now _ _ _)).trans (kp_rfw _ _ _ _)).trans (kp_thr _ _ _)⟩
        · rw [if_neg q, if_neg (by simp (disch := omega) only [z_0, z_1, z_2, z_3, z_4, z_5, z_6, z_7, z_8, z_9, z_10, z_12, z_13, z_16, z_20, z_24, z_30, z_31, z_32, z_38, z_42, z_44, z_45, z_47, z_48, z_49, z_50, z_57, z_58, z_59, z_60, z_61, z_91, z_97, z_98, z_100, z_108, z_114, z_120, z_122, z_126, z_127, z_128, z_200, z_255, z_961, z_990, z_992, z_998, z_999, z_1000, z_1092, z_1114, z_7798, z_10000, z_1000000, zI_neg, zI_add, zI_sub, zI_mul, zI_lt, zI_le, zI_eq, if_pos, if_neg, if_true, if_false, Option.bind_some, bnd, ldI_is, ldJ_is, Int.toNat_natCast,  Int.not_lt]; omega), show ∀ (w : Wd) (x : Int), fX9_isRefused F N w z 4 (zI x) = _ from fun w x => m_refp (a := 4) (by omega)]
          simp only [Option.bind_some]
          rw [if_neg (by decide)]
          exact ev_some ⟨gI_same _ _ _ _, fun x => absurd x (show ¬ (2 : Int) = 0 by decide), (k6.fref).thr _, ((kk.trans (kp_now _ _ _)).trans (kp_rfw _ _ _ _)).trans (kp_thr _ _ _)⟩
      · refine ev_neg (by simp (disch := omega) only [z_0, z_1, z_2, z_3, z_4, z_5, z_6, z_7, z_8, z_9, z_10, z_12, z_13, z_16, z_20, z_24, z_30, z_31, z_32, z_38, z_42, z_44, z_45, z_47, z_48, z_49, z_50, z_57, z_58, z_59, z_60, z_61, z_91, z_97, z_98, z_100, z_108, z_114, z_120, z_122, z_126, z_127, z_128, z_200, z_255, z_961, z_990, z_992, z_998, z_999, z_1000, z_1092, z_1114, z_7798, z_10000, z_1000000, zI_neg, zI_add, zI_sub, zI_mul, zI_lt, zI_le, zI_eq, if_pos, if_neg, if_true, if_false, Option.bind_some, bnd, ldI_is, ldJ_is, Int.toNat_natCast, ]; omega) (ev_eq B2.r (ev_eq (m_at B2 t' i') ?_))
        rw [z_1, zI_add, show ((mo (ban (snw s)) t' + 1 + 3 * i' : Nat) : Int) + 1 = ((mo (ban (snw s)) t' + 2 + 3 * i' : Nat) : Int) from by omega, zI_64 hg.1 hg.2]
        refine ev_eq (k2.stj (by omega) (by omega)) (ev_pos rfl ?_)
        rw [Int.toNat_natCast]
        obtain ⟨p, g4, b1', b2, b3⟩ := m_putIn B3 hN (t := t') hb (by
          show rn (brw (bset (snw s) (ban (snw s)) t' (setR (brw (snw s) (ban (snw s)) t') i' (rf (brw (snw s) (ban (snw s)) t') i') g)) (ban (snw s)) t') ≤ 29
          rw [es]; omega) (f := g) (e := re (brw (snw s) (ban (snw s)) t') i') (by omega) (by omega) (rl (brw (snw s) (ban (snw s)) t') i') (fun j hj => by
            have hj : j < rn (brw (bset (snw s) (ban (snw s)) t' (setR (brw (snw s) (ban (snw s)) t') i' (rf (brw (snw s) (ban (snw s)) t') i') g)) (ban (snw s)) t') := hj
            show ¬ rf (brw (bset (snw s) (ban (snw s)) t' (setR (brw (snw s) (ban (snw s)) t') i' (rf (brw (snw s) (ban (snw s)) t') i') g)) (ban (snw s)) t') j = g
            rw [es] at hj ⊢
            by_cases x : j ≤ i'
            · have : rf (setR (brw (snw s) (ban (snw s)) t') i' (rf (brw (snw s) (ban (snw s)) t') i') g) j ≤ g := by
                have := hat.2.1 (by omega)
                by_cases y : j = i'
                · rw [y]; exact this
                · have := R0.2.1.mono (show j < i' by omega) (by omega)
                  have h9 := hat.2.1 (by omega)
                  rw [Nat.add_sub_cancel] at h9
                  omega
              have h8 : rf (setR (brw (snw s) (ban (snw s)) t') i' (rf (brw (snw s) (ban (snw s)) t') i') g) i' = rf (brw (snw s) (ban (snw s)) t') i' := if_pos rfl
              by_cases y : j = i'
              · rw [y, h8]; omega
              · have := R0.2.1.mono (show j < i' by omega) (by omega)
                omega
            · have := hat.2.2 j (by omega) hj
              omega) (fun i j hi hj => by
            have hj : j < rn (brw (bset (snw s) (ban (snw s)) t' (setR (brw (snw s) (ban (snw s)) t') i' (rf (brw (snw s) (ban (snw s)) t') i') g)) (ban (snw s)) t') := hj
            show rf (brw (bset (snw s) (ban (snw s)) t' (setR (brw (snw s) (ban (snw s)) t') i' (rf (brw (snw s) (ban (snw s)) t') i') g)) (ban (snw s)) t') i ≤ rf (brw (bset (snw s) (ban (snw s)) t' (setR (brw (snw s) (ban (snw s)) t') i' (rf (brw (snw s) (ban (snw s)) t') i') g)) (ban (snw s)) t') j
            rw [es] at hj ⊢
            have := R0.2.1.mono hi hj
            omega)
        rw [show brw (bset (snw s) (ban (snw s)) t' (setR (brw (snw s) (ban (snw s)) t') i' (rf (brw (snw s) (ban (snw s)) t') i') g)) (ban (bset (snw s) (ban (snw s)) t' (setR (brw (snw s) (ban (snw s)) t') i' (rf (brw (snw s) (ban (snw s)) t') i') g))) t' = setR (brw (snw s) (ban (snw s)) t') i' (rf (brw (snw s) (ban (snw s)) t') i') g from es] at b2 b3
        have ep : p = i' + 1 := b2.uniq hat
        rw [ep] at b1' b3
        rw [show bset (bset (snw s) (ban (snw s)) t' (setR (brw (snw s) (ban (snw s)) t') i' (rf (brw (snw s) (ban (snw s)) t') i') g)) (ban (bset (snw s) (ban (snw s)) t' (setR (brw (snw s) (ban (snw s)) t') i' (rf (brw (snw s) (ban (snw s)) t') i') g))) t' (insR (setR (brw (snw s) (ban (snw s)) t') i' (rf (brw (snw s) (ban (snw s)) t') i') g) (i' + 1) (g, re (brw (snw s) (ban (snw s)) t') i', rl (brw (snw s) (ban (snw s)) t') i')) = bset (snw s) (ban (snw s)) t' (cutR (brw (snw s) (ban (snw s)) t') i' g) from bset_bset _ _ _ _ _] at b3
        refine ev_eq b1' ?_
        have k6 := k5.setnow b3
        have M6 : MBook (aJ (sAJ (sAJ (sAJ (sI (sI w 906 z 0) 906 z 0) (z + 2) g2) (z + 1) (vp_updL (aJ (sAJ (sI (sI w 906 z 0) 906 z 0) (z + 2) g2) (z + 1)) (mo (ban (snw s)) t' + 2 + 3 * i') (zJ g))) (z + 1) g4) (z + 2)) (snw s) := by
          rw [q_aJ_sAJ, if_neg (by omega)]; exact M
        obtain ⟨s1, s2⟩ := m_stays k6 V.1 hb rfl R (by show rn (brw (snw s) (ban (snw s)) t') + 1 ≤ 30; omega) M6 hN
        by_cases q : ber (bset (snw s) (ban (snw s)) t' (cutR (brw (snw s) (ban (snw s)) t') i' g)) t' = -1
        · rw [if_pos q, if_neg f30]
          refine ev_eq (s1 q) (ev_neg (show ¬ (1 : Int32) = 0 by decide) ?_)
          obtain ⟨w4, c1, c2, c3, c4⟩ := k6.change (N := N) M6 V.1.1 V.1.2.1 V.past V.2.2.2.1
          have OK1 := V.1.set hb R.1 (by show rn (brw (snw s) (ban (snw s)) t') + 1 ≤ 30; omega) R.2.1 R.2.2 q
          have B4 : MS F w4 z (bset (snw s) (ban (snw s)) t' (cutR (brw (snw s) (ban (snw s)) t') i' g)) := ⟨c2.1, c2.2.1, OK1.1, OK1.2.1⟩
          refine ev_eq c1 (ev_pos (by simp (disch := omega) only [z_0, z_1, z_2, z_3, z_4, z_5, z_6, z_7, z_8, z_9, z_10, z_12, z_13, z_16, z_20, z_24, z_30, z_31, z_32, z_38, z_42, z_44, z_45, z_47, z_48, z_49, z_50, z_57, z_58, z_59, z_60, z_61, z_91, z_97, z_98, z_100, z_108, z_114, z_120, z_122, z_126, z_127, z_128, z_200, z_255, z_961, z_990, z_992, z_998, z_999, z_1000, z_1092, z_1114, z_7798, z_10000, z_1000000, zI_neg, zI_add, zI_sub, zI_mul, zI_lt, zI_le, zI_eq, if_pos, if_neg, if_true, if_false, Option.bind_some, bnd, ldI_is, ldJ_is, Int.toNat_natCast, ]; omega) (ev_eq (m_many B4 (t := t') hb) (ev_some ⟨c4.trans (gI_same _ _ _ _), fun _ => ?_, c2, (kk.trans (kp_now _ _ _)).trans c3⟩)))
          show zI (rn (brw (bset (snw s) (ban (snw s)) t' (cutR (brw (snw s) (ban (snw s)) t') i' g)) (ban (snw s)) t') : Nat) = _
          rw [brw_same]
          rfl
        · rw [if_neg q]
          obtain ⟨w4, c1, c2, c3, c4⟩ := s2 q
          exact ev_eq c1 (ev_pos rfl (ev_some ⟨c4, fun x => absurd x (show ¬ (2 : Int) = 0 by decide), c2, (kk.trans (kp_now _ _ _)).trans c3⟩))
  · rw [if_neg c, if_neg c]
    refine ev_pos (by rfl) ?_
    unfold fX9_split_15
    exact ev_bnd (ev_neg (by rw [gI_same]; decide) (ev_some (mo_err h (by omega) rfl)))
end CHG
