/-! the reference: its book, and what it reads of it -/
theorem z_22 : (22 : Int32) = zI 22 := rfl
def mo (x t : Nat) : Nat := 22 + 91 * (6 * x + t)
def MRow (g : Nat → Int64) (o : Nat) (r : Rw) : Prop := g o = zJ (rn r : Nat) ∧ ∀ i, i < rn r → g (o + 1 + 3 * i) = zJ (rf r i) ∧ g (o + 2 + 3 * i) = zJ (re r i) ∧ g (o + 3 + 3 * i) = mL (rl r i)
def MTop (g : Nat → Int64) (k : Bk) : Prop := g 0 = zJ (bn k : Nat) ∧ g 1 = zJ (ban k : Nat) ∧ g 2 = zJ (bwi k) ∧ g 3 = zJ (bga k) ∧ ∀ t, t < bn k → g (4 + 3 * t) = zJ (bkd k t) ∧ g (5 + 3 * t) = zJ (brl k t) ∧ g (6 + 3 * t) = zJ (bpr k t)
def MBook (g : Nat → Int64) (k : Bk) : Prop := MTop g k ∧ (∀ x t, x < 2 → t < bn k → MRow g (mo x t) (brw k x t)) ∧ ∀ x t, x < 2 → bn k ≤ t → t < 6 → g (mo x t) = zJ 0
def MArr (F : Fr) (w : Wd) (z f o c s : Nat) : Prop := gR w f z = some (z + o) ∧ okF F (z + o) c ∧ F.2.1 (z + o) = s
def CMod (F : Fr) (w : Wd) (z : Nat) : Prop := MArr F w z 900 1 12 1114 ∧ MArr F w z 901 2 12 1114 ∧ MArr F w z 902 3 12 1114 ∧ MArr F w z 904 4 12 8912 ∧ MArr F w z 907 5 11 100 ∧ MArr F w z 914 6 11 961 ∧ MArr F w z 915 7 11 961 ∧ MArr F w z 917 8 11 4 ∧ MArr F w z 918 9 11 4 ∧ MArr F w z 919 10 12 4 ∧ MArr F w z 920 11 13 4 ∧ MArr F w z 921 12 11 4 ∧ MArr F w z 922 13 12 4 ∧ MArr F w z 923 14 13 4 ∧ MArr F w z 925 15 11 4 ∧ MArr F w z 926 16 11 4 ∧ MArr F w z 929 17 11 60 ∧ MArr F w z 930 18 11 60 ∧ MArr F w z 931 19 12 60 ∧ MArr F w z 932 20 11 60 ∧ MArr F w z 936 21 12 2000 ∧ MArr F w z 941 22 11 100 ∧ MArr F w z 942 23 11 100 ∧ MArr F w z 943 24 11 100 ∧ MArr F w z 944 25 12 100
theorem CMod.p900 {F : Fr} {w : Wd} {z : Nat} (h : CMod F w z) : MArr F w z 900 1 12 1114 := h.1
theorem CMod.p901 {F : Fr} {w : Wd} {z : Nat} (h : CMod F w z) : MArr F w z 901 2 12 1114 := h.2.1
theorem CMod.p902 {F : Fr} {w : Wd} {z : Nat} (h : CMod F w z) : MArr F w z 902 3 12 1114 := h.2.2.1
theorem CMod.p904 {F : Fr} {w : Wd} {z : Nat} (h : CMod F w z) : MArr F w z 904 4 12 8912 := h.2.2.2.1
theorem CMod.p907 {F : Fr} {w : Wd} {z : Nat} (h : CMod F w z) : MArr F w z 907 5 11 100 := h.2.2.2.2.1
theorem CMod.p914 {F : Fr} {w : Wd} {z : Nat} (h : CMod F w z) : MArr F w z 914 6 11 961 := h.2.2.2.2.2.1
theorem CMod.p915 {F : Fr} {w : Wd} {z : Nat} (h : CMod F w z) : MArr F w z 915 7 11 961 := h.2.2.2.2.2.2.1
theorem CMod.p917 {F : Fr} {w : Wd} {z : Nat} (h : CMod F w z) : MArr F w z 917 8 11 4 := h.2.2.2.2.2.2.2.1
theorem CMod.p918 {F : Fr} {w : Wd} {z : Nat} (h : CMod F w z) : MArr F w z 918 9 11 4 := h.2.2.2.2.2.2.2.2.1
theorem CMod.p919 {F : Fr} {w : Wd} {z : Nat} (h : CMod F w z) : MArr F w z 919 10 12 4 := h.2.2.2.2.2.2.2.2.2.1
theorem CMod.p920 {F : Fr} {w : Wd} {z : Nat} (h : CMod F w z) : MArr F w z 920 11 13 4 := h.2.2.2.2.2.2.2.2.2.2.1
theorem CMod.p921 {F : Fr} {w : Wd} {z : Nat} (h : CMod F w z) : MArr F w z 921 12 11 4 := h.2.2.2.2.2.2.2.2.2.2.2.1
theorem CMod.p922 {F : Fr} {w : Wd} {z : Nat} (h : CMod F w z) : MArr F w z 922 13 12 4 := h.2.2.2.2.2.2.2.2.2.2.2.2.1
theorem CMod.p923 {F : Fr} {w : Wd} {z : Nat} (h : CMod F w z) : MArr F w z 923 14 13 4 := h.2.2.2.2.2.2.2.2.2.2.2.2.2.1
theorem CMod.p925 {F : Fr} {w : Wd} {z : Nat} (h : CMod F w z) : MArr F w z 925 15 11 4 := h.2.2.2.2.2.2.2.2.2.2.2.2.2.2.1
theorem CMod.p926 {F : Fr} {w : Wd} {z : Nat} (h : CMod F w z) : MArr F w z 926 16 11 4 := h.2.2.2.2.2.2.2.2.2.2.2.2.2.2.2.1
theorem CMod.p929 {F : Fr} {w : Wd} {z : Nat} (h : CMod F w z) : MArr F w z 929 17 11 60 := h.2.2.2.2.2.2.2.2.2.2.2.2.2.2.2.2.1
theorem CMod.p930 {F : Fr} {w : Wd} {z : Nat} (h : CMod F w z) : MArr F w z 930 18 11 60 := h.2.2.2.2.2.2.2.2.2.2.2.2.2.2.2.2.2.1
theorem CMod.p931 {F : Fr} {w : Wd} {z : Nat} (h : CMod F w z) : MArr F w z 931 19 12 60 := h.2.2.2.2.2.2.2.2.2.2.2.2.2.2.2.2.2.2.1
theorem CMod.p932 {F : Fr} {w : Wd} {z : Nat} (h : CMod F w z) : MArr F w z 932 20 11 60 := h.2.2.2.2.2.2.2.2.2.2.2.2.2.2.2.2.2.2.2.1
theorem CMod.p936 {F : Fr} {w : Wd} {z : Nat} (h : CMod F w z) : MArr F w z 936 21 12 2000 := h.2.2.2.2.2.2.2.2.2.2.2.2.2.2.2.2.2.2.2.2.1
theorem CMod.p941 {F : Fr} {w : Wd} {z : Nat} (h : CMod F w z) : MArr F w z 941 22 11 100 := h.2.2.2.2.2.2.2.2.2.2.2.2.2.2.2.2.2.2.2.2.2.1
theorem CMod.p942 {F : Fr} {w : Wd} {z : Nat} (h : CMod F w z) : MArr F w z 942 23 11 100 := h.2.2.2.2.2.2.2.2.2.2.2.2.2.2.2.2.2.2.2.2.2.2.1
theorem CMod.p943 {F : Fr} {w : Wd} {z : Nat} (h : CMod F w z) : MArr F w z 943 24 11 100 := h.2.2.2.2.2.2.2.2.2.2.2.2.2.2.2.2.2.2.2.2.2.2.2.1
theorem CMod.p944 {F : Fr} {w : Wd} {z : Nat} (h : CMod F w z) : MArr F w z 944 25 12 100 := h.2.2.2.2.2.2.2.2.2.2.2.2.2.2.2.2.2.2.2.2.2.2.2.2
def MS (F : Fr) (w : Wd) (z : Nat) (k : Bk) : Prop := CMod F w z ∧ MBook (aJ w (z + 1)) k ∧ GBook k ∧ H30 k
theorem ckZ_if {c : Prop} {dc : Decidable c} : ckZ (if c then 1 else 0) = some (if c then 1 else 0) := by
  by_cases h : c
  · rw [if_pos h]; exact ckZ1
  · rw [if_neg h]; exact ckZ0
theorem mo_lim {x t : Nat} (hx : x < 2) (ht : t < 6) : mo x t + 91 ≤ 1114 := by unfold mo; omega
theorem hstP_iff {u f e : Int} {r : Rw} {j : Nat} : hstP u r f e j = true ↔ (u = 1 ∧ rf r j ≤ f ∧ e ≤ re r j) ∨ (u = 2 ∧ rf r j = f ∧ re r j = e) ∨ (u = 3 ∧ rf r j = f) := by unfold hstP; rw [decide_eq_true_eq]
section MREAD
variable {F : Fr} {N : Nat} {w : Wd} {z : Nat} {k : Bk}
theorem m_in {a b c : Int} (ha : -2147483648 ≤ a ∧ a < 2147483648) (hb : -2147483648 ≤ b ∧ b < 2147483648) (hc : -2147483648 ≤ c ∧ c < 2147483648) : fX9_in F N w (zI a) (zI b) (zI c) = some (if b ≤ a ∧ a ≤ c then 1 else 0) := by
  unfold fX9_in
  by_cases c1 : a < b
  · rw [if_pos (by simp (disch := omega) only [z_0, z_1, z_2, z_3, z_4, z_5, z_6, z_7, z_8, z_9, z_10, z_12, z_13, z_16, z_20, z_24, z_30, z_31, z_32, z_38, z_42, z_44, z_45, z_47, z_48, z_49, z_50, z_57, z_58, z_59, z_60, z_61, z_91, z_97, z_98, z_100, z_108, z_114, z_120, z_122, z_126, z_127, z_128, z_200, z_255, z_961, z_990, z_992, z_998, z_999, z_1000, z_1092, z_1114, z_7798, z_10000, z_1000000, zI_neg, zI_add, zI_sub, zI_mul, zI_lt, zI_le, zI_eq, if_pos, if_neg, if_true, if_false, Option.bind_some, bnd, ldI_is, ldJ_is, Int.toNat_natCast, ]; exact c1), if_neg (by omega)]
  · rw [if_neg (by simp (disch := omega) only [z_0, z_1, z_2, z_3, z_4, z_5, z_6, z_7, z_8, z_9, z_10, z_12, z_13, z_16, z_20, z_24, z_30, z_31, z_32, z_38, z_42, z_44, z_45, z_47, z_48, z_49, z_50, z_57, z_58, z_59, z_60, z_61, z_91, z_97, z_98, z_100, z_108, z_114, z_120, z_122, z_126, z_127, z_128, z_200, z_255, z_961, z_990, z_992, z_998, z_999, z_1000, z_1092, z_1114, z_7798, z_10000, z_1000000, zI_neg, zI_add, zI_sub, zI_mul, zI_lt, zI_le, zI_eq, if_pos, if_neg, if_true, if_false, Option.bind_some, bnd, ldI_is, ldJ_is, Int.toNat_natCast,  Int.not_lt]; omega)]
    by_cases c2 : c < a
    · rw [if_pos (by simp (disch := omega) only [z_0, z_1, z_2, z_3, z_4, z_5, z_6, z_7, z_8, z_9, z_10, z_12, z_13, z_16, z_20, z_24, z_30, z_31, z_32, z_38, z_42, z_44, z_45, z_47, z_48, z_49, z_50, z_57, z_58, z_59, z_60, z_61, z_91, z_97, z_98, z_100, z_108, z_114, z_120, z_122, z_126, z_127, z_128, z_200, z_255, z_961, z_990, z_992, z_998, z_999, z_1000, z_1092, z_1114, z_7798, z_10000, z_1000000, zI_neg, zI_add, zI_sub, zI_mul, zI_lt, zI_le, zI_eq, if_pos, if_neg, if_true, if_false, Option.bind_some, bnd, ldI_is, ldJ_is, Int.toNat_natCast, ]; exact c2), if_neg (by omega)]
    · rw [if_neg (by simp (disch := omega) only [z_0, z_1, z_2, z_3, z_4, z_5, z_6, z_7, z_8, z_9, z_10, z_12, z_13, z_16, z_20, z_24, z_30, z_31, z_32, z_38, z_42, z_44, z_45, z_47, z_48, z_49, z_50, z_57, z_58, z_59, z_60, z_61, z_91, z_97, z_98, z_100, z_108, z_114, z_120, z_122, z_126, z_127, z_128, z_200, z_255, z_961, z_990, z_992, z_998, z_999, z_1000, z_1092, z_1114, z_7798, z_10000, z_1000000, zI_neg, zI_add, zI_sub, zI_mul, zI_lt, zI_le, zI_eq, if_pos, if_neg, if_true, if_false, Option.bind_some, bnd, ldI_is, ldJ_is, Int.toNat_natCast,  Int.not_lt]; omega), if_pos (by omega)]
theorem MS.g (h : MS F w z k) : GBook k := h.2.2.1
theorem MS.r (h : MS F w z k) : rdR F w 900 z 12 = some (z + 1) := rdR_is h.1.p900.1 h.1.p900.2.1
theorem MS.get (h : MS F w z k) {i : Int} (h0 : 0 ≤ i) (h1 : i < 1114) : ldJ F w (z + 1) (zI i) = some (aJ w (z + 1) i.toNat) := ldJ_is h0 (by rw [h.1.p900.2.2]; omega) (by omega)
theorem MS.row (h : MS F w z k) {x t : Nat} (hx : x < 2) (ht : t < bn k) : MRow (aJ w (z + 1)) (mo x t) (brw k x t) := h.2.1.2.1 x t hx ht
theorem MS.grow (h : MS F w z k) {x t : Nat} (hx : x < 2) (ht : t < bn k) : GRow (brw k x t) := (h.g.2.2.2.2 t ht).2.2.2.2.2 x hx
theorem MS.lim (h : MS F w z k) {x t : Nat} (hx : x < 2) (ht : t < bn k) : rn (brw k x t) ≤ 30 := h.2.2.2 x t hx ht
theorem m_tiers (h : MS F w z k) : fX9_tiers F N w z = some (zI (bn k : Nat)) := by
  unfold fX9_tiers
  rw [h.r]
  simp only [Option.bind_some]
  rw [z_0, h.get (by omega) (by omega)]
  exact (congrArg (fun x => some x.toInt32) h.2.1.1.1).trans (congrArg some (zJ_32 _))
theorem m_annotator (h : MS F w z k) : fX9_annotator F N w z = some (zI (ban k : Nat)) := by
  unfold fX9_annotator
  rw [h.r]
  simp only [Option.bind_some]
  rw [z_1, h.get (by omega) (by omega)]
  exact (congrArg (fun x => some x.toInt32) h.2.1.1.2.1).trans (congrArg some (zJ_32 _))
theorem m_isTier (h : MS F w z k) {t : Int} (ht : -2147483648 ≤ t ∧ t < 2147483648) : fX9_isTier F N w z (zI t) = some (if 0 ≤ t ∧ t < bn k then 1 else 0) := by
  have hn := h.g.1
  unfold fX9_isTier
  rw [m_tiers h]
  simp only [Option.bind_some]
  rw [zI_sb1, z_0, m_in ht (by omega) (by omega)]
  simp only [Option.bind_some, ckZ_if]
  by_cases c : 0 ≤ t ∧ t < bn k
  · rw [if_pos c, if_pos (by omega)]
  · rw [if_neg c, if_neg (by omega)]
    rfl
theorem m_kind (h : MS F w z k) {t : Nat} (ht : t < bn k) : fX9_kind F N w z (zI t) = some (zI (bkd k t)) := by
  have hn := h.g.1
  unfold fX9_kind
  rw [h.r]
  simp only [Option.bind_some, z_3, z_4, zI_mul, zI_add]
  rw [h.get (by omega) (by omega), show (4 + 3 * (t : Int)).toNat = 4 + 3 * t from by omega]
  simp only [Option.bind_some]
  rw [(h.2.1.1.2.2.2.2 t ht).1, zJ_32]
theorem m_rule (h : MS F w z k) {t : Nat} (ht : t < bn k) : fX9_rule F N w z (zI t) = some (zI (brl k t)) := by
  have hn := h.g.1
  unfold fX9_rule
  rw [h.r]
  simp only [Option.bind_some, z_1, z_3, z_4, zI_mul, zI_add]
  rw [h.get (by omega) (by omega), show (4 + 3 * (t : Int) + 1).toNat = 5 + 3 * t from by omega]
  simp only [Option.bind_some]
  rw [(h.2.1.1.2.2.2.2 t ht).2.1, zJ_32]
theorem m_parent (h : MS F w z k) {t : Nat} (ht : t < bn k) : fX9_parent F N w z (zI t) = some (zI (bpr k t)) := by
  have hn := h.g.1
  unfold fX9_parent
  rw [h.r]
  simp only [Option.bind_some, z_2, z_3, z_4, zI_mul, zI_add]
  rw [h.get (by omega) (by omega), show (4 + 3 * (t : Int) + 2).toNat = 6 + 3 * t from by omega]
  simp only [Option.bind_some]
  rw [(h.2.1.1.2.2.2.2 t ht).2.2, zJ_32]
theorem m_row (x t : Nat) : fX9_row F N w (zI x) (zI t) = some (zI (mo x t : Nat)) := by
  unfold fX9_row
  simp only [z_22, z_91, z_6, zI_mul, zI_add]
  rw [show ((mo x t : Nat) : Int) = 22 + 91 * (6 * (x : Int) + t) from by unfold mo; omega]
theorem m_row_ (h : MS F w z k) (t : Nat) : fX9_row_ F N w z (zI t) = some (zI (mo (ban k) t : Nat)) := by
  unfold fX9_row_
  rw [m_annotator h]
  simp only [Option.bind_some]
  rw [m_row]
  rfl
theorem MS.cnt (h : MS F w z k) {x t : Nat} (hx : x < 2) (ht : t < bn k) : ldJ F w (z + 1) (zI (mo x t : Nat)) = some (zJ (rn (brw k x t) : Nat)) := by
  have hm := mo_lim hx (Nat.lt_of_lt_of_le ht h.g.1)
  rw [h.get (by omega) (by omega), Int.toNat_natCast, (h.row hx ht).1]
theorem m_many (h : MS F w z k) {t : Nat} (ht : t < bn k) : fX9_many F N w z (zI t) = some (zI (rn (brw k (ban k) t) : Nat)) := by
  unfold fX9_many
  rw [h.r]
  simp only [Option.bind_some]
  rw [m_row_ h]
  simp only [Option.bind_some]
  rw [h.cnt h.g.2.1 ht]
  simp only [Option.bind_some, zJ_32]
theorem m_at (h : MS F w z k) (t i : Nat) : fX9_at F N w z (zI t) (zI i) = some (zI (mo (ban k) t + 1 + 3 * i : Nat)) := by
  unfold fX9_at
  rw [m_row_ h]
  simp only [Option.bind_some, z_1, z_3, zI_mul, zI_add]
  congr 2
theorem MS.at (h : MS F w z k) {x t i : Nat} (hx : x < 2) (ht : t < bn k) (hi : i < rn (brw k x t)) : ldJ F w (z + 1) (zI (mo x t + 1 + 3 * i : Nat)) = some (zJ (rf (brw k x t) i)) ∧ ldJ F w (z + 1) (zI (mo x t + 2 + 3 * i : Nat)) = some (zJ (re (brw k x t) i)) ∧ ldJ F w (z + 1) (zI (mo x t + 3 + 3 * i : Nat)) = some (mL (rl (brw k x t) i)) := by
  have hm := mo_lim hx (Nat.lt_of_lt_of_le ht h.g.1)
  have hl := h.lim hx ht
  have hr := (h.row hx ht).2 i hi
  refine ⟨?_, ?_, ?_⟩
  · rw [h.get (by omega) (by omega), Int.toNat_natCast, hr.1]
  · rw [h.get (by omega) (by omega), Int.toNat_natCast, hr.2.1]
  · rw [h.get (by omega) (by omega), Int.toNat_natCast, hr.2.2]
theorem m_first (h : MS F w z k) {t i : Nat} (ht : t < bn k) (hi : i < rn (brw k (ban k) t)) : fX9_first F N w z (zI t) (zI i) = some (zI (rf (brw k (ban k) t) i)) := by
  unfold fX9_first
  rw [h.r]
  simp only [Option.bind_some]
  rw [m_at h]
  simp only [Option.bind_some]
  rw [(h.at h.g.2.1 ht hi).1]
  simp only [Option.bind_some, zJ_32]
theorem m_end (h : MS F w z k) {t i : Nat} (ht : t < bn k) (hi : i < rn (brw k (ban k) t)) : fX9_end F N w z (zI t) (zI i) = some (zI (re (brw k (ban k) t) i)) := by
  unfold fX9_end
  rw [h.r]
  simp only [Option.bind_some]
  rw [m_at h]
  simp only [Option.bind_some, z_1, zI_add]
  rw [show ((mo (ban k) t + 1 + 3 * i : Nat) : Int) + 1 = ((mo (ban k) t + 2 + 3 * i : Nat) : Int) from by omega, (h.at h.g.2.1 ht hi).2.1]
  simp only [Option.bind_some, zJ_32]
theorem m_label (h : MS F w z k) {t i : Nat} (ht : t < bn k) (hi : i < rn (brw k (ban k) t)) : fX9_label F N w z (zI t) (zI i) = some (mL (rl (brw k (ban k) t) i)) := by
  unfold fX9_label
  rw [h.r]
  simp only [Option.bind_some]
  rw [m_at h]
  simp only [Option.bind_some, z_2, zI_add]
  rw [show ((mo (ban k) t + 1 + 3 * i : Nat) : Int) + 2 = ((mo (ban k) t + 3 + 3 * i : Nat) : Int) from by omega, (h.at h.g.2.1 ht hi).2.2]
  rfl
theorem m_isSpan (h : MS F w z k) {t i : Int} (ht : -2147483648 ≤ t ∧ t < 2147483648) (hi : -2147483648 ≤ i ∧ i < 2147483648) : fX9_isSpan F N w z (zI t) (zI i) = some (if 0 ≤ t ∧ t < bn k ∧ 0 ≤ i ∧ i < rn (brw k (ban k) t.toNat) then 1 else 0) := by
  unfold fX9_isSpan
  rw [m_isTier h ht]
  simp only [Option.bind_some]
  by_cases c : 0 ≤ t ∧ t < bn k
  · rw [if_pos c, if_neg (by decide)]
    obtain ⟨t', rfl⟩ := Int.eq_ofNat_of_zero_le c.1
    have hb : t' < bn k := by omega
    have hl := h.lim h.g.2.1 hb
    rw [m_many h hb]
    simp only [Option.bind_some]
    rw [zI_sb1, z_0, m_in hi (by omega) (by omega)]
    simp only [Option.bind_some, Int.toNat_natCast]
    by_cases c2 : 0 ≤ i ∧ i < rn (brw k (ban k) t')
    · rw [if_pos (by omega : 0 ≤ i ∧ i ≤ (rn (brw k (ban k) t') : Int) - 1), if_neg (by decide), if_pos ⟨c.1, c.2, c2⟩]
    · rw [if_neg (by omega : ¬ (0 ≤ i ∧ i ≤ (rn (brw k (ban k) t') : Int) - 1)), if_pos (by rfl), if_neg (fun x => c2 x.2.2)]
  · rw [if_neg c, if_pos (by rfl), if_neg (fun x => c ⟨x.1, x.2.1⟩)]
theorem m_hostOf_17 (h : MS F w z k) {p : Nat} (hp : p < bn k) {u f e : Int} (hu : 1 ≤ u ∧ u ≤ 3) (hf : 0 ≤ f ∧ f ≤ 1000) (he : 0 ≤ e ∧ e ≤ 1000) : ∀ (m n i : Nat), i + n = rn (brw k (ban k) p) → n < m →
    fX9_hostOf_17 F N w m z (zI f) (zI e) (zI u) (zI p) (zI i) = some (zI (fnd (hstP u (brw k (ban k) p) f e) n i)) := by
  intro m
  induction m with
  | zero => intro n i _ h; omega
  | succ m ih =>
    intro n i hi hm
    have hl := h.lim h.g.2.1 hp
    unfold fX9_hostOf_17
    rw [if_neg (by simp (disch := omega) only [z_0, z_1, z_2, z_3, z_4, z_5, z_6, z_7, z_8, z_9, z_10, z_12, z_13, z_16, z_20, z_24, z_30, z_31, z_32, z_38, z_42, z_44, z_45, z_47, z_48, z_49, z_50, z_57, z_58, z_59, z_60, z_61, z_91, z_97, z_98, z_100, z_108, z_114, z_120, z_122, z_126, z_127, z_128, z_200, z_255, z_961, z_990, z_992, z_998, z_999, z_1000, z_1092, z_1114, z_7798, z_10000, z_1000000, zI_neg, zI_add, zI_sub, zI_mul, zI_lt, zI_le, zI_eq, if_pos, if_neg, if_true, if_false, Option.bind_some, bnd, ldI_is, ldJ_is, Int.toNat_natCast,  Int.not_le]; omega), m_many h hp]
    simp only [Option.bind_some]
    cases n with
    | zero => rw [if_pos (by simp (disch := omega) only [z_0, z_1, z_2, z_3, z_4, z_5, z_6, z_7, z_8, z_9, z_10, z_12, z_13, z_16, z_20, z_24, z_30, z_31, z_32, z_38, z_42, z_44, z_45, z_47, z_48, z_49, z_50, z_57, z_58, z_59, z_60, z_61, z_91, z_97, z_98, z_100, z_108, z_114, z_120, z_122, z_126, z_127, z_128, z_200, z_255, z_961, z_990, z_992, z_998, z_999, z_1000, z_1092, z_1114, z_7798, z_10000, z_1000000, zI_neg, zI_add, zI_sub, zI_mul, zI_lt, zI_le, zI_eq, if_pos, if_neg, if_true, if_false, Option.bind_some, bnd, ldI_is, ldJ_is, Int.toNat_natCast, ]; omega)]; rfl
    | succ n =>
      have hi2 : i < rn (brw k (ban k) p) := by omega
      have b := (h.grow h.g.2.1 hp).2 i hi2
      have no : fX9_hostOf_102 F N w (fX9_hostOf_17 F N w m) z (zI f) (zI e) (zI u) (zI p) (zI i) 0 = some (zI (fnd (hstP u (brw k (ban k) p) f e) n (i + 1))) := by
        unfold fX9_hostOf_102
        rw [if_pos rfl, zI_succ]
        exact ih n (i + 1) (by omega) (by omega)
      have ys : fX9_hostOf_102 F N w (fX9_hostOf_17 F N w m) z (zI f) (zI e) (zI u) (zI p) (zI i) 1 = some (zI i) := if_neg (by decide)
      rw [if_neg (by simp (disch := omega) only [z_0, z_1, z_2, z_3, z_4, z_5, z_6, z_7, z_8, z_9, z_10, z_12, z_13, z_16, z_20, z_24, z_30, z_31, z_32, z_38, z_42, z_44, z_45, z_47, z_48, z_49, z_50, z_57, z_58, z_59, z_60, z_61, z_91, z_97, z_98, z_100, z_108, z_114, z_120, z_122, z_126, z_127, z_128, z_200, z_255, z_961, z_990, z_992, z_998, z_999, z_1000, z_1092, z_1114, z_7798, z_10000, z_1000000, zI_neg, zI_add, zI_sub, zI_mul, zI_lt, zI_le, zI_eq, if_pos, if_neg, if_true, if_false, Option.bind_some, bnd, ldI_is, ldJ_is, Int.toNat_natCast,  Int.not_le]; omega), m_first h hp hi2, m_end h hp hi2]
      simp only [Option.bind_some]
      unfold fX9_hostOf_75 fX9_hostOf_97 fX9_hostOf_101
      rw [no, ys, fnd_succ]
      by_cases u1 : u = 1
      · rw [if_pos (by simp (disch := omega) only [z_0, z_1, z_2, z_3, z_4, z_5, z_6, z_7, z_8, z_9, z_10, z_12, z_13, z_16, z_20, z_24, z_30, z_31, z_32, z_38, z_42, z_44, z_45, z_47, z_48, z_49, z_50, z_57, z_58, z_59, z_60, z_61, z_91, z_97, z_98, z_100, z_108, z_114, z_120, z_122, z_126, z_127, z_128, z_200, z_255, z_961, z_990, z_992, z_998, z_999, z_1000, z_1092, z_1114, z_7798, z_10000, z_1000000, zI_neg, zI_add, zI_sub, zI_mul, zI_lt, zI_le, zI_eq, if_pos, if_neg, if_true, if_false, Option.bind_some, bnd, ldI_is, ldJ_is, Int.toNat_natCast, ]; exact u1)]
        by_cases c1 : f < rf (brw k (ban k) p) i
        · rw [if_pos (by simp (disch := omega) only [z_0, z_1, z_2, z_3, z_4, z_5, z_6, z_7, z_8, z_9, z_10, z_12, z_13, z_16, z_20, z_24, z_30, z_31, z_32, z_38, z_42, z_44, z_45, z_47, z_48, z_49, z_50, z_57, z_58, z_59, z_60, z_61, z_91, z_97, z_98, z_100, z_108, z_114, z_120, z_122, z_126, z_127, z_128, z_200, z_255, z_961, z_990, z_992, z_998, z_999, z_1000, z_1092, z_1114, z_7798, z_10000, z_1000000, zI_neg, zI_add, zI_sub, zI_mul, zI_lt, zI_le, zI_eq, if_pos, if_neg, if_true, if_false, Option.bind_some, bnd, ldI_is, ldJ_is, Int.toNat_natCast, ]; exact c1), if_neg (fun c => by rw [hstP_iff] at c; omega)]
        · rw [if_neg (by simp (disch := omega) only [z_0, z_1, z_2, z_3, z_4, z_5, z_6, z_7, z_8, z_9, z_10, z_12, z_13, z_16, z_20, z_24, z_30, z_31, z_32, z_38, z_42, z_44, z_45, z_47, z_48, z_49, z_50, z_57, z_58, z_59, z_60, z_61, z_91, z_97, z_98, z_100, z_108, z_114, z_120, z_122, z_126, z_127, z_128, z_200, z_255, z_961, z_990, z_992, z_998, z_999, z_1000, z_1092, z_1114, z_7798, z_10000, z_1000000, zI_neg, zI_add, zI_sub, zI_mul, zI_lt, zI_le, zI_eq, if_pos, if_neg, if_true, if_false, Option.bind_some, bnd, ldI_is, ldJ_is, Int.toNat_natCast,  Int.not_lt]; omega)]
          by_cases c2 : re (brw k (ban k) p) i < e
          · rw [if_pos (by simp (disch := omega) only [z_0, z_1, z_2, z_3, z_4, z_5, z_6, z_7, z_8, z_9, z_10, z_12, z_13, z_16, z_20, z_24, z_30, z_31, z_32, z_38, z_42, z_44, z_45, z_47, z_48, z_49, z_50, z_57, z_58, z_59, z_60, z_61, z_91, z_97, z_98, z_100, z_108, z_114, z_120, z_122, z_126, z_127, z_128, z_200, z_255, z_961, z_990, z_992, z_998, z_999, z_1000, z_1092, z_1114, z_7798, z_10000, z_1000000, zI_neg, zI_add, zI_sub, zI_mul, zI_lt, zI_le, zI_eq, if_pos, if_neg, if_true, if_false, Option.bind_some, bnd, ldI_is, ldJ_is, Int.toNat_natCast, ]; exact c2), if_neg (fun c => by rw [hstP_iff] at c; omega)]
          · rw [if_neg (by simp (disch := omega) only [z_0, z_1, z_2, z_3, z_4, z_5, z_6, z_7, z_8, z_9, z_10, z_12, z_13, z_16, z_20, z_24, z_30, z_31, z_32, z_38, z_42, z_44, z_45, z_47, z_48, z_49, z_50, z_57, z_58, z_59, z_60, z_61, z_91, z_97, z_98, z_100, z_108, z_114, z_120, z_122, z_126, z_127, z_128, z_200, z_255, z_961, z_990, z_992, z_998, z_999, z_1000, z_1092, z_1114, z_7798, z_10000, z_1000000, zI_neg, zI_add, zI_sub, zI_mul, zI_lt, zI_le, zI_eq, if_pos, if_neg, if_true, if_false, Option.bind_some, bnd, ldI_is, ldJ_is, Int.toNat_natCast,  Int.not_lt]; omega), if_pos (by rw [hstP_iff]; omega)]
      · rw [if_neg (by simp (disch := omega) only [z_0, z_1, z_2, z_3, z_4, z_5, z_6, z_7, z_8, z_9, z_10, z_12, z_13, z_16, z_20, z_24, z_30, z_31, z_32, z_38, z_42, z_44, z_45, z_47, z_48, z_49, z_50, z_57, z_58, z_59, z_60, z_61, z_91, z_97, z_98, z_100, z_108, z_114, z_120, z_122, z_126, z_127, z_128, z_200, z_255, z_961, z_990, z_992, z_998, z_999, z_1000, z_1092, z_1114, z_7798, z_10000, z_1000000, zI_neg, zI_add, zI_sub, zI_mul, zI_lt, zI_le, zI_eq, if_pos, if_neg, if_true, if_false, Option.bind_some, bnd, ldI_is, ldJ_is, Int.toNat_natCast,  u1, not_false_eq_true])]
        by_cases c1 : rf (brw k (ban k) p) i = f
        · rw [if_pos (by rw [c1])]
          by_cases c2 : u = 3
          · rw [if_pos (by simp (disch := omega) only [z_0, z_1, z_2, z_3, z_4, z_5, z_6, z_7, z_8, z_9, z_10, z_12, z_13, z_16, z_20, z_24, z_30, z_31, z_32, z_38, z_42, z_44, z_45, z_47, z_48, z_49, z_50, z_57, z_58, z_59, z_60, z_61, z_91, z_97, z_98, z_100, z_108, z_114, z_120, z_122, z_126, z_127, z_128, z_200, z_255, z_961, z_990, z_992, z_998, z_999, z_1000, z_1092, z_1114, z_7798, z_10000, z_1000000, zI_neg, zI_add, zI_sub, zI_mul, zI_lt, zI_le, zI_eq, if_pos, if_neg, if_true, if_false, Option.bind_some, bnd, ldI_is, ldJ_is, Int.toNat_natCast, ]; exact c2), if_pos (by rw [hstP_iff]; omega)]
          · rw [if_neg (by simp (disch := omega) only [z_0, z_1, z_2, z_3, z_4, z_5, z_6, z_7, z_8, z_9, z_10, z_12, z_13, z_16, z_20, z_24, z_30, z_31, z_32, z_38, z_42, z_44, z_45, z_47, z_48, z_49, z_50, z_57, z_58, z_59, z_60, z_61, z_91, z_97, z_98, z_100, z_108, z_114, z_120, z_122, z_126, z_127, z_128, z_200, z_255, z_961, z_990, z_992, z_998, z_999, z_1000, z_1092, z_1114, z_7798, z_10000, z_1000000, zI_neg, zI_add, zI_sub, zI_mul, zI_lt, zI_le, zI_eq, if_pos, if_neg, if_true, if_false, Option.bind_some, bnd, ldI_is, ldJ_is, Int.toNat_natCast,  c2, not_false_eq_true])]
            by_cases c3 : re (brw k (ban k) p) i = e
            · rw [if_pos (by rw [c3]), if_pos (by rw [hstP_iff]; omega)]
            · rw [if_neg (by simp (disch := omega) only [z_0, z_1, z_2, z_3, z_4, z_5, z_6, z_7, z_8, z_9, z_10, z_12, z_13, z_16, z_20, z_24, z_30, z_31, z_32, z_38, z_42, z_44, z_45, z_47, z_48, z_49, z_50, z_57, z_58, z_59, z_60, z_61, z_91, z_97, z_98, z_100, z_108, z_114, z_120, z_122, z_126, z_127, z_128, z_200, z_255, z_961, z_990, z_992, z_998, z_999, z_1000, z_1092, z_1114, z_7798, z_10000, z_1000000, zI_neg, zI_add, zI_sub, zI_mul, zI_lt, zI_le, zI_eq, if_pos, if_neg, if_true, if_false, Option.bind_some, bnd, ldI_is, ldJ_is, Int.toNat_natCast,  c3, not_false_eq_true]), if_neg (fun c => by rw [hstP_iff] at c; omega)]
        · rw [if_neg (by simp (disch := omega) only [z_0, z_1, z_2, z_3, z_4, z_5, z_6, z_7, z_8, z_9, z_10, z_12, z_13, z_16, z_20, z_24, z_30, z_31, z_32, z_38, z_42, z_44, z_45, z_47, z_48, z_49, z_50, z_57, z_58, z_59, z_60, z_61, z_91, z_97, z_98, z_100, z_108, z_114, z_120, z_122, z_126, z_127, z_128, z_200, z_255, z_961, z_990, z_992, z_998, z_999, z_1000, z_1092, z_1114, z_7798, z_10000, z_1000000, zI_neg, zI_add, zI_sub, zI_mul, zI_lt, zI_le, zI_eq, if_pos, if_neg, if_true, if_false, Option.bind_some, bnd, ldI_is, ldJ_is, Int.toNat_natCast,  c1, not_false_eq_true]), if_neg (fun c => by rw [hstP_iff] at c; omega)]
theorem hostB_lim (h : GBook k) {x t : Nat} (hx : x < 2) (ht : t < bn k) (f e : Int) : -1 ≤ hostB k x t f e ∧ hostB k x t f e ≤ 31 := by
  unfold hostB
  by_cases c : brl k t = 0
  · rw [if_pos c]; omega
  · rw [if_neg c]
    have g := h.2.2.2.2 t ht
    have hp : (bpr k t).toNat < bn k := by have := g.2.2.1; have := g.2.2.2.2.1 c; omega
    have h1 := ((h.2.2.2.2 _ hp).2.2.2.2.2 x hx).1
    have := hst_lim (brl k t) (brw k x (bpr k t).toNat) f e
    omega
theorem m_hostOf (h : MS F w z k) (hN : 40 ≤ N) {t : Nat} (ht : t < bn k) {f e : Int} (hf : 0 ≤ f ∧ f ≤ 1000) (he : 0 ≤ e ∧ e ≤ 1000) : fX9_hostOf F N w z (zI t) (zI f) (zI e) = some (zI (hostB k (ban k) t f e)) := by
  have g := h.g.2.2.2.2 t ht
  unfold fX9_hostOf hostB
  rw [m_rule h ht, m_parent h ht]
  simp only [Option.bind_some]
  by_cases c : brl k t = 0
  · rw [if_pos c]
    obtain ⟨N', rfl⟩ : ∃ N', N = N' + 1 := ⟨N - 1, by omega⟩
    unfold fX9_hostOf_17
    rw [if_pos (by simp (disch := omega) only [z_0, z_1, z_2, z_3, z_4, z_5, z_6, z_7, z_8, z_9, z_10, z_12, z_13, z_16, z_20, z_24, z_30, z_31, z_32, z_38, z_42, z_44, z_45, z_47, z_48, z_49, z_50, z_57, z_58, z_59, z_60, z_61, z_91, z_97, z_98, z_100, z_108, z_114, z_120, z_122, z_126, z_127, z_128, z_200, z_255, z_961, z_990, z_992, z_998, z_999, z_1000, z_1092, z_1114, z_7798, z_10000, z_1000000, zI_neg, zI_add, zI_sub, zI_mul, zI_lt, zI_le, zI_eq, if_pos, if_neg, if_true, if_false, Option.bind_some, bnd, ldI_is, ldJ_is, Int.toNat_natCast, ]; omega)]
    rfl
  · rw [if_neg c]
    have g3 := g.2.2.2.2.1 c
    have g4 := g.2.2.1
    have hp : (bpr k t).toNat < bn k := by omega
    have hl := h.lim h.g.2.1 hp
    rw [show bpr k t = ((bpr k t).toNat : Int) from by omega]
    exact m_hostOf_17 h hp (by omega) hf he N (rn (brw k (ban k) (bpr k t).toNat)) 0 (by omega) (by omega)
theorem m_lacksHost (h : MS F w z k) (hN : 40 ≤ N) {t : Nat} (ht : t < bn k) {f e : Int} (hf : 0 ≤ f ∧ f ≤ 1000) (he : 0 ≤ e ∧ e ≤ 1000) : fX9_lacksHost F N w z (zI t) (zI f) (zI e) = some (if lack k (ban k) t f e = true then 1 else 0) := by
  have g := h.g.2.2.2.2 t ht
  have hb := hostB_lim h.g h.g.2.1 ht f e
  unfold fX9_lacksHost lack
  rw [m_rule h ht]
  simp only [Option.bind_some, decide_eq_true_eq]
  by_cases c : brl k t = 0
  · rw [if_pos (by simp (disch := omega) only [z_0, z_1, z_2, z_3, z_4, z_5, z_6, z_7, z_8, z_9, z_10, z_12, z_13, z_16, z_20, z_24, z_30, z_31, z_32, z_38, z_42, z_44, z_45, z_47, z_48, z_49, z_50, z_57, z_58, z_59, z_60, z_61, z_91, z_97, z_98, z_100, z_108, z_114, z_120, z_122, z_126, z_127, z_128, z_200, z_255, z_961, z_990, z_992, z_998, z_999, z_1000, z_1092, z_1114, z_7798, z_10000, z_1000000, zI_neg, zI_add, zI_sub, zI_mul, zI_lt, zI_le, zI_eq, if_pos, if_neg, if_true, if_false, Option.bind_some, bnd, ldI_is, ldJ_is, Int.toNat_natCast, ]; omega), if_neg (fun x => x.1 c)]
  · rw [if_neg (by simp (disch := omega) only [z_0, z_1, z_2, z_3, z_4, z_5, z_6, z_7, z_8, z_9, z_10, z_12, z_13, z_16, z_20, z_24, z_30, z_31, z_32, z_38, z_42, z_44, z_45, z_47, z_48, z_49, z_50, z_57, z_58, z_59, z_60, z_61, z_91, z_97, z_98, z_100, z_108, z_114, z_120, z_122, z_126, z_127, z_128, z_200, z_255, z_961, z_990, z_992, z_998, z_999, z_1000, z_1092, z_1114, z_7798, z_10000, z_1000000, zI_neg, zI_add, zI_sub, zI_mul, zI_lt, zI_le, zI_eq, if_pos, if_neg, if_true, if_false, Option.bind_some, bnd, ldI_is, ldJ_is, Int.toNat_natCast,  Int.not_le]; omega), m_hostOf h hN ht hf he]
    simp only [Option.bind_some]
    by_cases c2 : hostB k (ban k) t f e = -1
    · rw [if_neg (by simp (disch := omega) only [z_0, z_1, z_2, z_3, z_4, z_5, z_6, z_7, z_8, z_9, z_10, z_12, z_13, z_16, z_20, z_24, z_30, z_31, z_32, z_38, z_42, z_44, z_45, z_47, z_48, z_49, z_50, z_57, z_58, z_59, z_60, z_61, z_91, z_97, z_98, z_100, z_108, z_114, z_120, z_122, z_126, z_127, z_128, z_200, z_255, z_961, z_990, z_992, z_998, z_999, z_1000, z_1092, z_1114, z_7798, z_10000, z_1000000, zI_neg, zI_add, zI_sub, zI_mul, zI_lt, zI_le, zI_eq, if_pos, if_neg, if_true, if_false, Option.bind_some, bnd, ldI_is, ldJ_is, Int.toNat_natCast,  Int.not_le]; omega), if_pos ⟨c, c2⟩]
    · rw [if_pos (by simp (disch := omega) only [z_0, z_1, z_2, z_3, z_4, z_5, z_6, z_7, z_8, z_9, z_10, z_12, z_13, z_16, z_20, z_24, z_30, z_31, z_32, z_38, z_42, z_44, z_45, z_47, z_48, z_49, z_50, z_57, z_58, z_59, z_60, z_61, z_91, z_97, z_98, z_100, z_108, z_114, z_120, z_122, z_126, z_127, z_128, z_200, z_255, z_961, z_990, z_992, z_998, z_999, z_1000, z_1092, z_1114, z_7798, z_10000, z_1000000, zI_neg, zI_add, zI_sub, zI_mul, zI_lt, zI_le, zI_eq, if_pos, if_neg, if_true, if_false, Option.bind_some, bnd, ldI_is, ldJ_is, Int.toNat_natCast, ]; omega), if_neg (fun x => c2 x.2)]
theorem m_hostless_2 (h : MS F w z k) (hN : 40 ≤ N) {t : Nat} (ht : t < bn k) : ∀ (m n i : Nat), i + n = rn (brw k (ban k) t) → n < m →
    fX9_hostless_2 F N w m z (zI t) (zI i) = some (zI (fnd (orpP k (ban k) t) n i)) := by
  intro m
  induction m with
  | zero => intro n i _ h; omega
  | succ m ih =>
    intro n i hi hm
    have hl := h.lim h.g.2.1 ht
    unfold fX9_hostless_2 fX9_hostless_37
    rw [m_many h ht]
    simp only [Option.bind_some]
    cases n with
    | zero => rw [if_pos (by simp (disch := omega) only [z_0, z_1, z_2, z_3, z_4, z_5, z_6, z_7, z_8, z_9, z_10, z_12, z_13, z_16, z_20, z_24, z_30, z_31, z_32, z_38, z_42, z_44, z_45, z_47, z_48, z_49, z_50, z_57, z_58, z_59, z_60, z_61, z_91, z_97, z_98, z_100, z_108, z_114, z_120, z_122, z_126, z_127, z_128, z_200, z_255, z_961, z_990, z_992, z_998, z_999, z_1000, z_1092, z_1114, z_7798, z_10000, z_1000000, zI_neg, zI_add, zI_sub, zI_mul, zI_lt, zI_le, zI_eq, if_pos, if_neg, if_true, if_false, Option.bind_some, bnd, ldI_is, ldJ_is, Int.toNat_natCast, ]; omega)]; rw [if_pos (by simp (disch := omega) only [z_0, z_1, z_2, z_3, z_4, z_5, z_6, z_7, z_8, z_9, z_10, z_12, z_13, z_16, z_20, z_24, z_30, z_31, z_32, z_38, z_42, z_44, z_45, z_47, z_48, z_49, z_50, z_57, z_58, z_59, z_60, z_61, z_91, z_97, z_98, z_100, z_108, z_114, z_120, z_122, z_126, z_127, z_128, z_200, z_255, z_961, z_990, z_992, z_998, z_999, z_1000, z_1092, z_1114, z_7798, z_10000, z_1000000, zI_neg, zI_add, zI_sub, zI_mul, zI_lt, zI_le, zI_eq, if_pos, if_neg, if_true, if_false, Option.bind_some, bnd, ldI_is, ldJ_is, Int.toNat_natCast, ]; omega)]; rfl
    | succ n =>
      have hi2 : i < rn (brw k (ban k) t) := by omega
      have b := (h.grow h.g.2.1 ht).2 i hi2
      rw [if_neg (by simp (disch := omega) only [z_0, z_1, z_2, z_3, z_4, z_5, z_6, z_7, z_8, z_9, z_10, z_12, z_13, z_16, z_20, z_24, z_30, z_31, z_32, z_38, z_42, z_44, z_45, z_47, z_48, z_49, z_50, z_57, z_58, z_59, z_60, z_61, z_91, z_97, z_98, z_100, z_108, z_114, z_120, z_122, z_126, z_127, z_128, z_200, z_255, z_961, z_990, z_992, z_998, z_999, z_1000, z_1092, z_1114, z_7798, z_10000, z_1000000, zI_neg, zI_add, zI_sub, zI_mul, zI_lt, zI_le, zI_eq, if_pos, if_neg, if_true, if_false, Option.bind_some, bnd, ldI_is, ldJ_is, Int.toNat_natCast,  Int.not_le]; omega), m_first h ht hi2, m_end h ht hi2]
      simp only [Option.bind_some]
      rw [m_lacksHost h hN ht (by omega) (by omega), fnd_succ]
      simp only [Option.bind_some]
      by_cases c : orpP k (ban k) t i = true
      · have c' : lack k (ban k) t (rf (brw k (ban k) t) i) (re (brw k (ban k) t) i) = true := c
        rw [if_pos c', if_neg (by decide), if_neg (by simp (disch := omega) only [z_0, z_1, z_2, z_3, z_4, z_5, z_6, z_7, z_8, z_9, z_10, z_12, z_13, z_16, z_20, z_24, z_30, z_31, z_32, z_38, z_42, z_44, z_45, z_47, z_48, z_49, z_50, z_57, z_58, z_59, z_60, z_61, z_91, z_97, z_98, z_100, z_108, z_114, z_120, z_122, z_126, z_127, z_128, z_200, z_255, z_961, z_990, z_992, z_998, z_999, z_1000, z_1092, z_1114, z_7798, z_10000, z_1000000, zI_neg, zI_add, zI_sub, zI_mul, zI_lt, zI_le, zI_eq, if_pos, if_neg, if_true, if_false, Option.bind_some, bnd, ldI_is, ldJ_is, Int.toNat_natCast,  Int.not_le]; omega), if_pos c]
      · have c' : ¬ lack k (ban k) t (rf (brw k (ban k) t) i) (re (brw k (ban k) t) i) = true := c
        rw [if_neg c', if_pos (by rfl), if_neg c, zI_succ]
        exact ih n (i + 1) (by omega) (by omega)
theorem m_hostless (h : MS F w z k) (hN : 40 ≤ N) {t : Nat} (ht : t < bn k) : fX9_hostless F N w z (zI t) = some (zI (fnd (orpP k (ban k) t) (rn (brw k (ban k) t)) 0)) := by
  have hl := h.lim h.g.2.1 ht
  exact m_hostless_2 h hN ht N (rn (brw k (ban k) t)) 0 (by omega) (by omega)
theorem m_hostlessTier_2 (h : MS F w z k) (hN : 40 ≤ N) : ∀ (m n i : Nat), i + n = bn k → n < m →
    fX9_hostlessTier_2 F N w m z (zI i) = some (zI (fnd (orp k (ban k)) n i)) := by
  intro m
  induction m with
  | zero => intro n i _ h; omega
  | succ m ih =>
    intro n i hi hm
    have hn := h.g.1
    unfold fX9_hostlessTier_2 fX9_hostlessTier_24
    rw [m_tiers h]
    simp only [Option.bind_some]
    cases n with
    | zero => rw [if_pos (by simp (disch := omega) only [z_0, z_1, z_2, z_3, z_4, z_5, z_6, z_7, z_8, z_9, z_10, z_12, z_13, z_16, z_20, z_24, z_30, z_31, z_32, z_38, z_42, z_44, z_45, z_47, z_48, z_49, z_50, z_57, z_58, z_59, z_60, z_61, z_91, z_97, z_98, z_100, z_108, z_114, z_120, z_122, z_126, z_127, z_128, z_200, z_255, z_961, z_990, z_992, z_998, z_999, z_1000, z_1092, z_1114, z_7798, z_10000, z_1000000, zI_neg, zI_add, zI_sub, zI_mul, zI_lt, zI_le, zI_eq, if_pos, if_neg, if_true, if_false, Option.bind_some, bnd, ldI_is, ldJ_is, Int.toNat_natCast, ]; omega)]; rw [if_pos (by simp (disch := omega) only [z_0, z_1, z_2, z_3, z_4, z_5, z_6, z_7, z_8, z_9, z_10, z_12, z_13, z_16, z_20, z_24, z_30, z_31, z_32, z_38, z_42, z_44, z_45, z_47, z_48, z_49, z_50, z_57, z_58, z_59, z_60, z_61, z_91, z_97, z_98, z_100, z_108, z_114, z_120, z_122, z_126, z_127, z_128, z_200, z_255, z_961, z_990, z_992, z_998, z_999, z_1000, z_1092, z_1114, z_7798, z_10000, z_1000000, zI_neg, zI_add, zI_sub, zI_mul, zI_lt, zI_le, zI_eq, if_pos, if_neg, if_true, if_false, Option.bind_some, bnd, ldI_is, ldJ_is, Int.toNat_natCast, ]; omega)]; rfl
    | succ n =>
      have hi2 : i < bn k := by omega
      have hl := h.lim h.g.2.1 hi2
      have hf := fnd_lim (orpP k (ban k) i) (rn (brw k (ban k) i)) 0
      rw [if_neg (by simp (disch := omega) only [z_0, z_1, z_2, z_3, z_4, z_5, z_6, z_7, z_8, z_9, z_10, z_12, z_13, z_16, z_20, z_24, z_30, z_31, z_32, z_38, z_42, z_44, z_45, z_47, z_48, z_49, z_50, z_57, z_58, z_59, z_60, z_61, z_91, z_97, z_98, z_100, z_108, z_114, z_120, z_122, z_126, z_127, z_128, z_200, z_255, z_961, z_990, z_992, z_998, z_999, z_1000, z_1092, z_1114, z_7798, z_10000, z_1000000, zI_neg, zI_add, zI_sub, zI_mul, zI_lt, zI_le, zI_eq, if_pos, if_neg, if_true, if_false, Option.bind_some, bnd, ldI_is, ldJ_is, Int.toNat_natCast,  Int.not_le]; omega), m_hostless h hN hi2, fnd_succ]
      simp only [Option.bind_some]
      by_cases c : fnd (orpP k (ban k) i) (rn (brw k (ban k) i)) 0 = -1
      · have c' : ¬ orp k (ban k) i = true := by unfold orp; rw [decide_eq_true_eq]; exact fun x => x c
        rw [if_neg (by simp (disch := omega) only [z_0, z_1, z_2, z_3, z_4, z_5, z_6, z_7, z_8, z_9, z_10, z_12, z_13, z_16, z_20, z_24, z_30, z_31, z_32, z_38, z_42, z_44, z_45, z_47, z_48, z_49, z_50, z_57, z_58, z_59, z_60, z_61, z_91, z_97, z_98, z_100, z_108, z_114, z_120, z_122, z_126, z_127, z_128, z_200, z_255, z_961, z_990, z_992, z_998, z_999, z_1000, z_1092, z_1114, z_7798, z_10000, z_1000000, zI_neg, zI_add, zI_sub, zI_mul, zI_lt, zI_le, zI_eq, if_pos, if_neg, if_true, if_false, Option.bind_some, bnd, ldI_is, ldJ_is, Int.toNat_natCast,  Int.not_le]; omega), if_neg c', zI_succ]
        exact ih n (i + 1) (by omega) (by omega)
      · have c' : orp k (ban k) i = true := by unfold orp; rw [decide_eq_true_eq]; exact c
        rw [if_pos (by simp (disch := omega) only [z_0, z_1, z_2, z_3, z_4, z_5, z_6, z_7, z_8, z_9, z_10, z_12, z_13, z_16, z_20, z_24, z_30, z_31, z_32, z_38, z_42, z_44, z_45, z_47, z_48, z_49, z_50, z_57, z_58, z_59, z_60, z_61, z_91, z_97, z_98, z_100, z_108, z_114, z_120, z_122, z_126, z_127, z_128, z_200, z_255, z_961, z_990, z_992, z_998, z_999, z_1000, z_1092, z_1114, z_7798, z_10000, z_1000000, zI_neg, zI_add, zI_sub, zI_mul, zI_lt, zI_le, zI_eq, if_pos, if_neg, if_true, if_false, Option.bind_some, bnd, ldI_is, ldJ_is, Int.toNat_natCast, ]; omega), if_neg (by simp (disch := omega) only [z_0, z_1, z_2, z_3, z_4, z_5, z_6, z_7, z_8, z_9, z_10, z_12, z_13, z_16, z_20, z_24, z_30, z_31, z_32, z_38, z_42, z_44, z_45, z_47, z_48, z_49, z_50, z_57, z_58, z_59, z_60, z_61, z_91, z_97, z_98, z_100, z_108, z_114, z_120, z_122, z_126, z_127, z_128, z_200, z_255, z_961, z_990, z_992, z_998, z_999, z_1000, z_1092, z_1114, z_7798, z_10000, z_1000000, zI_neg, zI_add, zI_sub, zI_mul, zI_lt, zI_le, zI_eq, if_pos, if_neg, if_true, if_false, Option.bind_some, bnd, ldI_is, ldJ_is, Int.toNat_natCast,  Int.not_le]; omega), if_pos c']
theorem m_hostlessTier (h : MS F w z k) (hN : 40 ≤ N) : fX9_hostlessTier F N w z = some (zI (fnd (orp k (ban k)) (bn k) 0)) := by
  have hn := h.g.1
  exact m_hostlessTier_2 h hN N (bn k) 0 (by omega) (by omega)
theorem m_framesOf_12 (h : MS F w z k) {x t : Nat} (hx : x < 2) (ht : t < bn k) : ∀ (m n i : Nat), i + n = rn (brw k x t) → n < m →
    fX9_framesOf_12 F N w m z (zI (mo x t : Nat)) (zI (sumN (fun i => re (brw k x t) i - rf (brw k x t) i) i)) (zI i) = some (zI (fsum (brw k x t))) := by
  intro m
  induction m with
  | zero => intro n i _ h; omega
  | succ m ih =>
    intro n i hi hm
    have hl := h.lim hx ht
    unfold fX9_framesOf_12
    rw [h.r]
    simp only [Option.bind_some]
    rw [h.cnt hx ht]
    simp only [Option.bind_some]
    rw [zI_64 (by omega) (by omega)]
    have hg := lg_ge (x := (i : Int)) (y := (rn (brw k x t) : Int)) (by omega) (by omega) (by omega) (by omega)
    cases n with
    | zero => rw [if_pos (by rw [hg]; omega)]; have e9 : i = rn (brw k x t) := by omega
              subst e9; rfl
    | succ n =>
      have hi2 : i < rn (brw k x t) := by omega
      have b := h.at hx ht hi2
      rw [if_neg (by rw [hg]; omega)]
      simp only [z_1, z_2, z_3, zI_mul, zI_add]
      rw [show ((mo x t : Nat) : Int) + 2 + 3 * (i : Int) = ((mo x t + 2 + 3 * i : Nat) : Int) from by omega, show ((mo x t : Nat) : Int) + 1 + 3 * (i : Int) = ((mo x t + 1 + 3 * i : Nat) : Int) from by omega, b.2.1, b.1]
      simp only [Option.bind_some, bnd, zJ_sub, zJ_32, zI_add]
      have e1 := sumN_succ (fun i => re (brw k x t) i - rf (brw k x t) i) i
      rw [e1, show (i : Int) + 1 = ((i + 1 : Nat) : Int) from by omega]
      exact ih n (i + 1) (by omega) (by omega)
theorem m_framesOf (h : MS F w z k) (hN : 40 ≤ N) {x t : Nat} (hx : x < 2) (ht : t < bn k) : fX9_framesOf F N w z (zI x) (zI t) = some (zI (fsum (brw k x t))) := by
  have hl := h.lim hx ht
  unfold fX9_framesOf
  rw [m_row]
  simp only [Option.bind_some]
  exact m_framesOf_12 h hx ht N (rn (brw k x t)) 0 (by omega) (by omega)
theorem m_dl_0 (t i : Nat) {A : Int} {k4 : Nat → Int32 → Int32 → Int32 → Option Int32} (hi : i < 100) : ∀ (m n j : Nat), j + n = i → n < m →
    fX9_differentLabels_19 F N w k4 m z (zI t) (zI A) (zI i) 0 (zI j) = k4 z (zI t) (zI A) (zI i + 1) := by
  intro m
  induction m with
  | zero => intro n j _ h; omega
  | succ m ih =>
    intro n j hj hm
    unfold fX9_differentLabels_19 fX9_differentLabels_51 fX9_differentLabels_52 fX9_differentLabels_71
    simp only [bnd]
    cases n with
    | zero => rw [if_pos (by simp (disch := omega) only [z_0, z_1, z_2, z_3, z_4, z_5, z_6, z_7, z_8, z_9, z_10, z_12, z_13, z_16, z_20, z_24, z_30, z_31, z_32, z_38, z_42, z_44, z_45, z_47, z_48, z_49, z_50, z_57, z_58, z_59, z_60, z_61, z_91, z_97, z_98, z_100, z_108, z_114, z_120, z_122, z_126, z_127, z_128, z_200, z_255, z_961, z_990, z_992, z_998, z_999, z_1000, z_1092, z_1114, z_7798, z_10000, z_1000000, zI_neg, zI_add, zI_sub, zI_mul, zI_lt, zI_le, zI_eq, if_pos, if_neg, if_true, if_false, Option.bind_some, bnd, ldI_is, ldJ_is, Int.toNat_natCast, ]; omega), if_pos trivial, z_0, zI_add, Int.add_zero]
    | succ n =>
      rw [if_neg (by simp (disch := omega) only [z_0, z_1, z_2, z_3, z_4, z_5, z_6, z_7, z_8, z_9, z_10, z_12, z_13, z_16, z_20, z_24, z_30, z_31, z_32, z_38, z_42, z_44, z_45, z_47, z_48, z_49, z_50, z_57, z_58, z_59, z_60, z_61, z_91, z_97, z_98, z_100, z_108, z_114, z_120, z_122, z_126, z_127, z_128, z_200, z_255, z_961, z_990, z_992, z_998, z_999, z_1000, z_1092, z_1114, z_7798, z_10000, z_1000000, zI_neg, zI_add, zI_sub, zI_mul, zI_lt, zI_le, zI_eq, if_pos, if_neg, if_true, if_false, Option.bind_some, bnd, ldI_is, ldJ_is, Int.toNat_natCast,  Int.not_le]; omega), if_pos trivial, zI_succ j]
      exact ih n (j + 1) (by omega) (by omega)
theorem m_dl_19 (h : MS F w z k) {t i : Nat} (ht : t < bn k) (hi : i < rn (brw k (ban k) t)) {A : Int} {k4 : Nat → Int32 → Int32 → Int32 → Option Int32} : ∀ (m n j : Nat), j + n = i → n < m →
    fX9_differentLabels_19 F N w k4 m z (zI t) (zI A) (zI i) 1 (zI j) = k4 z (zI t) (zI (A + if fnd (fun j => decide (rl (brw k (ban k) t) j = rl (brw k (ban k) t) i)) n j = -1 then 1 else 0)) (zI i + 1) := by
  intro m
  induction m with
  | zero => intro n j _ h; omega
  | succ m ih =>
    intro n j hj hm
    have hl := h.lim h.g.2.1 ht
    unfold fX9_differentLabels_19 fX9_differentLabels_51 fX9_differentLabels_52 fX9_differentLabels_71
    simp only [bnd]
    cases n with
    | zero =>
      rw [if_pos (by simp (disch := omega) only [z_0, z_1, z_2, z_3, z_4, z_5, z_6, z_7, z_8, z_9, z_10, z_12, z_13, z_16, z_20, z_24, z_30, z_31, z_32, z_38, z_42, z_44, z_45, z_47, z_48, z_49, z_50, z_57, z_58, z_59, z_60, z_61, z_91, z_97, z_98, z_100, z_108, z_114, z_120, z_122, z_126, z_127, z_128, z_200, z_255, z_961, z_990, z_992, z_998, z_999, z_1000, z_1092, z_1114, z_7798, z_10000, z_1000000, zI_neg, zI_add, zI_sub, zI_mul, zI_lt, zI_le, zI_eq, if_pos, if_neg, if_true, if_false, Option.bind_some, bnd, ldI_is, ldJ_is, Int.toNat_natCast, ]; omega), if_neg (by decide)]
      rw [if_pos (c := fnd (fun j => decide (rl (brw k (ban k) t) j = rl (brw k (ban k) t) i)) 0 j = -1) rfl, z_1, zI_add]
    | succ n =>
      have hj2 : j < rn (brw k (ban k) t) := by omega
      have v1 := ((h.grow h.g.2.1 ht).2 j hj2).2.2.2.2
      have v2 := ((h.grow h.g.2.1 ht).2 i hi).2.2.2.2
      rw [if_neg (by simp (disch := omega) only [z_0, z_1, z_2, z_3, z_4, z_5, z_6, z_7, z_8, z_9, z_10, z_12, z_13, z_16, z_20, z_24, z_30, z_31, z_32, z_38, z_42, z_44, z_45, z_47, z_48, z_49, z_50, z_57, z_58, z_59, z_60, z_61, z_91, z_97, z_98, z_100, z_108, z_114, z_120, z_122, z_126, z_127, z_128, z_200, z_255, z_961, z_990, z_992, z_998, z_999, z_1000, z_1092, z_1114, z_7798, z_10000, z_1000000, zI_neg, zI_add, zI_sub, zI_mul, zI_lt, zI_le, zI_eq, if_pos, if_neg, if_true, if_false, Option.bind_some, bnd, ldI_is, ldJ_is, Int.toNat_natCast,  Int.not_le]; omega), if_neg (by decide), zI_succ j, m_label h ht hj2, m_label h ht hi, fnd_succ]
      simp only [Option.bind_some]
      by_cases c : rl (brw k (ban k) t) j = rl (brw k (ban k) t) i
      · rw [if_pos (by rw [lg_cmp_eq, c]), if_pos (c := decide (rl (brw k (ban k) t) j = rl (brw k (ban k) t) i) = true) (by rw [decide_eq_true_eq]; exact c), if_neg (c := (j : Int) = -1) (by omega), Int.add_zero]
        exact m_dl_0 t i (by omega) m n (j + 1) (by omega) (by omega)
      · rw [if_neg (by rw [lg_cmp_eq, mL_inj v1 v2]; exact c), if_neg (c := decide (rl (brw k (ban k) t) j = rl (brw k (ban k) t) i) = true) (by rw [decide_eq_true_eq]; exact c)]
        exact ih n (j + 1) (by omega) (by omega)
theorem m_dl_4 (h : MS F w z k) (hN : 40 ≤ N) {t : Nat} (ht : t < bn k) : ∀ (m n i : Nat), i + n = rn (brw k (ban k) t) → n < m →
    fX9_differentLabels_4 F N w m z (zI t) (zI (sumN (fun i => if lnew (brw k (ban k) t) i = -1 then 1 else 0) i)) (zI i) = some (zI (lcnt (brw k (ban k) t))) := by
  intro m
  induction m with
  | zero => intro n i _ h; omega
  | succ m ih =>
    intro n i hi hm
    have hl := h.lim h.g.2.1 ht
    unfold fX9_differentLabels_4
    rw [m_many h ht]
    simp only [Option.bind_some]
    cases n with
    | zero => rw [if_pos (by simp (disch := omega) only [z_0, z_1, z_2, z_3, z_4, z_5, z_6, z_7, z_8, z_9, z_10, z_12, z_13, z_16, z_20, z_24, z_30, z_31, z_32, z_38, z_42, z_44, z_45, z_47, z_48, z_49, z_50, z_57, z_58, z_59, z_60, z_61, z_91, z_97, z_98, z_100, z_108, z_114, z_120, z_122, z_126, z_127, z_128, z_200, z_255, z_961, z_990, z_992, z_998, z_999, z_1000, z_1092, z_1114, z_7798, z_10000, z_1000000, zI_neg, zI_add, zI_sub, zI_mul, zI_lt, zI_le, zI_eq, if_pos, if_neg, if_true, if_false, Option.bind_some, bnd, ldI_is, ldJ_is, Int.toNat_natCast, ]; omega)]; have e9 : i = rn (brw k (ban k) t) := by omega
              subst e9; rfl
    | succ n =>
      rw [if_neg (by simp (disch := omega) only [z_0, z_1, z_2, z_3, z_4, z_5, z_6, z_7, z_8, z_9, z_10, z_12, z_13, z_16, z_20, z_24, z_30, z_31, z_32, z_38, z_42, z_44, z_45, z_47, z_48, z_49, z_50, z_57, z_58, z_59, z_60, z_61, z_91, z_97, z_98, z_100, z_108, z_114, z_120, z_122, z_126, z_127, z_128, z_200, z_255, z_961, z_990, z_992, z_998, z_999, z_1000, z_1092, z_1114, z_7798, z_10000, z_1000000, zI_neg, zI_add, zI_sub, zI_mul, zI_lt, zI_le, zI_eq, if_pos, if_neg, if_true, if_false, Option.bind_some, bnd, ldI_is, ldJ_is, Int.toNat_natCast,  Int.not_le]; omega)]
      have e := m_dl_19 (N := N) (A := sumN (fun i => if lnew (brw k (ban k) t) i = -1 then 1 else 0) i) (k4 := fX9_differentLabels_4 F N w m) h ht (i := i) (by omega) N i 0 (by omega) (by omega)
      refine e.trans ?_
      rw [zI_succ]
      have ih := ih n (i + 1) (by omega) (by omega)
      rw [← sumN_succ] at ih
      exact ih
theorem m_differentLabels (h : MS F w z k) (hN : 40 ≤ N) {t : Nat} (ht : t < bn k) : fX9_differentLabels F N w z (zI t) = some (zI (lcnt (brw k (ban k) t))) := by
  have hl := h.lim h.g.2.1 ht
  exact m_dl_4 h hN ht N (rn (brw k (ban k) t)) 0 (by omega) (by omega)
theorem m_inTheWay_3 (h : MS F w z k) {t : Nat} (ht : t < bn k) {f e x : Int} (hf : 0 ≤ f ∧ f ≤ 1000) (he : 0 ≤ e ∧ e ≤ 1000) (hx : -1 ≤ x ∧ x ≤ 100) : ∀ (m n i : Nat), i + n = rn (brw k (ban k) t) → n < m →
    fX9_inTheWay_3 F N w m z (zI t) (zI x) (zI f) (zI e) (zI i) = some (zI (fnd (metP (brw k (ban k) t) f e x) n i)) := by
  intro m
  induction m with
  | zero => intro n i _ h; omega
  | succ m ih =>
    intro n i hi hm
    have hl := h.lim h.g.2.1 ht
    unfold fX9_inTheWay_3 fX9_inTheWay_45
    rw [m_many h ht]
    simp only [Option.bind_some]
    cases n with
    | zero => rw [if_pos (by simp (disch := omega) only [z_0, z_1, z_2, z_3, z_4, z_5, z_6, z_7, z_8, z_9, z_10, z_12, z_13, z_16, z_20, z_24, z_30, z_31, z_32, z_38, z_42, z_44, z_45, z_47, z_48, z_49, z_50, z_57, z_58, z_59, z_60, z_61, z_91, z_97, z_98, z_100, z_108, z_114, z_120, z_122, z_126, z_127, z_128, z_200, z_255, z_961, z_990, z_992, z_998, z_999, z_1000, z_1092, z_1114, z_7798, z_10000, z_1000000, zI_neg, zI_add, zI_sub, zI_mul, zI_lt, zI_le, zI_eq, if_pos, if_neg, if_true, if_false, Option.bind_some, bnd, ldI_is, ldJ_is, Int.toNat_natCast, ]; omega)]; rfl
    | succ n =>
      have hi2 : i < rn (brw k (ban k) t) := by omega
      have b := (h.grow h.g.2.1 ht).2 i hi2
      have ih := ih n (i + 1) (by omega) (by omega)
      have mi : metP (brw k (ban k) t) f e x i = true ↔ (¬ (i : Int) = x ∧ rf (brw k (ban k) t) i < e ∧ f < re (brw k (ban k) t) i) := by unfold metP; rw [decide_eq_true_eq]
      rw [if_neg (by simp (disch := omega) only [z_0, z_1, z_2, z_3, z_4, z_5, z_6, z_7, z_8, z_9, z_10, z_12, z_13, z_16, z_20, z_24, z_30, z_31, z_32, z_38, z_42, z_44, z_45, z_47, z_48, z_49, z_50, z_57, z_58, z_59, z_60, z_61, z_91, z_97, z_98, z_100, z_108, z_114, z_120, z_122, z_126, z_127, z_128, z_200, z_255, z_961, z_990, z_992, z_998, z_999, z_1000, z_1092, z_1114, z_7798, z_10000, z_1000000, zI_neg, zI_add, zI_sub, zI_mul, zI_lt, zI_le, zI_eq, if_pos, if_neg, if_true, if_false, Option.bind_some, bnd, ldI_is, ldJ_is, Int.toNat_natCast,  Int.not_le]; omega), fnd_succ, zI_succ]
      by_cases c1 : (i : Int) = x
      · rw [if_pos (by rw [c1]), if_neg (fun c => (mi.mp c).1 c1)]
        exact ih
      · rw [if_neg (by simp (disch := omega) only [z_0, z_1, z_2, z_3, z_4, z_5, z_6, z_7, z_8, z_9, z_10, z_12, z_13, z_16, z_20, z_24, z_30, z_31, z_32, z_38, z_42, z_44, z_45, z_47, z_48, z_49, z_50, z_57, z_58, z_59, z_60, z_61, z_91, z_97, z_98, z_100, z_108, z_114, z_120, z_122, z_126, z_127, z_128, z_200, z_255, z_961, z_990, z_992, z_998, z_999, z_1000, z_1092, z_1114, z_7798, z_10000, z_1000000, zI_neg, zI_add, zI_sub, zI_mul, zI_lt, zI_le, zI_eq, if_pos, if_neg, if_true, if_false, Option.bind_some, bnd, ldI_is, ldJ_is, Int.toNat_natCast,  c1, not_false_eq_true]), m_first h ht hi2]
        simp only [Option.bind_some]
        by_cases c2 : e ≤ rf (brw k (ban k) t) i
        · rw [if_pos (by simp (disch := omega) only [z_0, z_1, z_2, z_3, z_4, z_5, z_6, z_7, z_8, z_9, z_10, z_12, z_13, z_16, z_20, z_24, z_30, z_31, z_32, z_38, z_42, z_44, z_45, z_47, z_48, z_49, z_50, z_57, z_58, z_59, z_60, z_61, z_91, z_97, z_98, z_100, z_108, z_114, z_120, z_122, z_126, z_127, z_128, z_200, z_255, z_961, z_990, z_992, z_998, z_999, z_1000, z_1092, z_1114, z_7798, z_10000, z_1000000, zI_neg, zI_add, zI_sub, zI_mul, zI_lt, zI_le, zI_eq, if_pos, if_neg, if_true, if_false, Option.bind_some, bnd, ldI_is, ldJ_is, Int.toNat_natCast, ]; exact c2), if_neg (fun c => by have := mi.mp c; omega)]
          exact ih
        · rw [if_neg (by simp (disch := omega) only [z_0, z_1, z_2, z_3, z_4, z_5, z_6, z_7, z_8, z_9, z_10, z_12, z_13, z_16, z_20, z_24, z_30, z_31, z_32, z_38, z_42, z_44, z_45, z_47, z_48, z_49, z_50, z_57, z_58, z_59, z_60, z_61, z_91, z_97, z_98, z_100, z_108, z_114, z_120, z_122, z_126, z_127, z_128, z_200, z_255, z_961, z_990, z_992, z_998, z_999, z_1000, z_1092, z_1114, z_7798, z_10000, z_1000000, zI_neg, zI_add, zI_sub, zI_mul, zI_lt, zI_le, zI_eq, if_pos, if_neg, if_true, if_false, Option.bind_some, bnd, ldI_is, ldJ_is, Int.toNat_natCast,  Int.not_le]; omega), m_end h ht hi2]
          simp only [Option.bind_some]
          by_cases c3 : re (brw k (ban k) t) i ≤ f
          · rw [if_pos (by simp (disch := omega) only [z_0, z_1, z_2, z_3, z_4, z_5, z_6, z_7, z_8, z_9, z_10, z_12, z_13, z_16, z_20, z_24, z_30, z_31, z_32, z_38, z_42, z_44, z_45, z_47, z_48, z_49, z_50, z_57, z_58, z_59, z_60, z_61, z_91, z_97, z_98, z_100, z_108, z_114, z_120, z_122, z_126, z_127, z_128, z_200, z_255, z_961, z_990, z_992, z_998, z_999, z_1000, z_1092, z_1114, z_7798, z_10000, z_1000000, zI_neg, zI_add, zI_sub, zI_mul, zI_lt, zI_le, zI_eq, if_pos, if_neg, if_true, if_false, Option.bind_some, bnd, ldI_is, ldJ_is, Int.toNat_natCast, ]; exact c3), if_neg (fun c => by have := mi.mp c; omega)]
            exact ih
          · rw [if_neg (by simp (disch := omega) only [z_0, z_1, z_2, z_3, z_4, z_5, z_6, z_7, z_8, z_9, z_10, z_12, z_13, z_16, z_20, z_24, z_30, z_31, z_32, z_38, z_42, z_44, z_45, z_47, z_48, z_49, z_50, z_57, z_58, z_59, z_60, z_61, z_91, z_97, z_98, z_100, z_108, z_114, z_120, z_122, z_126, z_127, z_128, z_200, z_255, z_961, z_990, z_992, z_998, z_999, z_1000, z_1092, z_1114, z_7798, z_10000, z_1000000, zI_neg, zI_add, zI_sub, zI_mul, zI_lt, zI_le, zI_eq, if_pos, if_neg, if_true, if_false, Option.bind_some, bnd, ldI_is, ldJ_is, Int.toNat_natCast,  Int.not_le]; omega), if_pos (mi.mpr ⟨c1, by omega, by omega⟩)]
theorem m_inTheWay (h : MS F w z k) (hN : 40 ≤ N) {t : Nat} (ht : t < bn k) {f e x : Int} (hf : 0 ≤ f ∧ f ≤ 1000) (he : 0 ≤ e ∧ e ≤ 1000) (hx : -1 ≤ x ∧ x ≤ 100) : fX9_inTheWay F N w z (zI t) (zI x) (zI f) (zI e) = some (zI (fnd (metP (brw k (ban k) t) f e x) (rn (brw k (ban k) t)) 0)) := by
  have hl := h.lim h.g.2.1 ht
  exact m_inTheWay_3 h ht hf he hx N (rn (brw k (ban k) t)) 0 (by omega) (by omega)
end MREAD
