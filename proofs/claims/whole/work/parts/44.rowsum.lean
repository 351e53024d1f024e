/-! what the class reads of its rows -/
theorem imax_z {a b : Int} (h1 : -2147483648 ≤ a) (h2 : a < 2147483648) (h3 : -2147483648 ≤ b) (h4 : b < 2147483648) : imax (zI a) (zI b) = zI (max a b) := by
  unfold imax
  simp only [zI_lt h1 h2 h3 h4]
  by_cases c : a < b
  · rw [if_pos c, Int.max_eq_right (by omega)]
  · rw [if_neg c, Int.max_eq_left (by omega)]
theorem imin_z {a b : Int} (h1 : -2147483648 ≤ a) (h2 : a < 2147483648) (h3 : -2147483648 ≤ b) (h4 : b < 2147483648) : imin (zI a) (zI b) = zI (min a b) := by
  unfold imin
  simp only [zI_lt h3 h4 h1 h2]
  by_cases c : b < a
  · rw [if_pos c, Int.min_eq_right (by omega)]
  · rw [if_neg c, Int.min_eq_left (by omega)]
theorem lg_z (x y : Int64) : (lg_cmp x y = zI 0) = (x = y) := propext (lg_cmp_eq x y)
theorem sumN_succ (g : Nat → Int) (n : Nat) : sumN g n + g n = sumN g (n + 1) := rfl
def SRow (r : Rw) : Prop := (∀ i, i < rn r → rf r i < re r i) ∧ ∀ i, i + 1 < rn r → re r i ≤ rf r (i + 1)
theorem SRow.lt {r : Rw} (h : SRow r) : ∀ {i j : Nat}, i < j → j < rn r → re r i ≤ rf r j := by
  intro i j hij
  induction j with
  | zero => omega
  | succ j ih =>
    intro hj
    by_cases c : i = j
    · subst c; exact h.2 i hj
    · have h1 := ih (by omega) (by omega)
      have h2 := h.1 j (by omega)
      have h3 := h.2 j hj
      omega
def fsum (r : Rw) : Int := sumN (fun i => re r i - rf r i) (rn r)
def lnew (r : Rw) (i : Nat) : Int := fnd (fun j => decide (rl r j = rl r i)) i 0
def lcnt (r : Rw) : Int := sumN (fun i => if lnew r i = -1 then 1 else 0) (rn r)
def comS (b : Bool) (r q : Rw) (i j : Nat) : Int := if b = false ∨ rl r i = rl q j then max 0 (min (re r i) (re q j) - max (rf r i) (rf q j)) else 0
def com (b : Bool) (r q : Rw) : Int := sumN (fun i => sumN (comS b r q i) (rn q)) (rn r)
def prdS (r q : Rw) (i j : Nat) : Int := if rl r i = rl q j then (re r i - rf r i) * (re q j - rf q j) else 0
def prd (r q : Rw) : Int := sumN (fun i => sumN (prdS r q i) (rn q)) (rn r)
section CROW
variable {F : Fr} {N : Nat} {w : Wd} {a b : Nat} {r q : Rw}
theorem c_spanWith_2 (h : CRow F w a r) {f : Int} (hf : -2147483648 ≤ f ∧ f < 2147483648) : ∀ (m k i : Nat), i + k = rn r → k < m →
    fX7_spanWith_2 F N w m a (zI f) (zI i) = some (zI (fnd (fun j => decide (rf r j ≤ f ∧ f < re r j)) k i)) := by
  have hl := h.lim
  intro m
  induction m with
  | zero => intro k i _ hk; omega
  | succ m ih =>
    intro k i hik hkm
    unfold fX7_spanWith_2
    rw [c_many h]
    cases k with
    | zero => simp (disch := omega) only [z_0, z_1, z_2, z_3, z_4, z_5, z_6, z_7, z_8, z_9, z_10, z_12, z_13, z_16, z_20, z_24, z_30, z_31, z_32, z_38, z_42, z_44, z_45, z_47, z_48, z_49, z_50, z_57, z_58, z_59, z_60, z_61, z_91, z_97, z_98, z_100, z_108, z_114, z_120, z_122, z_126, z_127, z_128, z_200, z_255, z_961, z_990, z_992, z_998, z_999, z_1000, z_1092, z_1114, z_7798, z_10000, z_1000000, zI_neg, zI_add, zI_sub, zI_mul, zI_lt, zI_le, zI_eq, if_pos, if_neg, if_true, if_false, Option.bind_some, bnd, ldI_is, ldJ_is, Int.toNat_natCast,  fnd]
    | succ k =>
      have hi : i < rn r := by omega
      have := h.at hi
      have ih := ih k (i + 1) (by omega) (by omega)
      unfold fX7_spanWith_30
      rw [c_first h hi, c_end h hi, zI_succ]
      by_cases c2 : rf r i ≤ f <;> by_cases c3 : f < re r i <;> simp (disch := omega) only [z_0, z_1, z_2, z_3, z_4, z_5, z_6, z_7, z_8, z_9, z_10, z_12, z_13, z_16, z_20, z_24, z_30, z_31, z_32, z_38, z_42, z_44, z_45, z_47, z_48, z_49, z_50, z_57, z_58, z_59, z_60, z_61, z_91, z_97, z_98, z_100, z_108, z_114, z_120, z_122, z_126, z_127, z_128, z_200, z_255, z_961, z_990, z_992, z_998, z_999, z_1000, z_1092, z_1114, z_7798, z_10000, z_1000000, zI_neg, zI_add, zI_sub, zI_mul, zI_lt, zI_le, zI_eq, if_pos, if_neg, if_true, if_false, Option.bind_some, bnd, ldI_is, ldJ_is, Int.toNat_natCast,  ih, fnd, decide_eq_true_eq, c2, c3, and_true, true_and, and_self, and_false, false_and, decide_true, decide_false, Bool.false_eq_true]
theorem c_spanWith (h : CRow F w a r) (hN : 40 ≤ N) {f : Int} (hf : -2147483648 ≤ f ∧ f < 2147483648) :
    fX7_spanWith F N w a (zI f) = some (zI (fnd (fun j => decide (rf r j ≤ f ∧ f < re r j)) (rn r) 0)) := by
  have hl := h.lim
  unfold fX7_spanWith
  exact c_spanWith_2 h hf N (rn r) 0 (by omega) (by omega)
theorem c_frameSum_4 (h : CRow F w a r) : ∀ (m k i : Nat), i + k = rn r → k < m →
    fX7_frameSum_4 F N w m a (zI (sumN (fun i => re r i - rf r i) i)) (zI i) = some (zI (fsum r)) := by
  have hl := h.lim
  intro m
  induction m with
  | zero => intro k i _ hk; omega
  | succ m ih =>
    intro k i hik hkm
    unfold fX7_frameSum_4
    rw [c_many h]
    cases k with
    | zero =>
      have e : i = rn r := by omega
      subst e
      simp (disch := omega) only [z_0, z_1, z_2, z_3, z_4, z_5, z_6, z_7, z_8, z_9, z_10, z_12, z_13, z_16, z_20, z_24, z_30, z_31, z_32, z_38, z_42, z_44, z_45, z_47, z_48, z_49, z_50, z_57, z_58, z_59, z_60, z_61, z_91, z_97, z_98, z_100, z_108, z_114, z_120, z_122, z_126, z_127, z_128, z_200, z_255, z_961, z_990, z_992, z_998, z_999, z_1000, z_1092, z_1114, z_7798, z_10000, z_1000000, zI_neg, zI_add, zI_sub, zI_mul, zI_lt, zI_le, zI_eq, if_pos, if_neg, if_true, if_false, Option.bind_some, bnd, ldI_is, ldJ_is, Int.toNat_natCast,  fsum]
    | succ k =>
      have hi : i < rn r := by omega
      have ih := ih k (i + 1) (by omega) (by omega)
      rw [c_length h hi, zI_succ]
      simp (disch := omega) only [z_0, z_1, z_2, z_3, z_4, z_5, z_6, z_7, z_8, z_9, z_10, z_12, z_13, z_16, z_20, z_24, z_30, z_31, z_32, z_38, z_42, z_44, z_45, z_47, z_48, z_49, z_50, z_57, z_58, z_59, z_60, z_61, z_91, z_97, z_98, z_100, z_108, z_114, z_120, z_122, z_126, z_127, z_128, z_200, z_255, z_961, z_990, z_992, z_998, z_999, z_1000, z_1092, z_1114, z_7798, z_10000, z_1000000, zI_neg, zI_add, zI_sub, zI_mul, zI_lt, zI_le, zI_eq, if_pos, if_neg, if_true, if_false, Option.bind_some, bnd, ldI_is, ldJ_is, Int.toNat_natCast,  sumN_succ (fun i => re r i - rf r i) i]
      exact ih
theorem c_frameSum (h : CRow F w a r) (hN : 40 ≤ N) : fX7_frameSum F N w a = some (zI (fsum r)) := by
  have hl := h.lim
  unfold fX7_frameSum
  exact c_frameSum_4 h N (rn r) 0 (by omega) (by omega)
theorem c_isLabelNew_2 (h : CRow F w a r) {p : Nat} (hp : p < rn r) : ∀ (m k i : Nat), i + k = p → k < m →
    fX7_isLabelNew_2 F N w m a (zI p) (zI i) = some (zI (if fnd (fun j => decide (rl r j = rl r p)) k i = -1 then 1 else 0)) := by
  have hl := h.lim
  intro m
  induction m with
  | zero => intro k i _ hk; omega
  | succ m ih =>
    intro k i hik hkm
    unfold fX7_isLabelNew_2
    cases k with
    | zero =>
      have e : i = p := by omega
      subst e
      simp (disch := omega) only [z_0, z_1, z_2, z_3, z_4, z_5, z_6, z_7, z_8, z_9, z_10, z_12, z_13, z_16, z_20, z_24, z_30, z_31, z_32, z_38, z_42, z_44, z_45, z_47, z_48, z_49, z_50, z_57, z_58, z_59, z_60, z_61, z_91, z_97, z_98, z_100, z_108, z_114, z_120, z_122, z_126, z_127, z_128, z_200, z_255, z_961, z_990, z_992, z_998, z_999, z_1000, z_1092, z_1114, z_7798, z_10000, z_1000000, zI_neg, zI_add, zI_sub, zI_mul, zI_lt, zI_le, zI_eq, if_pos, if_neg, if_true, if_false, Option.bind_some, bnd, ldI_is, ldJ_is, Int.toNat_natCast,  fnd]
    | succ k =>
      have hi : i < rn r := by omega
      have ih := ih k (i + 1) (by omega) (by omega)
      rw [c_label h hi, c_label h hp, zI_succ]
      simp only [z_0, z_1, z_2, z_3, z_4, z_5, z_6, z_7, z_8, z_9, z_10, z_12, z_13, z_16, z_20, z_24, z_30, z_31, z_32, z_38, z_42, z_44, z_45, z_47, z_48, z_49, z_50, z_57, z_58, z_59, z_60, z_61, z_91, z_97, z_98, z_100, z_108, z_114, z_120, z_122, z_126, z_127, z_128, z_200, z_255, z_961, z_990, z_992, z_998, z_999, z_1000, z_1092, z_1114, z_7798, z_10000, z_1000000, lg_z, Option.bind_some, cL_inj (h.at hi).2.2.2.2 (h.at hp).2.2.2.2, fnd, decide_eq_true_eq]
      by_cases c : rl r i = rl r p <;> simp (disch := omega) only [z_0, z_1, z_2, z_3, z_4, z_5, z_6, z_7, z_8, z_9, z_10, z_12, z_13, z_16, z_20, z_24, z_30, z_31, z_32, z_38, z_42, z_44, z_45, z_47, z_48, z_49, z_50, z_57, z_58, z_59, z_60, z_61, z_91, z_97, z_98, z_100, z_108, z_114, z_120, z_122, z_126, z_127, z_128, z_200, z_255, z_961, z_990, z_992, z_998, z_999, z_1000, z_1092, z_1114, z_7798, z_10000, z_1000000, zI_neg, zI_add, zI_sub, zI_mul, zI_lt, zI_le, zI_eq, if_pos, if_neg, if_true, if_false, Option.bind_some, bnd, ldI_is, ldJ_is, Int.toNat_natCast,  c, ih, decide_true, decide_false, Bool.false_eq_true]
theorem c_isLabelNew (h : CRow F w a r) (hN : 40 ≤ N) {p : Nat} (hp : p < rn r) : fX7_isLabelNew F N w a (zI p) = some (zI (if lnew r p = -1 then 1 else 0)) := by
  have hl := h.lim
  unfold fX7_isLabelNew
  exact c_isLabelNew_2 h hp N p 0 (by omega) (by omega)
theorem c_labelCount_4 (h : CRow F w a r) (hN : 40 ≤ N) : ∀ (m k i : Nat), i + k = rn r → k < m →
    fX7_labelCount_4 F N w m a (zI (sumN (fun i => if lnew r i = -1 then 1 else 0) i)) (zI i) = some (zI (lcnt r)) := by
  have hl := h.lim
  intro m
  induction m with
  | zero => intro k i _ hk; omega
  | succ m ih =>
    intro k i hik hkm
    unfold fX7_labelCount_4
    rw [c_many h]
    cases k with
    | zero =>
      have e : i = rn r := by omega
      subst e
      simp (disch := omega) only [z_0, z_1, z_2, z_3, z_4, z_5, z_6, z_7, z_8, z_9, z_10, z_12, z_13, z_16, z_20, z_24, z_30, z_31, z_32, z_38, z_42, z_44, z_45, z_47, z_48, z_49, z_50, z_57, z_58, z_59, z_60, z_61, z_91, z_97, z_98, z_100, z_108, z_114, z_120, z_122, z_126, z_127, z_128, z_200, z_255, z_961, z_990, z_992, z_998, z_999, z_1000, z_1092, z_1114, z_7798, z_10000, z_1000000, zI_neg, zI_add, zI_sub, zI_mul, zI_lt, zI_le, zI_eq, if_pos, if_neg, if_true, if_false, Option.bind_some, bnd, ldI_is, ldJ_is, Int.toNat_natCast,  lcnt]
    | succ k =>
      have hi : i < rn r := by omega
      have ih := ih k (i + 1) (by omega) (by omega)
      unfold fX7_labelCount_26
      rw [c_isLabelNew h hN hi, zI_succ]
      rw [← sumN_succ] at ih
      by_cases c : lnew r i = -1
      · simp only [if_pos c] at ih ⊢
        simp (disch := omega) only [z_0, z_1, z_2, z_3, z_4, z_5, z_6, z_7, z_8, z_9, z_10, z_12, z_13, z_16, z_20, z_24, z_30, z_31, z_32, z_38, z_42, z_44, z_45, z_47, z_48, z_49, z_50, z_57, z_58, z_59, z_60, z_61, z_91, z_97, z_98, z_100, z_108, z_114, z_120, z_122, z_126, z_127, z_128, z_200, z_255, z_961, z_990, z_992, z_998, z_999, z_1000, z_1092, z_1114, z_7798, z_10000, z_1000000, zI_neg, zI_add, zI_sub, zI_mul, zI_lt, zI_le, zI_eq, if_pos, if_neg, if_true, if_false, Option.bind_some, bnd, ldI_is, ldJ_is, Int.toNat_natCast, ]
        exact ih
      · simp only [if_neg c] at ih ⊢
        simp (disch := omega) only [z_0, z_1, z_2, z_3, z_4, z_5, z_6, z_7, z_8, z_9, z_10, z_12, z_13, z_16, z_20, z_24, z_30, z_31, z_32, z_38, z_42, z_44, z_45, z_47, z_48, z_49, z_50, z_57, z_58, z_59, z_60, z_61, z_91, z_97, z_98, z_100, z_108, z_114, z_120, z_122, z_126, z_127, z_128, z_200, z_255, z_961, z_990, z_992, z_998, z_999, z_1000, z_1092, z_1114, z_7798, z_10000, z_1000000, zI_neg, zI_add, zI_sub, zI_mul, zI_lt, zI_le, zI_eq, if_pos, if_neg, if_true, if_false, Option.bind_some, bnd, ldI_is, ldJ_is, Int.toNat_natCast, ]
        exact ih
theorem c_labelCount (h : CRow F w a r) (hN : 40 ≤ N) : fX7_labelCount F N w a = some (zI (lcnt r)) := by
  have hl := h.lim
  unfold fX7_labelCount
  exact c_labelCount_4 h hN N (rn r) 0 (by omega) (by omega)
theorem c_isInOrder_4 (h : CRow F w a r) (hs : SRow r) : ∀ (m k i : Nat) (R : Int), i + k = rn r → k < m → 0 ≤ R → R ≤ 1000 → (i < rn r → R ≤ rf r i) →
    fX7_isInOrder_4 F N w m a (zI R) (zI i) = some 1 := by
  have hl := h.lim
  intro m
  induction m with
  | zero => intro k i R _ hk; omega
  | succ m ih =>
    intro k i R hik hkm h1 h2 h3
    unfold fX7_isInOrder_4
    rw [c_many h]
    cases k with
    | zero => simp (disch := omega) only [z_0, z_1, z_2, z_3, z_4, z_5, z_6, z_7, z_8, z_9, z_10, z_12, z_13, z_16, z_20, z_24, z_30, z_31, z_32, z_38, z_42, z_44, z_45, z_47, z_48, z_49, z_50, z_57, z_58, z_59, z_60, z_61, z_91, z_97, z_98, z_100, z_108, z_114, z_120, z_122, z_126, z_127, z_128, z_200, z_255, z_961, z_990, z_992, z_998, z_999, z_1000, z_1092, z_1114, z_7798, z_10000, z_1000000, zI_neg, zI_add, zI_sub, zI_mul, zI_lt, zI_le, zI_eq, if_pos, if_neg, if_true, if_false, Option.bind_some, bnd, ldI_is, ldJ_is, Int.toNat_natCast, ]
    | succ k =>
      have hi : i < rn r := by omega
      have hb := h.at hi
      have hx := hs.1 i hi
      have h3 := h3 hi
      have ih := ih k (i + 1) (re r i) (by omega) (by omega) (by omega) (by omega) (fun h9 => hs.2 i h9)
      rw [c_first h hi, c_end h hi, zI_succ]
      simp (disch := omega) only [z_0, z_1, z_2, z_3, z_4, z_5, z_6, z_7, z_8, z_9, z_10, z_12, z_13, z_16, z_20, z_24, z_30, z_31, z_32, z_38, z_42, z_44, z_45, z_47, z_48, z_49, z_50, z_57, z_58, z_59, z_60, z_61, z_91, z_97, z_98, z_100, z_108, z_114, z_120, z_122, z_126, z_127, z_128, z_200, z_255, z_961, z_990, z_992, z_998, z_999, z_1000, z_1092, z_1114, z_7798, z_10000, z_1000000, zI_neg, zI_add, zI_sub, zI_mul, zI_lt, zI_le, zI_eq, if_pos, if_neg, if_true, if_false, Option.bind_some, bnd, ldI_is, ldJ_is, Int.toNat_natCast,  ih]
theorem c_isInOrder (h : CRow F w a r) (hs : SRow r) (hN : 40 ≤ N) : fX7_isInOrder F N w a = some 1 := by
  have hl := h.lim
  unfold fX7_isInOrder
  exact c_isInOrder_4 h hs N (rn r) 0 0 (by omega) (by omega) (by omega) (by omega) (fun h9 => (h.at h9).1)
theorem c_coveredFrames_6 (h : CRow F w a r) (hs : SRow r) : ∀ (m k i : Nat) (R : Int), i + k = rn r → k < m → 0 ≤ R → R ≤ 1000 → (i < rn r → R ≤ rf r i) →
    fX7_coveredFrames_6 F N w m a (zI (sumN (fun i => re r i - rf r i) i)) (zI R) (zI i) = some (zI (fsum r)) := by
  have hl := h.lim
  intro m
  induction m with
  | zero => intro k i R _ hk; omega
  | succ m ih =>
    intro k i R hik hkm h1 h2 h3
    unfold fX7_coveredFrames_6
    rw [c_many h]
    cases k with
    | zero =>
      have e : i = rn r := by omega
      subst e
      simp (disch := omega) only [z_0, z_1, z_2, z_3, z_4, z_5, z_6, z_7, z_8, z_9, z_10, z_12, z_13, z_16, z_20, z_24, z_30, z_31, z_32, z_38, z_42, z_44, z_45, z_47, z_48, z_49, z_50, z_57, z_58, z_59, z_60, z_61, z_91, z_97, z_98, z_100, z_108, z_114, z_120, z_122, z_126, z_127, z_128, z_200, z_255, z_961, z_990, z_992, z_998, z_999, z_1000, z_1092, z_1114, z_7798, z_10000, z_1000000, zI_neg, zI_add, zI_sub, zI_mul, zI_lt, zI_le, zI_eq, if_pos, if_neg, if_true, if_false, Option.bind_some, bnd, ldI_is, ldJ_is, Int.toNat_natCast,  fsum]
    | succ k =>
      have hi : i < rn r := by omega
      have hb := h.at hi
      have hx := hs.1 i hi
      have h3 := h3 hi
      have ih := ih k (i + 1) (re r i) (by omega) (by omega) (by omega) (by omega) (fun h9 => hs.2 i h9)
      rw [c_first h hi, c_end h hi, zI_succ]
      simp (disch := omega) only [z_0, z_1, z_2, z_3, z_4, z_5, z_6, z_7, z_8, z_9, z_10, z_12, z_13, z_16, z_20, z_24, z_30, z_31, z_32, z_38, z_42, z_44, z_45, z_47, z_48, z_49, z_50, z_57, z_58, z_59, z_60, z_61, z_91, z_97, z_98, z_100, z_108, z_114, z_120, z_122, z_126, z_127, z_128, z_200, z_255, z_961, z_990, z_992, z_998, z_999, z_1000, z_1092, z_1114, z_7798, z_10000, z_1000000, imax_z, zI_sub, Option.bind_some, bnd]
      rw [Int.max_eq_left (a := rf r i) (b := R) (by omega), Int.max_eq_right (a := 0) (by omega), Int.max_eq_right (a := R) (by omega), zI_add, sumN_succ (fun i => re r i - rf r i) i]
      simp (disch := omega) only [z_0, z_1, z_2, z_3, z_4, z_5, z_6, z_7, z_8, z_9, z_10, z_12, z_13, z_16, z_20, z_24, z_30, z_31, z_32, z_38, z_42, z_44, z_45, z_47, z_48, z_49, z_50, z_57, z_58, z_59, z_60, z_61, z_91, z_97, z_98, z_100, z_108, z_114, z_120, z_122, z_126, z_127, z_128, z_200, z_255, z_961, z_990, z_992, z_998, z_999, z_1000, z_1092, z_1114, z_7798, z_10000, z_1000000, zI_neg, zI_add, zI_sub, zI_mul, zI_lt, zI_le, zI_eq, if_pos, if_neg, if_true, if_false, Option.bind_some, bnd, ldI_is, ldJ_is, Int.toNat_natCast,  ih]
theorem c_coveredFrames (h : CRow F w a r) (hs : SRow r) (hN : 40 ≤ N) : fX7_coveredFrames F N w a = some (zI (fsum r)) := by
  have hl := h.lim
  unfold fX7_coveredFrames
  exact c_coveredFrames_6 h hs N (rn r) 0 0 (by omega) (by omega) (by omega) (by omega) (fun h9 => (h.at h9).1)
theorem c_commonFrames_17 (h : CRow F w a r) (g : CRow F w b q) (t : Bool) {i : Nat} (hi : i < rn r) {A : Int} {k5 : Nat → Nat → Int32 → Int32 → Int32 → Option Int32} : ∀ (m k j : Nat), j + k = rn q → k < m →
    fX7_commonFrames_17 F N w k5 m a b (zI (if t = true then 1 else 0)) (zI (A + sumN (comS t r q i) j)) (zI i) (zI j) = k5 a b (zI (if t = true then 1 else 0)) (zI (A + sumN (comS t r q i) (rn q))) (zI i + 1) := by
  have hl := h.lim
  have hl2 := g.lim
  intro m
  induction m with
  | zero => intro k j _ hk; omega
  | succ m ih =>
    intro k j hik hkm
    unfold fX7_commonFrames_17
    rw [c_many g]
    cases k with
    | zero =>
      have e : j = rn q := by omega
      subst e
      simp (disch := omega) only [z_0, z_1, z_2, z_3, z_4, z_5, z_6, z_7, z_8, z_9, z_10, z_12, z_13, z_16, z_20, z_24, z_30, z_31, z_32, z_38, z_42, z_44, z_45, z_47, z_48, z_49, z_50, z_57, z_58, z_59, z_60, z_61, z_91, z_97, z_98, z_100, z_108, z_114, z_120, z_122, z_126, z_127, z_128, z_200, z_255, z_961, z_990, z_992, z_998, z_999, z_1000, z_1092, z_1114, z_7798, z_10000, z_1000000, zI_neg, zI_add, zI_sub, zI_mul, zI_lt, zI_le, zI_eq, if_pos, if_neg, if_true, if_false, Option.bind_some, bnd, ldI_is, ldJ_is, Int.toNat_natCast, ]
    | succ k =>
      have hj : j < rn q := by omega
      have hb := h.at hi
      have hc := g.at hj
      have ih := ih k (j + 1) (by omega) (by omega)
      unfold fX7_commonFrames_46 fX7_commonFrames_88
      rw [c_first h hi, c_end h hi, c_first g hj, c_end g hj, c_label h hi, c_label g hj, zI_succ j]
      rw [← sumN_succ, ← Int.add_assoc] at ih
      simp (disch := omega) only [lg_z, cL_inj hb.2.2.2.2 hc.2.2.2.2, Option.bind_some, bnd, z_0, z_1, z_2, z_3, z_4, z_5, z_6, z_7, z_8, z_9, z_10, z_12, z_13, z_16, z_20, z_24, z_30, z_31, z_32, z_38, z_42, z_44, z_45, z_47, z_48, z_49, z_50, z_57, z_58, z_59, z_60, z_61, z_91, z_97, z_98, z_100, z_108, z_114, z_120, z_122, z_126, z_127, z_128, z_200, z_255, z_961, z_990, z_992, z_998, z_999, z_1000, z_1092, z_1114, z_7798, z_10000, z_1000000, imax_z, imin_z, zI_sub, zI_add] at ih ⊢
      cases t with
      | false =>
        simp only [comS, true_or, if_true, Bool.false_eq_true, if_false] at ih ⊢
        simp (disch := omega) only [z_0, z_1, z_2, z_3, z_4, z_5, z_6, z_7, z_8, z_9, z_10, z_12, z_13, z_16, z_20, z_24, z_30, z_31, z_32, z_38, z_42, z_44, z_45, z_47, z_48, z_49, z_50, z_57, z_58, z_59, z_60, z_61, z_91, z_97, z_98, z_100, z_108, z_114, z_120, z_122, z_126, z_127, z_128, z_200, z_255, z_961, z_990, z_992, z_998, z_999, z_1000, z_1092, z_1114, z_7798, z_10000, z_1000000, zI_neg, zI_add, zI_sub, zI_mul, zI_lt, zI_le, zI_eq, if_pos, if_neg, if_true, if_false, Option.bind_some, bnd, ldI_is, ldJ_is, Int.toNat_natCast, ]
        exact ih
      | true =>
        simp only [comS, Bool.true_eq_false, false_or, if_true] at ih ⊢
        by_cases c : rl r i = rl q j
        · simp only [if_pos c] at ih ⊢
          simp (disch := omega) only [z_0, z_1, z_2, z_3, z_4, z_5, z_6, z_7, z_8, z_9, z_10, z_12, z_13, z_16, z_20, z_24, z_30, z_31, z_32, z_38, z_42, z_44, z_45, z_47, z_48, z_49, z_50, z_57, z_58, z_59, z_60, z_61, z_91, z_97, z_98, z_100, z_108, z_114, z_120, z_122, z_126, z_127, z_128, z_200, z_255, z_961, z_990, z_992, z_998, z_999, z_1000, z_1092, z_1114, z_7798, z_10000, z_1000000, zI_neg, zI_add, zI_sub, zI_mul, zI_lt, zI_le, zI_eq, if_pos, if_neg, if_true, if_false, Option.bind_some, bnd, ldI_is, ldJ_is, Int.toNat_natCast,  c]
          exact ih
        · simp only [if_neg c, Int.add_zero] at ih ⊢
          simp (disch := omega) only [z_0, z_1, z_2, z_3, z_4, z_5, z_6, z_7, z_8, z_9, z_10, z_12, z_13, z_16, z_20, z_24, z_30, z_31, z_32, z_38, z_42, z_44, z_45, z_47, z_48, z_49, z_50, z_57, z_58, z_59, z_60, z_61, z_91, z_97, z_98, z_100, z_108, z_114, z_120, z_122, z_126, z_127, z_128, z_200, z_255, z_961, z_990, z_992, z_998, z_999, z_1000, z_1092, z_1114, z_7798, z_10000, z_1000000, zI_neg, zI_add, zI_sub, zI_mul, zI_lt, zI_le, zI_eq, if_pos, if_neg, if_true, if_false, Option.bind_some, bnd, ldI_is, ldJ_is, Int.toNat_natCast,  c]
          exact ih
theorem c_commonFrames_5 (h : CRow F w a r) (g : CRow F w b q) (hN : 40 ≤ N) (t : Bool) : ∀ (m k i : Nat), i + k = rn r → k < m →
    fX7_commonFrames_5 F N w m a b (zI (if t = true then 1 else 0)) (zI (sumN (fun i => sumN (comS t r q i) (rn q)) i)) (zI i) = some (zI (com t r q)) := by
  have hl := h.lim
  have hl2 := g.lim
  intro m
  induction m with
  | zero => intro k i _ hk; omega
  | succ m ih =>
    intro k i hik hkm
    unfold fX7_commonFrames_5
    rw [c_many h]
    cases k with
    | zero =>
      have e : i = rn r := by omega
      subst e
      simp (disch := omega) only [z_0, z_1, z_2, z_3, z_4, z_5, z_6, z_7, z_8, z_9, z_10, z_12, z_13, z_16, z_20, z_24, z_30, z_31, z_32, z_38, z_42, z_44, z_45, z_47, z_48, z_49, z_50, z_57, z_58, z_59, z_60, z_61, z_91, z_97, z_98, z_100, z_108, z_114, z_120, z_122, z_126, z_127, z_128, z_200, z_255, z_961, z_990, z_992, z_998, z_999, z_1000, z_1092, z_1114, z_7798, z_10000, z_1000000, zI_neg, zI_add, zI_sub, zI_mul, zI_lt, zI_le, zI_eq, if_pos, if_neg, if_true, if_false, Option.bind_some, bnd, ldI_is, ldJ_is, Int.toNat_natCast,  com]
    | succ k =>
      have hi : i < rn r := by omega
      have ih := ih k (i + 1) (by omega) (by omega)
      have h9 := c_commonFrames_17 (N := N) (k5 := fX7_commonFrames_5 F N w m) (A := sumN (fun i => sumN (comS t r q i) (rn q)) i) h g t hi N (rn q) 0 (by omega) (by omega)
      rw [show sumN (comS t r q i) 0 = 0 from rfl, Int.add_zero, zI_succ] at h9
      simp (disch := omega) only [z_0, z_1, z_2, z_3, z_4, z_5, z_6, z_7, z_8, z_9, z_10, z_12, z_13, z_16, z_20, z_24, z_30, z_31, z_32, z_38, z_42, z_44, z_45, z_47, z_48, z_49, z_50, z_57, z_58, z_59, z_60, z_61, z_91, z_97, z_98, z_100, z_108, z_114, z_120, z_122, z_126, z_127, z_128, z_200, z_255, z_961, z_990, z_992, z_998, z_999, z_1000, z_1092, z_1114, z_7798, z_10000, z_1000000, zI_neg, zI_add, zI_sub, zI_mul, zI_lt, zI_le, zI_eq, if_pos, if_neg, if_true, if_false, Option.bind_some, bnd, ldI_is, ldJ_is, Int.toNat_natCast, ]
      exact h9.trans ih
theorem c_commonFrames (h : CRow F w a r) (g : CRow F w b q) (hN : 40 ≤ N) (t : Bool) : fX7_commonFrames F N w a b (zI (if t = true then 1 else 0)) = some (zI (com t r q)) := by
  have hl := h.lim
  unfold fX7_commonFrames
  exact c_commonFrames_5 h g hN t N (rn r) 0 (by omega) (by omega)
theorem c_framesWith (h : CRow F w a r) (g : CRow F w b q) (hN : 40 ≤ N) : fX7_framesWith F N w a b = some (zI (fsum r + fsum q - com false r q)) := by
  unfold fX7_framesWith
  have h9 := c_commonFrames h g hN false
  simp only [Bool.false_eq_true, if_false] at h9
  rw [c_frameSum h hN, c_frameSum g hN]
  simp (disch := omega) only [z_0, z_1, z_2, z_3, z_4, z_5, z_6, z_7, z_8, z_9, z_10, z_12, z_13, z_16, z_20, z_24, z_30, z_31, z_32, z_38, z_42, z_44, z_45, z_47, z_48, z_49, z_50, z_57, z_58, z_59, z_60, z_61, z_91, z_97, z_98, z_100, z_108, z_114, z_120, z_122, z_126, z_127, z_128, z_200, z_255, z_961, z_990, z_992, z_998, z_999, z_1000, z_1092, z_1114, z_7798, z_10000, z_1000000, zI_neg, zI_add, zI_sub, zI_mul, zI_lt, zI_le, zI_eq, if_pos, if_neg, if_true, if_false, Option.bind_some, bnd, ldI_is, ldJ_is, Int.toNat_natCast,  h9]
theorem c_labelProducts_15 (h : CRow F w a r) (g : CRow F w b q) {i : Nat} (hi : i < rn r) {A : Int} {k4 : Nat → Nat → Int32 → Int32 → Option Int32} : ∀ (m k j : Nat), j + k = rn q → k < m →
    fX7_labelProducts_15 F N w k4 m a b (zI (A + sumN (prdS r q i) j)) (zI i) (zI j) = k4 a b (zI (A + sumN (prdS r q i) (rn q))) (zI i + 1) := by
  have hl := h.lim
  have hl2 := g.lim
  intro m
  induction m with
  | zero => intro k j _ hk; omega
  | succ m ih =>
    intro k j hik hkm
    unfold fX7_labelProducts_15
    rw [c_many g]
    cases k with
    | zero =>
      have e : j = rn q := by omega
      subst e
      simp (disch := omega) only [z_0, z_1, z_2, z_3, z_4, z_5, z_6, z_7, z_8, z_9, z_10, z_12, z_13, z_16, z_20, z_24, z_30, z_31, z_32, z_38, z_42, z_44, z_45, z_47, z_48, z_49, z_50, z_57, z_58, z_59, z_60, z_61, z_91, z_97, z_98, z_100, z_108, z_114, z_120, z_122, z_126, z_127, z_128, z_200, z_255, z_961, z_990, z_992, z_998, z_999, z_1000, z_1092, z_1114, z_7798, z_10000, z_1000000, zI_neg, zI_add, zI_sub, zI_mul, zI_lt, zI_le, zI_eq, if_pos, if_neg, if_true, if_false, Option.bind_some, bnd, ldI_is, ldJ_is, Int.toNat_natCast, ]
    | succ k =>
      have hj : j < rn q := by omega
      have hb := h.at hi
      have hc := g.at hj
      have ih := ih k (j + 1) (by omega) (by omega)
      unfold fX7_labelProducts_56
      rw [c_length h hi, c_length g hj, c_label h hi, c_label g hj, zI_succ j]
      rw [← sumN_succ, ← Int.add_assoc] at ih
      simp (disch := omega) only [lg_z, cL_inj hb.2.2.2.2 hc.2.2.2.2, Option.bind_some, bnd, z_0, z_1, z_2, z_3, z_4, z_5, z_6, z_7, z_8, z_9, z_10, z_12, z_13, z_16, z_20, z_24, z_30, z_31, z_32, z_38, z_42, z_44, z_45, z_47, z_48, z_49, z_50, z_57, z_58, z_59, z_60, z_61, z_91, z_97, z_98, z_100, z_108, z_114, z_120, z_122, z_126, z_127, z_128, z_200, z_255, z_961, z_990, z_992, z_998, z_999, z_1000, z_1092, z_1114, z_7798, z_10000, z_1000000, zI_mul, zI_add, prdS] at ih ⊢
      by_cases c : rl r i = rl q j
      · simp only [if_pos c] at ih ⊢
        simp (disch := omega) only [z_0, z_1, z_2, z_3, z_4, z_5, z_6, z_7, z_8, z_9, z_10, z_12, z_13, z_16, z_20, z_24, z_30, z_31, z_32, z_38, z_42, z_44, z_45, z_47, z_48, z_49, z_50, z_57, z_58, z_59, z_60, z_61, z_91, z_97, z_98, z_100, z_108, z_114, z_120, z_122, z_126, z_127, z_128, z_200, z_255, z_961, z_990, z_992, z_998, z_999, z_1000, z_1092, z_1114, z_7798, z_10000, z_1000000, zI_neg, zI_add, zI_sub, zI_mul, zI_lt, zI_le, zI_eq, if_pos, if_neg, if_true, if_false, Option.bind_some, bnd, ldI_is, ldJ_is, Int.toNat_natCast,  c]
        exact ih
      · simp only [if_neg c, Int.add_zero] at ih ⊢
        simp (disch := omega) only [z_0, z_1, z_2, z_3, z_4, z_5, z_6, z_7, z_8, z_9, z_10, z_12, z_13, z_16, z_20, z_24, z_30, z_31, z_32, z_38, z_42, z_44, z_45, z_47, z_48, z_49, z_50, z_57, z_58, z_59, z_60, z_61, z_91, z_97, z_98, z_100, z_108, z_114, z_120, z_122, z_126, z_127, z_128, z_200, z_255, z_961, z_990, z_992, z_998, z_999, z_1000, z_1092, z_1114, z_7798, z_10000, z_1000000, zI_neg, zI_add, zI_sub, zI_mul, zI_lt, zI_le, zI_eq, if_pos, if_neg, if_true, if_false, Option.bind_some, bnd, ldI_is, ldJ_is, Int.toNat_natCast,  c]
        exact ih
theorem c_labelProducts_4 (h : CRow F w a r) (g : CRow F w b q) (hN : 40 ≤ N) : ∀ (m k i : Nat), i + k = rn r → k < m →
    fX7_labelProducts_4 F N w m a b (zI (sumN (fun i => sumN (prdS r q i) (rn q)) i)) (zI i) = some (zI (prd r q)) := by
  have hl := h.lim
  have hl2 := g.lim
  intro m
  induction m with
  | zero => intro k i _ hk; omega
  | succ m ih =>
    intro k i hik hkm
    unfold fX7_labelProducts_4
    rw [c_many h]
    cases k with
    | zero =>
      have e : i = rn r := by omega
      subst e
      simp (disch := omega) only [z_0, z_1, z_2, z_3, z_4, z_5, z_6, z_7, z_8, z_9, z_10, z_12, z_13, z_16, z_20, z_24, z_30, z_31, z_32, z_38, z_42, z_44, z_45, z_47, z_48, z_49, z_50, z_57, z_58, z_59, z_60, z_61, z_91, z_97, z_98, z_100, z_108, z_114, z_120, z_122, z_126, z_127, z_128, z_200, z_255, z_961, z_990, z_992, z_998, z_999, z_1000, z_1092, z_1114, z_7798, z_10000, z_1000000, zI_neg, zI_add, zI_sub, zI_mul, zI_lt, zI_le, zI_eq, if_pos, if_neg, if_true, if_false, Option.bind_some, bnd, ldI_is, ldJ_is, Int.toNat_natCast,  prd]
    | succ k =>
      have hi : i < rn r := by omega
      have ih := ih k (i + 1) (by omega) (by omega)
      have h9 := c_labelProducts_15 (N := N) (k4 := fX7_labelProducts_4 F N w m) (A := sumN (fun i => sumN (prdS r q i) (rn q)) i) h g hi N (rn q) 0 (by omega) (by omega)
      rw [show sumN (prdS r q i) 0 = 0 from rfl, Int.add_zero, zI_succ] at h9
      simp (disch := omega) only [z_0, z_1, z_2, z_3, z_4, z_5, z_6, z_7, z_8, z_9, z_10, z_12, z_13, z_16, z_20, z_24, z_30, z_31, z_32, z_38, z_42, z_44, z_45, z_47, z_48, z_49, z_50, z_57, z_58, z_59, z_60, z_61, z_91, z_97, z_98, z_100, z_108, z_114, z_120, z_122, z_126, z_127, z_128, z_200, z_255, z_961, z_990, z_992, z_998, z_999, z_1000, z_1092, z_1114, z_7798, z_10000, z_1000000, zI_neg, zI_add, zI_sub, zI_mul, zI_lt, zI_le, zI_eq, if_pos, if_neg, if_true, if_false, Option.bind_some, bnd, ldI_is, ldJ_is, Int.toNat_natCast, ]
      exact h9.trans ih
theorem c_labelProducts (h : CRow F w a r) (g : CRow F w b q) (hN : 40 ≤ N) : fX7_labelProducts F N w a b = some (zI (prd r q)) := by
  have hl := h.lim
  unfold fX7_labelProducts
  exact c_labelProducts_4 h g hN N (rn r) 0 (by omega) (by omega)
end CROW
