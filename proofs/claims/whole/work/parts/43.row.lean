/-! the class's rows -/
abbrev Rw : Type := Nat × (Nat → Int) × (Nat → Int) × (Nat → List Nat)
def rn (r : Rw) : Nat := r.1
def rf (r : Rw) : Nat → Int := r.2.1
def re (r : Rw) : Nat → Int := r.2.2.1
def rl (r : Rw) : Nat → List Nat := r.2.2.2
def LRow (F : Fr) (a : Nat) : Prop := okF F a 7 ∧ okF F (a + 1) 11 ∧ okF F (a + 2) 11 ∧ okF F (a + 3) 12 ∧ F.2.1 (a + 1) = 31 ∧ F.2.1 (a + 2) = 31 ∧ F.2.1 (a + 3) = 31
def WRow (w : Wd) (a : Nat) : Prop := gR w 700 a = some (a + 1) ∧ gR w 701 a = some (a + 2) ∧ gR w 702 a = some (a + 3)
def DRow (w : Wd) (a : Nat) (r : Rw) : Prop := gI w 703 a = zI (rn r) ∧ ∀ i, i < rn r → aI w (a + 1) i = zI (rf r i) ∧ aI w (a + 2) i = zI (re r i) ∧ aJ w (a + 3) i = cL (rl r i)
def GRow (r : Rw) : Prop := rn r ≤ 31 ∧ ∀ i, i < rn r → 0 ≤ rf r i ∧ rf r i ≤ 1000 ∧ 0 ≤ re r i ∧ re r i ≤ 1000 ∧ VL (rl r i)
def CRow (F : Fr) (w : Wd) (a : Nat) (r : Rw) : Prop := LRow F a ∧ WRow w a ∧ DRow w a r ∧ GRow r
theorem CRow.keep {F : Fr} {S : Nat → Prop} {w w' : Wd} {a : Nat} {r : Rw} (h : CRow F w a r) (k : Kp S w w') (hs : ∀ x, a ≤ x → x < a + 4 → ¬ S x) : CRow F w' a r := by
  obtain ⟨h1, ⟨g1, g2, g3⟩, ⟨d0, d⟩, h4⟩ := h
  have s0 := hs a (by omega) (by omega)
  have s1 := hs (a + 1) (by omega) (by omega)
  have s2 := hs (a + 2) (by omega) (by omega)
  have s3 := hs (a + 3) (by omega) (by omega)
  refine ⟨h1, ⟨?_, ?_, ?_⟩, ⟨?_, fun i hi => ?_⟩, h4⟩
  · rw [k.gR s0]; exact g1
  · rw [k.gR s0]; exact g2
  · rw [k.gR s0]; exact g3
  · rw [k.gI s0]; exact d0
  · rw [k.aI s1, k.aI s2, k.aJ s3]; exact d i hi
section CROW
variable {F : Fr} {N : Nat} {w : Wd} {a b : Nat} {r q : Rw}
theorem c_first (h : CRow F w a r) {i : Nat} (hi : i < rn r) : fX7_first F N w a (zI i) = some (zI (rf r i)) := by
  obtain ⟨⟨o0, o1, o2, o3, l1, l2, l3⟩, ⟨g1, g2, g3⟩, ⟨d0, d⟩, b0, b⟩ := h
  unfold fX7_first
  simp (disch := omega) only [z_0, z_1, z_2, z_3, z_4, z_5, z_6, z_7, z_8, z_9, z_10, z_12, z_13, z_16, z_20, z_24, z_30, z_31, z_32, z_38, z_42, z_44, z_45, z_47, z_48, z_49, z_50, z_57, z_58, z_59, z_60, z_61, z_91, z_97, z_98, z_100, z_108, z_114, z_120, z_122, z_126, z_127, z_128, z_200, z_255, z_961, z_990, z_992, z_998, z_999, z_1000, z_1092, z_1114, z_7798, z_10000, z_1000000, zI_neg, zI_add, zI_sub, zI_mul, zI_lt, zI_le, zI_eq, if_pos, if_neg, if_true, if_false, Option.bind_some, bnd, ldI_is, ldJ_is, Int.toNat_natCast,  rdR_is g1 o1, (d i hi).1]
theorem c_end (h : CRow F w a r) {i : Nat} (hi : i < rn r) : fX7_end F N w a (zI i) = some (zI (re r i)) := by
  obtain ⟨⟨o0, o1, o2, o3, l1, l2, l3⟩, ⟨g1, g2, g3⟩, ⟨d0, d⟩, b0, b⟩ := h
  unfold fX7_end
  simp (disch := omega) only [z_0, z_1, z_2, z_3, z_4, z_5, z_6, z_7, z_8, z_9, z_10, z_12, z_13, z_16, z_20, z_24, z_30, z_31, z_32, z_38, z_42, z_44, z_45, z_47, z_48, z_49, z_50, z_57, z_58, z_59, z_60, z_61, z_91, z_97, z_98, z_100, z_108, z_114, z_120, z_122, z_126, z_127, z_128, z_200, z_255, z_961, z_990, z_992, z_998, z_999, z_1000, z_1092, z_1114, z_7798, z_10000, z_1000000, zI_neg, zI_add, zI_sub, zI_mul, zI_lt, zI_le, zI_eq, if_pos, if_neg, if_true, if_false, Option.bind_some, bnd, ldI_is, ldJ_is, Int.toNat_natCast,  rdR_is g2 o2, (d i hi).2.1]
theorem c_label (h : CRow F w a r) {i : Nat} (hi : i < rn r) : fX7_label F N w a (zI i) = some (cL (rl r i)) := by
  obtain ⟨⟨o0, o1, o2, o3, l1, l2, l3⟩, ⟨g1, g2, g3⟩, ⟨d0, d⟩, b0, b⟩ := h
  unfold fX7_label
  simp (disch := omega) only [z_0, z_1, z_2, z_3, z_4, z_5, z_6, z_7, z_8, z_9, z_10, z_12, z_13, z_16, z_20, z_24, z_30, z_31, z_32, z_38, z_42, z_44, z_45, z_47, z_48, z_49, z_50, z_57, z_58, z_59, z_60, z_61, z_91, z_97, z_98, z_100, z_108, z_114, z_120, z_122, z_126, z_127, z_128, z_200, z_255, z_961, z_990, z_992, z_998, z_999, z_1000, z_1092, z_1114, z_7798, z_10000, z_1000000, zI_neg, zI_add, zI_sub, zI_mul, zI_lt, zI_le, zI_eq, if_pos, if_neg, if_true, if_false, Option.bind_some, bnd, ldI_is, ldJ_is, Int.toNat_natCast,  rdR_is g3 o3, (d i hi).2.2]
theorem c_length (h : CRow F w a r) {i : Nat} (hi : i < rn r) : fX7_length F N w a (zI i) = some (zI (re r i - rf r i)) := by
  unfold fX7_length
  simp (disch := omega) only [z_0, z_1, z_2, z_3, z_4, z_5, z_6, z_7, z_8, z_9, z_10, z_12, z_13, z_16, z_20, z_24, z_30, z_31, z_32, z_38, z_42, z_44, z_45, z_47, z_48, z_49, z_50, z_57, z_58, z_59, z_60, z_61, z_91, z_97, z_98, z_100, z_108, z_114, z_120, z_122, z_126, z_127, z_128, z_200, z_255, z_961, z_990, z_992, z_998, z_999, z_1000, z_1092, z_1114, z_7798, z_10000, z_1000000, zI_neg, zI_add, zI_sub, zI_mul, zI_lt, zI_le, zI_eq, if_pos, if_neg, if_true, if_false, Option.bind_some, bnd, ldI_is, ldJ_is, Int.toNat_natCast,  c_first h hi, c_end h hi]
theorem c_many (h : CRow F w a r) : gI w 703 a = zI (rn r) := h.2.2.1.1
theorem CRow.lim (h : CRow F w a r) : rn r ≤ 31 := h.2.2.2.1
theorem CRow.at (h : CRow F w a r) {i : Nat} (hi : i < rn r) : 0 ≤ rf r i ∧ rf r i ≤ 1000 ∧ 0 ≤ re r i ∧ re r i ≤ 1000 ∧ VL (rl r i) := h.2.2.2.2 i hi
theorem c_meeting_3 (h : CRow F w a r) {f e x : Int} (hf : 0 ≤ f ∧ f ≤ 1000) (he : 0 ≤ e ∧ e ≤ 1000) (hx : -1 ≤ x ∧ x ≤ 100) : ∀ (m k i : Nat), i + k = rn r → k < m →
    fX7_meeting_3 F N w m a (zI f) (zI e) (zI x) (zI i) = some (zI (fnd (fun j => decide (¬ (j : Int) = x ∧ rf r j < e ∧ f < re r j)) k i)) := by
  have hl := h.lim
  intro m
  induction m with
  | zero => intro k i _ hk; omega
  | succ m ih =>
    intro k i hik hkm
    unfold fX7_meeting_3
    rw [c_many h]
    cases k with
    | zero => simp (disch := omega) only [z_0, z_1, z_2, z_3, z_4, z_5, z_6, z_7, z_8, z_9, z_10, z_12, z_13, z_16, z_20, z_24, z_30, z_31, z_32, z_38, z_42, z_44, z_45, z_47, z_48, z_49, z_50, z_57, z_58, z_59, z_60, z_61, z_91, z_97, z_98, z_100, z_108, z_114, z_120, z_122, z_126, z_127, z_128, z_200, z_255, z_961, z_990, z_992, z_998, z_999, z_1000, z_1092, z_1114, z_7798, z_10000, z_1000000, zI_neg, zI_add, zI_sub, zI_mul, zI_lt, zI_le, zI_eq, if_pos, if_neg, if_true, if_false, Option.bind_some, bnd, ldI_is, ldJ_is, Int.toNat_natCast,  fnd]
    | succ k =>
      have hi : i < rn r := by omega
      have := h.at hi
      have ih := ih k (i + 1) (by omega) (by omega)
      unfold fX7_meeting_41
      rw [c_first h hi, c_end h hi, zI_succ]
      by_cases c1 : (i : Int) = x <;> by_cases c2 : rf r i < e <;> by_cases c3 : f < re r i <;> simp (disch := omega) only [z_0, z_1, z_2, z_3, z_4, z_5, z_6, z_7, z_8, z_9, z_10, z_12, z_13, z_16, z_20, z_24, z_30, z_31, z_32, z_38, z_42, z_44, z_45, z_47, z_48, z_49, z_50, z_57, z_58, z_59, z_60, z_61, z_91, z_97, z_98, z_100, z_108, z_114, z_120, z_122, z_126, z_127, z_128, z_200, z_255, z_961, z_990, z_992, z_998, z_999, z_1000, z_1092, z_1114, z_7798, z_10000, z_1000000, zI_neg, zI_add, zI_sub, zI_mul, zI_lt, zI_le, zI_eq, if_pos, if_neg, if_true, if_false, Option.bind_some, bnd, ldI_is, ldJ_is, Int.toNat_natCast,  ih, fnd, decide_eq_true_eq, c1, c2, c3, not_true_eq_false, not_false_eq_true, and_true, true_and, and_self, and_false, false_and, decide_true, decide_false, Bool.false_eq_true]
theorem c_meeting (h : CRow F w a r) (hN : 40 ≤ N) {f e x : Int} (hf : 0 ≤ f ∧ f ≤ 1000) (he : 0 ≤ e ∧ e ≤ 1000) (hx : -1 ≤ x ∧ x ≤ 100) :
    fX7_meeting F N w a (zI f) (zI e) (zI x) = some (zI (fnd (fun j => decide (¬ (j : Int) = x ∧ rf r j < e ∧ f < re r j)) (rn r) 0)) := by
  have hl := h.lim
  unfold fX7_meeting
  exact c_meeting_3 h hf he hx N (rn r) 0 (by omega) (by omega)
end CROW
