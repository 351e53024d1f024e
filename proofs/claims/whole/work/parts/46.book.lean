/-! the class's books: what is read of them -/
abbrev Bk : Type := Nat × (Nat → Int) × (Nat → Int) × (Nat → Int) × (Nat → Nat → Rw) × Nat × Int × Int
def bn (k : Bk) : Nat := k.1
def bkd (k : Bk) : Nat → Int := k.2.1
def brl (k : Bk) : Nat → Int := k.2.2.1
def bpr (k : Bk) : Nat → Int := k.2.2.2.1
def brw (k : Bk) : Nat → Nat → Rw := k.2.2.2.2.1
def ban (k : Bk) : Nat := k.2.2.2.2.2.1
def bwi (k : Bk) : Int := k.2.2.2.2.2.2.1
def bga (k : Bk) : Int := k.2.2.2.2.2.2.2
/-- where the row of an annotator and a tier lies -/
def ra (b x t : Nat) : Nat := b + 9 + 4 * (6 * x + t)
def LBook (F : Fr) (b : Nat) : Prop := okF F b 1 ∧ okF F (b + 1) 11 ∧ okF F (b + 2) 11 ∧ okF F (b + 3) 11 ∧ okF F (b + 4) 15 ∧ F.2.1 (b + 1) = 6 ∧ F.2.1 (b + 2) = 6 ∧ F.2.1 (b + 3) = 6 ∧ F.2.1 (b + 4) = 12 ∧ ∀ x t, x < 2 → t < 6 → LRow F (ra b x t)
def WBook (w : Wd) (b : Nat) : Prop := gR w 100 b = some (b + 1) ∧ gR w 101 b = some (b + 2) ∧ gR w 102 b = some (b + 3) ∧ gR w 103 b = some (b + 4) ∧ ∀ x t, x < 2 → t < 6 → aR w (b + 4) (6 * x + t) = some (ra b x t) ∧ WRow w (ra b x t)
def DBook (w : Wd) (b : Nat) (k : Bk) : Prop := gI w 105 b = zI (bn k) ∧ gI w 106 b = zI (ban k) ∧ gI w 107 b = zI (bwi k) ∧ gI w 108 b = zI (bga k) ∧ ∀ t, t < bn k → aI w (b + 1) t = zI (bkd k t) ∧ aI w (b + 2) t = zI (brl k t) ∧ aI w (b + 3) t = zI (bpr k t) ∧ ∀ x, x < 2 → DRow w (ra b x t) (brw k x t)
def GBook (k : Bk) : Prop := bn k ≤ 6 ∧ ban k < 2 ∧ (0 ≤ bwi k ∧ bwi k ≤ 200) ∧ (0 ≤ bga k ∧ bga k ≤ 200) ∧ ∀ t, t < bn k → (0 ≤ bkd k t ∧ bkd k t ≤ 3) ∧ (0 ≤ brl k t ∧ brl k t ≤ 3) ∧ (-1 ≤ bpr k t ∧ bpr k t < t) ∧ (brl k t = 0 → bpr k t = -1) ∧ (brl k t ≠ 0 → 0 ≤ bpr k t) ∧ ∀ x, x < 2 → GRow (brw k x t)
def CBook (F : Fr) (w : Wd) (b : Nat) (k : Bk) : Prop := LBook F b ∧ WBook w b ∧ DBook w b k ∧ GBook k
theorem WRow.keep {S : Nat → Prop} {w w' : Wd} {a : Nat} (h : WRow w a) (k : Kp S w w') (hs : ∀ x, a ≤ x → x < a + 4 → ¬ S x) : WRow w' a := by
  have s0 := hs a (by omega) (by omega)
  unfold WRow
  rw [k.gR s0, k.gR s0, k.gR s0]
  exact h
theorem DRow.keep {S : Nat → Prop} {w w' : Wd} {a : Nat} {r : Rw} (h : DRow w a r) (k : Kp S w w') (hs : ∀ x, a ≤ x → x < a + 4 → ¬ S x) : DRow w' a r := by
  have s0 := hs a (by omega) (by omega)
  have s1 := hs (a + 1) (by omega) (by omega)
  have s2 := hs (a + 2) (by omega) (by omega)
  have s3 := hs (a + 3) (by omega) (by omega)
  unfold DRow
  rw [k.gI s0, k.aI s1, k.aI s2, k.aJ s3]
  exact h
theorem CBook.keep {F : Fr} {S : Nat → Prop} {w w' : Wd} {b : Nat} {k : Bk} (h : CBook F w b k) (kp : Kp S w w') (hs : ∀ x, b ≤ x → x < b + 57 → ¬ S x) : CBook F w' b k := by
  obtain ⟨L, ⟨g1, g2, g3, g4, g5⟩, ⟨d1, d2, d3, d4, d5⟩, G⟩ := h
  have s0 := hs b (by omega) (by omega)
  have s1 := hs (b + 1) (by omega) (by omega)
  have s2 := hs (b + 2) (by omega) (by omega)
  have s3 := hs (b + 3) (by omega) (by omega)
  have s4 := hs (b + 4) (by omega) (by omega)
  have hn := G.1
  refine ⟨L, ⟨?_, ?_, ?_, ?_, fun x t hx ht => ⟨?_, ?_⟩⟩, ⟨?_, ?_, ?_, ?_, fun t ht => ⟨?_, ?_, ?_, fun x hx => ?_⟩⟩, G⟩
  · rw [kp.gR s0]; exact g1
  · rw [kp.gR s0]; exact g2
  · rw [kp.gR s0]; exact g3
  · rw [kp.gR s0]; exact g4
  · rw [kp.aR s4]; exact (g5 x t hx ht).1
  · exact (g5 x t hx ht).2.keep kp (fun y h1 h2 => hs y (by unfold ra at h1; omega) (by unfold ra at h2; omega))
  · rw [kp.gI s0]; exact d1
  · rw [kp.gI s0]; exact d2
  · rw [kp.gI s0]; exact d3
  · rw [kp.gI s0]; exact d4
  · rw [kp.aI s1]; exact (d5 t ht).1
  · rw [kp.aI s2]; exact (d5 t ht).2.1
  · rw [kp.aI s3]; exact (d5 t ht).2.2.1
  · exact ((d5 t ht).2.2.2 x hx).keep kp (fun y h1 h2 => hs y (by unfold ra at h1; omega) (by unfold ra at h2; omega))
section CBOOK
variable {F : Fr} {N : Nat} {w : Wd} {a b : Nat} {r q : Rw} {k : Bk}
theorem CBook.row (h : CBook F w b k) {x t : Nat} (hx : x < 2) (ht : t < bn k) : CRow F w (ra b x t) (brw k x t) := by
  have hn := h.2.2.2.1
  exact ⟨h.1.2.2.2.2.2.2.2.2.2 x t hx (by omega), (h.2.1.2.2.2.2 x t hx (by omega)).2, (h.2.2.1.2.2.2.2 t ht).2.2.2 x hx, (h.2.2.2.2.2.2.2 t ht).2.2.2.2.2 x hx⟩
theorem CBook.g (h : CBook F w b k) : GBook k := h.2.2.2
theorem c_bn (h : CBook F w b k) : gI w 105 b = zI (bn k) := h.2.2.1.1
theorem c_ban (h : CBook F w b k) : gI w 106 b = zI (ban k) := h.2.2.1.2.1
theorem c_kindOf (h : CBook F w b k) {t : Nat} (ht : t < bn k) : fX1_kindOf F N w b (zI t) = some (zI (bkd k t)) := by
  obtain ⟨⟨o0, o1, o2, o3, o4, l1, l2, l3, l4, oR⟩, ⟨g1, g2, g3, g4, g5⟩, ⟨d1, d2, d3, d4, d5⟩, G⟩ := h
  have hn := G.1
  unfold fX1_kindOf
  simp (disch := omega) only [z_0, z_1, z_2, z_3, z_4, z_5, z_6, z_7, z_8, z_9, z_10, z_12, z_13, z_16, z_20, z_24, z_30, z_31, z_32, z_38, z_42, z_44, z_45, z_47, z_48, z_49, z_50, z_57, z_58, z_59, z_60, z_61, z_91, z_97, z_98, z_100, z_108, z_114, z_120, z_122, z_126, z_127, z_128, z_200, z_255, z_961, z_990, z_992, z_998, z_999, z_1000, z_1092, z_1114, z_7798, z_10000, z_1000000, zI_neg, zI_add, zI_sub, zI_mul, zI_lt, zI_le, zI_eq, if_pos, if_neg, if_true, if_false, Option.bind_some, bnd, ldI_is, ldJ_is, Int.toNat_natCast,  rdR_is g1 o1, (d5 t ht).1]
theorem c_ruleOf (h : CBook F w b k) {t : Nat} (ht : t < bn k) : fX1_ruleOf F N w b (zI t) = some (zI (brl k t)) := by
  obtain ⟨⟨o0, o1, o2, o3, o4, l1, l2, l3, l4, oR⟩, ⟨g1, g2, g3, g4, g5⟩, ⟨d1, d2, d3, d4, d5⟩, G⟩ := h
  have hn := G.1
  unfold fX1_ruleOf
  simp (disch := omega) only [z_0, z_1, z_2, z_3, z_4, z_5, z_6, z_7, z_8, z_9, z_10, z_12, z_13, z_16, z_20, z_24, z_30, z_31, z_32, z_38, z_42, z_44, z_45, z_47, z_48, z_49, z_50, z_57, z_58, z_59, z_60, z_61, z_91, z_97, z_98, z_100, z_108, z_114, z_120, z_122, z_126, z_127, z_128, z_200, z_255, z_961, z_990, z_992, z_998, z_999, z_1000, z_1092, z_1114, z_7798, z_10000, z_1000000, zI_neg, zI_add, zI_sub, zI_mul, zI_lt, zI_le, zI_eq, if_pos, if_neg, if_true, if_false, Option.bind_some, bnd, ldI_is, ldJ_is, Int.toNat_natCast,  rdR_is g2 o2, (d5 t ht).2.1]
theorem c_parentOf (h : CBook F w b k) {t : Nat} (ht : t < bn k) : fX1_parentOf F N w b (zI t) = some (zI (bpr k t)) := by
  obtain ⟨⟨o0, o1, o2, o3, o4, l1, l2, l3, l4, oR⟩, ⟨g1, g2, g3, g4, g5⟩, ⟨d1, d2, d3, d4, d5⟩, G⟩ := h
  have hn := G.1
  unfold fX1_parentOf
  simp (disch := omega) only [z_0, z_1, z_2, z_3, z_4, z_5, z_6, z_7, z_8, z_9, z_10, z_12, z_13, z_16, z_20, z_24, z_30, z_31, z_32, z_38, z_42, z_44, z_45, z_47, z_48, z_49, z_50, z_57, z_58, z_59, z_60, z_61, z_91, z_97, z_98, z_100, z_108, z_114, z_120, z_122, z_126, z_127, z_128, z_200, z_255, z_961, z_990, z_992, z_998, z_999, z_1000, z_1092, z_1114, z_7798, z_10000, z_1000000, zI_neg, zI_add, zI_sub, zI_mul, zI_lt, zI_le, zI_eq, if_pos, if_neg, if_true, if_false, Option.bind_some, bnd, ldI_is, ldJ_is, Int.toNat_natCast,  rdR_is g3 o3, (d5 t ht).2.2.1]
theorem c_rowW (L : LBook F b) (W : WBook w b) {x t : Nat} (hx : x < 2) (ht : t < 6) : fX1_row F N w b (zI x) (zI t) = some (ra b x t) := by
  obtain ⟨o0, o1, o2, o3, o4, l1, l2, l3, l4, oR⟩ := L
  obtain ⟨g1, g2, g3, g4, g5⟩ := W
  unfold fX1_row
  have e : ((x : Int) * 6 + t).toNat = 6 * x + t := by omega
  have hq : aR w (b + 4) ((x : Int) * 6 + t).toNat = some (ra b x t) := by rw [e]; exact (g5 x t hx ht).1
  simp (disch := omega) only [z_0, z_1, z_2, z_3, z_4, z_5, z_6, z_7, z_8, z_9, z_10, z_12, z_13, z_16, z_20, z_24, z_30, z_31, z_32, z_38, z_42, z_44, z_45, z_47, z_48, z_49, z_50, z_57, z_58, z_59, z_60, z_61, z_91, z_97, z_98, z_100, z_108, z_114, z_120, z_122, z_126, z_127, z_128, z_200, z_255, z_961, z_990, z_992, z_998, z_999, z_1000, z_1092, z_1114, z_7798, z_10000, z_1000000, zI_neg, zI_add, zI_sub, zI_mul, zI_lt, zI_le, zI_eq, if_pos, if_neg, if_true, if_false, Option.bind_some, bnd, ldI_is, ldJ_is, Int.toNat_natCast,  nI_z, rdR_is g4 o4, l4, ldR_is (by omega) (by rw [l4]; omega) (by omega) hq (oR x t hx ht).1]
  rfl
theorem c_row (h : CBook F w b k) {x t : Nat} (hx : x < 2) (ht : t < bn k) : fX1_row F N w b (zI x) (zI t) = some (ra b x t) :=
  c_rowW h.1 h.2.1 hx (by have := h.2.2.2.1; omega)
theorem CBook.ckRow (h : CBook F w b k) {x t : Nat} (hx : x < 2) (ht : t < bn k) : ckF F (ra b x t) 7 = some (ra b x t) := ckF_is (h.row hx ht).1.1
theorem c_present (h : CBook F w b k) {t : Nat} (ht : t < bn k) : fX1_present F N w b (zI t) = some (ra b (ban k) t) := by
  have hx := h.2.2.2.2.1
  unfold fX1_present
  rw [c_ban h, c_row h hx ht, Option.bind_some, h.ckRow hx ht]
  rfl
theorem c_hasTier (h : CBook F w b k) {t : Int} (ht : -2147483648 ≤ t ∧ t < 2147483648) : fX1_hasTier F N w b (zI t) = some (if 0 ≤ t ∧ t < bn k then 1 else 0) := by
  have hn := h.g.1
  unfold fX1_hasTier
  rw [c_bn h]
  by_cases c : 0 ≤ t <;> by_cases d : t < bn k <;> first | omega | simp (disch := omega) only [z_0, z_1, z_2, z_3, z_4, z_5, z_6, z_7, z_8, z_9, z_10, z_12, z_13, z_16, z_20, z_24, z_30, z_31, z_32, z_38, z_42, z_44, z_45, z_47, z_48, z_49, z_50, z_57, z_58, z_59, z_60, z_61, z_91, z_97, z_98, z_100, z_108, z_114, z_120, z_122, z_126, z_127, z_128, z_200, z_255, z_961, z_990, z_992, z_998, z_999, z_1000, z_1092, z_1114, z_7798, z_10000, z_1000000, zI_neg, zI_add, zI_sub, zI_mul, zI_lt, zI_le, zI_eq, if_pos, if_neg, if_true, if_false, Option.bind_some, bnd, ldI_is, ldJ_is, Int.toNat_natCast, ]
theorem c_hasSpan (h : CBook F w b k) {t i : Int} (ht : -2147483648 ≤ t ∧ t < 2147483648) (hi : -2147483648 ≤ i ∧ i < 2147483648) : fX1_hasSpan F N w b (zI t) (zI i) = some (if 0 ≤ t ∧ t < bn k ∧ 0 ≤ i ∧ i < rn (brw k (ban k) t.toNat) then 1 else 0) := by
  have hn := h.g.1
  have hx := h.g.2.1
  unfold fX1_hasSpan
  rw [c_hasTier h ht]
  by_cases c : 0 ≤ t ∧ t < bn k
  · obtain ⟨t', rfl⟩ : ∃ t' : Nat, t = t' := ⟨t.toNat, by omega⟩
    have ht' : t' < bn k := by omega
    have hr := h.row hx ht'
    have hl := hr.lim
    rw [c_present h ht', if_pos c]
    simp only [Option.bind_some, h.ckRow hx ht', c_many hr, Int.toNat_natCast]
    rw [if_neg (by decide)]
    by_cases d : 0 ≤ i <;> by_cases e : i < rn (brw k (ban k) t') <;> first | omega | simp (disch := omega) only [z_0, z_1, z_2, z_3, z_4, z_5, z_6, z_7, z_8, z_9, z_10, z_12, z_13, z_16, z_20, z_24, z_30, z_31, z_32, z_38, z_42, z_44, z_45, z_47, z_48, z_49, z_50, z_57, z_58, z_59, z_60, z_61, z_91, z_97, z_98, z_100, z_108, z_114, z_120, z_122, z_126, z_127, z_128, z_200, z_255, z_961, z_990, z_992, z_998, z_999, z_1000, z_1092, z_1114, z_7798, z_10000, z_1000000, zI_neg, zI_add, zI_sub, zI_mul, zI_lt, zI_le, zI_eq, if_pos, if_neg, if_true, if_false, Option.bind_some, bnd, ldI_is, ldJ_is, Int.toNat_natCast, ]
  · rw [if_neg c, Option.bind_some, if_pos rfl, if_neg (fun h9 => c ⟨h9.1, h9.2.1⟩)]
def hstP (rule : Int) (r : Rw) (f e : Int) (j : Nat) : Bool := decide ((rule = 1 ∧ rf r j ≤ f ∧ e ≤ re r j) ∨ (rule = 2 ∧ rf r j = f ∧ re r j = e) ∨ (rule = 3 ∧ rf r j = f))
def hst (rule : Int) (r : Rw) (f e : Int) : Int := fnd (hstP rule r f e) (rn r) 0
theorem fnd_succ (p : Nat → Bool) (k i : Nat) : fnd p (k + 1) i = if p i then (i : Int) else fnd p k (i + 1) := rfl
theorem host_97_is {k3 : Nat → Int32 → Int32 → Int32 → Int32 → Option Int32} (u f e i x : Int32) : fX7_host_97 F N w k3 a u f e i x = if u = 3 ∧ ¬ x = 0 then some i else k3 a u f e (i + 1) := by
  unfold fX7_host_97 fX7_host_110
  by_cases c : u = 3 <;> by_cases d : x = 0 <;> simp [c, d]
theorem host_82_is {k3 : Nat → Int32 → Int32 → Int32 → Int32 → Option Int32} (u f e i x y : Int32) : fX7_host_82 F N w k3 a u f e i x y = if (u = 2 ∧ ¬ x = 0 ∧ ¬ y = 0) ∨ (u = 3 ∧ ¬ x = 0) then some i else k3 a u f e (i + 1) := by
  unfold fX7_host_82
  simp only [host_97_is]
  by_cases c : u = 2 <;> by_cases d : x = 0 <;> by_cases g : y = 0 <;> simp [c, d, g]
theorem host_53_is (h : CRow F w a r) {k3 : Nat → Int32 → Int32 → Int32 → Int32 → Option Int32} (u f e x y : Int32) {i : Nat} (hi : i < rn r) : fX7_host_53 F N w k3 a u f e (zI i) x y = if (u = 1 ∧ ¬ f < zI (rf r i) ∧ e ≤ zI (re r i)) ∨ (u = 2 ∧ ¬ x = 0 ∧ ¬ y = 0) ∨ (u = 3 ∧ ¬ x = 0) then some (zI i) else k3 a u f e (zI i + 1) := by
  have hl := h.lim
  obtain ⟨⟨o0, o1, o2, o3, l1, l2, l3⟩, ⟨g1, g2, g3⟩, ⟨d0, d⟩, b0, b⟩ := h
  unfold fX7_host_53
  rw [rdR_is g1 o1, rdR_is g2 o2]
  simp only [Option.bind_some]
  rw [ldI_is (by omega) (by omega) (by omega), ldI_is (by omega) (by omega) (by omega)]
  simp only [Option.bind_some, Int.toNat_natCast, (d i hi).1, (d i hi).2.1, host_82_is]
  by_cases c : u = 1 <;> by_cases d : f < zI (rf r i) <;> by_cases g : e ≤ zI (re r i) <;> simp [c, d, g]
theorem c_host_3 (h : CRow F w a r) {f e u : Int} (hf : 0 ≤ f ∧ f ≤ 1000) (he : 0 ≤ e ∧ e ≤ 1000) (hu : 0 ≤ u ∧ u ≤ 3) : ∀ (m k i : Nat), i + k = rn r → k < m →
    fX7_host_3 F N w m a (zI u) (zI f) (zI e) (zI i) = some (zI (fnd (hstP u r f e) k i)) := by
  have hl := h.lim
  have h0 := h
  obtain ⟨⟨o0, o1, o2, o3, l1, l2, l3⟩, ⟨g1, g2, g3⟩, ⟨d0, d⟩, b0, b⟩ := h
  intro m
  induction m with
  | zero => intro k i _ hk; omega
  | succ m ih =>
    intro k i hik hkm
    unfold fX7_host_3
    rw [d0]
    cases k with
    | zero => simp (disch := omega) only [z_0, z_1, z_2, z_3, z_4, z_5, z_6, z_7, z_8, z_9, z_10, z_12, z_13, z_16, z_20, z_24, z_30, z_31, z_32, z_38, z_42, z_44, z_45, z_47, z_48, z_49, z_50, z_57, z_58, z_59, z_60, z_61, z_91, z_97, z_98, z_100, z_108, z_114, z_120, z_122, z_126, z_127, z_128, z_200, z_255, z_961, z_990, z_992, z_998, z_999, z_1000, z_1092, z_1114, z_7798, z_10000, z_1000000, zI_neg, zI_add, zI_sub, zI_mul, zI_lt, zI_le, zI_eq, if_pos, if_neg, if_true, if_false, Option.bind_some, bnd, ldI_is, ldJ_is, Int.toNat_natCast,  fnd]
    | succ k =>
      have hi : i < rn r := by omega
      have hb := b i hi
      have ih := ih k (i + 1) (by omega) (by omega)
      unfold fX7_host_35
      simp (disch := omega) only [z_0, z_1, z_2, z_3, z_4, z_5, z_6, z_7, z_8, z_9, z_10, z_12, z_13, z_16, z_20, z_24, z_30, z_31, z_32, z_38, z_42, z_44, z_45, z_47, z_48, z_49, z_50, z_57, z_58, z_59, z_60, z_61, z_91, z_97, z_98, z_100, z_108, z_114, z_120, z_122, z_126, z_127, z_128, z_200, z_255, z_961, z_990, z_992, z_998, z_999, z_1000, z_1092, z_1114, z_7798, z_10000, z_1000000, zI_neg, zI_add, zI_sub, zI_mul, zI_lt, zI_le, zI_eq, if_pos, if_neg, if_true, if_false, Option.bind_some, bnd, ldI_is, ldJ_is, Int.toNat_natCast,  rdR_is g1 o1, rdR_is g2 o2, (d i hi).1, (d i hi).2.1, host_53_is h0 _ _ _ _ _ hi]
      rw [show zI ((i : Int) + 1) = zI ((i + 1 : Nat) : Int) from rfl, ih]
      have hu4 : u = 0 ∨ u = 1 ∨ u = 2 ∨ u = 3 := by omega
      rw [fnd_succ]
      by_cases c1 : rf r i = f <;> by_cases c2 : re r i = e <;> by_cases c3 : rf r i ≤ f <;> by_cases c4 : e ≤ re r i <;> first | omega | (rcases hu4 with rfl | rfl | rfl | rfl <;> simp [hstP, c1, c2, c3, c4])
theorem c_host (h : CRow F w a r) (hN : 40 ≤ N) {f e u : Int} (hf : 0 ≤ f ∧ f ≤ 1000) (he : 0 ≤ e ∧ e ≤ 1000) (hu : 0 ≤ u ∧ u ≤ 3) : fX7_host F N w a (zI u) (zI f) (zI e) = some (zI (hst u r f e)) := by
  have hl := h.lim
  unfold fX7_host
  exact c_host_3 h hf he hu N (rn r) 0 (by omega) (by omega)
def hostB (k : Bk) (x t : Nat) (f e : Int) : Int := if brl k t = 0 then -1 else hst (brl k t) (brw k x (bpr k t).toNat) f e
theorem hst_lim (u : Int) (r : Rw) (f e : Int) : -1 ≤ hst u r f e ∧ hst u r f e < rn r + 1 := by
  unfold hst
  rcases fnd_cases (hstP u r f e) (rn r) 0 with ⟨h1, -⟩ | ⟨j, h1, h2, h3, -⟩ <;> omega
theorem c_hostOf (h : CBook F w b k) (hN : 40 ≤ N) {x t : Nat} (hx : x < 2) (ht : t < bn k) {f e : Int} (hf : 0 ≤ f ∧ f ≤ 1000) (he : 0 ≤ e ∧ e ≤ 1000) : fX1_hostOf F N w b (zI x) (zI t) (zI f) (zI e) = some (zI (hostB k x t f e)) := by
  have hg := h.g.2.2.2.2 t ht
  have hn := h.g.1
  unfold fX1_hostOf hostB
  rw [c_ruleOf h ht]
  by_cases c : brl k t = 0
  · simp (disch := omega) only [z_0, z_1, z_2, z_3, z_4, z_5, z_6, z_7, z_8, z_9, z_10, z_12, z_13, z_16, z_20, z_24, z_30, z_31, z_32, z_38, z_42, z_44, z_45, z_47, z_48, z_49, z_50, z_57, z_58, z_59, z_60, z_61, z_91, z_97, z_98, z_100, z_108, z_114, z_120, z_122, z_126, z_127, z_128, z_200, z_255, z_961, z_990, z_992, z_998, z_999, z_1000, z_1092, z_1114, z_7798, z_10000, z_1000000, zI_neg, zI_add, zI_sub, zI_mul, zI_lt, zI_le, zI_eq, if_pos, if_neg, if_true, if_false, Option.bind_some, bnd, ldI_is, ldJ_is, Int.toNat_natCast, ]
  · have hp := hg.2.2.2.2.1 c
    have hp2 := hg.2.2.1.2
    have e1 : zI (bpr k t) = zI ((bpr k t).toNat : Int) := by congr 1; omega
    have hp3 : (bpr k t).toNat < bn k := by omega
    rw [if_neg c, c_parentOf h ht, e1]
    simp only [Option.bind_some]
    rw [if_neg (by simp (disch := omega) only [z_0, z_1, z_2, z_3, z_4, z_5, z_6, z_7, z_8, z_9, z_10, z_12, z_13, z_16, z_20, z_24, z_30, z_31, z_32, z_38, z_42, z_44, z_45, z_47, z_48, z_49, z_50, z_57, z_58, z_59, z_60, z_61, z_91, z_97, z_98, z_100, z_108, z_114, z_120, z_122, z_126, z_127, z_128, z_200, z_255, z_961, z_990, z_992, z_998, z_999, z_1000, z_1092, z_1114, z_7798, z_10000, z_1000000, zI_neg, zI_add, zI_sub, zI_mul, zI_lt, zI_le, zI_eq, if_pos, if_neg, if_true, if_false, Option.bind_some, bnd, ldI_is, ldJ_is, Int.toNat_natCast,  c, not_false_eq_true])]
    simp only [c_row h hx hp3, h.ckRow hx hp3, Option.bind_some, c_host (h.row hx hp3) hN hf he hg.2.1]
def lack (k : Bk) (x t : Nat) (f e : Int) : Bool := decide (¬ brl k t = 0 ∧ hostB k x t f e = -1)
theorem c_lacksHost (h : CBook F w b k) (hN : 40 ≤ N) {x t : Nat} (hx : x < 2) (ht : t < bn k) {f e : Int} (hf : 0 ≤ f ∧ f ≤ 1000) (he : 0 ≤ e ∧ e ≤ 1000) : fX1_lacksHost F N w b (zI x) (zI t) (zI f) (zI e) = some (if lack k x t f e = true then 1 else 0) := by
  have hg := h.g.2.2.2.2 t ht
  have hn := h.g.1
  unfold fX1_lacksHost
  rw [c_ruleOf h ht, c_hostOf h hN hx ht hf he]
  by_cases c : brl k t = 0
  · have e9 : lack k x t f e = false := by simp [lack, c]
    simp (disch := omega) only [z_0, z_1, z_2, z_3, z_4, z_5, z_6, z_7, z_8, z_9, z_10, z_12, z_13, z_16, z_20, z_24, z_30, z_31, z_32, z_38, z_42, z_44, z_45, z_47, z_48, z_49, z_50, z_57, z_58, z_59, z_60, z_61, z_91, z_97, z_98, z_100, z_108, z_114, z_120, z_122, z_126, z_127, z_128, z_200, z_255, z_961, z_990, z_992, z_998, z_999, z_1000, z_1092, z_1114, z_7798, z_10000, z_1000000, zI_neg, zI_add, zI_sub, zI_mul, zI_lt, zI_le, zI_eq, if_pos, if_neg, if_true, if_false, Option.bind_some, bnd, ldI_is, ldJ_is, Int.toNat_natCast,  e9, c, Bool.false_eq_true]
  · have hp := hg.2.2.2.2.1 c
    have hp2 := hg.2.2.1.2
    have hl := hst_lim (brl k t) (brw k x (bpr k t).toNat) f e
    have hr := (h.row hx (t := (bpr k t).toNat) (by omega)).lim
    have e2 : hostB k x t f e = hst (brl k t) (brw k x (bpr k t).toNat) f e := by unfold hostB; rw [if_neg c]
    simp only [Option.bind_some]
    rw [if_neg (by simp (disch := omega) only [z_0, z_1, z_2, z_3, z_4, z_5, z_6, z_7, z_8, z_9, z_10, z_12, z_13, z_16, z_20, z_24, z_30, z_31, z_32, z_38, z_42, z_44, z_45, z_47, z_48, z_49, z_50, z_57, z_58, z_59, z_60, z_61, z_91, z_97, z_98, z_100, z_108, z_114, z_120, z_122, z_126, z_127, z_128, z_200, z_255, z_961, z_990, z_992, z_998, z_999, z_1000, z_1092, z_1114, z_7798, z_10000, z_1000000, zI_neg, zI_add, zI_sub, zI_mul, zI_lt, zI_le, zI_eq, if_pos, if_neg, if_true, if_false, Option.bind_some, bnd, ldI_is, ldJ_is, Int.toNat_natCast,  c, not_false_eq_true])]
    by_cases c2 : hostB k x t f e = -1
    · have e9 : lack k x t f e = true := by simp [lack, c, c2]
      rw [c2, e9]
      decide
    · have e9 : lack k x t f e = false := by simp [lack, c, c2]
      rw [e9, if_pos, if_neg (by decide)]
      rw [e2] at c2 ⊢
      simp (disch := omega) only [z_0, z_1, z_2, z_3, z_4, z_5, z_6, z_7, z_8, z_9, z_10, z_12, z_13, z_16, z_20, z_24, z_30, z_31, z_32, z_38, z_42, z_44, z_45, z_47, z_48, z_49, z_50, z_57, z_58, z_59, z_60, z_61, z_91, z_97, z_98, z_100, z_108, z_114, z_120, z_122, z_126, z_127, z_128, z_200, z_255, z_961, z_990, z_992, z_998, z_999, z_1000, z_1092, z_1114, z_7798, z_10000, z_1000000, zI_neg, zI_add, zI_sub, zI_mul, zI_lt, zI_le, zI_eq, if_pos, if_neg, if_true, if_false, Option.bind_some, bnd, ldI_is, ldJ_is, Int.toNat_natCast, ]
      omega
end CBOOK
