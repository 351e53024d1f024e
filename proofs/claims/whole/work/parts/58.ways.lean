/-! the class counts matches, and finds one -/
def prow (k : Bk) (e : Pe) : Rw := if e.1 < bn k ∧ bkd k e.1 = e.2.1 then brw k (ban k) e.1 else emR
def fitR (e : Pe) (r : Rw) (s : Nat) : Bool := decide (e.2.2.1 = [] ∨ e.2.2.1 = rl r s ∨ (e.2.1 = 1 ∧ rl r s = [98]))
def lnkR (m : Bool) (g : Int) (r : Rw) (s : Nat) (q : Rw) (t : Nat) : Bool := if m = true then decide (rf r s < re q t ∧ rf q t < re r s) else decide (re r s ≤ rf q t ∧ rf q t - re r s ≤ g)
def lnkO (k : Bk) (e : Pe) (c : Nat) (es : List Pe) (j : Nat) : Bool := match es with
  | [] => true
  | f :: _ => lnkR f.2.2.2 (bga k) (prow k e) c (prow k f) j
def way (k : Bk) : List Pe → Nat → Int
  | [], _ => 0
  | e :: es, i => if fitR e (prow k e) i = true then (match es with
    | [] => 1
    | f :: _ => min (sumN (fun j => if lnkR f.2.2.2 (bga k) (prow k e) i (prow k f) j = true then way k es j else 0) (rn (prow k f))) 1000) else 0
def tot (k : Bk) : List Pe → Int
  | [] => 0
  | e :: es => sumN (way k (e :: es)) (rn (prow k e))
def pck (g : Nat → Int) : Nat → Nat → Int → Nat × Int
  | 0, i, rest => (i, rest)
  | n + 1, i, rest => if rest < g i then (i, rest) else pck g n (i + 1) (rest - g i)
def selM (k : Bk) : List Pe → (Nat → Bool) → Int → List Nat
  | [], _, _ => []
  | e :: es, ok, rest => (pck (fun j => if ok j = true then way k (e :: es) j else 0) (rn (prow k e)) 0 rest).1 :: selM k es (lnkO k e (pck (fun j => if ok j = true then way k (e :: es) j else 0) (rn (prow k e)) 0 rest).1 es) (pck (fun j => if ok j = true then way k (e :: es) j else 0) (rn (prow k e)) 0 rest).2
def H30 (k : Bk) : Prop := ∀ x t, x < 2 → t < bn k → rn (brw k x t) ≤ 30
theorem sumN_lim {g : Nat → Int} {B : Int} : ∀ n, (∀ j, j < n → 0 ≤ g j ∧ g j ≤ B) → 0 ≤ sumN g n ∧ sumN g n ≤ B * n := by
  intro n
  induction n with
  | zero => intro _; unfold sumN; simp
  | succ n ih =>
    intro h
    have h1 := ih (fun j hj => h j (by omega))
    have h2 := h n (by omega)
    unfold sumN
    have e : B * ((n + 1 : Nat) : Int) = B * n + B := by rw [Int.natCast_add, Int.mul_add]; simp
    rw [e]
    omega
theorem sumN_nn {g : Nat → Int} : ∀ n, (∀ j, j < n → 0 ≤ g j) → 0 ≤ sumN g n := by
  intro n
  induction n with
  | zero => intro _; unfold sumN; omega
  | succ n ih =>
    intro h
    have h1 := ih (fun j hj => h j (by omega))
    have h2 := h n (by omega)
    unfold sumN
    omega
theorem way_lim (k : Bk) (p : List Pe) (i : Nat) : 0 ≤ way k p i ∧ way k p i ≤ 1000 := by
  induction p generalizing i with
  | nil => unfold way; omega
  | cons e es ih =>
    unfold way
    by_cases c : fitR e (prow k e) i = true
    · rw [if_pos c]
      cases es with
      | nil => simp
      | cons f es =>
        have h := sumN_nn (g := fun j => if lnkR f.2.2.2 (bga k) (prow k e) i (prow k f) j = true then way k (f :: es) j else 0) (rn (prow k f)) (fun j hj => by
          split
          · exact (ih j).1
          · omega)
        dsimp only
        omega
    · rw [if_neg c]; omega
theorem way_cons (k : Bk) (e f : Pe) (es : List Pe) (i : Nat) : way k (e :: f :: es) i = if fitR e (prow k e) i = true then min (sumN (fun j => if lnkO k e i (f :: es) j = true then way k (f :: es) j else 0) (rn (prow k f))) 1000 else 0 := by
  rw [way]
  rfl
theorem prow_lim {k : Bk} (h : GBook k) (h30 : H30 k) (e : Pe) : rn (prow k e) ≤ 30 := by
  unfold prow
  by_cases c : e.1 < bn k ∧ bkd k e.1 = e.2.1
  · rw [if_pos c]; exact h30 _ _ h.2.1 c.1
  · rw [if_neg c]; exact Nat.zero_le _
theorem drop_is {p : List Pe} {j : Nat} {e : Pe} {es : List Pe} (h : p.drop j = e :: es) : p[j]? = some e ∧ p.drop (j + 1) = es ∧ j < p.length ∧ p.length = j + 1 + es.length := by
  have h1 : (p.drop j)[0]? = some e := by rw [h]; rfl
  rw [List.getElem?_drop, Nat.add_zero] at h1
  have h2 : (p.drop j).drop 1 = es := by rw [h]; rfl
  rw [List.drop_drop] at h2
  have h3 := congrArg List.length h
  rw [List.length_drop, List.length_cons] at h3
  exact ⟨h1, h2, by omega, by omega⟩
theorem drop_ex {p : List Pe} {j : Nat} (h : j < p.length) : ∃ e es, p.drop j = e :: es := by
  rcases e : p.drop j with _ | ⟨a, l⟩
  · have := congrArg List.length e
    rw [List.length_drop] at this
    simp at this
    omega
  · exact ⟨a, l, rfl⟩
section WAYS
variable {F : Fr} {N : Nat} {w : Wd} {z a b : Nat} {k : Bk} {p : List Pe} {r q : Rw}
def PGs (p : List Pe) : Prop := p.length ≤ 4 ∧ ∀ e ∈ p, GPe e
theorem PGs.at (h : PGs p) {i : Nat} {e : Pe} (he : p[i]? = some e) : i < 4 ∧ GPe e := by
  obtain ⟨h1, h2⟩ := List.getElem?_eq_some_iff.mp he
  have := h.1
  exact ⟨by omega, h.2 e (h2 ▸ List.getElem_mem h1)⟩
theorem c_rowOf (A : CPat F w z) (D : DPat w z p) (G : PGs p) (B : CBook F w b k) {i : Nat} {e : Pe} (he : p[i]? = some e) : ∃ a, fX5_rowOf F N w z b (zI i) = some a ∧ CRow F w a (prow k e) ∧ (a = z + 6 ∨ (b ≤ a ∧ a + 4 ≤ b + 57)) := by
  obtain ⟨hi, ge⟩ := G.at he
  have d := D.2 i e he
  have hn := B.g.1
  obtain ⟨⟨o0, o1, o2, o3, o4, o5⟩, ⟨n1, n2, n3, n4, n5⟩, ⟨g1, g2, g3, g4, g5, g6⟩, hR⟩ := id A
  have no : fX5_rowOf_51 F N w z = some (z + 6) := by
    unfold fX5_rowOf_51
    rw [rdR_is g6 hR.1.1]
    rfl
  unfold fX5_rowOf
  rw [if_neg (by simp (disch := omega) only [z_0, z_1, z_2, z_3, z_4, z_5, z_6, z_7, z_8, z_9, z_10, z_12, z_13, z_16, z_20, z_24, z_30, z_31, z_32, z_38, z_42, z_44, z_45, z_47, z_48, z_49, z_50, z_57, z_58, z_59, z_60, z_61, z_91, z_97, z_98, z_100, z_108, z_114, z_120, z_122, z_126, z_127, z_128, z_200, z_255, z_961, z_990, z_992, z_998, z_999, z_1000, z_1092, z_1114, z_7798, z_10000, z_1000000, zI_neg, zI_add, zI_sub, zI_mul, zI_lt, zI_le, zI_eq, if_pos, if_neg, if_true, if_false, Option.bind_some, bnd, ldI_is, ldJ_is, Int.toNat_natCast,  Int.not_lt]; omega), if_pos (by simp (disch := omega) only [z_0, z_1, z_2, z_3, z_4, z_5, z_6, z_7, z_8, z_9, z_10, z_12, z_13, z_16, z_20, z_24, z_30, z_31, z_32, z_38, z_42, z_44, z_45, z_47, z_48, z_49, z_50, z_57, z_58, z_59, z_60, z_61, z_91, z_97, z_98, z_100, z_108, z_114, z_120, z_122, z_126, z_127, z_128, z_200, z_255, z_961, z_990, z_992, z_998, z_999, z_1000, z_1092, z_1114, z_7798, z_10000, z_1000000, zI_neg, zI_add, zI_sub, zI_mul, zI_lt, zI_le, zI_eq, if_pos, if_neg, if_true, if_false, Option.bind_some, bnd, ldI_is, ldJ_is, Int.toNat_natCast, ]; omega), rdR_is g1 o1]
  simp only [Option.bind_some]
  rw [ldI_is (by omega) (by omega) (by omega)]
  simp only [Option.bind_some, Int.toNat_natCast, d.1]
  rw [c_hasTier B (by have := ge.1; omega)]
  simp only [Option.bind_some]
  by_cases c : e.1 < bn k
  · rw [if_pos (c := 0 ≤ (e.1 : Int) ∧ (e.1 : Int) < bn k) (by omega), if_neg (by decide), c_kindOf B c, rdR_is g2 o2]
    simp only [Option.bind_some]
    rw [ldI_is (by omega) (by omega) (by omega)]
    simp only [Option.bind_some, Int.toNat_natCast, d.2.1]
    have hk := (B.g.2.2.2.2 e.1 c).1
    have hk2 := ge.2.1
    by_cases c2 : bkd k e.1 = e.2.1
    · rw [if_pos (by rw [c2]), c_present B c]
      have hx := B.g.2.1
      refine ⟨ra b (ban k) e.1, ?_, ?_, Or.inr ?_⟩
      · simp only [Option.bind_some, B.ckRow hx c]
      · unfold prow; rw [if_pos ⟨c, c2⟩]; exact B.row hx c
      · unfold ra; omega
    · rw [if_neg (by simp (disch := omega) only [z_0, z_1, z_2, z_3, z_4, z_5, z_6, z_7, z_8, z_9, z_10, z_12, z_13, z_16, z_20, z_24, z_30, z_31, z_32, z_38, z_42, z_44, z_45, z_47, z_48, z_49, z_50, z_57, z_58, z_59, z_60, z_61, z_91, z_97, z_98, z_100, z_108, z_114, z_120, z_122, z_126, z_127, z_128, z_200, z_255, z_961, z_990, z_992, z_998, z_999, z_1000, z_1092, z_1114, z_7798, z_10000, z_1000000, zI_neg, zI_add, zI_sub, zI_mul, zI_lt, zI_le, zI_eq, if_pos, if_neg, if_true, if_false, Option.bind_some, bnd, ldI_is, ldJ_is, Int.toNat_natCast,  c2, not_false_eq_true]), no]
      refine ⟨z + 6, rfl, ?_, Or.inl rfl⟩
      unfold prow; rw [if_neg (fun h => c2 h.2)]; exact hR
  · rw [if_neg (c := 0 ≤ (e.1 : Int) ∧ (e.1 : Int) < bn k) (by omega), if_pos rfl, no]
    refine ⟨z + 6, rfl, ?_, Or.inl rfl⟩
    unfold prow; rw [if_neg (fun h => c h.1)]; exact hR
theorem VL98 : VL [98] := by
  refine ⟨by decide, by decide, fun c hc => ?_⟩
  have h9 : c = 98 := by simpa using hc
  omega
theorem c_fits (A : CPat F w z) (D : DPat w z p) (G : PGs p) {i : Nat} {e : Pe} (he : p[i]? = some e) (R : CRow F w a r) {s : Nat} (hs : s < rn r) : fX5_fits F N w z a (zI s) (zI i) = some (if fitR e r s = true then 1 else 0) := by
  obtain ⟨hi, ge⟩ := G.at he
  have d := D.2 i e he
  obtain ⟨⟨o0, o1, o2, o3, o4, o5⟩, ⟨n1, n2, n3, n4, n5⟩, ⟨g1, g2, g3, g4, g5, g6⟩, hR⟩ := id A
  have bs := R.at hs
  have hk2 := ge.2.1
  have mid : ∀ x : Int32, fX5_fits_38 F N w z a (zI s) (zI i) x = some (if e.2.2.1 = [] ∨ e.2.2.1 = rl r s ∨ ¬ x = 0 then 1 else 0) := by
    intro x
    unfold fX5_fits_38 fX5_fits_71
    rw [rdR_is g3 o3, c_label R hs]
    simp only [Option.bind_some]
    rw [ldJ_is (by omega) (by omega) (by omega)]
    simp only [Option.bind_some, Int.toNat_natCast, d.2.2.1]
    rcases ge.2.2 with h0 | hv
    · rw [h0, if_pos (by rw [lg_cmp_eq]; rfl), if_pos (Or.inl rfl)]
    · have hne : ¬ e.2.2.1 = [] := fun h => by have := hv.1; rw [h] at this; simp at this
      rw [if_neg (by rw [lg_cmp_eq]; exact cL_ne hv)]
      by_cases c : e.2.2.1 = rl r s
      · rw [if_pos (by rw [lg_cmp_eq, c]), if_pos (Or.inr (Or.inl c))]
      · rw [if_neg (by rw [lg_cmp_eq, cL_inj hv bs.2.2.2.2]; exact c)]
        by_cases c2 : x = 0
        · rw [if_pos c2, if_neg (fun h => by rcases h with h | h | h; exact hne h; exact c h; exact h c2)]
        · rw [if_neg c2, if_pos (Or.inr (Or.inr c2))]
  unfold fX5_fits fX5_fits_37 fitR
  rw [if_neg (by simp (disch := omega) only [z_0, z_1, z_2, z_3, z_4, z_5, z_6, z_7, z_8, z_9, z_10, z_12, z_13, z_16, z_20, z_24, z_30, z_31, z_32, z_38, z_42, z_44, z_45, z_47, z_48, z_49, z_50, z_57, z_58, z_59, z_60, z_61, z_91, z_97, z_98, z_100, z_108, z_114, z_120, z_122, z_126, z_127, z_128, z_200, z_255, z_961, z_990, z_992, z_998, z_999, z_1000, z_1092, z_1114, z_7798, z_10000, z_1000000, zI_neg, zI_add, zI_sub, zI_mul, zI_lt, zI_le, zI_eq, if_pos, if_neg, if_true, if_false, Option.bind_some, bnd, ldI_is, ldJ_is, Int.toNat_natCast,  Int.not_lt]; omega), if_pos (by simp (disch := omega) only [z_0, z_1, z_2, z_3, z_4, z_5, z_6, z_7, z_8, z_9, z_10, z_12, z_13, z_16, z_20, z_24, z_30, z_31, z_32, z_38, z_42, z_44, z_45, z_47, z_48, z_49, z_50, z_57, z_58, z_59, z_60, z_61, z_91, z_97, z_98, z_100, z_108, z_114, z_120, z_122, z_126, z_127, z_128, z_200, z_255, z_961, z_990, z_992, z_998, z_999, z_1000, z_1092, z_1114, z_7798, z_10000, z_1000000, zI_neg, zI_add, zI_sub, zI_mul, zI_lt, zI_le, zI_eq, if_pos, if_neg, if_true, if_false, Option.bind_some, bnd, ldI_is, ldJ_is, Int.toNat_natCast, ]; omega), rdR_is g2 o2]
  simp only [Option.bind_some]
  rw [ldI_is (by omega) (by omega) (by omega), c_label R hs]
  simp only [Option.bind_some, Int.toNat_natCast, d.2.1, mid, decide_eq_true_eq]
  have e98 : (98 : Int64) = cL [98] := rfl
  rw [e98]
  by_cases c1 : e.2.1 = 1
  · rw [if_pos (by rw [c1]; rfl)]
    by_cases c2 : rl r s = [98]
    · rw [if_pos (by rw [lg_cmp_eq, c2]), if_pos (Or.inr (Or.inr (by decide))), if_pos (Or.inr (Or.inr ⟨c1, c2⟩))]
    · rw [if_neg (by rw [lg_cmp_eq, cL_inj bs.2.2.2.2 VL98]; exact c2)]
      congr 1
      apply ite_congr (propext ⟨fun h => ?_, fun h => ?_⟩) (fun _ => rfl) (fun _ => rfl)
      · rcases h with h | h | h
        · exact Or.inl h
        · exact Or.inr (Or.inl h)
        · exact absurd trivial h
      · rcases h with h | h | h
        · exact Or.inl h
        · exact Or.inr (Or.inl h)
        · exact absurd h.2 c2
  · rw [if_neg (by simp (disch := omega) only [z_0, z_1, z_2, z_3, z_4, z_5, z_6, z_7, z_8, z_9, z_10, z_12, z_13, z_16, z_20, z_24, z_30, z_31, z_32, z_38, z_42, z_44, z_45, z_47, z_48, z_49, z_50, z_57, z_58, z_59, z_60, z_61, z_91, z_97, z_98, z_100, z_108, z_114, z_120, z_122, z_126, z_127, z_128, z_200, z_255, z_961, z_990, z_992, z_998, z_999, z_1000, z_1092, z_1114, z_7798, z_10000, z_1000000, zI_neg, zI_add, zI_sub, zI_mul, zI_lt, zI_le, zI_eq, if_pos, if_neg, if_true, if_false, Option.bind_some, bnd, ldI_is, ldJ_is, Int.toNat_natCast,  c1, not_false_eq_true])]
    congr 1
    apply ite_congr (propext ⟨fun h => ?_, fun h => ?_⟩) (fun _ => rfl) (fun _ => rfl)
    · rcases h with h | h | h
      · exact Or.inl h
      · exact Or.inr (Or.inl h)
      · exact absurd trivial h
    · rcases h with h | h | h
      · exact Or.inl h
      · exact Or.inr (Or.inl h)
      · exact absurd h.1 c1
theorem c_isLinked (A : CPat F w z) (D : DPat w z p) (G : PGs p) {i : Nat} {e : Pe} (he : p[i]? = some e) (h0 : 0 < i) (R : CRow F w a r) (Q : CRow F w b q) {s t : Nat} (hs : s < rn r) (ht : t < rn q) {g : Int} (hg : 0 ≤ g ∧ g ≤ 200) :
    fX5_isLinked F N w z a (zI s) b (zI t) (zI i) (zI g) = some (if lnkR e.2.2.2 g r s q t = true then 1 else 0) := by
  obtain ⟨hi, ge⟩ := G.at he
  have d := (D.2 i e he).2.2.2 h0
  obtain ⟨⟨o0, o1, o2, o3, o4, o5⟩, ⟨n1, n2, n3, n4, n5⟩, ⟨g1, g2, g3, g4, g5, g6⟩, hR⟩ := id A
  have b1 := R.at hs
  have b2 := Q.at ht
  unfold fX5_isLinked fX5_isLinked_55 lnkR
  rw [if_neg (by simp (disch := omega) only [z_0, z_1, z_2, z_3, z_4, z_5, z_6, z_7, z_8, z_9, z_10, z_12, z_13, z_16, z_20, z_24, z_30, z_31, z_32, z_38, z_42, z_44, z_45, z_47, z_48, z_49, z_50, z_57, z_58, z_59, z_60, z_61, z_91, z_97, z_98, z_100, z_108, z_114, z_120, z_122, z_126, z_127, z_128, z_200, z_255, z_961, z_990, z_992, z_998, z_999, z_1000, z_1092, z_1114, z_7798, z_10000, z_1000000, zI_neg, zI_add, zI_sub, zI_mul, zI_lt, zI_le, zI_eq, if_pos, if_neg, if_true, if_false, Option.bind_some, bnd, ldI_is, ldJ_is, Int.toNat_natCast,  Int.not_lt]; omega), if_neg (by simp (disch := omega) only [z_0, z_1, z_2, z_3, z_4, z_5, z_6, z_7, z_8, z_9, z_10, z_12, z_13, z_16, z_20, z_24, z_30, z_31, z_32, z_38, z_42, z_44, z_45, z_47, z_48, z_49, z_50, z_57, z_58, z_59, z_60, z_61, z_91, z_97, z_98, z_100, z_108, z_114, z_120, z_122, z_126, z_127, z_128, z_200, z_255, z_961, z_990, z_992, z_998, z_999, z_1000, z_1092, z_1114, z_7798, z_10000, z_1000000, zI_neg, zI_add, zI_sub, zI_mul, zI_lt, zI_le, zI_eq, if_pos, if_neg, if_true, if_false, Option.bind_some, bnd, ldI_is, ldJ_is, Int.toNat_natCast,  Int.not_le]; omega), rdR_is g4 o4]
  simp only [Option.bind_some]
  rw [ldI_is (by omega) (by omega) (by omega), c_first R hs, c_end R hs, c_first Q ht, c_end Q ht]
  simp only [Option.bind_some, Int.toNat_natCast, d, bnd, zI_sub]
  by_cases c : e.2.2.2 = true
  · simp only [if_pos c]
    rw [if_neg (by decide)]
    simp only [decide_eq_true_eq]
    by_cases d1 : rf r s < re q t
    · rw [if_neg (by simp (disch := omega) only [z_0, z_1, z_2, z_3, z_4, z_5, z_6, z_7, z_8, z_9, z_10, z_12, z_13, z_16, z_20, z_24, z_30, z_31, z_32, z_38, z_42, z_44, z_45, z_47, z_48, z_49, z_50, z_57, z_58, z_59, z_60, z_61, z_91, z_97, z_98, z_100, z_108, z_114, z_120, z_122, z_126, z_127, z_128, z_200, z_255, z_961, z_990, z_992, z_998, z_999, z_1000, z_1092, z_1114, z_7798, z_10000, z_1000000, zI_neg, zI_add, zI_sub, zI_mul, zI_lt, zI_le, zI_eq, if_pos, if_neg, if_true, if_false, Option.bind_some, bnd, ldI_is, ldJ_is, Int.toNat_natCast,  Int.not_le]; omega)]
      by_cases d2 : rf q t < re r s
      · rw [if_neg (by simp (disch := omega) only [z_0, z_1, z_2, z_3, z_4, z_5, z_6, z_7, z_8, z_9, z_10, z_12, z_13, z_16, z_20, z_24, z_30, z_31, z_32, z_38, z_42, z_44, z_45, z_47, z_48, z_49, z_50, z_57, z_58, z_59, z_60, z_61, z_91, z_97, z_98, z_100, z_108, z_114, z_120, z_122, z_126, z_127, z_128, z_200, z_255, z_961, z_990, z_992, z_998, z_999, z_1000, z_1092, z_1114, z_7798, z_10000, z_1000000, zI_neg, zI_add, zI_sub, zI_mul, zI_lt, zI_le, zI_eq, if_pos, if_neg, if_true, if_false, Option.bind_some, bnd, ldI_is, ldJ_is, Int.toNat_natCast,  Int.not_le]; omega), if_pos ⟨d1, d2⟩]
      · rw [if_pos (by simp (disch := omega) only [z_0, z_1, z_2, z_3, z_4, z_5, z_6, z_7, z_8, z_9, z_10, z_12, z_13, z_16, z_20, z_24, z_30, z_31, z_32, z_38, z_42, z_44, z_45, z_47, z_48, z_49, z_50, z_57, z_58, z_59, z_60, z_61, z_91, z_97, z_98, z_100, z_108, z_114, z_120, z_122, z_126, z_127, z_128, z_200, z_255, z_961, z_990, z_992, z_998, z_999, z_1000, z_1092, z_1114, z_7798, z_10000, z_1000000, zI_neg, zI_add, zI_sub, zI_mul, zI_lt, zI_le, zI_eq, if_pos, if_neg, if_true, if_false, Option.bind_some, bnd, ldI_is, ldJ_is, Int.toNat_natCast, ]; omega), if_neg (fun h => d2 h.2)]
    · rw [if_pos (by simp (disch := omega) only [z_0, z_1, z_2, z_3, z_4, z_5, z_6, z_7, z_8, z_9, z_10, z_12, z_13, z_16, z_20, z_24, z_30, z_31, z_32, z_38, z_42, z_44, z_45, z_47, z_48, z_49, z_50, z_57, z_58, z_59, z_60, z_61, z_91, z_97, z_98, z_100, z_108, z_114, z_120, z_122, z_126, z_127, z_128, z_200, z_255, z_961, z_990, z_992, z_998, z_999, z_1000, z_1092, z_1114, z_7798, z_10000, z_1000000, zI_neg, zI_add, zI_sub, zI_mul, zI_lt, zI_le, zI_eq, if_pos, if_neg, if_true, if_false, Option.bind_some, bnd, ldI_is, ldJ_is, Int.toNat_natCast, ]; omega), if_neg (fun h => d1 h.1)]
  · simp only [if_neg c]
    rw [if_pos (by decide)]
    simp only [decide_eq_true_eq]
    by_cases d1 : rf q t - re r s < 0
    · rw [if_pos (by simp (disch := omega) only [z_0, z_1, z_2, z_3, z_4, z_5, z_6, z_7, z_8, z_9, z_10, z_12, z_13, z_16, z_20, z_24, z_30, z_31, z_32, z_38, z_42, z_44, z_45, z_47, z_48, z_49, z_50, z_57, z_58, z_59, z_60, z_61, z_91, z_97, z_98, z_100, z_108, z_114, z_120, z_122, z_126, z_127, z_128, z_200, z_255, z_961, z_990, z_992, z_998, z_999, z_1000, z_1092, z_1114, z_7798, z_10000, z_1000000, zI_neg, zI_add, zI_sub, zI_mul, zI_lt, zI_le, zI_eq, if_pos, if_neg, if_true, if_false, Option.bind_some, bnd, ldI_is, ldJ_is, Int.toNat_natCast, ]; exact d1), if_neg (by omega)]
    · rw [if_neg (by simp (disch := omega) only [z_0, z_1, z_2, z_3, z_4, z_5, z_6, z_7, z_8, z_9, z_10, z_12, z_13, z_16, z_20, z_24, z_30, z_31, z_32, z_38, z_42, z_44, z_45, z_47, z_48, z_49, z_50, z_57, z_58, z_59, z_60, z_61, z_91, z_97, z_98, z_100, z_108, z_114, z_120, z_122, z_126, z_127, z_128, z_200, z_255, z_961, z_990, z_992, z_998, z_999, z_1000, z_1092, z_1114, z_7798, z_10000, z_1000000, zI_neg, zI_add, zI_sub, zI_mul, zI_lt, zI_le, zI_eq, if_pos, if_neg, if_true, if_false, Option.bind_some, bnd, ldI_is, ldJ_is, Int.toNat_natCast,  Int.not_lt]; omega)]
      by_cases d2 : g < rf q t - re r s
      · rw [if_pos (by simp (disch := omega) only [z_0, z_1, z_2, z_3, z_4, z_5, z_6, z_7, z_8, z_9, z_10, z_12, z_13, z_16, z_20, z_24, z_30, z_31, z_32, z_38, z_42, z_44, z_45, z_47, z_48, z_49, z_50, z_57, z_58, z_59, z_60, z_61, z_91, z_97, z_98, z_100, z_108, z_114, z_120, z_122, z_126, z_127, z_128, z_200, z_255, z_961, z_990, z_992, z_998, z_999, z_1000, z_1092, z_1114, z_7798, z_10000, z_1000000, zI_neg, zI_add, zI_sub, zI_mul, zI_lt, zI_le, zI_eq, if_pos, if_neg, if_true, if_false, Option.bind_some, bnd, ldI_is, ldJ_is, Int.toNat_natCast, ]; exact d2), if_neg (by omega)]
      · rw [if_neg (by simp (disch := omega) only [z_0, z_1, z_2, z_3, z_4, z_5, z_6, z_7, z_8, z_9, z_10, z_12, z_13, z_16, z_20, z_24, z_30, z_31, z_32, z_38, z_42, z_44, z_45, z_47, z_48, z_49, z_50, z_57, z_58, z_59, z_60, z_61, z_91, z_97, z_98, z_100, z_108, z_114, z_120, z_122, z_126, z_127, z_128, z_200, z_255, z_961, z_990, z_992, z_998, z_999, z_1000, z_1092, z_1114, z_7798, z_10000, z_1000000, zI_neg, zI_add, zI_sub, zI_mul, zI_lt, zI_le, zI_eq, if_pos, if_neg, if_true, if_false, Option.bind_some, bnd, ldI_is, ldJ_is, Int.toNat_natCast,  Int.not_lt]; omega), if_pos (by omega)]
theorem c_waysFrom (A : CPat F w z) {i s : Nat} (hi : i < 4) (hs : s < 30) {v : Int} (hv : aI w (z + 5) (30 * i + s) = zI v) : fX5_waysFrom F N w z (zI i) (zI s) = some (zI v) := by
  obtain ⟨⟨o0, o1, o2, o3, o4, o5⟩, ⟨n1, n2, n3, n4, n5⟩, ⟨g1, g2, g3, g4, g5, g6⟩, hR⟩ := id A
  unfold fX5_waysFrom
  rw [show zI (i : Int) * 30 + zI (s : Int) = zI ((30 * i + s : Nat) : Int) from by rw [z_30, zI_mul, zI_add]; congr 1; omega]
  simp only [bnd]
  rw [if_neg (by simp (disch := omega) only [z_0, z_1, z_2, z_3, z_4, z_5, z_6, z_7, z_8, z_9, z_10, z_12, z_13, z_16, z_20, z_24, z_30, z_31, z_32, z_38, z_42, z_44, z_45, z_47, z_48, z_49, z_50, z_57, z_58, z_59, z_60, z_61, z_91, z_97, z_98, z_100, z_108, z_114, z_120, z_122, z_126, z_127, z_128, z_200, z_255, z_961, z_990, z_992, z_998, z_999, z_1000, z_1092, z_1114, z_7798, z_10000, z_1000000, zI_neg, zI_add, zI_sub, zI_mul, zI_lt, zI_le, zI_eq, if_pos, if_neg, if_true, if_false, Option.bind_some, bnd, ldI_is, ldJ_is, Int.toNat_natCast,  Int.not_lt]; omega), if_neg (by simp (disch := omega) only [z_0, z_1, z_2, z_3, z_4, z_5, z_6, z_7, z_8, z_9, z_10, z_12, z_13, z_16, z_20, z_24, z_30, z_31, z_32, z_38, z_42, z_44, z_45, z_47, z_48, z_49, z_50, z_57, z_58, z_59, z_60, z_61, z_91, z_97, z_98, z_100, z_108, z_114, z_120, z_122, z_126, z_127, z_128, z_200, z_255, z_961, z_990, z_992, z_998, z_999, z_1000, z_1092, z_1114, z_7798, z_10000, z_1000000, zI_neg, zI_add, zI_sub, zI_mul, zI_lt, zI_le, zI_eq, if_pos, if_neg, if_true, if_false, Option.bind_some, bnd, ldI_is, ldJ_is, Int.toNat_natCast,  Int.not_le]; omega), if_neg (by simp (disch := omega) only [z_0, z_1, z_2, z_3, z_4, z_5, z_6, z_7, z_8, z_9, z_10, z_12, z_13, z_16, z_20, z_24, z_30, z_31, z_32, z_38, z_42, z_44, z_45, z_47, z_48, z_49, z_50, z_57, z_58, z_59, z_60, z_61, z_91, z_97, z_98, z_100, z_108, z_114, z_120, z_122, z_126, z_127, z_128, z_200, z_255, z_961, z_990, z_992, z_998, z_999, z_1000, z_1092, z_1114, z_7798, z_10000, z_1000000, zI_neg, zI_add, zI_sub, zI_mul, zI_lt, zI_le, zI_eq, if_pos, if_neg, if_true, if_false, Option.bind_some, bnd, ldI_is, ldJ_is, Int.toNat_natCast,  Int.not_lt]; omega), rdR_is g5 o5]
  simp only [Option.bind_some]
  rw [if_neg (by rw [nI_z, n5]; simp (disch := omega) only [z_0, z_1, z_2, z_3, z_4, z_5, z_6, z_7, z_8, z_9, z_10, z_12, z_13, z_16, z_20, z_24, z_30, z_31, z_32, z_38, z_42, z_44, z_45, z_47, z_48, z_49, z_50, z_57, z_58, z_59, z_60, z_61, z_91, z_97, z_98, z_100, z_108, z_114, z_120, z_122, z_126, z_127, z_128, z_200, z_255, z_961, z_990, z_992, z_998, z_999, z_1000, z_1092, z_1114, z_7798, z_10000, z_1000000, zI_neg, zI_add, zI_sub, zI_mul, zI_lt, zI_le, zI_eq, if_pos, if_neg, if_true, if_false, Option.bind_some, bnd, ldI_is, ldJ_is, Int.toNat_natCast,  Int.not_le]; omega), ldI_is (by omega) (by omega) (by omega)]
  simp only [Option.bind_some, Int.toNat_natCast, hv]
def WT (w : Wd) (z : Nat) (k : Bk) (p : List Pe) (i : Nat) : Prop := ∀ j e es, i ≤ j → p.drop j = e :: es → ∀ s, s < rn (prow k e) → aI w (z + 5) (30 * j + s) = zI (way k (e :: es) s)
theorem c_countOn_28 (A : CPat F w z) (D : DPat w z p) (G : PGs p) (B : CBook F w b k) (h30 : H30 k) {i : Nat} {e f : Pe} {es : List Pe} (hd : p.drop i = e :: f :: es) (T : WT w z k p (i + 1)) (R : CRow F w a (prow k e)) {c : Nat} (Q : CRow F w c (prow k f)) {s : Nat} (hs : s < rn (prow k e)) : ∀ (m n j : Nat), j + n = rn (prow k f) → n < m →
    fX5_countOn_28 F N w m z b (zI i) a (zI s) c (zI (sumN (fun j => if lnkO k e s (f :: es) j = true then way k (f :: es) j else 0) j)) (zI j) = some (zI (min (sumN (fun j => if lnkO k e s (f :: es) j = true then way k (f :: es) j else 0) (rn (prow k f))) 1000)) := by
  have d1 := drop_is hd
  have d2 := drop_is d1.2.1
  have hi := (G.at d2.1).1
  have hl := prow_lim B.g h30 f
  have hsl : ∀ n, n ≤ 30 → 0 ≤ sumN (fun j => if lnkO k e s (f :: es) j = true then way k (f :: es) j else 0) n ∧ sumN (fun j => if lnkO k e s (f :: es) j = true then way k (f :: es) j else 0) n ≤ 1000 * n := fun n _ => sumN_lim (B := 1000) n (fun j hj => by
    have := way_lim k (f :: es) j
    split <;> omega)
  intro m
  induction m with
  | zero => intro n j _ h; omega
  | succ m ih =>
    intro n j hj hm
    unfold fX5_countOn_28 fX5_countOn_74
    rw [c_many Q]
    cases n with
    | zero =>
      have e9 : j = rn (prow k f) := by omega
      subst e9
      have h9 := hsl (rn (prow k f)) hl
      rw [if_pos (by simp (disch := omega) only [z_0, z_1, z_2, z_3, z_4, z_5, z_6, z_7, z_8, z_9, z_10, z_12, z_13, z_16, z_20, z_24, z_30, z_31, z_32, z_38, z_42, z_44, z_45, z_47, z_48, z_49, z_50, z_57, z_58, z_59, z_60, z_61, z_91, z_97, z_98, z_100, z_108, z_114, z_120, z_122, z_126, z_127, z_128, z_200, z_255, z_961, z_990, z_992, z_998, z_999, z_1000, z_1092, z_1114, z_7798, z_10000, z_1000000, zI_neg, zI_add, zI_sub, zI_mul, zI_lt, zI_le, zI_eq, if_pos, if_neg, if_true, if_false, Option.bind_some, bnd, ldI_is, ldJ_is, Int.toNat_natCast, ]; omega), z_1000, imin_z (by omega) (by omega) (by omega) (by omega)]
    | succ n =>
      have hj2 : j < rn (prow k f) := by omega
      have ih := ih n (j + 1) (by omega) (by omega)
      have e108 : gI w 108 b = zI (bga k) := B.2.2.1.2.2.2.1
      rw [if_neg (by simp (disch := omega) only [z_0, z_1, z_2, z_3, z_4, z_5, z_6, z_7, z_8, z_9, z_10, z_12, z_13, z_16, z_20, z_24, z_30, z_31, z_32, z_38, z_42, z_44, z_45, z_47, z_48, z_49, z_50, z_57, z_58, z_59, z_60, z_61, z_91, z_97, z_98, z_100, z_108, z_114, z_120, z_122, z_126, z_127, z_128, z_200, z_255, z_961, z_990, z_992, z_998, z_999, z_1000, z_1092, z_1114, z_7798, z_10000, z_1000000, zI_neg, zI_add, zI_sub, zI_mul, zI_lt, zI_le, zI_eq, if_pos, if_neg, if_true, if_false, Option.bind_some, bnd, ldI_is, ldJ_is, Int.toNat_natCast,  Int.not_le]; omega), e108, zI_succ, zI_succ, c_isLinked A D G d2.1 (by omega) R Q hs hj2 B.g.2.2.2.1, c_waysFrom A hi (by omega) (T (i + 1) f es (Nat.le_refl _) d1.2.1 j hj2)]
      simp only [Option.bind_some, bnd]
      rw [← sumN_succ] at ih
      have eo : lnkO k e s (f :: es) j = lnkR f.2.2.2 (bga k) (prow k e) s (prow k f) j := rfl
      by_cases c1 : lnkR f.2.2.2 (bga k) (prow k e) s (prow k f) j = true
      · rw [if_pos c1, if_neg (by decide), zI_add]
        have e8 : (if lnkO k e s (f :: es) j = true then way k (f :: es) j else 0) = way k (f :: es) j := if_pos (eo ▸ c1)
        rw [e8] at ih
        exact ih
      · rw [if_neg c1, if_pos (by rfl)]
        have e8 : (if lnkO k e s (f :: es) j = true then way k (f :: es) j else 0) = 0 := if_neg (eo ▸ c1)
        rw [e8, Int.add_zero] at ih
        rw [show zI (sumN (fun j => if lnkO k e s (f :: es) j = true then way k (f :: es) j else 0) j) + 0 = zI (sumN (fun j => if lnkO k e s (f :: es) j = true then way k (f :: es) j else 0) j) from by rw [z_0, zI_add, Int.add_zero]]
        exact ih
theorem c_countOn (A : CPat F w z) (D : DPat w z p) (G : PGs p) (B : CBook F w b k) (h30 : H30 k) (hN : 40 ≤ N) {i : Nat} {e : Pe} {es : List Pe} (hd : p.drop i = e :: es) (T : WT w z k p (i + 1)) (R : CRow F w a (prow k e)) {s : Nat} (hs : s < rn (prow k e)) (hf : fitR e (prow k e) s = true) :
    fX5_countOn F N w z b (zI i) a (zI s) = some (zI (way k (e :: es) s)) := by
  have d1 := drop_is hd
  have hi := (G.at d1.1).1
  have hp := G.1
  unfold fX5_countOn
  rw [D.1, zI_sb1]
  cases es with
  | nil =>
    have hl : p.length = i + 1 := by have := d1.2.2.2; simp at this; exact this
    rw [if_pos (by rw [hl]; congr 1; omega)]
    unfold way
    rw [if_pos hf]
    rfl
  | cons f es =>
    have hl : p.length = i + 1 + (es.length + 1) := d1.2.2.2
    have d2 := drop_is d1.2.1
    rw [if_neg (by simp (disch := omega) only [z_0, z_1, z_2, z_3, z_4, z_5, z_6, z_7, z_8, z_9, z_10, z_12, z_13, z_16, z_20, z_24, z_30, z_31, z_32, z_38, z_42, z_44, z_45, z_47, z_48, z_49, z_50, z_57, z_58, z_59, z_60, z_61, z_91, z_97, z_98, z_100, z_108, z_114, z_120, z_122, z_126, z_127, z_128, z_200, z_255, z_961, z_990, z_992, z_998, z_999, z_1000, z_1092, z_1114, z_7798, z_10000, z_1000000, zI_neg, zI_add, zI_sub, zI_mul, zI_lt, zI_le, zI_eq, if_pos, if_neg, if_true, if_false, Option.bind_some, bnd, ldI_is, ldJ_is, Int.toNat_natCast, ]; omega), zI_succ]
    obtain ⟨c, e1, Q, -⟩ := c_rowOf (N := N) A D G B d2.1
    have hlm := prow_lim B.g h30 f
    rw [e1]
    simp only [Option.bind_some, ckF_is Q.1.1]
    rw [way_cons, if_pos hf]
    exact c_countOn_28 A D G B h30 hd T R Q hs N (rn (prow k f)) 0 (by omega) (by omega)
theorem c_countMatches_26 (G : PGs p) (h30 : H30 k) (hN : 40 ≤ N) (db : z + 6 ≤ b ∨ b + 57 ≤ z) {i : Nat} {e : Pe} {es : List Pe} (hd : p.drop i = e :: es) (da : a = z + 6 ∨ (b ≤ a ∧ a + 4 ≤ b + 57)) {k9 : Wd → Nat → Nat → Int32 → Int32 → Option (Int32 × Wd)} {P : Int32 × Wd → Prop} : ∀ (m n s : Nat) (w : Wd), CPat F w z → DPat w z p → CBook F w b k → WT w z k p (i + 1) → CRow F w a (prow k e) → (∀ s', s' < s → aI w (z + 5) (30 * i + s') = zI (way k (e :: es) s')) → s + n = rn (prow k e) → n < m →
    (∀ w', Kp (fun y => y = z + 5) w w' → CPat F w' z → DPat w' z p → CBook F w' b k → WT w' z k p i → Ev (k9 w' z b (zI (tot k (e :: es))) (zI ((i : Int) - 1))) P) →
    Ev (fX5_countMatches_26 F N k9 m w z b (zI (sumN (way k (e :: es)) s)) (zI i) a (zI s)) P := by
  have d1 := drop_is hd
  have hi := (G.at d1.1).1
  intro m
  induction m with
  | zero => intro n s w _ _ _ _ _ _ _ h; omega
  | succ m ih =>
    intro n s w A D B T R I hs hm hk
    have hl := prow_lim B.g h30 e
    unfold fX5_countMatches_26 fX5_countMatches_115
    rw [c_many R]
    cases n with
    | zero =>
      have e9 : s = rn (prow k e) := by omega
      refine ev_pos (by simp (disch := omega) only [z_0, z_1, z_2, z_3, z_4, z_5, z_6, z_7, z_8, z_9, z_10, z_12, z_13, z_16, z_20, z_24, z_30, z_31, z_32, z_38, z_42, z_44, z_45, z_47, z_48, z_49, z_50, z_57, z_58, z_59, z_60, z_61, z_91, z_97, z_98, z_100, z_108, z_114, z_120, z_122, z_126, z_127, z_128, z_200, z_255, z_961, z_990, z_992, z_998, z_999, z_1000, z_1092, z_1114, z_7798, z_10000, z_1000000, zI_neg, zI_add, zI_sub, zI_mul, zI_lt, zI_le, zI_eq, if_pos, if_neg, if_true, if_false, Option.bind_some, bnd, ldI_is, ldJ_is, Int.toNat_natCast, ]; omega) ?_
      rw [e9, show zI (i : Int) + (-1) = zI ((i : Int) - 1) from by rw [show (-1 : Int32) = zI (-1) from rfl, zI_add]; rfl]
      refine hk w (Kp.refl _) A D B fun j e' es' hj hdj s' hs' => ?_
      by_cases c : j = i
      · subst c
        rw [hd] at hdj
        cases hdj
        exact I s' (by omega)
      · exact T j e' es' (by omega) hdj s' hs'
    | succ n =>
      have hs2 : s < rn (prow k e) := by omega
      have hw := way_lim k (e :: es) s
      refine ev_neg (by simp (disch := omega) only [z_0, z_1, z_2, z_3, z_4, z_5, z_6, z_7, z_8, z_9, z_10, z_12, z_13, z_16, z_20, z_24, z_30, z_31, z_32, z_38, z_42, z_44, z_45, z_47, z_48, z_49, z_50, z_57, z_58, z_59, z_60, z_61, z_91, z_97, z_98, z_100, z_108, z_114, z_120, z_122, z_126, z_127, z_128, z_200, z_255, z_961, z_990, z_992, z_998, z_999, z_1000, z_1092, z_1114, z_7798, z_10000, z_1000000, zI_neg, zI_add, zI_sub, zI_mul, zI_lt, zI_le, zI_eq, if_pos, if_neg, if_true, if_false, Option.bind_some, bnd, ldI_is, ldJ_is, Int.toNat_natCast,  Int.not_le]; omega) (ev_neg (by simp (disch := omega) only [z_0, z_1, z_2, z_3, z_4, z_5, z_6, z_7, z_8, z_9, z_10, z_12, z_13, z_16, z_20, z_24, z_30, z_31, z_32, z_38, z_42, z_44, z_45, z_47, z_48, z_49, z_50, z_57, z_58, z_59, z_60, z_61, z_91, z_97, z_98, z_100, z_108, z_114, z_120, z_122, z_126, z_127, z_128, z_200, z_255, z_961, z_990, z_992, z_998, z_999, z_1000, z_1092, z_1114, z_7798, z_10000, z_1000000, zI_neg, zI_add, zI_sub, zI_mul, zI_lt, zI_le, zI_eq, if_pos, if_neg, if_true, if_false, Option.bind_some, bnd, ldI_is, ldJ_is, Int.toNat_natCast,  Int.not_le]; omega) ?_)
      have step : ∀ v : Int, v = way k (e :: es) s → Ev (fX5_countMatches_69 F N k9 (fX5_countMatches_26 F N k9 m) w z b (zI (sumN (way k (e :: es)) s)) (zI i) a (zI s) (zI v)) P := by
        intro v hv
        obtain ⟨⟨o0, o1, o2, o3, o4, o5⟩, ⟨n1, n2, n3, n4, n5⟩, ⟨g1, g2, g3, g4, g5, g6⟩, hR⟩ := id A
        unfold fX5_countMatches_69 fX5_countMatches_104
        rw [show zI (i : Int) * 30 + zI (s : Int) = zI ((30 * i + s : Nat) : Int) from by rw [z_30, zI_mul, zI_add]; congr 1; omega]
        refine ev_bnd (ev_neg (by simp (disch := omega) only [z_0, z_1, z_2, z_3, z_4, z_5, z_6, z_7, z_8, z_9, z_10, z_12, z_13, z_16, z_20, z_24, z_30, z_31, z_32, z_38, z_42, z_44, z_45, z_47, z_48, z_49, z_50, z_57, z_58, z_59, z_60, z_61, z_91, z_97, z_98, z_100, z_108, z_114, z_120, z_122, z_126, z_127, z_128, z_200, z_255, z_961, z_990, z_992, z_998, z_999, z_1000, z_1092, z_1114, z_7798, z_10000, z_1000000, zI_neg, zI_add, zI_sub, zI_mul, zI_lt, zI_le, zI_eq, if_pos, if_neg, if_true, if_false, Option.bind_some, bnd, ldI_is, ldJ_is, Int.toNat_natCast,  Int.not_lt]; omega) (ev_rdR g5 o5 (ev_neg (by rw [nI_z, n5]; simp (disch := omega) only [z_0, z_1, z_2, z_3, z_4, z_5, z_6, z_7, z_8, z_9, z_10, z_12, z_13, z_16, z_20, z_24, z_30, z_31, z_32, z_38, z_42, z_44, z_45, z_47, z_48, z_49, z_50, z_57, z_58, z_59, z_60, z_61, z_91, z_97, z_98, z_100, z_108, z_114, z_120, z_122, z_126, z_127, z_128, z_200, z_255, z_961, z_990, z_992, z_998, z_999, z_1000, z_1092, z_1114, z_7798, z_10000, z_1000000, zI_neg, zI_add, zI_sub, zI_mul, zI_lt, zI_le, zI_eq, if_pos, if_neg, if_true, if_false, Option.bind_some, bnd, ldI_is, ldJ_is, Int.toNat_natCast,  Int.not_le]; omega) (ev_rdR g5 o5 (ev_eq (stI_is (by omega) (by omega) (by omega)) ?_)))))
        simp only [Int.toNat_natCast]
        generalize hw1 : sAI w (z + 5) (upd (aI w (z + 5)) (30 * i + s) (zI v)) = w1
        have k1 : Kp (fun y => y = z + 5) w w1 := hw1 ▸ kp_sAI (S := fun y => y = z + 5) _ _ rfl
        have e1 : ∀ x, aI w1 (z + 5) x = if x = 30 * i + s then zI v else aI w (z + 5) x := fun x => by rw [← hw1, q_aI_sAI, if_pos rfl, upd_is]
        refine ev_bnd ?_
        rw [zI_add, zI_succ, hv, sumN_succ]
        refine ih n (s + 1) w1 (A.keep k1 (by omega) fun y y1 y2 => by omega) (D.keep k1 (by omega) (by omega) (by omega) (by omega) (by omega)) (B.keep k1 fun y y1 y2 => by omega) (fun j e' es' hj hdj s' hs' => ?_) (R.keep k1 fun y y1 y2 => by omega) (fun s' hs' => ?_) (by omega) (by omega) fun w2 k2 A2 D2 B2 T2 => hk w2 (k1.trans k2) A2 D2 B2 T2
        · have hl' := prow_lim B.g h30 e'
          rw [e1, if_neg (by omega)]
          exact T j e' es' hj hdj s' hs'
        · rw [e1]
          by_cases c : s' = s
          · rw [if_pos (by omega), hv, c]
          · rw [if_neg (by omega)]; exact I s' (by omega)
      rw [c_fits A D G d1.1 R hs2]
      simp only [Option.bind_some]
      by_cases c : fitR e (prow k e) s = true
      · rw [if_pos c]
        refine ev_neg (by decide) ?_
        rw [c_countOn A D G B h30 hN hd T R hs2 c]
        simp only [Option.bind_some]
        exact step _ rfl
      · rw [if_neg c]
        refine ev_pos (by rfl) ?_
        exact step 0 (by unfold way; rw [if_neg c])
theorem c_countMatches_9 (G : PGs p) (h30 : H30 k) (hN : 40 ≤ N) (db : z + 6 ≤ b ∨ b + 57 ≤ z) : ∀ (m c : Nat) (w : Wd) (v : Int), CPat F w z → DPat w z p → CBook F w b k → WT w z k p c → c ≤ p.length → v = tot k (p.drop c) → c < m →
    Ev (fX5_countMatches_9 F N m w z b (zI v) (zI ((c : Int) - 1))) fun x => x.1 = zI (min (tot k p) 1000) ∧ Kp (fun y => y = z + 5) w x.2 ∧ CPat F x.2 z ∧ DPat x.2 z p ∧ CBook F x.2 b k ∧ WT x.2 z k p 0 := by
  intro m
  induction m with
  | zero => intro c w v _ _ _ _ _ _ h; omega
  | succ m ih =>
    intro c w v A D B T hc hv hm
    have hp := G.1
    unfold fX5_countMatches_9
    cases c with
    | zero =>
      have ht : 0 ≤ v ∧ v ≤ 30000 := by
        rw [hv, List.drop_zero]
        cases p with
        | nil => exact ⟨Int.le_refl _, show (0 : Int) ≤ 30000 by decide⟩
        | cons e es =>
          have hl := prow_lim B.g h30 e
          have := sumN_lim (g := way k (e :: es)) (B := 1000) (rn (prow k e)) (fun j _ => way_lim k (e :: es) j)
          have e9 : tot k (e :: es) = sumN (way k (e :: es)) (rn (prow k e)) := rfl
          omega
      refine ev_pos (by decide) (ev_some ⟨?_, Kp.refl _, A, D, B, T⟩)
      rw [z_1000, imin_z (by omega) (by omega) (by omega) (by omega), hv, List.drop_zero]
    | succ c =>
      have e0 : (((c + 1 : Nat) : Int) - 1) = (c : Int) := by omega
      rw [e0]
      refine ev_neg (by simp (disch := omega) only [z_0, z_1, z_2, z_3, z_4, z_5, z_6, z_7, z_8, z_9, z_10, z_12, z_13, z_16, z_20, z_24, z_30, z_31, z_32, z_38, z_42, z_44, z_45, z_47, z_48, z_49, z_50, z_57, z_58, z_59, z_60, z_61, z_91, z_97, z_98, z_100, z_108, z_114, z_120, z_122, z_126, z_127, z_128, z_200, z_255, z_961, z_990, z_992, z_998, z_999, z_1000, z_1092, z_1114, z_7798, z_10000, z_1000000, zI_neg, zI_add, zI_sub, zI_mul, zI_lt, zI_le, zI_eq, if_pos, if_neg, if_true, if_false, Option.bind_some, bnd, ldI_is, ldJ_is, Int.toNat_natCast,  Int.not_lt]; omega) ?_
      obtain ⟨e, es, hd⟩ := drop_ex (p := p) (j := c) (by omega)
      have d1 := drop_is hd
      obtain ⟨a, e1, R, da⟩ := c_rowOf (N := N) A D G B d1.1
      have hl := prow_lim B.g h30 e
      rw [e1]
      simp only [Option.bind_some, ckF_is R.1.1]
      refine c_countMatches_26 G h30 hN db hd da N (rn (prow k e)) 0 w A D B T R (fun s' hs' => by omega) (by omega) (by omega) fun w' k' A' D' B' T' => ?_
      refine ev_mono (ih c w' (tot k (e :: es)) A' D' B' T' (by omega) (by rw [hd]) (by omega)) fun x ⟨x1, x2, x3⟩ => ⟨x1, k'.trans x2, x3⟩
theorem c_countMatches (A : CPat F w z) (D : DPat w z p) (B : CBook F w b k) (G : PGs p) (h30 : H30 k) (hN : 40 ≤ N) (db : z + 6 ≤ b ∨ b + 57 ≤ z) :
    Ev (fX5_countMatches F N w z b) fun x => x.1 = zI (min (tot k p) 1000) ∧ Kp (fun y => y = z + 5) w x.2 ∧ CPat F x.2 z ∧ DPat x.2 z p ∧ CBook F x.2 b k ∧ WT x.2 z k p 0 := by
  have hp := G.1
  unfold fX5_countMatches
  rw [D.1, zI_sb1]
  refine ev_bnd ?_
  refine c_countMatches_9 G h30 hN db N p.length w 0 A D B (fun j e es hj hd s hs => ?_) (Nat.le_refl _) ?_ (by omega)
  · have := (drop_is hd).2.2.1
    omega
  · rw [List.drop_length]; rfl
theorem pck_lim {g : Nat → Int} : ∀ (n i : Nat) (rest : Int), (∀ j, 0 ≤ g j) → 0 ≤ rest → rest < sumN g (i + n) - sumN g i → i ≤ (pck g n i rest).1 ∧ (pck g n i rest).1 < i + n ∧ 0 ≤ (pck g n i rest).2 ∧ (pck g n i rest).2 < g (pck g n i rest).1 := by
  intro n
  induction n with
  | zero => intro i rest _ h1 h2; simp at h2; omega
  | succ n ih =>
    intro i rest hg h1 h2
    unfold pck
    by_cases c : rest < g i
    · rw [if_pos c]; exact ⟨Nat.le_refl _, by show i < i + (n + 1); omega, h1, c⟩
    · rw [if_neg c]
      have e1 : sumN g (i + 1) = sumN g i + g i := rfl
      have e2 : i + 1 + n = i + (n + 1) := by omega
      obtain ⟨h3, h4, h5, h6⟩ := ih (i + 1) (rest - g i) hg (by omega) (by rw [e2]; omega)
      exact ⟨by omega, by omega, h5, h6⟩
theorem c_spanOf_42 (A : CPat F w z) (D : DPat w z p) (G : PGs p) (B : CBook F w b k) (h30 : H30 k) {i : Nat} {e : Pe} {es : List Pe} (hd : p.drop i = e :: es) (T : WT w z k p 0) {c : Nat} (Q : CRow F w c (prow k e)) {ok : Nat → Bool} {v l6 it : Int32} {k15 : Nat → Nat → Int32 → Int32 → Nat → Int32 → Int32 → Option Int32}
    (hl : ∀ j, j < rn (prow k e) → (i = 0 → ok j = true) ∧ (0 < i → fX5_isLinked F N w z a l6 c (zI j) (zI i) (zI (bga k)) = some (if ok j = true then 1 else 0))) : ∀ (m n j : Nat) (rest : Int), j + n = rn (prow k e) → n < m → 0 ≤ rest → rest < 2000 → rest < sumN (fun j => if ok j = true then way k (e :: es) j else 0) (j + n) - sumN (fun j => if ok j = true then way k (e :: es) j else 0) j →
    fX5_spanOf_42 F N w k15 m z b it (zI rest) a l6 (zI i) c (zI (-1)) (zI j) = k15 z b it (zI (pck (fun j => if ok j = true then way k (e :: es) j else 0) n j rest).2) c (zI (pck (fun j => if ok j = true then way k (e :: es) j else 0) n j rest).1) (zI ((i + 1 : Nat) : Int)) := by
  have d1 := drop_is hd
  have hi := (G.at d1.1).1
  have hlm := prow_lim B.g h30 e
  intro m
  induction m with
  | zero => intro n j rest _ h; omega
  | succ m ih =>
    intro n j rest hj hm h1 h1b h2
    cases n with
    | zero => simp at h2; omega
    | succ n =>
      have hj2 : j < rn (prow k e) := by omega
      have hw := way_lim k (e :: es) j
      obtain ⟨l1, l2⟩ := hl j hj2
      have e108 : gI w 108 b = zI (bga k) := B.2.2.1.2.2.2.1
      have eW := c_waysFrom (N := N) A hi (by omega) (T i e es (Nat.zero_le _) hd j hj2)
      have e1 : sumN (fun j => if ok j = true then way k (e :: es) j else 0) (j + 1) = sumN (fun j => if ok j = true then way k (e :: es) j else 0) j + (if ok j = true then way k (e :: es) j else 0) := rfl
      have mid : ∀ v : Int, v = (if ok j = true then way k (e :: es) j else 0) → fX5_spanOf_107 F N w k15 (fX5_spanOf_42 F N w k15 m) z b it (zI rest) a l6 (zI i) c (zI (-1)) (zI j) (zI v) = k15 z b it (zI (pck (fun j => if ok j = true then way k (e :: es) j else 0) (n + 1) j rest).2) c (zI (pck (fun j => if ok j = true then way k (e :: es) j else 0) (n + 1) j rest).1) (zI ((i + 1 : Nat) : Int)) := by
        intro v hv
        have hv2 : 0 ≤ v ∧ v ≤ 1000 := by rw [hv]; split <;> omega
        have ep : pck (fun j => if ok j = true then way k (e :: es) j else 0) (n + 1) j rest = if rest < v then (j, rest) else pck (fun j => if ok j = true then way k (e :: es) j else 0) n (j + 1) (rest - v) := by
          rw [hv]; rfl
        unfold fX5_spanOf_107 fX5_spanOf_130
        rw [zI_succ j, ep]
        by_cases c1 : rest < v
        · rw [if_neg (by simp (disch := omega) only [z_0, z_1, z_2, z_3, z_4, z_5, z_6, z_7, z_8, z_9, z_10, z_12, z_13, z_16, z_20, z_24, z_30, z_31, z_32, z_38, z_42, z_44, z_45, z_47, z_48, z_49, z_50, z_57, z_58, z_59, z_60, z_61, z_91, z_97, z_98, z_100, z_108, z_114, z_120, z_122, z_126, z_127, z_128, z_200, z_255, z_961, z_990, z_992, z_998, z_999, z_1000, z_1092, z_1114, z_7798, z_10000, z_1000000, zI_neg, zI_add, zI_sub, zI_mul, zI_lt, zI_le, zI_eq, if_pos, if_neg, if_true, if_false, Option.bind_some, bnd, ldI_is, ldJ_is, Int.toNat_natCast,  Int.not_le]; omega), if_pos c1]
          -- chosen: the next turn goes out
          obtain ⟨m', rfl⟩ : ∃ m', m = m' + 1 := ⟨m - 1, by omega⟩
          unfold fX5_spanOf_42 fX5_spanOf_136
          rw [zI_succ i]
          by_cases c2 : gI w 703 c ≤ zI ((j + 1 : Nat) : Int)
          · rw [if_pos c2]
          · rw [if_neg c2, if_pos (by simp (disch := omega) only [z_0, z_1, z_2, z_3, z_4, z_5, z_6, z_7, z_8, z_9, z_10, z_12, z_13, z_16, z_20, z_24, z_30, z_31, z_32, z_38, z_42, z_44, z_45, z_47, z_48, z_49, z_50, z_57, z_58, z_59, z_60, z_61, z_91, z_97, z_98, z_100, z_108, z_114, z_120, z_122, z_126, z_127, z_128, z_200, z_255, z_961, z_990, z_992, z_998, z_999, z_1000, z_1092, z_1114, z_7798, z_10000, z_1000000, zI_neg, zI_add, zI_sub, zI_mul, zI_lt, zI_le, zI_eq, if_pos, if_neg, if_true, if_false, Option.bind_some, bnd, ldI_is, ldJ_is, Int.toNat_natCast, ]; omega)]
        · rw [if_pos (by simp (disch := omega) only [z_0, z_1, z_2, z_3, z_4, z_5, z_6, z_7, z_8, z_9, z_10, z_12, z_13, z_16, z_20, z_24, z_30, z_31, z_32, z_38, z_42, z_44, z_45, z_47, z_48, z_49, z_50, z_57, z_58, z_59, z_60, z_61, z_91, z_97, z_98, z_100, z_108, z_114, z_120, z_122, z_126, z_127, z_128, z_200, z_255, z_961, z_990, z_992, z_998, z_999, z_1000, z_1092, z_1114, z_7798, z_10000, z_1000000, zI_neg, zI_add, zI_sub, zI_mul, zI_lt, zI_le, zI_eq, if_pos, if_neg, if_true, if_false, Option.bind_some, bnd, ldI_is, ldJ_is, Int.toNat_natCast, ]; omega), if_neg c1]
          simp only [bnd]
          rw [zI_sub]
          refine ih n (j + 1) (rest - v) (by omega) (by omega) (by omega) (by omega) ?_
          rw [show j + 1 + n = j + (n + 1) from by omega, e1, ← hv]
          omega
      have mid88 : ∀ x : Int32, x = (if ok j = true then 1 else 0) → fX5_spanOf_88 F N w k15 (fX5_spanOf_42 F N w k15 m) z b it (zI rest) a l6 (zI i) c (zI (-1)) (zI j) x = k15 z b it (zI (pck (fun j => if ok j = true then way k (e :: es) j else 0) (n + 1) j rest).2) c (zI (pck (fun j => if ok j = true then way k (e :: es) j else 0) (n + 1) j rest).1) (zI ((i + 1 : Nat) : Int)) := by
        intro x hx
        unfold fX5_spanOf_88
        by_cases c1 : ok j = true
        · rw [hx, if_pos c1, if_neg (by decide), eW]
          exact mid _ (by rw [if_pos c1])
        · rw [hx, if_neg c1, if_pos rfl]
          exact mid 0 (by rw [if_neg c1])
      unfold fX5_spanOf_42 fX5_spanOf_83
      rw [c_many Q, if_neg (by simp (disch := omega) only [z_0, z_1, z_2, z_3, z_4, z_5, z_6, z_7, z_8, z_9, z_10, z_12, z_13, z_16, z_20, z_24, z_30, z_31, z_32, z_38, z_42, z_44, z_45, z_47, z_48, z_49, z_50, z_57, z_58, z_59, z_60, z_61, z_91, z_97, z_98, z_100, z_108, z_114, z_120, z_122, z_126, z_127, z_128, z_200, z_255, z_961, z_990, z_992, z_998, z_999, z_1000, z_1092, z_1114, z_7798, z_10000, z_1000000, zI_neg, zI_add, zI_sub, zI_mul, zI_lt, zI_le, zI_eq, if_pos, if_neg, if_true, if_false, Option.bind_some, bnd, ldI_is, ldJ_is, Int.toNat_natCast,  Int.not_le]; omega), if_neg (by decide)]
      by_cases c0 : i = 0
      · rw [if_pos (by rw [c0]; rfl)]
        exact mid88 1 (by rw [if_pos (l1 c0)])
      · rw [if_neg (by simp (disch := omega) only [z_0, z_1, z_2, z_3, z_4, z_5, z_6, z_7, z_8, z_9, z_10, z_12, z_13, z_16, z_20, z_24, z_30, z_31, z_32, z_38, z_42, z_44, z_45, z_47, z_48, z_49, z_50, z_57, z_58, z_59, z_60, z_61, z_91, z_97, z_98, z_100, z_108, z_114, z_120, z_122, z_126, z_127, z_128, z_200, z_255, z_961, z_990, z_992, z_998, z_999, z_1000, z_1092, z_1114, z_7798, z_10000, z_1000000, zI_neg, zI_add, zI_sub, zI_mul, zI_lt, zI_le, zI_eq, if_pos, if_neg, if_true, if_false, Option.bind_some, bnd, ldI_is, ldJ_is, Int.toNat_natCast, ]; omega), e108, l2 (by omega)]
        simp only [Option.bind_some]
        by_cases c1 : ok j = true
        · rw [if_pos c1, if_neg (by decide)]
          exact mid88 1 (by rw [if_pos c1])
        · rw [if_neg c1, if_pos rfl]
          exact mid88 0 (by rw [if_neg c1])
theorem way_sum {e f : Pe} {es : List Pe} {i : Nat} {rest : Int} (h : rest < way k (e :: f :: es) i) (h0 : 0 ≤ rest) : rest < sumN (fun j => if lnkO k e i (f :: es) j = true then way k (f :: es) j else 0) (rn (prow k f)) := by
  rw [way_cons] at h
  by_cases c : fitR e (prow k e) i = true
  · rw [if_pos c] at h; omega
  · rw [if_neg c] at h; omega
theorem c_spanOf_15 (A : CPat F w z) (D : DPat w z p) (G : PGs p) (B : CBook F w b k) (h30 : H30 k) (hN : 40 ≤ N) (T : WT w z k p 0) {it : Nat} (hit : it < p.length) : ∀ (m n i a : Nat) (l6 : Int32) (ok : Nat → Bool) (rest : Int), i + n = it → n + 1 < m → (∀ e es, p.drop i = e :: es → ∀ c, CRow F w c (prow k e) → ∀ j, j < rn (prow k e) → (i = 0 → ok j = true) ∧ (0 < i → fX5_isLinked F N w z a l6 c (zI j) (zI i) (zI (bga k)) = some (if ok j = true then 1 else 0))) → 0 ≤ rest → rest < 2000 →
    (∀ e es, p.drop i = e :: es → rest < sumN (fun j => if ok j = true then way k (e :: es) j else 0) (rn (prow k e))) →
    fX5_spanOf_15 F N w m z b (zI it) (zI rest) a l6 (zI i) = some (zI ((selM k (p.drop i) ok rest).getD n 0 : Nat)) := by
  have hp := G.1
  intro m
  induction m with
  | zero => intro n i a l6 ok rest _ h; omega
  | succ m ih =>
    intro n i a l6 ok rest hin hm hl h1 h1b h2
    obtain ⟨e, es, hd⟩ := drop_ex (p := p) (j := i) (by omega)
    have d1 := drop_is hd
    obtain ⟨c, e1, Q, -⟩ := c_rowOf (N := N) A D G B d1.1
    have hlm := prow_lim B.g h30 e
    unfold fX5_spanOf_15
    rw [if_neg (by simp (disch := omega) only [z_0, z_1, z_2, z_3, z_4, z_5, z_6, z_7, z_8, z_9, z_10, z_12, z_13, z_16, z_20, z_24, z_30, z_31, z_32, z_38, z_42, z_44, z_45, z_47, z_48, z_49, z_50, z_57, z_58, z_59, z_60, z_61, z_91, z_97, z_98, z_100, z_108, z_114, z_120, z_122, z_126, z_127, z_128, z_200, z_255, z_961, z_990, z_992, z_998, z_999, z_1000, z_1092, z_1114, z_7798, z_10000, z_1000000, zI_neg, zI_add, zI_sub, zI_mul, zI_lt, zI_le, zI_eq, if_pos, if_neg, if_true, if_false, Option.bind_some, bnd, ldI_is, ldJ_is, Int.toNat_natCast,  Int.not_lt]; omega), if_neg (by simp (disch := omega) only [z_0, z_1, z_2, z_3, z_4, z_5, z_6, z_7, z_8, z_9, z_10, z_12, z_13, z_16, z_20, z_24, z_30, z_31, z_32, z_38, z_42, z_44, z_45, z_47, z_48, z_49, z_50, z_57, z_58, z_59, z_60, z_61, z_91, z_97, z_98, z_100, z_108, z_114, z_120, z_122, z_126, z_127, z_128, z_200, z_255, z_961, z_990, z_992, z_998, z_999, z_1000, z_1092, z_1114, z_7798, z_10000, z_1000000, zI_neg, zI_add, zI_sub, zI_mul, zI_lt, zI_le, zI_eq, if_pos, if_neg, if_true, if_false, Option.bind_some, bnd, ldI_is, ldJ_is, Int.toNat_natCast,  Int.not_le]; omega), e1]
    simp only [Option.bind_some, ckF_is Q.1.1]
    have hs := h2 e es hd
    have hgn : ∀ j, 0 ≤ (fun j => if ok j = true then way k (e :: es) j else 0) j := fun j => by
      have := way_lim k (e :: es) j
      dsimp only
      split <;> omega
    have hpk := pck_lim (g := fun j => if ok j = true then way k (e :: es) j else 0) (rn (prow k e)) 0 rest hgn h1 (by rw [Nat.zero_add]; show rest < _ - 0; omega)
    have h42 := c_spanOf_42 (N := N) (k15 := fX5_spanOf_15 F N w m) (v := 0) (it := zI it) A D G B h30 hd T Q (hl e es hd c Q) N (rn (prow k e)) 0 rest (by omega) (by omega) h1 h1b (by rw [Nat.zero_add]; show rest < _ - 0; omega)
    refine h42.trans ?_
    rw [hd]
    unfold selM
    generalize hpq : pck (fun j => if ok j = true then way k (e :: es) j else 0) (rn (prow k e)) 0 rest = pq at hpk ⊢
    have hw := way_lim k (e :: es) pq.1
    have hpw : pq.2 < way k (e :: es) pq.1 := by
      have h9 := hpk.2.2.2
      split at h9
      · exact h9
      · omega
    cases n with
    | zero =>
      obtain ⟨m', rfl⟩ : ∃ m', m = m' + 1 := ⟨m - 1, by omega⟩
      unfold fX5_spanOf_15
      rw [if_pos (by simp (disch := omega) only [z_0, z_1, z_2, z_3, z_4, z_5, z_6, z_7, z_8, z_9, z_10, z_12, z_13, z_16, z_20, z_24, z_30, z_31, z_32, z_38, z_42, z_44, z_45, z_47, z_48, z_49, z_50, z_57, z_58, z_59, z_60, z_61, z_91, z_97, z_98, z_100, z_108, z_114, z_120, z_122, z_126, z_127, z_128, z_200, z_255, z_961, z_990, z_992, z_998, z_999, z_1000, z_1092, z_1114, z_7798, z_10000, z_1000000, zI_neg, zI_add, zI_sub, zI_mul, zI_lt, zI_le, zI_eq, if_pos, if_neg, if_true, if_false, Option.bind_some, bnd, ldI_is, ldJ_is, Int.toNat_natCast, ]; omega)]
      rfl
    | succ n =>
      cases es with
      | nil =>
        have := d1.2.2.2
        simp at this
        omega
      | cons f es =>
        have d2 := drop_is d1.2.1
        have ihh := ih n (i + 1) c (zI pq.1) (lnkO k e pq.1 (f :: es)) pq.2 (by omega) (by omega) (fun e' es' hd' c' Q' j hj => ⟨fun h9 => by omega, fun _ => ?_⟩) hpk.2.2.1 (by omega) (fun e' es' hd' => ?_)
        · rw [ihh, d1.2.1]
          rfl
        · rw [d1.2.1] at hd'
          cases hd'
          exact c_isLinked A D G d2.1 (by omega) Q Q' (by have := hpk.2.1; omega) hj B.g.2.2.2.1
        · rw [d1.2.1] at hd'
          cases hd'
          exact way_sum hpw hpk.2.2.1
theorem c_spanOf (A : CPat F w z) (D : DPat w z p) (G : PGs p) (B : CBook F w b k) (h30 : H30 k) (hN : 40 ≤ N) (T : WT w z k p 0) {it : Nat} (hit : it < p.length) {v : Int} (h0 : 0 ≤ v) (h1 : v < min (tot k p) 1000) :
    fX5_spanOf F N w z b (zI v) (zI it) = some (zI ((selM k p (fun _ => true) v).getD it 0 : Nat)) := by
  have hp := G.1
  obtain ⟨⟨o0, o1, o2, o3, o4, o5⟩, ⟨n1, n2, n3, n4, n5⟩, ⟨g1, g2, g3, g4, g5, g6⟩, hR⟩ := id A
  unfold fX5_spanOf
  rw [rdR_is g6 hR.1.1]
  simp only [Option.bind_some]
  have h9 := c_spanOf_15 (N := N) A D G B h30 hN T hit N it 0 (z + 6) (-1) (fun _ => true) v (by omega) (by omega) (fun e es hd c Q j hj => ⟨fun _ => rfl, fun h => by omega⟩) h0 (by omega) (fun e es hd => by
    rw [List.drop_zero] at hd
    subst hd
    have : (fun j => if (fun _ => true) j = true then way k (e :: es) j else 0) = way k (e :: es) := by funext j; exact if_pos rfl
    rw [this]
    have e9 : tot k (e :: es) = sumN (way k (e :: es)) (rn (prow k e)) := rfl
    omega)
  rw [List.drop_zero] at h9
  exact h9
end WAYS
