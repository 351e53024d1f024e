/-! the class's aligner -/
def ab (x : Int) : Int := if 0 ≤ x then x else -x
theorem ab_lim {x b : Int} (h1 : -b ≤ x) (h2 : x ≤ b) : 0 ≤ ab x ∧ ab x ≤ b := by
  unfold ab
  split <;> omega
theorem iabs_z {a : Int} (h1 : -2147483648 < a) (h2 : a < 2147483648) : iabs (zI a) = zI (ab a) := by
  unfold iabs ab
  rw [z_0]
  by_cases c : 0 ≤ a
  · rw [if_pos c, if_pos (by rw [zI_le (by omega) (by omega) (by omega) (by omega)]; exact c)]
  · rw [if_neg c, if_neg (by rw [zI_le (by omega) (by omega) (by omega) (by omega)]; exact c), zI_sub]
    congr 1
    omega
def dst (r q : Rw) (i j : Nat) : Int := ab (rf r i - rf q j) + ab (re r i - re q j)
def wor (r q : Rw) (W : Int) (i j : Nat) : Int := if dst r q i j ≤ W then 10000 - dst r q i j else 0
/-- the best worth of the last a spans of r with the last b of q -/
def bst (r q : Rw) (W : Int) : Nat → Nat → Int
  | 0, _ => 0
  | _ + 1, 0 => 0
  | a + 1, b + 1 => if 0 < wor r q W (rn r - (a + 1)) (rn q - (b + 1)) then max (max (bst r q W a (b + 1)) (bst r q W (a + 1) b)) (wor r q W (rn r - (a + 1)) (rn q - (b + 1)) + bst r q W a b) else max (bst r q W a (b + 1)) (bst r q W (a + 1) b)
termination_by a b => (a, b)
def chsP (r q : Rw) (W : Int) (i f j : Nat) : Bool := decide (0 < wor r q W i j ∧ wor r q W i j + bst r q W (rn r - (i + 1)) (rn q - (j + 1)) = bst r q W (rn r - i) (rn q - f))
def chs (r q : Rw) (W : Int) (i f : Nat) : Int := fnd (chsP r q W i f) (rn q - f) f
def frI (r q : Rw) (W : Int) : Nat → Nat
  | 0 => 0
  | i + 1 => if 0 ≤ chs r q W i (frI r q W i) then (chs r q W i (frI r q W i)).toNat + 1 else frI r q W i
def prtI (r q : Rw) (W : Int) (i : Nat) : Int := chs r q W i (frI r q W i)
def prS (r q : Rw) (W : Int) (i : Nat) : Int := if 0 ≤ prtI r q W i then 1 else 0
def dsS (r q : Rw) (W : Int) (i : Nat) : Int := if 0 ≤ prtI r q W i then dst r q i (prtI r q W i).toNat else 0
theorem fnd_lim (p : Nat → Bool) (k i : Nat) : -1 ≤ fnd p k i ∧ (fnd p k i = -1 ∨ (i ≤ (fnd p k i).toNat ∧ (fnd p k i).toNat < i + k ∧ 0 ≤ fnd p k i ∧ p (fnd p k i).toNat = true)) := by
  rcases fnd_cases p k i with ⟨h1, -⟩ | ⟨j, h1, h2, h3, h4, -⟩
  · rw [h1]; exact ⟨by omega, Or.inl rfl⟩
  · rw [h1]
    rw [Int.toNat_natCast]
    exact ⟨by omega, Or.inr ⟨h2, h3, by omega, h4⟩⟩
theorem dst_lim {r q : Rw} (hr : GRow r) (hq : GRow q) {i j : Nat} (hi : i < rn r) (hj : j < rn q) : 0 ≤ dst r q i j ∧ dst r q i j ≤ 2000 := by
  have h1 := hr.2 i hi
  have h2 := hq.2 j hj
  have h3 := ab_lim (x := rf r i - rf q j) (b := 1000) (by omega) (by omega)
  have h4 := ab_lim (x := re r i - re q j) (b := 1000) (by omega) (by omega)
  unfold dst
  omega
theorem dst_nn (r q : Rw) (i j : Nat) : 0 ≤ dst r q i j := by
  unfold dst ab
  split <;> split <;> omega
theorem wor_lim (r q : Rw) {W : Int} (hW : 0 ≤ W ∧ W ≤ 200) (i j : Nat) : 0 ≤ wor r q W i j ∧ wor r q W i j ≤ 10000 ∧ (0 < wor r q W i j ↔ dst r q i j ≤ W) := by
  have h := dst_nn r q i j
  unfold wor
  split <;> omega
theorem bst_lim (r q : Rw) {W : Int} (hW : 0 ≤ W ∧ W ≤ 200) : ∀ a b : Nat, 0 ≤ bst r q W a b ∧ bst r q W a b ≤ 10000 * a := by
  intro a
  induction a with
  | zero => intro b; unfold bst; omega
  | succ a iha =>
    intro b
    induction b with
    | zero => unfold bst; omega
    | succ b ihb =>
      have h1 := iha (b + 1)
      have h2 := iha b
      have h3 := wor_lim r q hW (rn r - (a + 1)) (rn q - (b + 1))
      unfold bst
      split <;> omega
theorem bst_0 (r q : Rw) (W : Int) (a b : Nat) (h : a = 0 ∨ b = 0) : bst r q W a b = 0 := by
  cases a with
  | zero => unfold bst; rfl
  | succ a =>
    cases b with
    | zero => unfold bst; rfl
    | succ b => omega
theorem bst_s (r q : Rw) (W : Int) {i j : Nat} (hi : i < rn r) (hj : j < rn q) : bst r q W (rn r - i) (rn q - j) = if 0 < wor r q W i j then max (max (bst r q W (rn r - (i + 1)) (rn q - j)) (bst r q W (rn r - i) (rn q - (j + 1)))) (wor r q W i j + bst r q W (rn r - (i + 1)) (rn q - (j + 1))) else max (bst r q W (rn r - (i + 1)) (rn q - j)) (bst r q W (rn r - i) (rn q - (j + 1))) := by
  obtain ⟨a, ha⟩ : ∃ a, rn r - i = a + 1 := ⟨rn r - (i + 1), by omega⟩
  obtain ⟨b, hb⟩ : ∃ b, rn q - j = b + 1 := ⟨rn q - (j + 1), by omega⟩
  rw [ha, hb, show rn r - (i + 1) = a from by omega, show rn q - (j + 1) = b from by omega]
  rw [bst]
  rw [show rn r - (a + 1) = i from by omega, show rn q - (b + 1) = j from by omega]
def CAlg (F : Fr) (w : Wd) (z : Nat) : Prop := okF F z 0 ∧ okF F (z + 1) 11 ∧ okF F (z + 2) 11 ∧ F.2.1 (z + 1) = 961 ∧ F.2.1 (z + 2) = 30 ∧ gR w 0 z = some (z + 1) ∧ gR w 1 z = some (z + 2)
theorem CAlg.keep {F : Fr} {S : Nat → Prop} {w w' : Wd} {z : Nat} (h : CAlg F w z) (k : Kp S w w') (hs : ¬ S z) : CAlg F w' z := by
  obtain ⟨h1, h2, h3, h4, h5, h6, h7⟩ := h
  exact ⟨h1, h2, h3, h4, h5, by rw [k.gR hs]; exact h6, by rw [k.gR hs]; exact h7⟩
section ALG
variable {F : Fr} {N : Nat} {w : Wd} {z a b : Nat} {r q : Rw} {W : Int}
theorem c_distance (h : CRow F w a r) (g : CRow F w b q) {i j : Nat} (hi : i < rn r) (hj : j < rn q) : fX0_distance F N w a (zI i) b (zI j) = some (zI (dst r q i j)) := by
  have h1 := h.at hi
  have h2 := g.at hj
  unfold fX0_distance dst
  rw [c_first h hi, c_first g hj, c_end h hi, c_end g hj]
  simp only [Option.bind_some, zI_sub]
  rw [iabs_z (by omega) (by omega), iabs_z (by omega) (by omega), zI_add]
theorem c_worth (h : CRow F w a r) (g : CRow F w b q) (hW : 0 ≤ W ∧ W ≤ 200) {i j : Nat} (hi : i < rn r) (hj : j < rn q) : fX0_worth F N w a (zI i) b (zI j) (zI W) = some (zI (wor r q W i j)) := by
  have h1 := dst_lim h.2.2.2 g.2.2.2 hi hj
  unfold fX0_worth wor
  rw [c_distance h g hi hj]
  simp only [Option.bind_some]
  by_cases c : dst r q i j ≤ W
  · rw [if_neg (by simp (disch := omega) only [z_0, z_1, z_2, z_3, z_4, z_5, z_6, z_7, z_8, z_9, z_10, z_12, z_13, z_16, z_20, z_24, z_30, z_31, z_32, z_38, z_42, z_44, z_45, z_47, z_48, z_49, z_50, z_57, z_58, z_59, z_60, z_61, z_91, z_97, z_98, z_100, z_108, z_114, z_120, z_122, z_126, z_127, z_128, z_200, z_255, z_961, z_990, z_992, z_998, z_999, z_1000, z_1092, z_1114, z_7798, z_10000, z_1000000, zI_neg, zI_add, zI_sub, zI_mul, zI_lt, zI_le, zI_eq, if_pos, if_neg, if_true, if_false, Option.bind_some, bnd, ldI_is, ldJ_is, Int.toNat_natCast,  Int.not_lt]; omega), if_pos c, z_10000, zI_sub]
  · rw [if_pos (by simp (disch := omega) only [z_0, z_1, z_2, z_3, z_4, z_5, z_6, z_7, z_8, z_9, z_10, z_12, z_13, z_16, z_20, z_24, z_30, z_31, z_32, z_38, z_42, z_44, z_45, z_47, z_48, z_49, z_50, z_57, z_58, z_59, z_60, z_61, z_91, z_97, z_98, z_100, z_108, z_114, z_120, z_122, z_126, z_127, z_128, z_200, z_255, z_961, z_990, z_992, z_998, z_999, z_1000, z_1092, z_1114, z_7798, z_10000, z_1000000, zI_neg, zI_add, zI_sub, zI_mul, zI_lt, zI_le, zI_eq, if_pos, if_neg, if_true, if_false, Option.bind_some, bnd, ldI_is, ldJ_is, Int.toNat_natCast, ]; omega), if_neg c]; rfl
theorem c_bestFrom (h : CAlg F w z) {i j : Nat} {v : Int} (hi : i ≤ 30) (hj : j ≤ 30) (hv : aI w (z + 1) (31 * i + j) = zI v) : fX0_bestFrom F N w z (zI i) (zI j) = some (zI v) := by
  obtain ⟨h1, h2, h3, h4, h5, h6, h7⟩ := h
  unfold fX0_bestFrom
  have e : ((zI (i : Int) * 31) + zI (j : Int)) = zI ((31 * i + j : Nat) : Int) := by
    rw [z_31, zI_mul, zI_add]; congr 1; omega
  rw [e]
  simp only [bnd]
  rw [if_neg (by simp (disch := omega) only [z_0, z_1, z_2, z_3, z_4, z_5, z_6, z_7, z_8, z_9, z_10, z_12, z_13, z_16, z_20, z_24, z_30, z_31, z_32, z_38, z_42, z_44, z_45, z_47, z_48, z_49, z_50, z_57, z_58, z_59, z_60, z_61, z_91, z_97, z_98, z_100, z_108, z_114, z_120, z_122, z_126, z_127, z_128, z_200, z_255, z_961, z_990, z_992, z_998, z_999, z_1000, z_1092, z_1114, z_7798, z_10000, z_1000000, zI_neg, zI_add, zI_sub, zI_mul, zI_lt, zI_le, zI_eq, if_pos, if_neg, if_true, if_false, Option.bind_some, bnd, ldI_is, ldJ_is, Int.toNat_natCast,  Int.not_lt]; omega), rdR_is h6 h2]
  simp only [Option.bind_some]
  rw [if_neg (by rw [nI_z, h4]; simp (disch := omega) only [z_0, z_1, z_2, z_3, z_4, z_5, z_6, z_7, z_8, z_9, z_10, z_12, z_13, z_16, z_20, z_24, z_30, z_31, z_32, z_38, z_42, z_44, z_45, z_47, z_48, z_49, z_50, z_57, z_58, z_59, z_60, z_61, z_91, z_97, z_98, z_100, z_108, z_114, z_120, z_122, z_126, z_127, z_128, z_200, z_255, z_961, z_990, z_992, z_998, z_999, z_1000, z_1092, z_1114, z_7798, z_10000, z_1000000, zI_neg, zI_add, zI_sub, zI_mul, zI_lt, zI_le, zI_eq, if_pos, if_neg, if_true, if_false, Option.bind_some, bnd, ldI_is, ldJ_is, Int.toNat_natCast,  Int.not_le]; omega), ldI_is (by omega) (by omega) (by omega)]
  simp only [Option.bind_some, Int.toNat_natCast, hv]
theorem c_fillBest_122 (h : CAlg F w z) {k11 : Wd → Nat → Nat → Nat → Int32 → Int32 → Option Wd} {k27 : Wd → Nat → Nat → Nat → Int32 → Int32 → Int32 → Option Wd} {i c : Nat} {v : Int} (hi : i ≤ 30) (hc : c ≤ 30) {P : Wd → Prop}
    (hk : ∀ w', Kp (Rg (z + 1) 1) w w' → (∀ x, aI w' (z + 1) x = if x = 31 * i + c then zI v else aI w (z + 1) x) → Ev (k27 w' z a b (zI W) (zI i) (zI ((c : Int) - 1))) P) :
    Ev (fX0_fillBest_122 F N k11 k27 w z a b (zI W) (zI i) (zI c) (zI v)) P := by
  obtain ⟨h1, h2, h3, h4, h5, h6, h7⟩ := h
  unfold fX0_fillBest_122 fX0_fillBest_156
  have e : ((zI (i : Int) * 31) + zI (c : Int)) = zI ((31 * i + c : Nat) : Int) := by
    rw [z_31, zI_mul, zI_add]; congr 1; omega
  have e2 : zI (c : Int) + (-1) = zI ((c : Int) - 1) := by rw [show (-1 : Int32) = zI (-1) from rfl, zI_add]; rfl
  rw [e, e2]
  refine ev_bnd (ev_neg (by simp (disch := omega) only [z_0, z_1, z_2, z_3, z_4, z_5, z_6, z_7, z_8, z_9, z_10, z_12, z_13, z_16, z_20, z_24, z_30, z_31, z_32, z_38, z_42, z_44, z_45, z_47, z_48, z_49, z_50, z_57, z_58, z_59, z_60, z_61, z_91, z_97, z_98, z_100, z_108, z_114, z_120, z_122, z_126, z_127, z_128, z_200, z_255, z_961, z_990, z_992, z_998, z_999, z_1000, z_1092, z_1114, z_7798, z_10000, z_1000000, zI_neg, zI_add, zI_sub, zI_mul, zI_lt, zI_le, zI_eq, if_pos, if_neg, if_true, if_false, Option.bind_some, bnd, ldI_is, ldJ_is, Int.toNat_natCast,  Int.not_lt]; omega) (ev_rdR h6 h2 (ev_neg (by rw [nI_z, h4]; simp (disch := omega) only [z_0, z_1, z_2, z_3, z_4, z_5, z_6, z_7, z_8, z_9, z_10, z_12, z_13, z_16, z_20, z_24, z_30, z_31, z_32, z_38, z_42, z_44, z_45, z_47, z_48, z_49, z_50, z_57, z_58, z_59, z_60, z_61, z_91, z_97, z_98, z_100, z_108, z_114, z_120, z_122, z_126, z_127, z_128, z_200, z_255, z_961, z_990, z_992, z_998, z_999, z_1000, z_1092, z_1114, z_7798, z_10000, z_1000000, zI_neg, zI_add, zI_sub, zI_mul, zI_lt, zI_le, zI_eq, if_pos, if_neg, if_true, if_false, Option.bind_some, bnd, ldI_is, ldJ_is, Int.toNat_natCast,  Int.not_le]; omega) (ev_rdR h6 h2 (ev_eq (stI_is (by omega) (by omega) (by omega)) ?_)))))
  refine hk _ (kp_sAI _ _ (by unfold Rg; omega)) fun x => ?_
  rw [q_aI_sAI, if_pos rfl, upd_is, Int.toNat_natCast]
def BTab (w : Wd) (z : Nat) (r q : Rw) (W : Int) (i j : Nat) : Prop := aI w (z + 1) (31 * i + j) = zI (bst r q W (rn r - i) (rn q - j))
theorem c_fillBest_27 (hr : rn r ≤ 30) (hq : rn q ≤ 30) (hW : 0 ≤ W ∧ W ≤ 200) (da : a + 4 ≤ z ∨ z + 3 ≤ a) (db : b + 4 ≤ z ∨ z + 3 ≤ b) {k11 : Wd → Nat → Nat → Nat → Int32 → Int32 → Option Wd} {i : Nat} (hi : i ≤ rn r) {P : Wd → Prop} : ∀ (m c : Nat) (w : Wd), c ≤ rn q + 1 → c < m → CAlg F w z → CRow F w a r → CRow F w b q →
    (∀ i' j, i < i' → i' ≤ rn r → j ≤ rn q → BTab w z r q W i' j) → (∀ j, c ≤ j → j ≤ rn q → BTab w z r q W i j) →
    (∀ w', CAlg F w' z → Kp (Rg (z + 1) 1) w w' → (∀ i' j, i ≤ i' → i' ≤ rn r → j ≤ rn q → BTab w' z r q W i' j) → Ev (k11 w' z a b (zI W) (zI ((i : Int) - 1))) P) →
    Ev (fX0_fillBest_27 F N k11 m w z a b (zI W) (zI i) (zI ((c : Int) - 1))) P := by
  intro m
  induction m with
  | zero => intro c w _ h; omega
  | succ m ih =>
    intro c w hc hm A R Q h1 h2 hk
    unfold fX0_fillBest_27
    cases c with
    | zero =>
      refine ev_pos (by decide) ?_
      rw [show zI (i : Int) + (-1) = zI ((i : Int) - 1) from by rw [show (-1 : Int32) = zI (-1) from rfl, zI_add]; rfl]
      refine hk w A (Kp.refl _) fun i' j g1 g2 g3 => ?_
      by_cases e : i' = i
      · rw [e]; exact h2 j (Nat.zero_le _) g3
      · exact h1 i' j (by omega) g2 g3
    | succ c =>
      have e0 : (((c + 1 : Nat) : Int) - 1) = (c : Int) := by omega
      rw [e0, c_many R, c_many Q]
      have step : ∀ v : Int, v = bst r q W (rn r - i) (rn q - c) → Ev (fX0_fillBest_122 F N k11 (fX0_fillBest_27 F N k11 m) w z a b (zI W) (zI i) (zI c) (zI v)) P := by
        intro v hv
        refine c_fillBest_122 A (by omega) (by omega) fun w' k' e' => ?_
        refine ih c w' (by omega) (by omega) (A.keep k' (by unfold Rg; omega)) (R.keep k' fun y y1 y2 => by unfold Rg; omega) (Q.keep k' fun y y1 y2 => by unfold Rg; omega) (fun i' j g1 g2 g3 => ?_) (fun j g1 g3 => ?_) fun w2 A2 k2 g2 => hk w2 A2 (k'.trans k2) g2
        · unfold BTab
          rw [e', if_neg (by omega)]
          exact h1 i' j g1 g2 g3
        · unfold BTab
          rw [e']
          by_cases e : j = c
          · rw [if_pos (by omega), hv, e]
          · rw [if_neg (by omega)]
            exact h2 j (by omega) g3
      refine ev_neg (by simp (disch := omega) only [z_0, z_1, z_2, z_3, z_4, z_5, z_6, z_7, z_8, z_9, z_10, z_12, z_13, z_16, z_20, z_24, z_30, z_31, z_32, z_38, z_42, z_44, z_45, z_47, z_48, z_49, z_50, z_57, z_58, z_59, z_60, z_61, z_91, z_97, z_98, z_100, z_108, z_114, z_120, z_122, z_126, z_127, z_128, z_200, z_255, z_961, z_990, z_992, z_998, z_999, z_1000, z_1092, z_1114, z_7798, z_10000, z_1000000, zI_neg, zI_add, zI_sub, zI_mul, zI_lt, zI_le, zI_eq, if_pos, if_neg, if_true, if_false, Option.bind_some, bnd, ldI_is, ldJ_is, Int.toNat_natCast,  Int.not_lt]; omega) ?_
      by_cases c1 : rn r ≤ i
      · refine ev_pos (by simp (disch := omega) only [z_0, z_1, z_2, z_3, z_4, z_5, z_6, z_7, z_8, z_9, z_10, z_12, z_13, z_16, z_20, z_24, z_30, z_31, z_32, z_38, z_42, z_44, z_45, z_47, z_48, z_49, z_50, z_57, z_58, z_59, z_60, z_61, z_91, z_97, z_98, z_100, z_108, z_114, z_120, z_122, z_126, z_127, z_128, z_200, z_255, z_961, z_990, z_992, z_998, z_999, z_1000, z_1092, z_1114, z_7798, z_10000, z_1000000, zI_neg, zI_add, zI_sub, zI_mul, zI_lt, zI_le, zI_eq, if_pos, if_neg, if_true, if_false, Option.bind_some, bnd, ldI_is, ldJ_is, Int.toNat_natCast, ]; omega) ?_
        exact step 0 (by rw [bst_0 _ _ _ _ _ (Or.inl (by omega))])
      · refine ev_neg (by simp (disch := omega) only [z_0, z_1, z_2, z_3, z_4, z_5, z_6, z_7, z_8, z_9, z_10, z_12, z_13, z_16, z_20, z_24, z_30, z_31, z_32, z_38, z_42, z_44, z_45, z_47, z_48, z_49, z_50, z_57, z_58, z_59, z_60, z_61, z_91, z_97, z_98, z_100, z_108, z_114, z_120, z_122, z_126, z_127, z_128, z_200, z_255, z_961, z_990, z_992, z_998, z_999, z_1000, z_1092, z_1114, z_7798, z_10000, z_1000000, zI_neg, zI_add, zI_sub, zI_mul, zI_lt, zI_le, zI_eq, if_pos, if_neg, if_true, if_false, Option.bind_some, bnd, ldI_is, ldJ_is, Int.toNat_natCast,  Int.not_le]; omega) ?_
        by_cases c2 : rn q ≤ c
        · refine ev_pos (by simp (disch := omega) only [z_0, z_1, z_2, z_3, z_4, z_5, z_6, z_7, z_8, z_9, z_10, z_12, z_13, z_16, z_20, z_24, z_30, z_31, z_32, z_38, z_42, z_44, z_45, z_47, z_48, z_49, z_50, z_57, z_58, z_59, z_60, z_61, z_91, z_97, z_98, z_100, z_108, z_114, z_120, z_122, z_126, z_127, z_128, z_200, z_255, z_961, z_990, z_992, z_998, z_999, z_1000, z_1092, z_1114, z_7798, z_10000, z_1000000, zI_neg, zI_add, zI_sub, zI_mul, zI_lt, zI_le, zI_eq, if_pos, if_neg, if_true, if_false, Option.bind_some, bnd, ldI_is, ldJ_is, Int.toNat_natCast, ]; omega) ?_
          exact step 0 (by rw [bst_0 _ _ _ _ _ (Or.inr (by omega))])
        · refine ev_neg (by simp (disch := omega) only [z_0, z_1, z_2, z_3, z_4, z_5, z_6, z_7, z_8, z_9, z_10, z_12, z_13, z_16, z_20, z_24, z_30, z_31, z_32, z_38, z_42, z_44, z_45, z_47, z_48, z_49, z_50, z_57, z_58, z_59, z_60, z_61, z_91, z_97, z_98, z_100, z_108, z_114, z_120, z_122, z_126, z_127, z_128, z_200, z_255, z_961, z_990, z_992, z_998, z_999, z_1000, z_1092, z_1114, z_7798, z_10000, z_1000000, zI_neg, zI_add, zI_sub, zI_mul, zI_lt, zI_le, zI_eq, if_pos, if_neg, if_true, if_false, Option.bind_some, bnd, ldI_is, ldJ_is, Int.toNat_natCast,  Int.not_le]; omega) ?_
          have t1 := bst_lim r q hW (rn r - (i + 1)) (rn q - c)
          have t2 := bst_lim r q hW (rn r - i) (rn q - (c + 1))
          have t3 := bst_lim r q hW (rn r - (i + 1)) (rn q - (c + 1))
          have t4 := wor_lim r q hW i c
          rw [c_worth R Q hW (by omega) (by omega), zI_succ, zI_succ, c_bestFrom A (by omega) (by omega) (h1 (i + 1) c (by omega) (by omega) (by omega))]
          simp only [Option.bind_some]
          rw [c_bestFrom A (by omega) (by omega) (h2 (c + 1) (by omega) (by omega))]
          simp only [Option.bind_some]
          refine ev_bnd ?_
          rw [imax_z (by omega) (by omega) (by omega) (by omega)]
          unfold fX0_fillBest_120
          have hs := bst_s r q W (i := i) (j := c) (by omega) (by omega)
          by_cases c3 : 0 < wor r q W i c
          · refine ev_neg (by simp (disch := omega) only [z_0, z_1, z_2, z_3, z_4, z_5, z_6, z_7, z_8, z_9, z_10, z_12, z_13, z_16, z_20, z_24, z_30, z_31, z_32, z_38, z_42, z_44, z_45, z_47, z_48, z_49, z_50, z_57, z_58, z_59, z_60, z_61, z_91, z_97, z_98, z_100, z_108, z_114, z_120, z_122, z_126, z_127, z_128, z_200, z_255, z_961, z_990, z_992, z_998, z_999, z_1000, z_1092, z_1114, z_7798, z_10000, z_1000000, zI_neg, zI_add, zI_sub, zI_mul, zI_lt, zI_le, zI_eq, if_pos, if_neg, if_true, if_false, Option.bind_some, bnd, ldI_is, ldJ_is, Int.toNat_natCast,  Int.not_le]; omega) ?_
            rw [c_bestFrom A (by omega) (by omega) (h1 (i + 1) (c + 1) (by omega) (by omega) (by omega))]
            simp only [Option.bind_some]
            rw [zI_add, imax_z (by omega) (by omega) (by omega) (by omega)]
            rw [if_pos c3] at hs
            exact step _ hs.symm
          · refine ev_pos (by simp (disch := omega) only [z_0, z_1, z_2, z_3, z_4, z_5, z_6, z_7, z_8, z_9, z_10, z_12, z_13, z_16, z_20, z_24, z_30, z_31, z_32, z_38, z_42, z_44, z_45, z_47, z_48, z_49, z_50, z_57, z_58, z_59, z_60, z_61, z_91, z_97, z_98, z_100, z_108, z_114, z_120, z_122, z_126, z_127, z_128, z_200, z_255, z_961, z_990, z_992, z_998, z_999, z_1000, z_1092, z_1114, z_7798, z_10000, z_1000000, zI_neg, zI_add, zI_sub, zI_mul, zI_lt, zI_le, zI_eq, if_pos, if_neg, if_true, if_false, Option.bind_some, bnd, ldI_is, ldJ_is, Int.toNat_natCast, ]; omega) ?_
            rw [if_neg c3] at hs
            exact step _ hs.symm
theorem c_fillBest_11 (hN : 200 ≤ N) (hr : rn r ≤ 30) (hq : rn q ≤ 30) (hW : 0 ≤ W ∧ W ≤ 200) (da : a + 4 ≤ z ∨ z + 3 ≤ a) (db : b + 4 ≤ z ∨ z + 3 ≤ b) : ∀ (m c : Nat) (w : Wd), c ≤ rn r + 1 → c < m → CAlg F w z → CRow F w a r → CRow F w b q →
    (∀ i' j, c ≤ i' → i' ≤ rn r → j ≤ rn q → BTab w z r q W i' j) →
    Ev (fX0_fillBest_11 F N m w z a b (zI W) (zI ((c : Int) - 1))) fun w' => CAlg F w' z ∧ Kp (Rg (z + 1) 1) w w' ∧ ∀ i' j, i' ≤ rn r → j ≤ rn q → BTab w' z r q W i' j := by
  intro m
  induction m with
  | zero => intro c w _ h; omega
  | succ m ih =>
    intro c w hc hm A R Q h1
    unfold fX0_fillBest_11
    cases c with
    | zero =>
      exact ev_pos (by decide) (ev_some ⟨A, Kp.refl _, fun i' j g2 g3 => h1 i' j (Nat.zero_le _) g2 g3⟩)
    | succ c =>
      have e0 : (((c + 1 : Nat) : Int) - 1) = (c : Int) := by omega
      rw [e0, c_many Q]
      refine ev_neg (by simp (disch := omega) only [z_0, z_1, z_2, z_3, z_4, z_5, z_6, z_7, z_8, z_9, z_10, z_12, z_13, z_16, z_20, z_24, z_30, z_31, z_32, z_38, z_42, z_44, z_45, z_47, z_48, z_49, z_50, z_57, z_58, z_59, z_60, z_61, z_91, z_97, z_98, z_100, z_108, z_114, z_120, z_122, z_126, z_127, z_128, z_200, z_255, z_961, z_990, z_992, z_998, z_999, z_1000, z_1092, z_1114, z_7798, z_10000, z_1000000, zI_neg, zI_add, zI_sub, zI_mul, zI_lt, zI_le, zI_eq, if_pos, if_neg, if_true, if_false, Option.bind_some, bnd, ldI_is, ldJ_is, Int.toNat_natCast,  Int.not_lt]; omega) (ev_bnd ?_)
      rw [z_30, imin_z (by omega) (by omega) (by omega) (by omega), show min (rn q : Int) 30 = ((rn q + 1 : Nat) : Int) - 1 from by omega]
      refine c_fillBest_27 hr hq hW da db (by omega) N (rn q + 1) w (by omega) (by omega) A R Q (fun i' j g1 g2 g3 => h1 i' j (by omega) g2 g3) (fun j g1 g2 => by omega) fun w2 A2 k2 g2 => ?_
      refine ev_mono (ih c w2 (by omega) (by omega) A2 (R.keep k2 fun y y1 y2 => by unfold Rg; omega) (Q.keep k2 fun y y1 y2 => by unfold Rg; omega) g2) fun x ⟨x1, x2, x3⟩ => ⟨x1, k2.trans x2, x3⟩
theorem c_fillBest (A : CAlg F w z) (R : CRow F w a r) (Q : CRow F w b q) (hN : 200 ≤ N) (hr : rn r ≤ 30) (hq : rn q ≤ 30) (hW : 0 ≤ W ∧ W ≤ 200) (da : a + 4 ≤ z ∨ z + 3 ≤ a) (db : b + 4 ≤ z ∨ z + 3 ≤ b) :
    Ev (fX0_fillBest F N w z a b (zI W)) fun w' => CAlg F w' z ∧ Kp (Rg (z + 1) 1) w w' ∧ ∀ i' j, i' ≤ rn r → j ≤ rn q → BTab w' z r q W i' j := by
  unfold fX0_fillBest
  rw [c_many R]
  refine ev_bnd ?_
  rw [z_30, imin_z (by omega) (by omega) (by omega) (by omega), show min (rn r : Int) 30 = ((rn r + 1 : Nat) : Int) - 1 from by omega]
  exact c_fillBest_11 hN hr hq hW da db N (rn r + 1) w (by omega) (by omega) A R Q fun i' j g1 g2 => by omega
theorem c_choose_13 (A : CAlg F w z) (R : CRow F w a r) (Q : CRow F w b q) (hr : rn r ≤ 30) (hq : rn q ≤ 30) (hW : 0 ≤ W ∧ W ≤ 200) (B : ∀ i' j, i' ≤ rn r → j ≤ rn q → BTab w z r q W i' j) {i f : Nat} (hi : i < rn r) : ∀ (m k j : Nat), j + k = rn q → k < m →
    fX0_choose_13 F N w m z a (zI i) b (zI W) (zI (bst r q W (rn r - i) (rn q - f))) (zI j) = some (zI (fnd (chsP r q W i f) k j)) := by
  intro m
  induction m with
  | zero => intro k j _ h; omega
  | succ m ih =>
    intro k j hj hm
    unfold fX0_choose_13 fX0_choose_61
    rw [c_many Q]
    cases k with
    | zero =>
      rw [if_pos (by simp (disch := omega) only [z_0, z_1, z_2, z_3, z_4, z_5, z_6, z_7, z_8, z_9, z_10, z_12, z_13, z_16, z_20, z_24, z_30, z_31, z_32, z_38, z_42, z_44, z_45, z_47, z_48, z_49, z_50, z_57, z_58, z_59, z_60, z_61, z_91, z_97, z_98, z_100, z_108, z_114, z_120, z_122, z_126, z_127, z_128, z_200, z_255, z_961, z_990, z_992, z_998, z_999, z_1000, z_1092, z_1114, z_7798, z_10000, z_1000000, zI_neg, zI_add, zI_sub, zI_mul, zI_lt, zI_le, zI_eq, if_pos, if_neg, if_true, if_false, Option.bind_some, bnd, ldI_is, ldJ_is, Int.toNat_natCast, ]; omega)]
      rfl
    | succ k =>
      have t3 := bst_lim r q hW (rn r - (i + 1)) (rn q - (j + 1))
      have t1 := bst_lim r q hW (rn r - i) (rn q - f)
      have t4 := wor_lim r q hW i j
      have ih := ih k (j + 1) (by omega) (by omega)
      rw [if_neg (by simp (disch := omega) only [z_0, z_1, z_2, z_3, z_4, z_5, z_6, z_7, z_8, z_9, z_10, z_12, z_13, z_16, z_20, z_24, z_30, z_31, z_32, z_38, z_42, z_44, z_45, z_47, z_48, z_49, z_50, z_57, z_58, z_59, z_60, z_61, z_91, z_97, z_98, z_100, z_108, z_114, z_120, z_122, z_126, z_127, z_128, z_200, z_255, z_961, z_990, z_992, z_998, z_999, z_1000, z_1092, z_1114, z_7798, z_10000, z_1000000, zI_neg, zI_add, zI_sub, zI_mul, zI_lt, zI_le, zI_eq, if_pos, if_neg, if_true, if_false, Option.bind_some, bnd, ldI_is, ldJ_is, Int.toNat_natCast,  Int.not_le]; omega), c_worth R Q hW hi (by omega), zI_succ i, zI_succ j, c_bestFrom A (by omega) (by omega) (B (i + 1) (j + 1) (by omega) (by omega)), ih, fnd_succ]
      simp only [Option.bind_some, zI_add]
      by_cases c1 : 0 < wor r q W i j
      · rw [if_neg (by simp (disch := omega) only [z_0, z_1, z_2, z_3, z_4, z_5, z_6, z_7, z_8, z_9, z_10, z_12, z_13, z_16, z_20, z_24, z_30, z_31, z_32, z_38, z_42, z_44, z_45, z_47, z_48, z_49, z_50, z_57, z_58, z_59, z_60, z_61, z_91, z_97, z_98, z_100, z_108, z_114, z_120, z_122, z_126, z_127, z_128, z_200, z_255, z_961, z_990, z_992, z_998, z_999, z_1000, z_1092, z_1114, z_7798, z_10000, z_1000000, zI_neg, zI_add, zI_sub, zI_mul, zI_lt, zI_le, zI_eq, if_pos, if_neg, if_true, if_false, Option.bind_some, bnd, ldI_is, ldJ_is, Int.toNat_natCast,  Int.not_le]; omega)]
        by_cases c2 : wor r q W i j + bst r q W (rn r - (i + 1)) (rn q - (j + 1)) = bst r q W (rn r - i) (rn q - f)
        · have e : chsP r q W i f j = true := by unfold chsP; rw [decide_eq_true_eq]; exact ⟨c1, c2⟩
          rw [if_pos (by rw [c2]), if_pos e]
        · have e : ¬ chsP r q W i f j = true := by unfold chsP; rw [decide_eq_true_eq]; exact fun h9 => c2 h9.2
          rw [if_neg (by simp (disch := omega) only [z_0, z_1, z_2, z_3, z_4, z_5, z_6, z_7, z_8, z_9, z_10, z_12, z_13, z_16, z_20, z_24, z_30, z_31, z_32, z_38, z_42, z_44, z_45, z_47, z_48, z_49, z_50, z_57, z_58, z_59, z_60, z_61, z_91, z_97, z_98, z_100, z_108, z_114, z_120, z_122, z_126, z_127, z_128, z_200, z_255, z_961, z_990, z_992, z_998, z_999, z_1000, z_1092, z_1114, z_7798, z_10000, z_1000000, zI_neg, zI_add, zI_sub, zI_mul, zI_lt, zI_le, zI_eq, if_pos, if_neg, if_true, if_false, Option.bind_some, bnd, ldI_is, ldJ_is, Int.toNat_natCast,  c2, not_false_eq_true]), if_neg e]
      · have e : ¬ chsP r q W i f j = true := by unfold chsP; rw [decide_eq_true_eq]; exact fun h9 => c1 h9.1
        rw [if_pos (by simp (disch := omega) only [z_0, z_1, z_2, z_3, z_4, z_5, z_6, z_7, z_8, z_9, z_10, z_12, z_13, z_16, z_20, z_24, z_30, z_31, z_32, z_38, z_42, z_44, z_45, z_47, z_48, z_49, z_50, z_57, z_58, z_59, z_60, z_61, z_91, z_97, z_98, z_100, z_108, z_114, z_120, z_122, z_126, z_127, z_128, z_200, z_255, z_961, z_990, z_992, z_998, z_999, z_1000, z_1092, z_1114, z_7798, z_10000, z_1000000, zI_neg, zI_add, zI_sub, zI_mul, zI_lt, zI_le, zI_eq, if_pos, if_neg, if_true, if_false, Option.bind_some, bnd, ldI_is, ldJ_is, Int.toNat_natCast, ]; omega), if_neg e]
theorem c_choose (A : CAlg F w z) (R : CRow F w a r) (Q : CRow F w b q) (hN : 200 ≤ N) (hr : rn r ≤ 30) (hq : rn q ≤ 30) (hW : 0 ≤ W ∧ W ≤ 200) (B : ∀ i' j, i' ≤ rn r → j ≤ rn q → BTab w z r q W i' j) {i f : Nat} (hi : i < rn r) (hf : f ≤ rn q) :
    fX0_choose F N w z a (zI i) b (zI f) (zI W) = some (zI (chs r q W i f)) := by
  unfold fX0_choose
  rw [c_bestFrom A (by omega) (by omega) (B i f (by omega) hf)]
  simp only [Option.bind_some]
  exact c_choose_13 A R Q hr hq hW B hi N (rn q - f) f (by omega) (by omega)
theorem frI_lim (r q : Rw) (W : Int) : ∀ i, frI r q W i ≤ rn q := by
  intro i
  induction i with
  | zero => exact Nat.zero_le _
  | succ i ih =>
    unfold frI
    split
    · rename_i h
      have h9 := fnd_lim (chsP r q W i (frI r q W i)) (rn q - frI r q W i) (frI r q W i)
      unfold chs at h ⊢
      omega
    · exact ih
theorem prtI_lim (r q : Rw) (W : Int) (i : Nat) : -1 ≤ prtI r q W i ∧ prtI r q W i < rn q ∧ (0 ≤ prtI r q W i → frI r q W i ≤ (prtI r q W i).toNat ∧ chsP r q W i (frI r q W i) (prtI r q W i).toNat = true) := by
  have h9 := fnd_lim (chsP r q W i (frI r q W i)) (rn q - frI r q W i) (frI r q W i)
  have h8 := frI_lim r q W i
  unfold prtI chs
  refine ⟨h9.1, by omega, fun h => ?_⟩
  rcases h9.2 with h7 | ⟨h1, h2, h3, h4⟩
  · omega
  · exact ⟨h1, h4⟩
theorem dsS_lim (r q : Rw) {W : Int} (hW : 0 ≤ W ∧ W ≤ 200) (i : Nat) : 0 ≤ dsS r q W i ∧ dsS r q W i ≤ 200 * prS r q W i ∧ 0 ≤ prS r q W i ∧ prS r q W i ≤ 1 := by
  unfold dsS prS
  by_cases c : 0 ≤ prtI r q W i
  · have h := ((prtI_lim r q W i).2.2 c).2
    unfold chsP at h
    rw [decide_eq_true_eq] at h
    have h1 := (wor_lim r q hW i (prtI r q W i).toNat).2.2.mp h.1
    have h2 := dst_nn r q i (prtI r q W i).toNat
    rw [if_pos c, if_pos c]
    omega
  · rw [if_neg c, if_neg c]; omega
theorem sum_lim (r q : Rw) {W : Int} (hW : 0 ≤ W ∧ W ≤ 200) : ∀ i, 0 ≤ sumN (dsS r q W) i ∧ sumN (dsS r q W) i ≤ 200 * sumN (prS r q W) i ∧ 0 ≤ sumN (prS r q W) i ∧ sumN (prS r q W) i ≤ i := by
  intro i
  induction i with
  | zero => unfold sumN; omega
  | succ i ih =>
    have h := dsS_lim r q hW i
    unfold sumN
    omega
theorem c_alrun_23 (hN : 200 ≤ N) (hr : rn r ≤ 30) (hq : rn q ≤ 30) (hW : 0 ≤ W ∧ W ≤ 200) (da : a + 4 ≤ z ∨ z + 3 ≤ a) (db : b + 4 ≤ z ∨ z + 3 ≤ b) : ∀ (m k i : Nat) (w : Wd), CAlg F w z → CRow F w a r → CRow F w b q → (∀ i' j, i' ≤ rn r → j ≤ rn q → BTab w z r q W i' j) → i + k = rn r → k < m →
    gI w 2 z = zI (sumN (prS r q W) i) → gI w 3 z = zI (sumN (dsS r q W) i) → (∀ j, j < i → aI w (z + 2) j = zI (prtI r q W j)) →
    Ev (fX0_run_23 F N m w z a b (zI W) (zI (frI r q W i)) (zI i)) fun w' => CAlg F w' z ∧ Kp (Rg z 3) w w' ∧ gI w' 2 z = zI (sumN (prS r q W) (rn r)) ∧ gI w' 3 z = zI (sumN (dsS r q W) (rn r)) ∧ ∀ j, j < rn r → aI w' (z + 2) j = zI (prtI r q W j) := by
  intro m
  induction m with
  | zero => intro k i w _ _ _ _ _ h; omega
  | succ m ih =>
    intro k i w A R Q B hk hm e2 e3 eP
    unfold fX0_run_23
    rw [c_many R]
    cases k with
    | zero =>
      have e : i = rn r := by omega
      subst e
      exact ev_pos (by simp (disch := omega) only [z_0, z_1, z_2, z_3, z_4, z_5, z_6, z_7, z_8, z_9, z_10, z_12, z_13, z_16, z_20, z_24, z_30, z_31, z_32, z_38, z_42, z_44, z_45, z_47, z_48, z_49, z_50, z_57, z_58, z_59, z_60, z_61, z_91, z_97, z_98, z_100, z_108, z_114, z_120, z_122, z_126, z_127, z_128, z_200, z_255, z_961, z_990, z_992, z_998, z_999, z_1000, z_1092, z_1114, z_7798, z_10000, z_1000000, zI_neg, zI_add, zI_sub, zI_mul, zI_lt, zI_le, zI_eq, if_pos, if_neg, if_true, if_false, Option.bind_some, bnd, ldI_is, ldJ_is, Int.toNat_natCast, ]; omega) (ev_some ⟨A, Kp.refl _, e2, e3, eP⟩)
    | succ k =>
      have hi : i < rn r := by omega
      have hf := frI_lim r q W i
      have hp := prtI_lim r q W i
      have hsl := sum_lim r q hW i
      refine ev_neg (by simp (disch := omega) only [z_0, z_1, z_2, z_3, z_4, z_5, z_6, z_7, z_8, z_9, z_10, z_12, z_13, z_16, z_20, z_24, z_30, z_31, z_32, z_38, z_42, z_44, z_45, z_47, z_48, z_49, z_50, z_57, z_58, z_59, z_60, z_61, z_91, z_97, z_98, z_100, z_108, z_114, z_120, z_122, z_126, z_127, z_128, z_200, z_255, z_961, z_990, z_992, z_998, z_999, z_1000, z_1092, z_1114, z_7798, z_10000, z_1000000, zI_neg, zI_add, zI_sub, zI_mul, zI_lt, zI_le, zI_eq, if_pos, if_neg, if_true, if_false, Option.bind_some, bnd, ldI_is, ldJ_is, Int.toNat_natCast,  Int.not_le]; omega) (ev_neg (by simp (disch := omega) only [z_0, z_1, z_2, z_3, z_4, z_5, z_6, z_7, z_8, z_9, z_10, z_12, z_13, z_16, z_20, z_24, z_30, z_31, z_32, z_38, z_42, z_44, z_45, z_47, z_48, z_49, z_50, z_57, z_58, z_59, z_60, z_61, z_91, z_97, z_98, z_100, z_108, z_114, z_120, z_122, z_126, z_127, z_128, z_200, z_255, z_961, z_990, z_992, z_998, z_999, z_1000, z_1092, z_1114, z_7798, z_10000, z_1000000, zI_neg, zI_add, zI_sub, zI_mul, zI_lt, zI_le, zI_eq, if_pos, if_neg, if_true, if_false, Option.bind_some, bnd, ldI_is, ldJ_is, Int.toNat_natCast,  Int.not_le]; omega) ?_)
      refine ev_eq (c_choose A R Q hN hr hq hW B hi hf) ?_
      show Ev ((rdR F w 1 z 11).bind _) _
      have ech : chs r q W i (frI r q W i) = prtI r q W i := rfl
      rw [ech]
      obtain ⟨A1, A2, A3, A4, A5, A6, A7⟩ := id A
      refine ev_rdR A7 A3 (ev_eq (stI_is (by omega) (by omega) (by omega)) ?_)
      simp only [Int.toNat_natCast]
      have K5 : Kp (fun y => y = z + 2) w (sAI w (z + 2) (upd (aI w (z + 2)) i (zI (prtI r q W i)))) := kp_sAI (S := fun y => y = z + 2) _ _ rfl
      have P5 : ∀ j, j < i + 1 → aI (sAI w (z + 2) (upd (aI w (z + 2)) i (zI (prtI r q W i)))) (z + 2) j = zI (prtI r q W j) := by
        intro j hj
        rw [q_aI_sAI, if_pos rfl, upd_is]
        by_cases c : j = i
        · rw [if_pos c, c]
        · rw [if_neg c]; exact eP j (by omega)
      generalize sAI w (z + 2) (upd (aI w (z + 2)) i (zI (prtI r q W i))) = w5 at K5 P5 ⊢
      have A5' : CAlg F w5 z := A.keep K5 (by omega)
      have R5 : CRow F w5 a r := R.keep K5 fun y y1 y2 => by omega
      have Q5 : CRow F w5 b q := Q.keep K5 fun y y1 y2 => by omega
      have B5 : ∀ i' j, i' ≤ rn r → j ≤ rn q → BTab w5 z r q W i' j := fun i' j g1 g2 => by unfold BTab; rw [K5.aI (by omega)]; exact B i' j g1 g2
      have f2 : gI w5 2 z = zI (sumN (prS r q W) i) := by rw [K5.gI (by omega)]; exact e2
      have f3 : gI w5 3 z = zI (sumN (dsS r q W) i) := by rw [K5.gI (by omega)]; exact e3
      have K5z : Kp (Rg z 3) w w5 := K5.mono fun y hy => by unfold Rg; omega
      unfold fX0_run_100
      have eprt : prtI r q W i = chs r q W i (frI r q W i) := rfl
      by_cases c : 0 ≤ prtI r q W i
      · have p1 : prS r q W i = 1 := by unfold prS; rw [if_pos c]
        have d1 : dsS r q W i = dst r q i (prtI r q W i).toNat := by unfold dsS; rw [if_pos c]
        have fr : frI r q W (i + 1) = (prtI r q W i).toNat + 1 := by unfold frI; rw [← eprt, if_pos c]
        refine ev_neg (by simp (disch := omega) only [z_0, z_1, z_2, z_3, z_4, z_5, z_6, z_7, z_8, z_9, z_10, z_12, z_13, z_16, z_20, z_24, z_30, z_31, z_32, z_38, z_42, z_44, z_45, z_47, z_48, z_49, z_50, z_57, z_58, z_59, z_60, z_61, z_91, z_97, z_98, z_100, z_108, z_114, z_120, z_122, z_126, z_127, z_128, z_200, z_255, z_961, z_990, z_992, z_998, z_999, z_1000, z_1092, z_1114, z_7798, z_10000, z_1000000, zI_neg, zI_add, zI_sub, zI_mul, zI_lt, zI_le, zI_eq, if_pos, if_neg, if_true, if_false, Option.bind_some, bnd, ldI_is, ldJ_is, Int.toNat_natCast,  Int.not_lt]; omega) (ev_bnd ?_)
        rw [f2, show zI (sumN (prS r q W) i) + 1 = zI (sumN (prS r q W) (i + 1)) from by rw [← sumN_succ, p1]; exact zI_add _ 1]
        have K7 : Kp (fun y => y = z) w5 (sI w5 2 z (zI (sumN (prS r q W) (i + 1)))) := kp_sI (S := fun y => y = z) _ _ rfl
        have f37 : gI (sI w5 2 z (zI (sumN (prS r q W) (i + 1)))) 3 z = zI (sumN (dsS r q W) i) := by rw [q_gI_sI, if_neg (by omega)]; exact f3
        have R7 := R5.keep K7 fun y y1 y2 => by omega
        have Q7 := Q5.keep K7 fun y y1 y2 => by omega
        have ep : zI (prtI r q W i) = zI (((prtI r q W i).toNat : Nat) : Int) := by congr 1; omega
        rw [ep, c_distance R7 Q7 hi (by omega)]
        simp only [Option.bind_some]
        refine ev_bnd ?_
        rw [f37, zI_add, show sumN (dsS r q W) i + dst r q i (prtI r q W i).toNat = sumN (dsS r q W) (i + 1) from by rw [← sumN_succ, d1]]
        refine ev_bnd ?_
        rw [zI_succ, zI_succ, ← fr]
        have K9 : Kp (fun y => y = z) w5 (sI (sI w5 2 z (zI (sumN (prS r q W) (i + 1)))) 3 z (zI (sumN (dsS r q W) (i + 1)))) := K7.trans (kp_sI (S := fun y => y = z) _ _ rfl)
        refine ev_mono (ih k (i + 1) _ ?_ (R5.keep K9 fun y y1 y2 => by omega) (Q5.keep K9 fun y y1 y2 => by omega) (fun i' j g1 g2 => ?_) (by omega) (by omega) ?_ ?_ (fun j hj => ?_)) fun x ⟨x1, x2, x3⟩ => ⟨x1, (K5z.trans (K9.mono fun y hy => by unfold Rg; omega)).trans x2, x3⟩
        · exact A5'
        · exact B5 i' j g1 g2
        · rw [q_gI_sI, if_neg (by omega), q_gI_sI, if_pos ⟨rfl, rfl⟩]
        · rw [q_gI_sI, if_pos ⟨rfl, rfl⟩]
        · exact P5 j hj
      · have p1 : prS r q W i = 0 := by unfold prS; rw [if_neg c]
        have d1 : dsS r q W i = 0 := by unfold dsS; rw [if_neg c]
        have fr : frI r q W (i + 1) = frI r q W i := by
          show (if 0 ≤ chs r q W i (frI r q W i) then (chs r q W i (frI r q W i)).toNat + 1 else frI r q W i) = _
          rw [← eprt, if_neg c]
        refine ev_pos (by simp (disch := omega) only [z_0, z_1, z_2, z_3, z_4, z_5, z_6, z_7, z_8, z_9, z_10, z_12, z_13, z_16, z_20, z_24, z_30, z_31, z_32, z_38, z_42, z_44, z_45, z_47, z_48, z_49, z_50, z_57, z_58, z_59, z_60, z_61, z_91, z_97, z_98, z_100, z_108, z_114, z_120, z_122, z_126, z_127, z_128, z_200, z_255, z_961, z_990, z_992, z_998, z_999, z_1000, z_1092, z_1114, z_7798, z_10000, z_1000000, zI_neg, zI_add, zI_sub, zI_mul, zI_lt, zI_le, zI_eq, if_pos, if_neg, if_true, if_false, Option.bind_some, bnd, ldI_is, ldJ_is, Int.toNat_natCast, ]; omega) ?_
        rw [zI_succ, ← fr]
        refine ev_mono (ih k (i + 1) w5 A5' R5 Q5 B5 (by omega) (by omega) ?_ ?_ P5) fun x ⟨x1, x2, x3⟩ => ⟨x1, K5z.trans x2, x3⟩
        · rw [← sumN_succ, p1, Int.add_zero]; exact f2
        · rw [← sumN_succ, d1, Int.add_zero]; exact f3
theorem c_alrun (A : CAlg F w z) (R : CRow F w a r) (Q : CRow F w b q) (hN : 200 ≤ N) (hr : rn r ≤ 30) (hq : rn q ≤ 30) (hW : 0 ≤ W ∧ W ≤ 200) (da : a + 4 ≤ z ∨ z + 3 ≤ a) (db : b + 4 ≤ z ∨ z + 3 ≤ b) :
    Ev (fX0_run F N w z a b (zI W)) fun w' => CAlg F w' z ∧ Kp (Rg z 3) w w' ∧ gI w' 2 z = zI (sumN (prS r q W) (rn r)) ∧ gI w' 3 z = zI (sumN (dsS r q W) (rn r)) ∧ ∀ j, j < rn r → aI w' (z + 2) j = zI (prtI r q W j) := by
  unfold fX0_run
  refine ev_then (c_fillBest A R Q hN hr hq hW da db) fun w1 ⟨A1, k1, B1⟩ => ?_
  have K3 : Kp (fun y => y = z) w1 (sI (sI w1 2 z 0) 3 z 0) := (kp_sI (S := fun y => y = z) _ _ rfl).trans (kp_sI (S := fun y => y = z) _ _ rfl)
  refine ev_bnd (ev_bnd ?_)
  have R1 := R.keep k1 fun y y1 y2 => by unfold Rg; omega
  have Q1 := Q.keep k1 fun y y1 y2 => by unfold Rg; omega
  rw [show (0 : Int32) = zI ((0 : Nat) : Int) from rfl] at K3 ⊢
  refine ev_mono (c_alrun_23 (N := N) hN hr hq hW da db N (rn r) 0 _ ?_ (R1.keep K3 fun y y1 y2 => by omega) (Q1.keep K3 fun y y1 y2 => by omega) (fun i' j g1 g2 => ?_) (by omega) (by omega) ?_ ?_ (fun j hj => by omega)) fun x ⟨x1, x2, x3⟩ => ⟨x1, ((k1.mono fun y hy => by unfold Rg at hy ⊢; omega).trans (K3.mono fun y hy => by unfold Rg; omega)).trans x2, x3⟩
  · exact A1
  · exact B1 i' j g1 g2
  · rw [q_gI_sI, if_neg (by omega), q_gI_sI, if_pos ⟨rfl, rfl⟩]; rfl
  · rw [q_gI_sI, if_pos ⟨rfl, rfl⟩]; rfl
end ALG
