/-! the class's merger -/
abbrev Mg : Type := Rw × (Nat → Nat) × Nat × Nat
def mgr (M : Mg) : Rw := M.1
def mgs (M : Mg) : Nat → Nat := M.2.1
def mgc (M : Mg) : Nat := M.2.2.1
def mgd (M : Mg) : Nat := M.2.2.2
def pshR (r : Rw) (s : Int × Int × List Nat) : Rw := (rn r + 1, (fun k => if k = rn r then s.1 else rf r k), (fun k => if k = rn r then s.2.1 else re r k), fun k => if k = rn r then s.2.2 else rl r k)
def mpsh (M : Mg) (s : Int × Int × List Nat) (x c : Nat) : Mg := (pshR (mgr M) s, (fun k => if k = rn (mgr M) then x else mgs M k), mgc M + c, mgd M)
def mput (M : Mg) (s : Int × Int × List Nat) (x : Nat) : Mg :=
  if 0 < rn (mgr M) ∧ s.1 < re (mgr M) (rn (mgr M) - 1) then
    (if rl (mgr M) (rn (mgr M) - 1) = s.2.2 then (setR (mgr M) (rn (mgr M) - 1) (rf (mgr M) (rn (mgr M) - 1)) (max (re (mgr M) (rn (mgr M) - 1)) s.2.1), (fun k => if k = rn (mgr M) - 1 then mgs M (rn (mgr M) - 1) ||| x else mgs M k), mgc M, mgd M)
    else if re (mgr M) (rn (mgr M) - 1) < s.2.1 then mpsh M (re (mgr M) (rn (mgr M) - 1), s.2.1, s.2.2) x 1 else (mgr M, mgs M, mgc M + 1, mgd M + 1))
  else mpsh M s x 0
def isB (r q : Rw) (i j : Nat) : Bool := if rn r ≤ i ∨ rn q ≤ j then decide (i < rn r) else if rf r i = rf q j then decide (re r i ≤ re q j) else decide (rf r i < rf q j)
def mrg (r q : Rw) : Nat → Nat → Nat → Mg → Mg
  | 0, _, _, M => M
  | k + 1, i, j, M => if isB r q i j = true then mrg r q k (i + 1) j (mput M (rs r i) 1) else mrg r q k i (j + 1) (mput M (rs q j) 2)
def mg0 : Mg := ((0, (fun _ => 0), (fun _ => 0), fun _ => []), (fun _ => 0), 0, 0)
def mrgA (r q : Rw) : Mg := mrg r q (rn r + rn q) 0 0 mg0
def GMg (M : Mg) (c : Nat) : Prop := rn (mgr M) ≤ c ∧ mgc M ≤ c ∧ mgd M ≤ c ∧ ∀ i, i < rn (mgr M) → (0 ≤ rf (mgr M) i ∧ rf (mgr M) i ≤ 1000) ∧ (0 ≤ re (mgr M) i ∧ re (mgr M) i ≤ 1000) ∧ VL (rl (mgr M) i) ∧ (1 ≤ mgs M i ∧ mgs M i ≤ 3)
theorem or3 {x y : Nat} (hx : x ≤ 3) (hy : y ≤ 3) : x ||| y ≤ 3 := by
  have h : ∀ a : Fin 4, ∀ b : Fin 4, a.1 ||| b.1 ≤ 3 := by decide
  exact h ⟨x, by omega⟩ ⟨y, by omega⟩
theorem or1 {x y : Nat} (hx : 1 ≤ x ∧ x ≤ 3) (hy : y ≤ 3) : 1 ≤ x ||| y := by
  have h : ∀ a : Fin 4, ∀ b : Fin 4, 1 ≤ a.1 → 1 ≤ a.1 ||| b.1 := by decide
  exact h ⟨x, by omega⟩ ⟨y, by omega⟩ hx.1
theorem zI_or (x y : Nat) : zI (x : Int) ||| zI (y : Int) = zI ((x ||| y : Nat) : Int) := by
  apply Int32.toBitVec_inj.mp
  rw [Int32.toBitVec_or, zI_bv, zI_bv, zI_bv, BitVec.ofNat_or]
theorem GMg.psh {M : Mg} {c : Nat} (G : GMg M c) {s : Int × Int × List Nat} {x d : Nat} (h1 : 0 ≤ s.1 ∧ s.1 ≤ 1000) (h2 : 0 ≤ s.2.1 ∧ s.2.1 ≤ 1000) (h3 : VL s.2.2) (hx : 1 ≤ x ∧ x ≤ 3) (hd : d ≤ 1) : GMg (mpsh M s x d) (c + 1) := by
  obtain ⟨g1, g2, g3, g4⟩ := G
  refine ⟨by show rn (mgr M) + 1 ≤ c + 1; omega, by show mgc M + d ≤ c + 1; omega, by show mgd M ≤ c + 1; omega, fun i hi => ?_⟩
  have hi : i < rn (mgr M) + 1 := hi
  show (0 ≤ (if i = rn (mgr M) then s.1 else rf (mgr M) i) ∧ (if i = rn (mgr M) then s.1 else rf (mgr M) i) ≤ 1000) ∧ (0 ≤ (if i = rn (mgr M) then s.2.1 else re (mgr M) i) ∧ (if i = rn (mgr M) then s.2.1 else re (mgr M) i) ≤ 1000) ∧ VL (if i = rn (mgr M) then s.2.2 else rl (mgr M) i) ∧ (1 ≤ (if i = rn (mgr M) then x else mgs M i) ∧ (if i = rn (mgr M) then x else mgs M i) ≤ 3)
  by_cases e : i = rn (mgr M)
  · simp only [if_pos e]; exact ⟨h1, h2, h3, hx⟩
  · simp only [if_neg e]; exact g4 i (by omega)
theorem GMg.put {M : Mg} {c : Nat} (G : GMg M c) {s : Int × Int × List Nat} {x : Nat} (h1 : 0 ≤ s.1 ∧ s.1 ≤ 1000) (h2 : 0 ≤ s.2.1 ∧ s.2.1 ≤ 1000) (h3 : VL s.2.2) (hx : 1 ≤ x ∧ x ≤ 3) : GMg (mput M s x) (c + 1) := by
  unfold mput
  by_cases a : 0 < rn (mgr M) ∧ s.1 < re (mgr M) (rn (mgr M) - 1)
  · rw [if_pos a]
    have g := G.2.2.2 (rn (mgr M) - 1) (by omega)
    by_cases b : rl (mgr M) (rn (mgr M) - 1) = s.2.2
    · rw [if_pos b]
      obtain ⟨g1, g2, g3, g4⟩ := G
      refine ⟨by show rn (mgr M) ≤ c + 1; omega, by show mgc M ≤ c + 1; omega, by show mgd M ≤ c + 1; omega, fun i hi => ?_⟩
      have hi : i < rn (mgr M) := hi
      have gi := g4 i hi
      show (0 ≤ (if i = rn (mgr M) - 1 then rf (mgr M) (rn (mgr M) - 1) else rf (mgr M) i) ∧ (if i = rn (mgr M) - 1 then rf (mgr M) (rn (mgr M) - 1) else rf (mgr M) i) ≤ 1000) ∧ (0 ≤ (if i = rn (mgr M) - 1 then max (re (mgr M) (rn (mgr M) - 1)) s.2.1 else re (mgr M) i) ∧ (if i = rn (mgr M) - 1 then max (re (mgr M) (rn (mgr M) - 1)) s.2.1 else re (mgr M) i) ≤ 1000) ∧ VL (rl (mgr M) i) ∧ (1 ≤ (if i = rn (mgr M) - 1 then mgs M (rn (mgr M) - 1) ||| x else mgs M i) ∧ (if i = rn (mgr M) - 1 then mgs M (rn (mgr M) - 1) ||| x else mgs M i) ≤ 3)
      by_cases e : i = rn (mgr M) - 1
      · simp only [if_pos e]
        exact ⟨g.1, ⟨by omega, by omega⟩, gi.2.2.1, ⟨or1 g.2.2.2 hx.2, or3 g.2.2.2.2 hx.2⟩⟩
      · simp only [if_neg e]; exact gi
    · rw [if_neg b]
      by_cases d : re (mgr M) (rn (mgr M) - 1) < s.2.1
      · rw [if_pos d]; exact G.psh g.2.1 h2 h3 hx (Nat.le_refl _)
      · rw [if_neg d]
        obtain ⟨g1, g2, g3, g4⟩ := G
        exact ⟨by show rn (mgr M) ≤ c + 1; omega, by show mgc M + 1 ≤ c + 1; omega, by show mgd M + 1 ≤ c + 1; omega, g4⟩
  · rw [if_neg a]; exact G.psh h1 h2 h3 hx (Nat.zero_le _)
def CMrg (F : Fr) (w : Wd) (z : Nat) : Prop := okF F z 4 ∧ (okF F (z + 1) 11 ∧ okF F (z + 2) 11 ∧ okF F (z + 3) 11 ∧ okF F (z + 4) 12) ∧ (F.2.1 (z + 1) = 60 ∧ F.2.1 (z + 2) = 60 ∧ F.2.1 (z + 3) = 60 ∧ F.2.1 (z + 4) = 60) ∧ gR w 400 z = some (z + 1) ∧ gR w 401 z = some (z + 2) ∧ gR w 402 z = some (z + 3) ∧ gR w 403 z = some (z + 4)
def DMrg (w : Wd) (z : Nat) (M : Mg) : Prop := gI w 404 z = zI (rn (mgr M) : Nat) ∧ gI w 405 z = zI (mgc M : Nat) ∧ gI w 406 z = zI (mgd M : Nat) ∧ ∀ i, i < rn (mgr M) → aI w (z + 1) i = zI (rf (mgr M) i) ∧ aI w (z + 2) i = zI (re (mgr M) i) ∧ aI w (z + 3) i = zI (mgs M i : Nat) ∧ aJ w (z + 4) i = cL (rl (mgr M) i)
theorem CMrg.keep {F : Fr} {S : Nat → Prop} {w w' : Wd} {z : Nat} (h : CMrg F w z) (k : Kp S w w') (hs : ¬ S z) : CMrg F w' z := by
  obtain ⟨h1, h2, h3, h4, h5, h6, h7⟩ := h
  exact ⟨h1, h2, h3, by rw [k.gR hs]; exact h4, by rw [k.gR hs]; exact h5, by rw [k.gR hs]; exact h6, by rw [k.gR hs]; exact h7⟩
section MRG
variable {F : Fr} {N : Nat} {w : Wd} {z a b : Nat} {r q : Rw} {M : Mg} {c : Nat}
theorem c_has (D : DMrg w z M) (G : GMg M c) (hc : c ≤ 60) {i : Int} (hi : -2147483648 ≤ i ∧ i < 2147483648) : fX4_has F N w z (zI i) = some (if 0 ≤ i ∧ i < rn (mgr M) then 1 else 0) := by
  have g := G.1
  unfold fX4_has
  rw [D.1]
  by_cases c1 : i < 0
  · rw [if_pos (by simp (disch := omega) only [z_0, z_1, z_2, z_3, z_4, z_5, z_6, z_7, z_8, z_9, z_10, z_12, z_13, z_16, z_20, z_24, z_30, z_31, z_32, z_38, z_42, z_44, z_45, z_47, z_48, z_49, z_50, z_57, z_58, z_59, z_60, z_61, z_91, z_97, z_98, z_100, z_108, z_114, z_120, z_122, z_126, z_127, z_128, z_200, z_255, z_961, z_990, z_992, z_998, z_999, z_1000, z_1092, z_1114, z_7798, z_10000, z_1000000, zI_neg, zI_add, zI_sub, zI_mul, zI_lt, zI_le, zI_eq, if_pos, if_neg, if_true, if_false, Option.bind_some, bnd, ldI_is, ldJ_is, Int.toNat_natCast, ]; exact c1), if_neg (by omega)]
  · rw [if_neg (by simp (disch := omega) only [z_0, z_1, z_2, z_3, z_4, z_5, z_6, z_7, z_8, z_9, z_10, z_12, z_13, z_16, z_20, z_24, z_30, z_31, z_32, z_38, z_42, z_44, z_45, z_47, z_48, z_49, z_50, z_57, z_58, z_59, z_60, z_61, z_91, z_97, z_98, z_100, z_108, z_114, z_120, z_122, z_126, z_127, z_128, z_200, z_255, z_961, z_990, z_992, z_998, z_999, z_1000, z_1092, z_1114, z_7798, z_10000, z_1000000, zI_neg, zI_add, zI_sub, zI_mul, zI_lt, zI_le, zI_eq, if_pos, if_neg, if_true, if_false, Option.bind_some, bnd, ldI_is, ldJ_is, Int.toNat_natCast,  Int.not_lt]; omega)]
    by_cases c2 : (rn (mgr M) : Int) ≤ i
    · rw [if_pos (by simp (disch := omega) only [z_0, z_1, z_2, z_3, z_4, z_5, z_6, z_7, z_8, z_9, z_10, z_12, z_13, z_16, z_20, z_24, z_30, z_31, z_32, z_38, z_42, z_44, z_45, z_47, z_48, z_49, z_50, z_57, z_58, z_59, z_60, z_61, z_91, z_97, z_98, z_100, z_108, z_114, z_120, z_122, z_126, z_127, z_128, z_200, z_255, z_961, z_990, z_992, z_998, z_999, z_1000, z_1092, z_1114, z_7798, z_10000, z_1000000, zI_neg, zI_add, zI_sub, zI_mul, zI_lt, zI_le, zI_eq, if_pos, if_neg, if_true, if_false, Option.bind_some, bnd, ldI_is, ldJ_is, Int.toNat_natCast, ]; exact c2), if_neg (by omega)]
    · rw [if_neg (by simp (disch := omega) only [z_0, z_1, z_2, z_3, z_4, z_5, z_6, z_7, z_8, z_9, z_10, z_12, z_13, z_16, z_20, z_24, z_30, z_31, z_32, z_38, z_42, z_44, z_45, z_47, z_48, z_49, z_50, z_57, z_58, z_59, z_60, z_61, z_91, z_97, z_98, z_100, z_108, z_114, z_120, z_122, z_126, z_127, z_128, z_200, z_255, z_961, z_990, z_992, z_998, z_999, z_1000, z_1092, z_1114, z_7798, z_10000, z_1000000, zI_neg, zI_add, zI_sub, zI_mul, zI_lt, zI_le, zI_eq, if_pos, if_neg, if_true, if_false, Option.bind_some, bnd, ldI_is, ldJ_is, Int.toNat_natCast,  Int.not_le]; omega), if_neg (by simp (disch := omega) only [z_0, z_1, z_2, z_3, z_4, z_5, z_6, z_7, z_8, z_9, z_10, z_12, z_13, z_16, z_20, z_24, z_30, z_31, z_32, z_38, z_42, z_44, z_45, z_47, z_48, z_49, z_50, z_57, z_58, z_59, z_60, z_61, z_91, z_97, z_98, z_100, z_108, z_114, z_120, z_122, z_126, z_127, z_128, z_200, z_255, z_961, z_990, z_992, z_998, z_999, z_1000, z_1092, z_1114, z_7798, z_10000, z_1000000, zI_neg, zI_add, zI_sub, zI_mul, zI_lt, zI_le, zI_eq, if_pos, if_neg, if_true, if_false, Option.bind_some, bnd, ldI_is, ldJ_is, Int.toNat_natCast,  Int.not_le]; omega), if_pos (by omega)]
theorem c_hasN (D : DMrg w z M) (G : GMg M c) (hc : c ≤ 60) {i : Nat} (hi : i < rn (mgr M)) : fX4_has F N w z (zI i) = some 1 := by
  have g := G.1
  rw [c_has D G hc (by omega), if_pos (by omega)]
theorem c_mfirst (A : CMrg F w z) (D : DMrg w z M) (G : GMg M c) (hc : c ≤ 60) {i : Nat} (hi : i < rn (mgr M)) : fX4_first F N w z (zI i) = some (zI (rf (mgr M) i)) := by
  have g := G.1
  obtain ⟨h1, ⟨o1, o2, o3, o4⟩, ⟨n1, n2, n3, n4⟩, h4, h5, h6, h7⟩ := A
  unfold fX4_first
  rw [c_hasN D G hc hi, rdR_is h4 o1]
  simp only [Option.bind_some]
  rw [if_neg (by decide), ldI_is (by omega) (by omega) (by omega)]
  simp only [Option.bind_some, Int.toNat_natCast, (D.2.2.2 i hi).1]
theorem c_mend (A : CMrg F w z) (D : DMrg w z M) (G : GMg M c) (hc : c ≤ 60) {i : Nat} (hi : i < rn (mgr M)) : fX4_end F N w z (zI i) = some (zI (re (mgr M) i)) := by
  have g := G.1
  obtain ⟨h1, ⟨o1, o2, o3, o4⟩, ⟨n1, n2, n3, n4⟩, h4, h5, h6, h7⟩ := A
  unfold fX4_end
  rw [c_hasN D G hc hi, rdR_is h5 o2]
  simp only [Option.bind_some]
  rw [if_neg (by decide), ldI_is (by omega) (by omega) (by omega)]
  simp only [Option.bind_some, Int.toNat_natCast, (D.2.2.2 i hi).2.1]
theorem c_msource (A : CMrg F w z) (D : DMrg w z M) (G : GMg M c) (hc : c ≤ 60) {i : Nat} (hi : i < rn (mgr M)) : fX4_source F N w z (zI i) = some (zI (mgs M i : Nat)) := by
  have g := G.1
  obtain ⟨h1, ⟨o1, o2, o3, o4⟩, ⟨n1, n2, n3, n4⟩, h4, h5, h6, h7⟩ := A
  unfold fX4_source
  rw [c_hasN D G hc hi, rdR_is h6 o3]
  simp only [Option.bind_some]
  rw [if_neg (by decide), ldI_is (by omega) (by omega) (by omega)]
  simp only [Option.bind_some, Int.toNat_natCast, (D.2.2.2 i hi).2.2.1]
theorem c_mlabel (A : CMrg F w z) (D : DMrg w z M) (G : GMg M c) (hc : c ≤ 60) {i : Nat} (hi : i < rn (mgr M)) : fX4_label F N w z (zI i) = some (cL (rl (mgr M) i)) := by
  have g := G.1
  obtain ⟨h1, ⟨o1, o2, o3, o4⟩, ⟨n1, n2, n3, n4⟩, h4, h5, h6, h7⟩ := A
  unfold fX4_label
  rw [c_hasN D G hc hi, rdR_is h7 o4]
  simp only [Option.bind_some]
  rw [if_neg (by decide), ldJ_is (by omega) (by omega) (by omega)]
  simp only [Option.bind_some, Int.toNat_natCast, (D.2.2.2 i hi).2.2.2]
theorem c_isBefore (R : CRow F w a r) (Q : CRow F w b q) {i j : Nat} (hi : i ≤ 40) (hj : j ≤ 40) : fX4_isBefore F N w a (zI i) b (zI j) = some (if isB r q i j = true then 1 else 0) := by
  have hr := R.lim
  have hq := Q.lim
  unfold fX4_isBefore fX4_isBefore_16 isB
  rw [c_many R, c_many Q]
  by_cases c1 : rn r ≤ i
  · rw [if_pos (by simp (disch := omega) only [z_0, z_1, z_2, z_3, z_4, z_5, z_6, z_7, z_8, z_9, z_10, z_12, z_13, z_16, z_20, z_24, z_30, z_31, z_32, z_38, z_42, z_44, z_45, z_47, z_48, z_49, z_50, z_57, z_58, z_59, z_60, z_61, z_91, z_97, z_98, z_100, z_108, z_114, z_120, z_122, z_126, z_127, z_128, z_200, z_255, z_961, z_990, z_992, z_998, z_999, z_1000, z_1092, z_1114, z_7798, z_10000, z_1000000, zI_neg, zI_add, zI_sub, zI_mul, zI_lt, zI_le, zI_eq, if_pos, if_neg, if_true, if_false, Option.bind_some, bnd, ldI_is, ldJ_is, Int.toNat_natCast, ]; omega), if_pos (Or.inl c1), if_pos (by simp (disch := omega) only [z_0, z_1, z_2, z_3, z_4, z_5, z_6, z_7, z_8, z_9, z_10, z_12, z_13, z_16, z_20, z_24, z_30, z_31, z_32, z_38, z_42, z_44, z_45, z_47, z_48, z_49, z_50, z_57, z_58, z_59, z_60, z_61, z_91, z_97, z_98, z_100, z_108, z_114, z_120, z_122, z_126, z_127, z_128, z_200, z_255, z_961, z_990, z_992, z_998, z_999, z_1000, z_1092, z_1114, z_7798, z_10000, z_1000000, zI_neg, zI_add, zI_sub, zI_mul, zI_lt, zI_le, zI_eq, if_pos, if_neg, if_true, if_false, Option.bind_some, bnd, ldI_is, ldJ_is, Int.toNat_natCast, ]; omega), if_neg (by rw [decide_eq_true_eq]; omega)]
  · rw [if_neg (by simp (disch := omega) only [z_0, z_1, z_2, z_3, z_4, z_5, z_6, z_7, z_8, z_9, z_10, z_12, z_13, z_16, z_20, z_24, z_30, z_31, z_32, z_38, z_42, z_44, z_45, z_47, z_48, z_49, z_50, z_57, z_58, z_59, z_60, z_61, z_91, z_97, z_98, z_100, z_108, z_114, z_120, z_122, z_126, z_127, z_128, z_200, z_255, z_961, z_990, z_992, z_998, z_999, z_1000, z_1092, z_1114, z_7798, z_10000, z_1000000, zI_neg, zI_add, zI_sub, zI_mul, zI_lt, zI_le, zI_eq, if_pos, if_neg, if_true, if_false, Option.bind_some, bnd, ldI_is, ldJ_is, Int.toNat_natCast,  Int.not_le]; omega)]
    by_cases c2 : rn q ≤ j
    · rw [if_neg (by simp (disch := omega) only [z_0, z_1, z_2, z_3, z_4, z_5, z_6, z_7, z_8, z_9, z_10, z_12, z_13, z_16, z_20, z_24, z_30, z_31, z_32, z_38, z_42, z_44, z_45, z_47, z_48, z_49, z_50, z_57, z_58, z_59, z_60, z_61, z_91, z_97, z_98, z_100, z_108, z_114, z_120, z_122, z_126, z_127, z_128, z_200, z_255, z_961, z_990, z_992, z_998, z_999, z_1000, z_1092, z_1114, z_7798, z_10000, z_1000000, zI_neg, zI_add, zI_sub, zI_mul, zI_lt, zI_le, zI_eq, if_pos, if_neg, if_true, if_false, Option.bind_some, bnd, ldI_is, ldJ_is, Int.toNat_natCast,  Int.not_lt]; omega), if_pos (Or.inr c2), if_neg (by simp (disch := omega) only [z_0, z_1, z_2, z_3, z_4, z_5, z_6, z_7, z_8, z_9, z_10, z_12, z_13, z_16, z_20, z_24, z_30, z_31, z_32, z_38, z_42, z_44, z_45, z_47, z_48, z_49, z_50, z_57, z_58, z_59, z_60, z_61, z_91, z_97, z_98, z_100, z_108, z_114, z_120, z_122, z_126, z_127, z_128, z_200, z_255, z_961, z_990, z_992, z_998, z_999, z_1000, z_1092, z_1114, z_7798, z_10000, z_1000000, zI_neg, zI_add, zI_sub, zI_mul, zI_lt, zI_le, zI_eq, if_pos, if_neg, if_true, if_false, Option.bind_some, bnd, ldI_is, ldJ_is, Int.toNat_natCast,  Int.not_le]; omega), if_pos (by rw [decide_eq_true_eq]; omega)]
    · have b1 := R.at (i := i) (by omega)
      have b2 := Q.at (i := j) (by omega)
      rw [if_pos (by simp (disch := omega) only [z_0, z_1, z_2, z_3, z_4, z_5, z_6, z_7, z_8, z_9, z_10, z_12, z_13, z_16, z_20, z_24, z_30, z_31, z_32, z_38, z_42, z_44, z_45, z_47, z_48, z_49, z_50, z_57, z_58, z_59, z_60, z_61, z_91, z_97, z_98, z_100, z_108, z_114, z_120, z_122, z_126, z_127, z_128, z_200, z_255, z_961, z_990, z_992, z_998, z_999, z_1000, z_1092, z_1114, z_7798, z_10000, z_1000000, zI_neg, zI_add, zI_sub, zI_mul, zI_lt, zI_le, zI_eq, if_pos, if_neg, if_true, if_false, Option.bind_some, bnd, ldI_is, ldJ_is, Int.toNat_natCast, ]; omega), if_neg (c := rn r ≤ i ∨ rn q ≤ j) (by omega), c_first R (by omega), c_first Q (by omega), c_end R (by omega), c_end Q (by omega)]
      simp only [Option.bind_some]
      by_cases d1 : rf r i = rf q j
      · rw [if_pos (by rw [d1]), if_pos d1]
        by_cases d2 : re r i ≤ re q j
        · rw [if_neg (by simp (disch := omega) only [z_0, z_1, z_2, z_3, z_4, z_5, z_6, z_7, z_8, z_9, z_10, z_12, z_13, z_16, z_20, z_24, z_30, z_31, z_32, z_38, z_42, z_44, z_45, z_47, z_48, z_49, z_50, z_57, z_58, z_59, z_60, z_61, z_91, z_97, z_98, z_100, z_108, z_114, z_120, z_122, z_126, z_127, z_128, z_200, z_255, z_961, z_990, z_992, z_998, z_999, z_1000, z_1092, z_1114, z_7798, z_10000, z_1000000, zI_neg, zI_add, zI_sub, zI_mul, zI_lt, zI_le, zI_eq, if_pos, if_neg, if_true, if_false, Option.bind_some, bnd, ldI_is, ldJ_is, Int.toNat_natCast,  Int.not_lt]; omega), if_pos (by rw [decide_eq_true_eq]; exact d2)]
        · rw [if_pos (by simp (disch := omega) only [z_0, z_1, z_2, z_3, z_4, z_5, z_6, z_7, z_8, z_9, z_10, z_12, z_13, z_16, z_20, z_24, z_30, z_31, z_32, z_38, z_42, z_44, z_45, z_47, z_48, z_49, z_50, z_57, z_58, z_59, z_60, z_61, z_91, z_97, z_98, z_100, z_108, z_114, z_120, z_122, z_126, z_127, z_128, z_200, z_255, z_961, z_990, z_992, z_998, z_999, z_1000, z_1092, z_1114, z_7798, z_10000, z_1000000, zI_neg, zI_add, zI_sub, zI_mul, zI_lt, zI_le, zI_eq, if_pos, if_neg, if_true, if_false, Option.bind_some, bnd, ldI_is, ldJ_is, Int.toNat_natCast, ]; omega), if_neg (by rw [decide_eq_true_eq]; exact d2)]
      · rw [if_neg (by simp (disch := omega) only [z_0, z_1, z_2, z_3, z_4, z_5, z_6, z_7, z_8, z_9, z_10, z_12, z_13, z_16, z_20, z_24, z_30, z_31, z_32, z_38, z_42, z_44, z_45, z_47, z_48, z_49, z_50, z_57, z_58, z_59, z_60, z_61, z_91, z_97, z_98, z_100, z_108, z_114, z_120, z_122, z_126, z_127, z_128, z_200, z_255, z_961, z_990, z_992, z_998, z_999, z_1000, z_1092, z_1114, z_7798, z_10000, z_1000000, zI_neg, zI_add, zI_sub, zI_mul, zI_lt, zI_le, zI_eq, if_pos, if_neg, if_true, if_false, Option.bind_some, bnd, ldI_is, ldJ_is, Int.toNat_natCast,  d1, not_false_eq_true]), if_neg d1]
        by_cases d2 : rf r i < rf q j
        · rw [if_neg (by simp (disch := omega) only [z_0, z_1, z_2, z_3, z_4, z_5, z_6, z_7, z_8, z_9, z_10, z_12, z_13, z_16, z_20, z_24, z_30, z_31, z_32, z_38, z_42, z_44, z_45, z_47, z_48, z_49, z_50, z_57, z_58, z_59, z_60, z_61, z_91, z_97, z_98, z_100, z_108, z_114, z_120, z_122, z_126, z_127, z_128, z_200, z_255, z_961, z_990, z_992, z_998, z_999, z_1000, z_1092, z_1114, z_7798, z_10000, z_1000000, zI_neg, zI_add, zI_sub, zI_mul, zI_lt, zI_le, zI_eq, if_pos, if_neg, if_true, if_false, Option.bind_some, bnd, ldI_is, ldJ_is, Int.toNat_natCast,  Int.not_le]; omega), if_pos (by rw [decide_eq_true_eq]; exact d2)]
        · rw [if_pos (by simp (disch := omega) only [z_0, z_1, z_2, z_3, z_4, z_5, z_6, z_7, z_8, z_9, z_10, z_12, z_13, z_16, z_20, z_24, z_30, z_31, z_32, z_38, z_42, z_44, z_45, z_47, z_48, z_49, z_50, z_57, z_58, z_59, z_60, z_61, z_91, z_97, z_98, z_100, z_108, z_114, z_120, z_122, z_126, z_127, z_128, z_200, z_255, z_961, z_990, z_992, z_998, z_999, z_1000, z_1092, z_1114, z_7798, z_10000, z_1000000, zI_neg, zI_add, zI_sub, zI_mul, zI_lt, zI_le, zI_eq, if_pos, if_neg, if_true, if_false, Option.bind_some, bnd, ldI_is, ldJ_is, Int.toNat_natCast, ]; omega), if_neg (by rw [decide_eq_true_eq]; exact d2)]
theorem c_mpsh (A : CMrg F w z) (D : DMrg w z M) (hn9 : rn (mgr M) < 60) (R : CRow F w a r) (da : a + 4 ≤ z ∨ z + 5 ≤ a) {i x d : Nat} (hi : i < rn r) (hx : x ≤ 3) {f : Int} (hf : 0 ≤ f ∧ f ≤ 1000) (hfe : f < re r i) (hd : gI w 405 z = zI ((mgc M + d : Nat) : Int)) :
    Ev (fX4_put_133 F N w z a (zI i) (zI x) (zI f)) fun w' => DMrg w' z (mpsh M (f, re r i, rl r i) x d) ∧ CMrg F w' z ∧ Kp (Rg z 5) w w' := by
  have A' := A
  obtain ⟨h1, ⟨o1, o2, o3, o4⟩, ⟨n1, n2, n3, n4⟩, h4, h5, h6, h7⟩ := A
  obtain ⟨d1, d2, d3, d4⟩ := D
  have bi := R.at hi
  unfold fX4_put_133
  rw [c_end R hi, d1]
  simp only [Option.bind_some]
  refine ev_pos (by simp (disch := omega) only [z_0, z_1, z_2, z_3, z_4, z_5, z_6, z_7, z_8, z_9, z_10, z_12, z_13, z_16, z_20, z_24, z_30, z_31, z_32, z_38, z_42, z_44, z_45, z_47, z_48, z_49, z_50, z_57, z_58, z_59, z_60, z_61, z_91, z_97, z_98, z_100, z_108, z_114, z_120, z_122, z_126, z_127, z_128, z_200, z_255, z_961, z_990, z_992, z_998, z_999, z_1000, z_1092, z_1114, z_7798, z_10000, z_1000000, zI_neg, zI_add, zI_sub, zI_mul, zI_lt, zI_le, zI_eq, if_pos, if_neg, if_true, if_false, Option.bind_some, bnd, ldI_is, ldJ_is, Int.toNat_natCast, ]; omega) (ev_neg (by simp (disch := omega) only [z_0, z_1, z_2, z_3, z_4, z_5, z_6, z_7, z_8, z_9, z_10, z_12, z_13, z_16, z_20, z_24, z_30, z_31, z_32, z_38, z_42, z_44, z_45, z_47, z_48, z_49, z_50, z_57, z_58, z_59, z_60, z_61, z_91, z_97, z_98, z_100, z_108, z_114, z_120, z_122, z_126, z_127, z_128, z_200, z_255, z_961, z_990, z_992, z_998, z_999, z_1000, z_1092, z_1114, z_7798, z_10000, z_1000000, zI_neg, zI_add, zI_sub, zI_mul, zI_lt, zI_le, zI_eq, if_pos, if_neg, if_true, if_false, Option.bind_some, bnd, ldI_is, ldJ_is, Int.toNat_natCast,  Int.not_lt]; omega) (ev_neg (by simp (disch := omega) only [z_0, z_1, z_2, z_3, z_4, z_5, z_6, z_7, z_8, z_9, z_10, z_12, z_13, z_16, z_20, z_24, z_30, z_31, z_32, z_38, z_42, z_44, z_45, z_47, z_48, z_49, z_50, z_57, z_58, z_59, z_60, z_61, z_91, z_97, z_98, z_100, z_108, z_114, z_120, z_122, z_126, z_127, z_128, z_200, z_255, z_961, z_990, z_992, z_998, z_999, z_1000, z_1092, z_1114, z_7798, z_10000, z_1000000, zI_neg, zI_add, zI_sub, zI_mul, zI_lt, zI_le, zI_eq, if_pos, if_neg, if_true, if_false, Option.bind_some, bnd, ldI_is, ldJ_is, Int.toNat_natCast,  Int.not_le]; omega) ?_))
  refine ev_rdR h4 o1 (ev_eq (stI_is (by omega) (by omega) (by omega)) ?_)
  simp only [Int.toNat_natCast]
  generalize hw1 : sAI w (z + 1) (upd (aI w (z + 1)) (rn (mgr M)) (zI f)) = w1
  have k1 : Kp (fun y => y = z + 1) w w1 := hw1 ▸ kp_sAI (S := fun y => y = z + 1) _ _ rfl
  have R1 := R.keep k1 fun y y1 y2 => by omega
  have A1 := A'.keep k1 (by omega)
  refine ev_rdR A1.2.2.2.2.1 o2 ?_
  rw [c_end R1 hi, k1.gI (by omega), d1]
  simp only [Option.bind_some]
  refine ev_eq (stI_is (by omega) (by omega) (by omega)) ?_
  simp only [Int.toNat_natCast]
  generalize hw2 : sAI w1 (z + 2) (upd (aI w1 (z + 2)) (rn (mgr M)) (zI (re r i))) = w2
  have k2 : Kp (fun y => y = z + 2) w1 w2 := hw2 ▸ kp_sAI (S := fun y => y = z + 2) _ _ rfl
  have R2 := R1.keep k2 fun y y1 y2 => by omega
  have A2 := A1.keep k2 (by omega)
  refine ev_rdR A2.2.2.2.2.2.1 o3 ?_
  rw [k2.gI (by omega), k1.gI (by omega), d1]
  refine ev_eq (stI_is (by omega) (by omega) (by omega)) ?_
  simp only [Int.toNat_natCast]
  generalize hw3 : sAI w2 (z + 3) (upd (aI w2 (z + 3)) (rn (mgr M)) (zI (x : Int))) = w3
  have k3 : Kp (fun y => y = z + 3) w2 w3 := hw3 ▸ kp_sAI (S := fun y => y = z + 3) _ _ rfl
  have R3 := R2.keep k3 fun y y1 y2 => by omega
  have A3 := A2.keep k3 (by omega)
  refine ev_rdR A3.2.2.2.2.2.2 o4 ?_
  rw [c_label R3 hi, k3.gI (by omega), k2.gI (by omega), k1.gI (by omega), d1]
  simp only [Option.bind_some]
  refine ev_eq (stJ_is (by omega) (by omega) (by omega)) ?_
  simp only [Int.toNat_natCast]
  generalize hw4 : sAJ w3 (z + 4) (vp_updL (aJ w3 (z + 4)) (rn (mgr M)) (cL (rl r i))) = w4
  have k4 : Kp (fun y => y = z + 4) w3 w4 := hw4 ▸ kp_sAJ (S := fun y => y = z + 4) _ _ rfl
  rw [k4.gI (by omega), k3.gI (by omega), k2.gI (by omega), k1.gI (by omega), d1, zI_succ]
  have k5 : Kp (fun y => y = z) w4 (sI w4 404 z (zI ((rn (mgr M) + 1 : Nat) : Int))) := kp_sI (S := fun y => y = z) _ _ rfl
  have A4 := A3.keep k4 (by omega)
  refine ev_bnd (ev_some ⟨⟨?_, ?_, ?_, fun j hj => ?_⟩, A4, ?_⟩)
  · rw [q_gI_sI, if_pos ⟨rfl, rfl⟩]; rfl
  · rw [q_gI_sI, if_neg (by omega), k4.gI (by omega), k3.gI (by omega), k2.gI (by omega), k1.gI (by omega)]; exact hd
  · rw [q_gI_sI, if_neg (by omega), k4.gI (by omega), k3.gI (by omega), k2.gI (by omega), k1.gI (by omega)]; exact d3
  · have hj : j < rn (mgr M) + 1 := hj
    show _ = zI (if j = rn (mgr M) then f else rf (mgr M) j) ∧ _ = zI (if j = rn (mgr M) then re r i else re (mgr M) j) ∧ _ = zI (((if j = rn (mgr M) then x else mgs M j) : Nat) : Int) ∧ _ = cL (if j = rn (mgr M) then rl r i else rl (mgr M) j)
    rw [q_aI_sI, q_aI_sI, q_aI_sI, q_aJ_sI, k4.aI (by omega), k4.aI (by omega), k4.aI (by omega), k3.aI (by omega), k3.aI (by omega), k2.aI (by omega), ← hw4, q_aJ_sAJ, if_pos rfl, ← hw3, q_aI_sAI, if_pos rfl, ← hw2, q_aI_sAI, if_pos rfl, ← hw1, q_aI_sAI, if_pos rfl, upd_is, upd_is, upd_is, updL_is]
    by_cases e : j = rn (mgr M)
    · simp only [if_pos e]; exact ⟨trivial, trivial, trivial, trivial⟩
    · simp only [if_neg e]
      have dj := d4 j (by omega)
      refine ⟨dj.1, ?_, ?_, ?_⟩
      · rw [q_aI_sAI, if_neg (by omega)]; exact dj.2.1
      · rw [q_aI_sAI, if_neg (by omega), q_aI_sAI, if_neg (by omega)]; exact dj.2.2.1
      · rw [q_aJ_sAI, q_aJ_sAI, q_aJ_sAI]; exact dj.2.2.2
  · exact ((((k1.mono fun y hy => by unfold Rg; omega).trans (k2.mono fun y hy => by unfold Rg; omega)).trans (k3.mono fun y hy => by unfold Rg; omega)).trans (k4.mono fun y hy => by unfold Rg; omega)).trans (k5.mono fun y hy => by unfold Rg; omega)
theorem c_mput (A : CMrg F w z) (D : DMrg w z M) (G : GMg M c) (hc : c < 60) (R : CRow F w a r) (da : a + 4 ≤ z ∨ z + 5 ≤ a) {i x : Nat} (hi : i < rn r) (hx : x ≤ 3) (hfe : rf r i < re r i) :
    Ev (fX4_put F N w z a (zI i) (zI x)) fun w' => DMrg w' z (mput M (rs r i) x) ∧ CMrg F w' z ∧ Kp (Rg z 5) w w' := by
  have g := G.1
  obtain ⟨d1, d2, d3, d4⟩ := id D
  have bi := R.at hi
  have zz : Rg z 5 z := by unfold Rg; omega
  unfold fX4_put fX4_put_35
  rw [d1, zI_sb1]
  refine ev_bnd ?_
  rw [c_has D G (by omega) (by omega)]
  simp only [Option.bind_some]
  have nov : ¬ (0 < rn (mgr M) ∧ rf r i < re (mgr M) (rn (mgr M) - 1)) → Ev (fX4_put_36 F N w z a (zI i) (zI x) (zI ((rn (mgr M) : Int) - 1)) 0) fun w' => DMrg w' z (mput M (rs r i) x) ∧ CMrg F w' z ∧ Kp (Rg z 5) w w' := by
    intro h
    have em : mput M (rs r i) x = mpsh M (rf r i, re r i, rl r i) x 0 := by
      unfold mput
      rw [if_neg (c := 0 < rn (mgr M) ∧ (rs r i).1 < re (mgr M) (rn (mgr M) - 1)) h]
      rfl
    rw [em]
    unfold fX4_put_36 fX4_put_95
    refine ev_pos rfl (ev_pos rfl ?_)
    unfold fX4_put_110
    rw [d2, show zI (mgc M : Int) + 0 = zI (mgc M : Int) from by rw [z_0, zI_add, Int.add_zero], sI_self d2]
    refine ev_bnd (ev_pos rfl ?_)
    rw [c_first R hi]
    simp only [Option.bind_some]
    exact c_mpsh A D (by omega) R da hi hx ⟨bi.1, bi.2.1⟩ hfe (by rw [d2]; rfl)
  by_cases c1 : 0 < rn (mgr M)
  · have gl := G.2.2.2 (rn (mgr M) - 1) (by omega)
    have el : ((rn (mgr M) : Int) - 1) = ((rn (mgr M) - 1 : Nat) : Int) := by omega
    rw [if_pos (c := 0 ≤ (rn (mgr M) : Int) - 1 ∧ (rn (mgr M) : Int) - 1 < rn (mgr M)) (by omega)]
    refine ev_neg (by decide) ?_
    rw [c_first R hi]
    simp only [Option.bind_some]
    have eE := c_mend (N := N) A D G (by omega) (i := rn (mgr M) - 1) (by omega)
    have eL := c_mlabel (N := N) A D G (by omega) (i := rn (mgr M) - 1) (by omega)
    rw [← el] at eE eL
    rw [eE]
    simp only [Option.bind_some]
    by_cases c2 : rf r i < re (mgr M) (rn (mgr M) - 1)
    · refine ev_neg (by simp (disch := omega) only [z_0, z_1, z_2, z_3, z_4, z_5, z_6, z_7, z_8, z_9, z_10, z_12, z_13, z_16, z_20, z_24, z_30, z_31, z_32, z_38, z_42, z_44, z_45, z_47, z_48, z_49, z_50, z_57, z_58, z_59, z_60, z_61, z_91, z_97, z_98, z_100, z_108, z_114, z_120, z_122, z_126, z_127, z_128, z_200, z_255, z_961, z_990, z_992, z_998, z_999, z_1000, z_1092, z_1114, z_7798, z_10000, z_1000000, zI_neg, zI_add, zI_sub, zI_mul, zI_lt, zI_le, zI_eq, if_pos, if_neg, if_true, if_false, Option.bind_some, bnd, ldI_is, ldJ_is, Int.toNat_natCast,  Int.not_le]; omega) ?_
      unfold fX4_put_36
      refine ev_neg (by decide) ?_
      rw [eL, c_label R hi]
      simp only [Option.bind_some]
      by_cases c3 : rl (mgr M) (rn (mgr M) - 1) = rl r i
      · have em : mput M (rs r i) x = (setR (mgr M) (rn (mgr M) - 1) (rf (mgr M) (rn (mgr M) - 1)) (max (re (mgr M) (rn (mgr M) - 1)) (re r i)), (fun k => if k = rn (mgr M) - 1 then mgs M (rn (mgr M) - 1) ||| x else mgs M k), mgc M, mgd M) := by
          unfold mput
          rw [if_pos (c := 0 < rn (mgr M) ∧ (rs r i).1 < re (mgr M) (rn (mgr M) - 1)) ⟨c1, c2⟩, if_pos (c := rl (mgr M) (rn (mgr M) - 1) = (rs r i).2.2) c3]
          rfl
        refine ev_pos (by rw [lg_cmp_eq, c3]) ?_
        obtain ⟨h1, ⟨o1, o2, o3, o4⟩, ⟨n1, n2, n3, n4⟩, h4, h5, h6, h7⟩ := id A
        refine ev_rdR h5 o2 ?_
        rw [eE, c_end R hi]
        simp only [Option.bind_some]
        rw [imax_z (by omega) (by omega) (by omega) (by omega), el]
        refine ev_eq (stI_is (by omega) (by omega) (by omega)) ?_
        simp only [Int.toNat_natCast]
        generalize hw1 : sAI w (z + 2) (upd (aI w (z + 2)) (rn (mgr M) - 1) (zI (max (re (mgr M) (rn (mgr M) - 1)) (re r i)))) = w1
        have k1 : Kp (fun y => y = z + 2) w w1 := hw1 ▸ kp_sAI (S := fun y => y = z + 2) _ _ rfl
        have hs3 : aI w1 (z + 3) = aI w (z + 3) := k1.aI (by omega)
        refine ev_rdR (by rw [k1.gR (by omega)]; exact h6) o3 ?_
        have eS : fX4_source F N w1 z (zI ((rn (mgr M) - 1 : Nat) : Int)) = some (zI (mgs M (rn (mgr M) - 1) : Nat)) := by
          unfold fX4_source fX4_has
          rw [k1.gI (by omega), d1, rdR_is (by rw [k1.gR (by omega)]; exact h6) o3]
          simp only [Option.bind_some]
          rw [if_neg (by simp (disch := omega) only [z_0, z_1, z_2, z_3, z_4, z_5, z_6, z_7, z_8, z_9, z_10, z_12, z_13, z_16, z_20, z_24, z_30, z_31, z_32, z_38, z_42, z_44, z_45, z_47, z_48, z_49, z_50, z_57, z_58, z_59, z_60, z_61, z_91, z_97, z_98, z_100, z_108, z_114, z_120, z_122, z_126, z_127, z_128, z_200, z_255, z_961, z_990, z_992, z_998, z_999, z_1000, z_1092, z_1114, z_7798, z_10000, z_1000000, zI_neg, zI_add, zI_sub, zI_mul, zI_lt, zI_le, zI_eq, if_pos, if_neg, if_true, if_false, Option.bind_some, bnd, ldI_is, ldJ_is, Int.toNat_natCast,  Int.not_lt]; omega), if_neg (by simp (disch := omega) only [z_0, z_1, z_2, z_3, z_4, z_5, z_6, z_7, z_8, z_9, z_10, z_12, z_13, z_16, z_20, z_24, z_30, z_31, z_32, z_38, z_42, z_44, z_45, z_47, z_48, z_49, z_50, z_57, z_58, z_59, z_60, z_61, z_91, z_97, z_98, z_100, z_108, z_114, z_120, z_122, z_126, z_127, z_128, z_200, z_255, z_961, z_990, z_992, z_998, z_999, z_1000, z_1092, z_1114, z_7798, z_10000, z_1000000, zI_neg, zI_add, zI_sub, zI_mul, zI_lt, zI_le, zI_eq, if_pos, if_neg, if_true, if_false, Option.bind_some, bnd, ldI_is, ldJ_is, Int.toNat_natCast,  Int.not_le]; omega), if_neg (by simp (disch := omega) only [z_0, z_1, z_2, z_3, z_4, z_5, z_6, z_7, z_8, z_9, z_10, z_12, z_13, z_16, z_20, z_24, z_30, z_31, z_32, z_38, z_42, z_44, z_45, z_47, z_48, z_49, z_50, z_57, z_58, z_59, z_60, z_61, z_91, z_97, z_98, z_100, z_108, z_114, z_120, z_122, z_126, z_127, z_128, z_200, z_255, z_961, z_990, z_992, z_998, z_999, z_1000, z_1092, z_1114, z_7798, z_10000, z_1000000, zI_neg, zI_add, zI_sub, zI_mul, zI_lt, zI_le, zI_eq, if_pos, if_neg, if_true, if_false, Option.bind_some, bnd, ldI_is, ldJ_is, Int.toNat_natCast,  Int.not_le]; omega)]
          simp only [Option.bind_some]
          rw [if_neg (by decide), ldI_is (by omega) (by omega) (by omega)]
          simp only [Option.bind_some, Int.toNat_natCast, hs3, (d4 (rn (mgr M) - 1) (by omega)).2.2.1]
        rw [eS]
        simp only [Option.bind_some]
        rw [zI_or]
        refine ev_eq (stI_is (by omega) (by omega) (by omega)) ?_
        simp only [Int.toNat_natCast]
        have k2 : Kp (fun y => y = z + 3) w1 (sAI w1 (z + 3) (upd (aI w1 (z + 3)) (rn (mgr M) - 1) (zI ((mgs M (rn (mgr M) - 1) ||| x : Nat) : Int)))) := kp_sAI (S := fun y => y = z + 3) _ _ rfl
        rw [em]
        refine ev_some ⟨⟨?_, ?_, ?_, fun j hj => ?_⟩, (A.keep k1 (by omega)).keep k2 (by omega), (k1.mono fun y hy => by unfold Rg; omega).trans (k2.mono fun y hy => by unfold Rg; omega)⟩
        · rw [q_gI_sAI, k1.gI (by omega)]; exact d1
        · rw [q_gI_sAI, k1.gI (by omega)]; exact d2
        · rw [q_gI_sAI, k1.gI (by omega)]; exact d3
        · have hj : j < rn (mgr M) := hj
          have dj := d4 j hj
          show _ = zI (if j = rn (mgr M) - 1 then rf (mgr M) (rn (mgr M) - 1) else rf (mgr M) j) ∧ _ = zI (if j = rn (mgr M) - 1 then max (re (mgr M) (rn (mgr M) - 1)) (re r i) else re (mgr M) j) ∧ _ = zI (((if j = rn (mgr M) - 1 then mgs M (rn (mgr M) - 1) ||| x else mgs M j) : Nat) : Int) ∧ _ = cL (rl (mgr M) j)
          refine ⟨?_, ?_, ?_, ?_⟩
          · rw [q_aI_sAI, if_neg (c := z + 1 = z + 3) (by omega), k1.aI (by omega), dj.1]
            by_cases e : j = rn (mgr M) - 1
            · rw [if_pos e, e]
            · rw [if_neg e]
          · rw [q_aI_sAI, if_neg (c := z + 2 = z + 3) (by omega), ← hw1, q_aI_sAI, if_pos rfl, upd_is, dj.2.1]
            by_cases e : j = rn (mgr M) - 1
            · rw [if_pos e, if_pos e]
            · rw [if_neg e, if_neg e]
          · rw [q_aI_sAI, if_pos rfl, upd_is, k1.aI (by omega), dj.2.2.1]
            by_cases e : j = rn (mgr M) - 1
            · rw [if_pos e, if_pos e]
            · rw [if_neg e, if_neg e]
          · rw [q_aJ_sAI, k1.aJ (by omega)]
            exact dj.2.2.2
      · refine ev_neg (by rw [lg_cmp_eq, cL_inj gl.2.2.1 bi.2.2.2.2]; exact c3) ?_
        unfold fX4_put_95
        refine ev_neg (by decide) ?_
        unfold fX4_put_110
        rw [d2, zI_succ]
        refine ev_bnd (ev_neg (by decide) ?_)
        generalize hw1 : sI w 405 z (zI ((mgc M + 1 : Nat) : Int)) = w1
        have k1 : Kp (fun y => y = z) w w1 := hw1 ▸ kp_sI (S := fun y => y = z) _ _ rfl
        have A1 : CMrg F w1 z := by rw [← hw1]; exact A
        have R1 := R.keep k1 fun y y1 y2 => by omega
        have f1 : gI w1 404 z = zI (rn (mgr M) : Nat) := by rw [← hw1, q_gI_sI, if_neg (by omega)]; exact d1
        have f2 : gI w1 405 z = zI ((mgc M + 1 : Nat) : Int) := by rw [← hw1, q_gI_sI, if_pos ⟨rfl, rfl⟩]
        have f3 : gI w1 406 z = zI (mgd M : Nat) := by rw [← hw1, q_gI_sI, if_neg (by omega)]; exact d3
        have eE1 : fX4_end F N w1 z (zI ((rn (mgr M) : Int) - 1)) = some (zI (re (mgr M) (rn (mgr M) - 1))) := by
          have D1 : DMrg w1 z (mgr M, mgs M, mgc M + 1, mgd M) := ⟨f1, f2, f3, fun j hj => by rw [← hw1]; exact d4 j hj⟩
          have G1 : GMg (mgr M, mgs M, mgc M + 1, mgd M) (c + 1) := ⟨by show rn (mgr M) ≤ c + 1; omega, by show mgc M + 1 ≤ c + 1; have := G.2.1; omega, by show mgd M ≤ c + 1; have := G.2.2.1; omega, G.2.2.2⟩
          have h9 := c_mend (N := N) A1 D1 G1 (by omega) (i := rn (mgr M) - 1) (show rn (mgr M) - 1 < rn (mgr M) by omega)
          rw [el]
          exact h9
        rw [eE1]
        simp only [Option.bind_some]
        by_cases c4 : re (mgr M) (rn (mgr M) - 1) < re r i
        · have em : mput M (rs r i) x = mpsh M (re (mgr M) (rn (mgr M) - 1), re r i, rl r i) x 1 := by
            unfold mput
            rw [if_pos (c := 0 < rn (mgr M) ∧ (rs r i).1 < re (mgr M) (rn (mgr M) - 1)) ⟨c1, c2⟩, if_neg (c := rl (mgr M) (rn (mgr M) - 1) = (rs r i).2.2) c3, if_pos (c := re (mgr M) (rn (mgr M) - 1) < (rs r i).2.1) c4]
            rfl
          rw [em]
          have D1 : DMrg w1 z (mgr M, mgs M, mgc M + 1, mgd M) := ⟨f1, f2, f3, fun j hj => by rw [← hw1]; exact d4 j hj⟩
          have G1 : GMg (mgr M, mgs M, mgc M + 1, mgd M) (c + 1) := ⟨by show rn (mgr M) ≤ c + 1; omega, by show mgc M + 1 ≤ c + 1; have := G.2.1; omega, by show mgd M ≤ c + 1; have := G.2.2.1; omega, G.2.2.2⟩
          exact ev_mono (c_mpsh (d := 0) A1 D1 (show rn (mgr M) < 60 by omega) R1 da hi hx gl.2.1 c4 f2) fun x9 ⟨x1, x3, x2⟩ => ⟨x1, x3, (k1.mono fun y hy => by rw [hy]; exact zz).trans x2⟩
        · have em : mput M (rs r i) x = (mgr M, mgs M, mgc M + 1, mgd M + 1) := by
            unfold mput
            rw [if_pos (c := 0 < rn (mgr M) ∧ (rs r i).1 < re (mgr M) (rn (mgr M) - 1)) ⟨c1, c2⟩, if_neg (c := rl (mgr M) (rn (mgr M) - 1) = (rs r i).2.2) c3, if_neg (c := re (mgr M) (rn (mgr M) - 1) < (rs r i).2.1) c4]
          rw [em]
          unfold fX4_put_133
          rw [c_end R1 hi]
          simp only [Option.bind_some]
          refine ev_neg (by simp (disch := omega) only [z_0, z_1, z_2, z_3, z_4, z_5, z_6, z_7, z_8, z_9, z_10, z_12, z_13, z_16, z_20, z_24, z_30, z_31, z_32, z_38, z_42, z_44, z_45, z_47, z_48, z_49, z_50, z_57, z_58, z_59, z_60, z_61, z_91, z_97, z_98, z_100, z_108, z_114, z_120, z_122, z_126, z_127, z_128, z_200, z_255, z_961, z_990, z_992, z_998, z_999, z_1000, z_1092, z_1114, z_7798, z_10000, z_1000000, zI_neg, zI_add, zI_sub, zI_mul, zI_lt, zI_le, zI_eq, if_pos, if_neg, if_true, if_false, Option.bind_some, bnd, ldI_is, ldJ_is, Int.toNat_natCast,  Int.not_lt]; omega) ?_
          rw [f3, zI_succ]
          refine ev_bnd (ev_some ⟨⟨?_, ?_, ?_, fun j hj => ?_⟩, A1, (k1.mono fun y hy => by rw [hy]; exact zz).trans (kp_sI _ _ zz)⟩)
          · rw [q_gI_sI, if_neg (by omega)]; exact f1
          · rw [q_gI_sI, if_neg (by omega)]; exact f2
          · rw [q_gI_sI, if_pos ⟨rfl, rfl⟩]; rfl
          · rw [← hw1]; exact d4 j hj
    · refine ev_pos (by simp (disch := omega) only [z_0, z_1, z_2, z_3, z_4, z_5, z_6, z_7, z_8, z_9, z_10, z_12, z_13, z_16, z_20, z_24, z_30, z_31, z_32, z_38, z_42, z_44, z_45, z_47, z_48, z_49, z_50, z_57, z_58, z_59, z_60, z_61, z_91, z_97, z_98, z_100, z_108, z_114, z_120, z_122, z_126, z_127, z_128, z_200, z_255, z_961, z_990, z_992, z_998, z_999, z_1000, z_1092, z_1114, z_7798, z_10000, z_1000000, zI_neg, zI_add, zI_sub, zI_mul, zI_lt, zI_le, zI_eq, if_pos, if_neg, if_true, if_false, Option.bind_some, bnd, ldI_is, ldJ_is, Int.toNat_natCast, ]; omega) ?_
      exact nov (fun h => c2 h.2)
  · rw [if_neg (c := 0 ≤ (rn (mgr M) : Int) - 1 ∧ (rn (mgr M) : Int) - 1 < rn (mgr M)) (by omega)]
    refine ev_pos (by decide) ?_
    exact nov (fun h => c1 h.1)
theorem c_mrun_31 (hN : 200 ≤ N) (hr : rn r ≤ 30) (hq : rn q ≤ 30) (sr : SRow r) (sq : SRow q) (da : a + 4 ≤ z ∨ z + 5 ≤ a) (db : b + 4 ≤ z ∨ z + 5 ≤ b) : ∀ (m k i j : Nat) (w : Wd) (M : Mg), CMrg F w z → CRow F w a r → CRow F w b q → DMrg w z M → GMg M (i + j) → i ≤ rn r → j ≤ rn q → i + j + k = rn r + rn q → k < m →
    Ev (fX4_run_31 F N m w z a b (zI ((rn r + rn q : Nat) : Int)) (zI i) (zI ((i + j : Nat) : Int))) fun w' => CMrg F w' z ∧ DMrg w' z (mrg r q k i j M) ∧ GMg (mrg r q k i j M) 60 ∧ Kp (Rg z 5) w w' := by
  intro m
  induction m with
  | zero => intro k i j w M _ _ _ _ _ _ _ _ h; omega
  | succ m ih =>
    intro k i j w M A R Q D G hi hj hk hm
    have zz : ∀ y, y < z ∨ z + 5 ≤ y → ¬ Rg z 5 y := fun y h h9 => by unfold Rg at h9; omega
    unfold fX4_run_31 fX4_run_78
    cases k with
    | zero =>
      have G60 : GMg M 60 := ⟨by have := G.1; omega, by have := G.2.1; omega, by have := G.2.2.1; omega, G.2.2.2⟩
      exact ev_pos (by simp (disch := omega) only [z_0, z_1, z_2, z_3, z_4, z_5, z_6, z_7, z_8, z_9, z_10, z_12, z_13, z_16, z_20, z_24, z_30, z_31, z_32, z_38, z_42, z_44, z_45, z_47, z_48, z_49, z_50, z_57, z_58, z_59, z_60, z_61, z_91, z_97, z_98, z_100, z_108, z_114, z_120, z_122, z_126, z_127, z_128, z_200, z_255, z_961, z_990, z_992, z_998, z_999, z_1000, z_1092, z_1114, z_7798, z_10000, z_1000000, zI_neg, zI_add, zI_sub, zI_mul, zI_lt, zI_le, zI_eq, if_pos, if_neg, if_true, if_false, Option.bind_some, bnd, ldI_is, ldJ_is, Int.toNat_natCast, ]; omega) (ev_some ⟨A, D, G60, Kp.refl _⟩)
    | succ k =>
      refine ev_neg (by simp (disch := omega) only [z_0, z_1, z_2, z_3, z_4, z_5, z_6, z_7, z_8, z_9, z_10, z_12, z_13, z_16, z_20, z_24, z_30, z_31, z_32, z_38, z_42, z_44, z_45, z_47, z_48, z_49, z_50, z_57, z_58, z_59, z_60, z_61, z_91, z_97, z_98, z_100, z_108, z_114, z_120, z_122, z_126, z_127, z_128, z_200, z_255, z_961, z_990, z_992, z_998, z_999, z_1000, z_1092, z_1114, z_7798, z_10000, z_1000000, zI_neg, zI_add, zI_sub, zI_mul, zI_lt, zI_le, zI_eq, if_pos, if_neg, if_true, if_false, Option.bind_some, bnd, ldI_is, ldJ_is, Int.toNat_natCast,  Int.not_le]; omega) (ev_bnd ?_)
      rw [zI_sub, show (((i + j : Nat) : Int) - (i : Int)) = (j : Int) from by omega, c_isBefore R Q (by omega) (by omega)]
      simp only [Option.bind_some]
      have em : mrg r q (k + 1) i j M = if isB r q i j = true then mrg r q k (i + 1) j (mput M (rs r i) 1) else mrg r q k i (j + 1) (mput M (rs q j) 2) := rfl
      rw [em]
      by_cases c : isB r q i j = true
      · have hi2 : i < rn r := by
          unfold isB at c
          by_cases c1 : rn r ≤ i ∨ rn q ≤ j
          · rw [if_pos c1, decide_eq_true_eq] at c; exact c
          · omega
        have bi := R.at hi2
        rw [if_pos c, if_pos c]
        refine ev_neg (by decide) ?_
        rw [show (1 : Int32) = zI ((1 : Nat) : Int) from rfl]
        refine ev_then (c_mput A D G (by omega) R da hi2 (by omega) (sr.1 i hi2)) fun w1 ⟨D1, A1, k1⟩ => ?_
        rw [show zI (i : Int) + zI ((1 : Nat) : Int) = zI ((i + 1 : Nat) : Int) from zI_succ i, show zI ((i + j : Nat) : Int) + zI ((1 : Nat) : Int) = zI ((i + 1 + j : Nat) : Int) from by rw [zI_add]; congr 1; omega]
        refine ev_mono (ih k (i + 1) j w1 _ A1 (R.keep k1 fun y y1 y2 => zz y (by omega)) (Q.keep k1 fun y y1 y2 => zz y (by omega)) D1 ?_ hi2 hj (by omega) (by omega)) fun x ⟨x1, x2, x3, x4⟩ => ⟨x1, x2, x3, k1.trans x4⟩
        have h9 := G.put (s := rs r i) (x := 1) ⟨bi.1, bi.2.1⟩ ⟨bi.2.2.1, bi.2.2.2.1⟩ bi.2.2.2.2 (by omega)
        rw [show i + 1 + j = i + j + 1 from by omega]
        exact h9
      · have hj2 : j < rn q := by
          unfold isB at c
          by_cases c1 : rn r ≤ i ∨ rn q ≤ j
          · rw [if_pos c1, decide_eq_true_eq] at c; omega
          · omega
        have bj := Q.at hj2
        rw [if_neg c, if_neg c]
        refine ev_pos (by rfl) ?_
        rw [show (2 : Int32) = zI ((2 : Nat) : Int) from rfl]
        refine ev_then (c_mput A D G (by omega) Q db hj2 (by omega) (sq.1 j hj2)) fun w1 ⟨D1, A1, k1⟩ => ?_
        rw [zI_succ, show i + j + 1 = i + (j + 1) from by omega]
        refine ev_mono (ih k i (j + 1) w1 _ A1 (R.keep k1 fun y y1 y2 => zz y (by omega)) (Q.keep k1 fun y y1 y2 => zz y (by omega)) D1 ?_ hi hj2 (by omega) (by omega)) fun x ⟨x1, x2, x3, x4⟩ => ⟨x1, x2, x3, k1.trans x4⟩
        exact G.put (s := rs q j) (x := 2) ⟨bj.1, bj.2.1⟩ ⟨bj.2.2.1, bj.2.2.2.1⟩ bj.2.2.2.2 (by omega)
theorem c_mrun (hN : 200 ≤ N) (hr : rn r ≤ 30) (hq : rn q ≤ 30) (sr : SRow r) (sq : SRow q) (da : a + 4 ≤ z ∨ z + 5 ≤ a) (db : b + 4 ≤ z ∨ z + 5 ≤ b) (A : CMrg F w z) (R : CRow F w a r) (Q : CRow F w b q) :
    Ev (fX4_run F N w z a b) fun w' => CMrg F w' z ∧ DMrg w' z (mrgA r q) ∧ GMg (mrgA r q) 60 ∧ Kp (Rg z 5) w w' := by
  unfold fX4_run
  have K3 : Kp (fun y => y = z) w (sI (sI (sI w 404 z 0) 405 z 0) 406 z 0) := ((kp_sI (S := fun y => y = z) _ _ rfl).trans (kp_sI (S := fun y => y = z) _ _ rfl)).trans (kp_sI (S := fun y => y = z) _ _ rfl)
  have R3 := R.keep K3 fun y y1 y2 => by omega
  have Q3 := Q.keep K3 fun y y1 y2 => by omega
  refine ev_bnd (ev_bnd (ev_bnd (ev_bnd ?_)))
  rw [c_many R3, c_many Q3, zI_add, show ((rn r : Int) + (rn q : Int)) = ((rn r + rn q : Nat) : Int) from by omega]
  have h9 := c_mrun_31 (F := F) (N := N) hN hr hq sr sq da db N (rn r + rn q) 0 0 _ mg0 (show CMrg F (sI (sI (sI w 404 z 0) 405 z 0) 406 z 0) z from A) R3 Q3 ⟨by rw [q_gI_sI, if_neg (by omega), q_gI_sI, if_neg (by omega), q_gI_sI, if_pos ⟨rfl, rfl⟩]; rfl, by rw [q_gI_sI, if_neg (by omega), q_gI_sI, if_pos ⟨rfl, rfl⟩]; rfl, by rw [q_gI_sI, if_pos ⟨rfl, rfl⟩]; rfl, fun i hi => absurd hi (Nat.not_lt_zero i)⟩ ⟨Nat.le_refl _, Nat.le_refl _, Nat.le_refl _, fun i hi => absurd hi (Nat.not_lt_zero i)⟩ (Nat.zero_le _) (Nat.zero_le _) (by omega) (by omega)
  exact ev_mono h9 fun x ⟨x1, x2, x3, x4⟩ => ⟨x1, x2, x3, (K3.mono fun y hy => by unfold Rg; omega).trans x4⟩
def shrS (M : Mg) (i : Nat) : Int := if mgs M i = 3 then 1 else 0
theorem c_sharedCount_4 (A : CMrg F w z) (D : DMrg w z M) (G : GMg M c) (hc : c ≤ 60) : ∀ (m k i : Nat), i + k = rn (mgr M) → k < m →
    fX4_sharedCount_4 F N w m z (zI (sumN (shrS M) i)) (zI i) = some (zI (sumN (shrS M) (rn (mgr M)))) := by
  have g := G.1
  intro m
  induction m with
  | zero => intro k i _ hk; omega
  | succ m ih =>
    intro k i hik hkm
    unfold fX4_sharedCount_4 fX4_sharedCount_27
    rw [D.1]
    cases k with
    | zero =>
      have e : i = rn (mgr M) := by omega
      subst e
      rw [if_pos (by simp (disch := omega) only [z_0, z_1, z_2, z_3, z_4, z_5, z_6, z_7, z_8, z_9, z_10, z_12, z_13, z_16, z_20, z_24, z_30, z_31, z_32, z_38, z_42, z_44, z_45, z_47, z_48, z_49, z_50, z_57, z_58, z_59, z_60, z_61, z_91, z_97, z_98, z_100, z_108, z_114, z_120, z_122, z_126, z_127, z_128, z_200, z_255, z_961, z_990, z_992, z_998, z_999, z_1000, z_1092, z_1114, z_7798, z_10000, z_1000000, zI_neg, zI_add, zI_sub, zI_mul, zI_lt, zI_le, zI_eq, if_pos, if_neg, if_true, if_false, Option.bind_some, bnd, ldI_is, ldJ_is, Int.toNat_natCast, ]; omega)]
    | succ k =>
      have hi : i < rn (mgr M) := by omega
      have ih := ih k (i + 1) (by omega) (by omega)
      have gi := (G.2.2.2 i hi).2.2.2
      rw [if_neg (by simp (disch := omega) only [z_0, z_1, z_2, z_3, z_4, z_5, z_6, z_7, z_8, z_9, z_10, z_12, z_13, z_16, z_20, z_24, z_30, z_31, z_32, z_38, z_42, z_44, z_45, z_47, z_48, z_49, z_50, z_57, z_58, z_59, z_60, z_61, z_91, z_97, z_98, z_100, z_108, z_114, z_120, z_122, z_126, z_127, z_128, z_200, z_255, z_961, z_990, z_992, z_998, z_999, z_1000, z_1092, z_1114, z_7798, z_10000, z_1000000, zI_neg, zI_add, zI_sub, zI_mul, zI_lt, zI_le, zI_eq, if_pos, if_neg, if_true, if_false, Option.bind_some, bnd, ldI_is, ldJ_is, Int.toNat_natCast,  Int.not_le]; omega), c_msource A D G hc hi]
      simp only [Option.bind_some, bnd]
      rw [← sumN_succ] at ih
      by_cases d : mgs M i = 3
      · have e : shrS M i = 1 := by unfold shrS; rw [if_pos d]
        rw [e] at ih
        rw [if_pos (by rw [d]; rfl), zI_succ, show zI (sumN (shrS M) i) + 1 = zI (sumN (shrS M) i + 1) from zI_add _ 1]
        exact ih
      · have e : shrS M i = 0 := by unfold shrS; rw [if_neg d]
        rw [e, Int.add_zero] at ih
        rw [if_neg (by simp (disch := omega) only [z_0, z_1, z_2, z_3, z_4, z_5, z_6, z_7, z_8, z_9, z_10, z_12, z_13, z_16, z_20, z_24, z_30, z_31, z_32, z_38, z_42, z_44, z_45, z_47, z_48, z_49, z_50, z_57, z_58, z_59, z_60, z_61, z_91, z_97, z_98, z_100, z_108, z_114, z_120, z_122, z_126, z_127, z_128, z_200, z_255, z_961, z_990, z_992, z_998, z_999, z_1000, z_1092, z_1114, z_7798, z_10000, z_1000000, zI_neg, zI_add, zI_sub, zI_mul, zI_lt, zI_le, zI_eq, if_pos, if_neg, if_true, if_false, Option.bind_some, bnd, ldI_is, ldJ_is, Int.toNat_natCast, ]; omega), zI_succ, show zI (sumN (shrS M) i) + 0 = zI (sumN (shrS M) i) from by rw [z_0, zI_add, Int.add_zero]]
        exact ih
theorem c_sharedCount (A : CMrg F w z) (D : DMrg w z M) (G : GMg M c) (hc : c ≤ 60) (hN : 200 ≤ N) : fX4_sharedCount F N w z = some (zI (sumN (shrS M) (rn (mgr M)))) := by
  have g := G.1
  unfold fX4_sharedCount
  exact c_sharedCount_4 A D G hc N (rn (mgr M)) 0 (by omega) (by omega)
theorem c_mframeSum_4 (A : CMrg F w z) (D : DMrg w z M) (G : GMg M c) (hc : c ≤ 60) : ∀ (m k i : Nat), i + k = rn (mgr M) → k < m →
    fX4_frameSum_4 F N w m z (zI (sumN (fun i => re (mgr M) i - rf (mgr M) i) i)) (zI i) = some (zI (fsum (mgr M))) := by
  have g := G.1
  intro m
  induction m with
  | zero => intro k i _ hk; omega
  | succ m ih =>
    intro k i hik hkm
    unfold fX4_frameSum_4
    rw [D.1]
    cases k with
    | zero =>
      have e : i = rn (mgr M) := by omega
      subst e
      rw [if_pos (by simp (disch := omega) only [z_0, z_1, z_2, z_3, z_4, z_5, z_6, z_7, z_8, z_9, z_10, z_12, z_13, z_16, z_20, z_24, z_30, z_31, z_32, z_38, z_42, z_44, z_45, z_47, z_48, z_49, z_50, z_57, z_58, z_59, z_60, z_61, z_91, z_97, z_98, z_100, z_108, z_114, z_120, z_122, z_126, z_127, z_128, z_200, z_255, z_961, z_990, z_992, z_998, z_999, z_1000, z_1092, z_1114, z_7798, z_10000, z_1000000, zI_neg, zI_add, zI_sub, zI_mul, zI_lt, zI_le, zI_eq, if_pos, if_neg, if_true, if_false, Option.bind_some, bnd, ldI_is, ldJ_is, Int.toNat_natCast, ]; omega)]
      rfl
    | succ k =>
      have hi : i < rn (mgr M) := by omega
      have ih := ih k (i + 1) (by omega) (by omega)
      rw [if_neg (by simp (disch := omega) only [z_0, z_1, z_2, z_3, z_4, z_5, z_6, z_7, z_8, z_9, z_10, z_12, z_13, z_16, z_20, z_24, z_30, z_31, z_32, z_38, z_42, z_44, z_45, z_47, z_48, z_49, z_50, z_57, z_58, z_59, z_60, z_61, z_91, z_97, z_98, z_100, z_108, z_114, z_120, z_122, z_126, z_127, z_128, z_200, z_255, z_961, z_990, z_992, z_998, z_999, z_1000, z_1092, z_1114, z_7798, z_10000, z_1000000, zI_neg, zI_add, zI_sub, zI_mul, zI_lt, zI_le, zI_eq, if_pos, if_neg, if_true, if_false, Option.bind_some, bnd, ldI_is, ldJ_is, Int.toNat_natCast,  Int.not_le]; omega), c_mend A D G hc hi, c_mfirst A D G hc hi]
      simp only [Option.bind_some, bnd]
      rw [zI_sub, zI_add, zI_succ, sumN_succ (fun i => re (mgr M) i - rf (mgr M) i) i]
      exact ih
theorem c_mframeSum (A : CMrg F w z) (D : DMrg w z M) (G : GMg M c) (hc : c ≤ 60) (hN : 200 ≤ N) : fX4_frameSum F N w z = some (zI (fsum (mgr M))) := by
  have g := G.1
  unfold fX4_frameSum
  exact c_mframeSum_4 A D G hc N (rn (mgr M)) 0 (by omega) (by omega)
end MRG
