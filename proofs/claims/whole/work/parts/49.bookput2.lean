/-! more of what the class writes into its books -/
def setR (r : Rw) (s : Nat) (x y : Int) : Rw := (rn r, (fun j => if j = s then x else rf r j), (fun j => if j = s then y else re r j), rl r)
def setL (r : Rw) (s : Nat) (l : List Nat) : Rw := (rn r, rf r, re r, fun j => if j = s then l else rl r j)
theorem rs_setR (r : Rw) (s : Nat) (x y : Int) (j : Nat) : rs (setR r s x y) j = if j = s then (x, y, rl r j) else rs r j := by
  by_cases c : j = s
  · simp only [rs, setR, rf, re, rl, if_pos c]
  · simp only [rs, setR, rf, re, rl, if_neg c]
theorem rs_setL (r : Rw) (s : Nat) (l : List Nat) (j : Nat) : rs (setL r s l) j = if j = s then (rf r j, re r j, l) else rs r j := by
  by_cases c : j = s
  · simp only [rs, setL, rf, re, rl, if_pos c]
  · simp only [rs, setL, rf, re, rl, if_neg c]
theorem ber_lim {k : Bk} (hn : bn k ≤ 6) (t : Nat) : ber k t = -1 ∨ (0 ≤ ber k t ∧ ber k t ≤ 100) := by
  unfold ber
  rcases fnd_cases (berP k t) (bn k - (t + 1)) (t + 1) with ⟨d, -⟩ | ⟨j, d, d2, d3, -⟩
  · exact Or.inl d
  · rw [d]; omega
theorem bset_bset (k : Bk) (x t : Nat) (r q : Rw) : bset (bset k x t r) x t q = bset k x t q := by
  have e : (fun x' t' => if x' = x ∧ t' = t then q else brw (bset k x t r) x' t') = (fun x' t' => if x' = x ∧ t' = t then q else brw k x' t') := by
    funext x' t'
    rw [brw_bset]
    by_cases c : x' = x ∧ t' = t
    · rw [if_pos c, if_pos c]
    · rw [if_neg c, if_neg c, if_neg c]
  show (bn k, bkd k, brl k, bpr k, (fun x' t' => if x' = x ∧ t' = t then q else brw (bset k x t r) x' t'), ban k, bwi k, bga k) = _
  rw [e]
  rfl
theorem bset_self (k : Bk) (x t : Nat) : bset k x t (brw k x t) = k := by
  have e : (fun x' t' => if x' = x ∧ t' = t then brw k x t else brw k x' t') = brw k := by
    funext x' t'
    by_cases c : x' = x ∧ t' = t
    · rw [if_pos c, c.1, c.2]
    · rw [if_neg c]
  show (bn k, bkd k, brl k, bpr k, (fun x' t' => if x' = x ∧ t' = t then brw k x t else brw k x' t'), ban k, bwi k, bga k) = _
  rw [e]
  rfl
theorem lack_bset {k : Bk} (h : GBook k) {x t : Nat} (ht : t < bn k) (r : Rw) (f e : Int) : lack (bset k x t r) x t f e = lack k x t f e := by
  obtain ⟨-, -, h3, h4, h5, -⟩ := h.2.2.2.2 t ht
  unfold lack
  by_cases c : brl k t = 0
  · rw [decide_eq_decide]
    exact ⟨fun h9 => absurd c h9.1, fun h9 => absurd c h9.1⟩
  · have h6 := h5 c
    have e1 : hostB (bset k x t r) x t f e = hostB k x t f e := by
      show (if brl k t = 0 then -1 else hst (brl k t) (brw (bset k x t r) x (bpr k t).toNat) f e) = _
      rw [brw_bset, if_neg (c := x = x ∧ (bpr k t).toNat = t) (by omega)]
      rfl
    rw [e1]
    rfl
def drp (lk : Int → Int → Bool) : Nat → Rw → Rw × Int
  | 0, r => (r, 0)
  | i + 1, r => if lk (rf r i) (re r i) = true then ((drp lk i (delR r i)).1, (drp lk i (delR r i)).2 + 1) else drp lk i r
def drpK (k : Bk) (c : Nat) : Rw × Int := drp (lack k (ban k) c) (rn (brw k (ban k) c)) (brw k (ban k) c)
def drps : Nat → Nat → Bk → Bk × Int
  | 0, _, k => (k, 0)
  | n + 1, c, k => ((drps n (c + 1) (bset k (ban k) c (drpK k c).1)).1, (drpK k c).2 + (drps n (c + 1) (bset k (ban k) c (drpK k c).1)).2)
section CBOOK
variable {F : Fr} {N : Nat} {w w' : Wd} {a b : Nat} {r q : Rw} {k : Bk}
theorem c_setFramesC (h : CRow F w a r) {i : Nat} (hi : i < rn r) {x y : Int} (hx : 0 ≤ x ∧ x ≤ 1000) (hy : 0 ≤ y ∧ y ≤ 1000) : Ev (fX7_setFrames F N w a (zI i) (zI x) (zI y)) fun w' => CRow F w' a (setR r i x y) ∧ Kp (Rg a 4) w w' := by
  have hl := h.lim
  refine ev_mono (c_setFrames h.1 h.2.1 (by omega) _ _) fun w1 ⟨W1, n1, k1, r1⟩ => ⟨⟨h.1, W1, DRow.of (n1.trans h.2.2.1.1) fun j hj => ?_, GRow.of hl fun j hj => ?_⟩, k1⟩
  · have hj : j < rn r := hj
    rw [r1]
    dsimp only
    rw [rs_setR, h.2.2.1.raw hj]
    by_cases c : j = i
    · simp only [if_pos c]; rfl
    · simp only [if_neg c]
  · have hj : j < rn r := hj
    rw [rs_setR]
    by_cases c : j = i
    · rw [if_pos c]; exact ⟨hx.1, hx.2, hy.1, hy.2, (h.at hj).2.2.2.2⟩
    · rw [if_neg c]; exact h.2.2.2.rs hj
theorem c_setLabelC (h : CRow F w a r) {i : Nat} (hi : i < rn r) {l : List Nat} (hv : VL l) : Ev (fX7_setLabel F N w a (zI i) (cL l)) fun w' => CRow F w' a (setL r i l) ∧ Kp (Rg a 4) w w' := by
  have hl := h.lim
  refine ev_mono (c_setLabel h.1 h.2.1 (by omega) _) fun w1 ⟨W1, n1, k1, r1⟩ => ⟨⟨h.1, W1, DRow.of (n1.trans h.2.2.1.1) fun j hj => ?_, GRow.of hl fun j hj => ?_⟩, k1⟩
  · have hj : j < rn r := hj
    rw [r1]
    dsimp only
    rw [rs_setL, h.2.2.1.raw hj]
    by_cases c : j = i
    · simp only [if_pos c]; rfl
    · simp only [if_neg c]
  · have hj : j < rn r := hj
    rw [rs_setL]
    by_cases c : j = i
    · rw [if_pos c]
      have h9 := h.at hj
      exact ⟨h9.1, h9.2.1, h9.2.2.1, h9.2.2.2.1, hv⟩
    · rw [if_neg c]; exact h.2.2.2.rs hj
theorem c_cutSpan (h : CBook F w b k) (hN : 40 ≤ N) {t s : Nat} (ht : t < bn k) (hs : s < rn (brw k (ban k) t)) (h30 : rn (brw k (ban k) t) ≤ 30) {g : Int} (hg : -2147483648 ≤ g ∧ g < 2147483648) {z : Nat} :
    Ev (fX1_cutSpan F N w b (zI t) (zI s) (zI g) z) fun x =>
      ((g ≤ rf (brw k (ban k) t) s ∨ re (brw k (ban k) t) s ≤ g) ∧ x = (zI (-1), rfs w z 1 0)) ∨
      (rf (brw k (ban k) t) s < g ∧ g < re (brw k (ban k) t) s ∧ (lack k (ban k) t (rf (brw k (ban k) t) s) g = true ∨ lack k (ban k) t g (re (brw k (ban k) t) s) = true) ∧ x = (zI (-1), rfs w z 3 0)) ∨
      (rf (brw k (ban k) t) s < g ∧ g < re (brw k (ban k) t) s ∧ lack k (ban k) t (rf (brw k (ban k) t) s) g = false ∧ lack k (ban k) t g (re (brw k (ban k) t) s) = false ∧
        ∃ (p : Nat) (w1 : Wd) (k1 : Bk), InsAt (setR (brw k (ban k) t) s (rf (brw k (ban k) t) s) g) p g ∧ k1 = bset k (ban k) t (insR (setR (brw k (ban k) t) s (rf (brw k (ban k) t) s) g) p (g, re (brw k (ban k) t) s, rl (brw k (ban k) t) s)) ∧ CBook F w1 b k1 ∧ Kp (Rg (ra b (ban k) t) 4) w w1 ∧
        ((ber k1 t = -1 ∧ rn (brw k (ban k) t) < 30 ∧ x = (zI (rn (brw k (ban k) t) + 1), w1)) ∨ (ber k1 t = -1 ∧ rn (brw k (ban k) t) = 30 ∧ x = (zI (-1), rfs w1 z 5 0)) ∨ (0 ≤ ber k1 t ∧ x = (zI (-1), rfs w1 z 4 (ber k1 t))))) := by
  have hn := h.g.1
  have hx := h.g.2.1
  have hr := h.row hx ht
  have hb := hr.at hs
  unfold fX1_cutSpan fX1_cutSpan_35 fX1_cutSpan_73
  have e1 : fX6_refuse F N w z 1 0 = some (zI (-1), rfs w z 1 0) := rfl
  have e3 : fX6_refuse F N w z 3 0 = some (zI (-1), rfs w z 3 0) := rfl
  rw [c_present h ht, e1, e3]
  simp only [Option.bind_some, h.ckRow hx ht, c_first hr hs, c_end hr hs]
  by_cases c : g ≤ rf (brw k (ban k) t) s
  · exact ev_pos (by simp (disch := omega) only [z_0, z_1, z_2, z_3, z_4, z_5, z_6, z_7, z_8, z_9, z_10, z_12, z_13, z_16, z_20, z_24, z_30, z_31, z_32, z_38, z_42, z_44, z_45, z_47, z_48, z_49, z_50, z_57, z_58, z_59, z_60, z_61, z_91, z_97, z_98, z_100, z_108, z_114, z_120, z_122, z_126, z_127, z_128, z_200, z_255, z_961, z_990, z_992, z_998, z_999, z_1000, z_1092, z_1114, z_7798, z_10000, z_1000000, zI_neg, zI_add, zI_sub, zI_mul, zI_lt, zI_le, zI_eq, if_pos, if_neg, if_true, if_false, Option.bind_some, bnd, ldI_is, ldJ_is, Int.toNat_natCast, ]; exact c) (ev_some (Or.inl ⟨Or.inl c, rfl⟩))
  · refine ev_neg (by simp (disch := omega) only [z_0, z_1, z_2, z_3, z_4, z_5, z_6, z_7, z_8, z_9, z_10, z_12, z_13, z_16, z_20, z_24, z_30, z_31, z_32, z_38, z_42, z_44, z_45, z_47, z_48, z_49, z_50, z_57, z_58, z_59, z_60, z_61, z_91, z_97, z_98, z_100, z_108, z_114, z_120, z_122, z_126, z_127, z_128, z_200, z_255, z_961, z_990, z_992, z_998, z_999, z_1000, z_1092, z_1114, z_7798, z_10000, z_1000000, zI_neg, zI_add, zI_sub, zI_mul, zI_lt, zI_le, zI_eq, if_pos, if_neg, if_true, if_false, Option.bind_some, bnd, ldI_is, ldJ_is, Int.toNat_natCast,  Int.not_le]; omega) ?_
    by_cases d : g < re (brw k (ban k) t) s
    · refine ev_pos (by simp (disch := omega) only [z_0, z_1, z_2, z_3, z_4, z_5, z_6, z_7, z_8, z_9, z_10, z_12, z_13, z_16, z_20, z_24, z_30, z_31, z_32, z_38, z_42, z_44, z_45, z_47, z_48, z_49, z_50, z_57, z_58, z_59, z_60, z_61, z_91, z_97, z_98, z_100, z_108, z_114, z_120, z_122, z_126, z_127, z_128, z_200, z_255, z_961, z_990, z_992, z_998, z_999, z_1000, z_1092, z_1114, z_7798, z_10000, z_1000000, zI_neg, zI_add, zI_sub, zI_mul, zI_lt, zI_le, zI_eq, if_pos, if_neg, if_true, if_false, Option.bind_some, bnd, ldI_is, ldJ_is, Int.toNat_natCast, ]; exact d) ?_
      rw [c_ban h, c_lacksHost h hN hx ht (f := rf (brw k (ban k) t) s) (e := g) ⟨hb.1, hb.2.1⟩ (by omega), c_lacksHost h hN hx ht (f := g) (e := re (brw k (ban k) t) s) (by omega) ⟨hb.2.2.1, hb.2.2.2.1⟩]
      simp only [Option.bind_some]
      by_cases l1 : lack k (ban k) t (rf (brw k (ban k) t) s) g = true
      · rw [if_pos l1]
        exact ev_neg (by decide) (ev_some (Or.inr (Or.inl ⟨by omega, d, Or.inl l1, rfl⟩)))
      · rw [if_neg l1]
        refine ev_pos (by decide) ?_
        by_cases l2 : lack k (ban k) t g (re (brw k (ban k) t) s) = true
        · rw [if_pos l2]
          exact ev_neg (by decide) (ev_some (Or.inr (Or.inl ⟨by omega, d, Or.inr l2, rfl⟩)))
        · rw [if_neg l2]
          refine ev_pos (by decide) ?_
          refine ev_then (c_setFramesC hr hs ⟨hb.1, hb.2.1⟩ (by omega)) fun w1 ⟨r1, k1⟩ => ?_
          have hn1 : rn (setR (brw k (ban k) t) s (rf (brw k (ban k) t) s) g) = rn (brw k (ban k) t) := rfl
          have hl1 : rl (setR (brw k (ban k) t) s (rf (brw k (ban k) t) s) g) s = rl (brw k (ban k) t) s := rfl
          rw [c_label r1 (i := s) (by omega), hl1]
          simp only [Option.bind_some]
          refine ev_then (c_insert r1 hN (by omega) (s := (g, re (brw k (ban k) t) s, rl (brw k (ban k) t) s)) ⟨by show 0 ≤ g; omega, by show g ≤ 1000; omega⟩ ⟨hb.2.2.1, hb.2.2.2.1⟩ hb.2.2.2.2) fun x ⟨p, e2, e3, e4, e5, e6, e7⟩ => ?_
          have hk := h.set hx ht e6 (k1.trans e7)
          have hq := c_many e6
          have hq2 : rn (insR (setR (brw k (ban k) t) s (rf (brw k (ban k) t) s) g) p (g, re (brw k (ban k) t) s, rl (brw k (ban k) t) s)) = rn (brw k (ban k) t) + 1 := rfl
          rw [c_lowestBereft hk hN (t := t) ht, hq, hq2]
          simp only [Option.bind_some]
          rcases ber_lim (k := bset k (ban k) t (insR (setR (brw k (ban k) t) s (rf (brw k (ban k) t) s) g) p (g, re (brw k (ban k) t) s, rl (brw k (ban k) t) s))) hn t with hb9 | hb9
          · refine ev_pos (by rw [hb9]; decide) ?_
            by_cases u : rn (brw k (ban k) t) < 30
            · refine ev_pos (by simp (disch := omega) only [z_0, z_1, z_2, z_3, z_4, z_5, z_6, z_7, z_8, z_9, z_10, z_12, z_13, z_16, z_20, z_24, z_30, z_31, z_32, z_38, z_42, z_44, z_45, z_47, z_48, z_49, z_50, z_57, z_58, z_59, z_60, z_61, z_91, z_97, z_98, z_100, z_108, z_114, z_120, z_122, z_126, z_127, z_128, z_200, z_255, z_961, z_990, z_992, z_998, z_999, z_1000, z_1092, z_1114, z_7798, z_10000, z_1000000, zI_neg, zI_add, zI_sub, zI_mul, zI_lt, zI_le, zI_eq, if_pos, if_neg, if_true, if_false, Option.bind_some, bnd, ldI_is, ldJ_is, Int.toNat_natCast, ]; omega) ?_
              exact ev_some (Or.inr (Or.inr ⟨by omega, d, by simpa using l1, by simpa using l2, p, x.2, _, ⟨e3, e4, e5⟩, rfl, hk, k1.trans e7, Or.inl ⟨hb9, u, rfl⟩⟩))
            · refine ev_neg (by simp (disch := omega) only [z_0, z_1, z_2, z_3, z_4, z_5, z_6, z_7, z_8, z_9, z_10, z_12, z_13, z_16, z_20, z_24, z_30, z_31, z_32, z_38, z_42, z_44, z_45, z_47, z_48, z_49, z_50, z_57, z_58, z_59, z_60, z_61, z_91, z_97, z_98, z_100, z_108, z_114, z_120, z_122, z_126, z_127, z_128, z_200, z_255, z_961, z_990, z_992, z_998, z_999, z_1000, z_1092, z_1114, z_7798, z_10000, z_1000000, zI_neg, zI_add, zI_sub, zI_mul, zI_lt, zI_le, zI_eq, if_pos, if_neg, if_true, if_false, Option.bind_some, bnd, ldI_is, ldJ_is, Int.toNat_natCast,  Int.not_le]; omega) ?_
              exact ev_some (Or.inr (Or.inr ⟨by omega, d, by simpa using l1, by simpa using l2, p, x.2, _, ⟨e3, e4, e5⟩, rfl, hk, k1.trans e7, Or.inr (Or.inl ⟨hb9, by omega, rfl⟩)⟩))
          · refine ev_neg (by simp (disch := omega) only [z_0, z_1, z_2, z_3, z_4, z_5, z_6, z_7, z_8, z_9, z_10, z_12, z_13, z_16, z_20, z_24, z_30, z_31, z_32, z_38, z_42, z_44, z_45, z_47, z_48, z_49, z_50, z_57, z_58, z_59, z_60, z_61, z_91, z_97, z_98, z_100, z_108, z_114, z_120, z_122, z_126, z_127, z_128, z_200, z_255, z_961, z_990, z_992, z_998, z_999, z_1000, z_1092, z_1114, z_7798, z_10000, z_1000000, zI_neg, zI_add, zI_sub, zI_mul, zI_lt, zI_le, zI_eq, if_pos, if_neg, if_true, if_false, Option.bind_some, bnd, ldI_is, ldJ_is, Int.toNat_natCast,  Int.not_lt]; omega) ?_
            rw [show (4 : Int32) = zI 4 from rfl, c_refuse]
            exact ev_some (Or.inr (Or.inr ⟨by omega, d, by simpa using l1, by simpa using l2, p, x.2, _, ⟨e3, e4, e5⟩, rfl, hk, k1.trans e7, Or.inr (Or.inr ⟨hb9.1, rfl⟩)⟩))
    · refine ev_neg (by simp (disch := omega) only [z_0, z_1, z_2, z_3, z_4, z_5, z_6, z_7, z_8, z_9, z_10, z_12, z_13, z_16, z_20, z_24, z_30, z_31, z_32, z_38, z_42, z_44, z_45, z_47, z_48, z_49, z_50, z_57, z_58, z_59, z_60, z_61, z_91, z_97, z_98, z_100, z_108, z_114, z_120, z_122, z_126, z_127, z_128, z_200, z_255, z_961, z_990, z_992, z_998, z_999, z_1000, z_1092, z_1114, z_7798, z_10000, z_1000000, zI_neg, zI_add, zI_sub, zI_mul, zI_lt, zI_le, zI_eq, if_pos, if_neg, if_true, if_false, Option.bind_some, bnd, ldI_is, ldJ_is, Int.toNat_natCast,  Int.not_lt]; omega) (ev_some (Or.inl ⟨Or.inr (by omega), rfl⟩))
theorem c_uniteSpan (h : CBook F w b k) (hN : 40 ≤ N) {t s : Nat} (ht : t < bn k) (hs : s < rn (brw k (ban k) t)) {z : Nat} :
    Ev (fX1_uniteSpan F N w b (zI t) (zI s) z) fun x =>
      (s + 1 = rn (brw k (ban k) t) ∧ x = (zI (-1), rfs w z 1 0)) ∨
      (s + 1 < rn (brw k (ban k) t) ∧ lack k (ban k) t (rf (brw k (ban k) t) s) (re (brw k (ban k) t) (s + 1)) = true ∧ x = (zI (-1), rfs w z 3 0)) ∨
      (s + 1 < rn (brw k (ban k) t) ∧ lack k (ban k) t (rf (brw k (ban k) t) s) (re (brw k (ban k) t) (s + 1)) = false ∧
        ∃ (w1 : Wd) (k1 : Bk), k1 = bset k (ban k) t (delR (setR (brw k (ban k) t) s (rf (brw k (ban k) t) s) (re (brw k (ban k) t) (s + 1))) (s + 1)) ∧ CBook F w1 b k1 ∧ Kp (Rg (ra b (ban k) t) 4) w w1 ∧
        ((ber k1 t = -1 ∧ x = (zI (rn (brw k (ban k) t) - 1 : Nat), w1)) ∨ (0 ≤ ber k1 t ∧ x = (zI (-1), rfs w1 z 4 (ber k1 t))))) := by
  have hn := h.g.1
  have hx := h.g.2.1
  have hr := h.row hx ht
  have hlm := hr.lim
  have hb := hr.at hs
  unfold fX1_uniteSpan
  have e1 : fX6_refuse F N w z 1 0 = some (zI (-1), rfs w z 1 0) := rfl
  have e3 : fX6_refuse F N w z 3 0 = some (zI (-1), rfs w z 3 0) := rfl
  rw [c_present h ht, e1, e3]
  simp only [Option.bind_some, h.ckRow hx ht, c_many hr, zI_succ]
  by_cases c : s + 1 < rn (brw k (ban k) t)
  · have hb1 := hr.at c
    refine ev_pos (by simp (disch := omega) only [z_0, z_1, z_2, z_3, z_4, z_5, z_6, z_7, z_8, z_9, z_10, z_12, z_13, z_16, z_20, z_24, z_30, z_31, z_32, z_38, z_42, z_44, z_45, z_47, z_48, z_49, z_50, z_57, z_58, z_59, z_60, z_61, z_91, z_97, z_98, z_100, z_108, z_114, z_120, z_122, z_126, z_127, z_128, z_200, z_255, z_961, z_990, z_992, z_998, z_999, z_1000, z_1092, z_1114, z_7798, z_10000, z_1000000, zI_neg, zI_add, zI_sub, zI_mul, zI_lt, zI_le, zI_eq, if_pos, if_neg, if_true, if_false, Option.bind_some, bnd, ldI_is, ldJ_is, Int.toNat_natCast, ]; omega) ?_
    rw [c_first hr hs, c_end hr c]
    simp only [Option.bind_some]
    rw [c_ban h, c_lacksHost h hN hx ht (f := rf (brw k (ban k) t) s) (e := re (brw k (ban k) t) (s + 1)) ⟨hb.1, hb.2.1⟩ ⟨hb1.2.2.1, hb1.2.2.2.1⟩]
    simp only [Option.bind_some]
    by_cases l1 : lack k (ban k) t (rf (brw k (ban k) t) s) (re (brw k (ban k) t) (s + 1)) = true
    · rw [if_pos l1]
      exact ev_neg (by decide) (ev_some (Or.inr (Or.inl ⟨c, l1, rfl⟩)))
    · rw [if_neg l1]
      refine ev_pos (by decide) ?_
      refine ev_then (c_setFramesC hr hs ⟨hb.1, hb.2.1⟩ ⟨hb1.2.2.1, hb1.2.2.2.1⟩) fun w1 ⟨r1, k1⟩ => ?_
      refine ev_then (c_delete r1 hN (p := s + 1) c) fun w2 ⟨r2, k2⟩ => ?_
      have hk := h.set hx ht r2 (k1.trans k2)
      have hq := c_many r2
      rw [c_lowestBereft hk hN (t := t) ht, hq]
      simp only [Option.bind_some]
      rcases ber_lim (k := bset k (ban k) t (delR (setR (brw k (ban k) t) s (rf (brw k (ban k) t) s) (re (brw k (ban k) t) (s + 1))) (s + 1))) hn t with hb9 | hb9
      · refine ev_pos (by rw [hb9]; decide) ?_
        exact ev_some (Or.inr (Or.inr ⟨c, by simpa using l1, w2, _, rfl, hk, k1.trans k2, Or.inl ⟨hb9, rfl⟩⟩))
      · refine ev_neg (by simp (disch := omega) only [z_0, z_1, z_2, z_3, z_4, z_5, z_6, z_7, z_8, z_9, z_10, z_12, z_13, z_16, z_20, z_24, z_30, z_31, z_32, z_38, z_42, z_44, z_45, z_47, z_48, z_49, z_50, z_57, z_58, z_59, z_60, z_61, z_91, z_97, z_98, z_100, z_108, z_114, z_120, z_122, z_126, z_127, z_128, z_200, z_255, z_961, z_990, z_992, z_998, z_999, z_1000, z_1092, z_1114, z_7798, z_10000, z_1000000, zI_neg, zI_add, zI_sub, zI_mul, zI_lt, zI_le, zI_eq, if_pos, if_neg, if_true, if_false, Option.bind_some, bnd, ldI_is, ldJ_is, Int.toNat_natCast,  Int.not_lt]; omega) ?_
        rw [show (4 : Int32) = zI 4 from rfl, c_refuse]
        exact ev_some (Or.inr (Or.inr ⟨c, by simpa using l1, w2, _, rfl, hk, k1.trans k2, Or.inr ⟨hb9.1, rfl⟩⟩))
  · refine ev_neg (by simp (disch := omega) only [z_0, z_1, z_2, z_3, z_4, z_5, z_6, z_7, z_8, z_9, z_10, z_12, z_13, z_16, z_20, z_24, z_30, z_31, z_32, z_38, z_42, z_44, z_45, z_47, z_48, z_49, z_50, z_57, z_58, z_59, z_60, z_61, z_91, z_97, z_98, z_100, z_108, z_114, z_120, z_122, z_126, z_127, z_128, z_200, z_255, z_961, z_990, z_992, z_998, z_999, z_1000, z_1092, z_1114, z_7798, z_10000, z_1000000, zI_neg, zI_add, zI_sub, zI_mul, zI_lt, zI_le, zI_eq, if_pos, if_neg, if_true, if_false, Option.bind_some, bnd, ldI_is, ldJ_is, Int.toNat_natCast,  Int.not_lt]; omega) (ev_some (Or.inl ⟨by omega, rfl⟩))
theorem c_dropOrphans_16 (hN : 40 ≤ N) (G : GBook k) {t : Nat} (ht : t < bn k) : ∀ (m i : Nat) (w : Wd) (r : Rw) (A : Int), CBook F w b (bset k (ban k) t r) → i ≤ rn r → i < m →
    Ev (fX1_dropOrphans_16 F N m w b (zI t) (ra b (ban k) t) (zI A) (zI ((i : Int) - 1))) fun x => x.1 = zI (A + (drp (lack k (ban k) t) i r).2) ∧ CBook F x.2 b (bset k (ban k) t (drp (lack k (ban k) t) i r).1) ∧ Kp (Rg (ra b (ban k) t) 4) w x.2 := by
  intro m
  induction m with
  | zero => intro i w r A _ _ h; omega
  | succ m ih =>
    intro i w r A h hi hm
    have hx := h.g.2.1
    have hx2 : ban k < 2 := hx
    have hr0 := h.row hx2 (t := t) ht
    have er : brw (bset k (ban k) t r) (ban k) t = r := by rw [brw_bset, if_pos ⟨rfl, rfl⟩]
    rw [er] at hr0
    have hlm := hr0.lim
    unfold fX1_dropOrphans_16 fX1_dropOrphans_54
    cases i with
    | zero => exact ev_pos (by decide) (ev_some ⟨by rw [show (drp (lack k (ban k) t) 0 r).2 = 0 from rfl, Int.add_zero], h, Kp.refl _⟩)
    | succ i =>
      have hi' : i < rn r := by omega
      have hb := hr0.at hi'
      have e0 : (((i + 1 : Nat) : Int) - 1) = (i : Int) := by omega
      have e1 : zI (i : Int) + (-1) = zI ((i : Int) - 1) := by rw [show (-1 : Int32) = zI (-1) from rfl, zI_add]; rfl
      rw [e0]
      refine ev_neg (by simp (disch := omega) only [z_0, z_1, z_2, z_3, z_4, z_5, z_6, z_7, z_8, z_9, z_10, z_12, z_13, z_16, z_20, z_24, z_30, z_31, z_32, z_38, z_42, z_44, z_45, z_47, z_48, z_49, z_50, z_57, z_58, z_59, z_60, z_61, z_91, z_97, z_98, z_100, z_108, z_114, z_120, z_122, z_126, z_127, z_128, z_200, z_255, z_961, z_990, z_992, z_998, z_999, z_1000, z_1092, z_1114, z_7798, z_10000, z_1000000, zI_neg, zI_add, zI_sub, zI_mul, zI_lt, zI_le, zI_eq, if_pos, if_neg, if_true, if_false, Option.bind_some, bnd, ldI_is, ldJ_is, Int.toNat_natCast,  Int.not_lt]; omega) ?_
      rw [c_first hr0 hi', c_end hr0 hi', c_ban h]
      simp only [Option.bind_some]
      have hlk := c_lacksHost h hN hx2 (t := t) ht (f := rf r i) (e := re r i) ⟨hb.1, hb.2.1⟩ ⟨hb.2.2.1, hb.2.2.2.1⟩
      rw [lack_bset G ht] at hlk
      rw [show ban (bset k (ban k) t r) = ban k from rfl, hlk]
      simp only [Option.bind_some, e1]
      have ed : drp (lack k (ban k) t) (i + 1) r = if lack k (ban k) t (rf r i) (re r i) = true then ((drp (lack k (ban k) t) i (delR r i)).1, (drp (lack k (ban k) t) i (delR r i)).2 + 1) else drp (lack k (ban k) t) i r := rfl
      rw [ed]
      by_cases c : lack k (ban k) t (rf r i) (re r i) = true
      · rw [if_pos c, if_pos c]
        refine ev_neg (by decide) ?_
        refine ev_then (c_delete hr0 hN hi') fun w1 ⟨r1, k1⟩ => ?_
        have h1 := h.set hx2 ht r1 k1
        rw [bset_bset] at h1
        rw [show zI A + 1 = zI (A + 1) from zI_add A 1]
        have hn1 : rn (delR r i) = rn r - 1 := rfl
        refine ev_mono (ih i w1 (delR r i) (A + 1) h1 (by omega) (by omega)) fun x ⟨x1, x2, x3⟩ => ⟨by rw [x1]; congr 1; show A + 1 + _ = A + (_ + 1); omega, x2, k1.trans x3⟩
      · rw [if_neg c, if_neg c]
        refine ev_pos (by decide) ?_
        exact ih i w r A h (by omega) (by omega)
theorem c_dropOrphans (h : CBook F w b k) (hN : 40 ≤ N) {t : Nat} (ht : t < bn k) : Ev (fX1_dropOrphans F N w b (zI t)) fun x => x.1 = zI (drpK k t).2 ∧ CBook F x.2 b (bset k (ban k) t (drpK k t).1) ∧ Kp (Rg (ra b (ban k) t) 4) w x.2 := by
  have hx := h.g.2.1
  have hr := h.row hx ht
  have hlm := hr.lim
  unfold fX1_dropOrphans
  rw [c_present h ht]
  simp only [Option.bind_some, h.ckRow hx ht, c_many hr, bnd, zI_sb1]
  have h9 := c_dropOrphans_16 (N := N) (F := F) (b := b) hN h.g ht N (rn (brw k (ban k) t)) w (brw k (ban k) t) 0 (by rw [bset_self]; exact h) (by omega) (by omega)
  refine ev_mono h9 fun x ⟨x1, x2, x3⟩ => ⟨by rw [x1, Int.zero_add]; rfl, x2, x3⟩
theorem c_dropSpan_16 (hN : 40 ≤ N) : ∀ (m n c : Nat) (w : Wd) (k : Bk) (A : Int), CBook F w b k → c + n = bn k → n < m →
    Ev (fX1_dropSpan_16 F N m w b (zI A) (zI c)) fun x => x.1 = zI (A + (drps n c k).2) ∧ CBook F x.2 b (drps n c k).1 ∧ Kp (Rg b 57) w x.2 := by
  intro m
  induction m with
  | zero => intro n c w k A _ _ h; omega
  | succ m ih =>
    intro n c w k A h hc hm
    have hn := h.g.1
    unfold fX1_dropSpan_16
    rw [c_bn h]
    cases n with
    | zero => exact ev_pos (by simp (disch := omega) only [z_0, z_1, z_2, z_3, z_4, z_5, z_6, z_7, z_8, z_9, z_10, z_12, z_13, z_16, z_20, z_24, z_30, z_31, z_32, z_38, z_42, z_44, z_45, z_47, z_48, z_49, z_50, z_57, z_58, z_59, z_60, z_61, z_91, z_97, z_98, z_100, z_108, z_114, z_120, z_122, z_126, z_127, z_128, z_200, z_255, z_961, z_990, z_992, z_998, z_999, z_1000, z_1092, z_1114, z_7798, z_10000, z_1000000, zI_neg, zI_add, zI_sub, zI_mul, zI_lt, zI_le, zI_eq, if_pos, if_neg, if_true, if_false, Option.bind_some, bnd, ldI_is, ldJ_is, Int.toNat_natCast, ]; omega) (ev_some ⟨by rw [show (drps 0 c k).2 = 0 from rfl, Int.add_zero], h, Kp.refl _⟩)
    | succ n =>
      refine ev_neg (by simp (disch := omega) only [z_0, z_1, z_2, z_3, z_4, z_5, z_6, z_7, z_8, z_9, z_10, z_12, z_13, z_16, z_20, z_24, z_30, z_31, z_32, z_38, z_42, z_44, z_45, z_47, z_48, z_49, z_50, z_57, z_58, z_59, z_60, z_61, z_91, z_97, z_98, z_100, z_108, z_114, z_120, z_122, z_126, z_127, z_128, z_200, z_255, z_961, z_990, z_992, z_998, z_999, z_1000, z_1092, z_1114, z_7798, z_10000, z_1000000, zI_neg, zI_add, zI_sub, zI_mul, zI_lt, zI_le, zI_eq, if_pos, if_neg, if_true, if_false, Option.bind_some, bnd, ldI_is, ldJ_is, Int.toNat_natCast,  Int.not_le]; omega) ?_
      refine ev_then (c_dropOrphans h hN (t := c) (by omega)) fun x ⟨x1, x2, x3⟩ => ?_
      rw [x1]
      simp only [bnd, zI_add, zI_succ]
      refine ev_mono (ih n (c + 1) x.2 _ (A + (drpK k c).2) x2 (by show c + 1 + n = bn k; omega) (by omega)) fun y ⟨y1, y2, y3⟩ => ⟨?_, y2, (x3.mono (ra_in h.g.2.1 (by omega))).trans y3⟩
      rw [y1]
      congr 1
      exact Int.add_assoc _ _ _
theorem c_dropSpan (h : CBook F w b k) (hN : 40 ≤ N) {t s : Nat} (ht : t < bn k) (hs : s < rn (brw k (ban k) t)) : Ev (fX1_dropSpan F N w b (zI t) (zI s)) fun x =>
    x.1 = zI (1 + (drps (bn k - (t + 1)) (t + 1) (bset k (ban k) t (delR (brw k (ban k) t) s))).2) ∧ CBook F x.2 b (drps (bn k - (t + 1)) (t + 1) (bset k (ban k) t (delR (brw k (ban k) t) s))).1 ∧ Kp (Rg b 57) w x.2 := by
  have hx := h.g.2.1
  have hn := h.g.1
  have hr := h.row hx ht
  unfold fX1_dropSpan
  rw [c_present h ht]
  simp only [Option.bind_some, h.ckRow hx ht]
  refine ev_then (c_delete hr hN hs) fun w1 ⟨r1, k1⟩ => ?_
  have h1 := h.set hx ht r1 k1
  simp only [bnd, zI_succ]
  refine ev_mono (c_dropSpan_16 (N := N) (F := F) (b := b) hN N (bn k - (t + 1)) (t + 1) w1 _ 1 h1 (by show t + 1 + (bn k - (t + 1)) = bn k; omega) (by omega)) fun x ⟨x1, x2, x3⟩ => ⟨x1, x2, (k1.mono (ra_in hx (by omega))).trans x3⟩
end CBOOK
