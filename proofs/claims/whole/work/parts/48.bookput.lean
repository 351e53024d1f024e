/-! what the class writes into its books -/
def bset (k : Bk) (x t : Nat) (r : Rw) : Bk := (bn k, bkd k, brl k, bpr k, (fun x' t' => if x' = x ∧ t' = t then r else brw k x' t'), ban k, bwi k, bga k)
theorem brw_bset (k : Bk) (x t : Nat) (r : Rw) (x' t' : Nat) : brw (bset k x t r) x' t' = if x' = x ∧ t' = t then r else brw k x' t' := rfl
def InsAt (r : Rw) (p : Nat) (f : Int) : Prop := p ≤ rn r ∧ (0 < p → rf r (p - 1) ≤ f) ∧ ∀ j, p ≤ j → j < rn r → f < rf r j
theorem InsAt.uniq {r : Rw} {p q : Nat} {f : Int} (h : InsAt r p f) (g : InsAt r q f) : p = q := by
  obtain ⟨h1, h2, h3⟩ := h
  obtain ⟨g1, g2, g3⟩ := g
  rcases Nat.lt_trichotomy p q with c | c | c
  · have := h3 (q - 1) (by omega) (by omega)
    have := g2 (by omega)
    omega
  · exact c
  · have := g3 (p - 1) (by omega) (by omega)
    have := h2 (by omega)
    omega
theorem Rg.sub {a n b m : Nat} (h1 : b ≤ a) (h2 : a + n ≤ b + m) : ∀ x, Rg a n x → Rg b m x := fun x h => ⟨by have := h.1; omega, by have := h.2; omega⟩
theorem ra_in {b x t : Nat} (hx : x < 2) (ht : t < 6) : ∀ y, Rg (ra b x t) 4 y → Rg b 57 y := Rg.sub (by unfold ra; omega) (by unfold ra; omega)
section CBOOK
variable {F : Fr} {N : Nat} {w w' : Wd} {a b : Nat} {r q : Rw} {k : Bk}
theorem CBook.set (h : CBook F w b k) {x t : Nat} (hx : x < 2) (ht : t < bn k) (hr : CRow F w' (ra b x t) r) (kp : Kp (Rg (ra b x t) 4) w w') : CBook F w' b (bset k x t r) := by
  obtain ⟨L, ⟨g1, g2, g3, g4, g5⟩, ⟨d1, d2, d3, d4, d5⟩, ⟨G1, G2, G3, G4, G5⟩⟩ := h
  have s0 : ¬ Rg (ra b x t) 4 b := by unfold Rg ra; omega
  have s1 : ¬ Rg (ra b x t) 4 (b + 1) := by unfold Rg ra; omega
  have s2 : ¬ Rg (ra b x t) 4 (b + 2) := by unfold Rg ra; omega
  have s3 : ¬ Rg (ra b x t) 4 (b + 3) := by unfold Rg ra; omega
  have s4 : ¬ Rg (ra b x t) 4 (b + 4) := by unfold Rg ra; omega
  refine ⟨L, ⟨?_, ?_, ?_, ?_, fun x' t' hx' ht' => ⟨?_, ?_⟩⟩, ⟨?_, ?_, ?_, ?_, fun t' ht' => ⟨?_, ?_, ?_, fun x' hx' => ?_⟩⟩, ⟨G1, G2, G3, G4, fun t' ht' => ?_⟩⟩
  · rw [kp.gR s0]; exact g1
  · rw [kp.gR s0]; exact g2
  · rw [kp.gR s0]; exact g3
  · rw [kp.gR s0]; exact g4
  · rw [kp.aR s4]; exact (g5 x' t' hx' ht').1
  · by_cases c : x' = x ∧ t' = t
    · obtain ⟨rfl, rfl⟩ := c; exact hr.2.1
    · exact (g5 x' t' hx' ht').2.keep kp (fun y h1 h2 h3 => by unfold Rg ra at h3; unfold ra at h1 h2; omega)
  · rw [kp.gI s0]; exact d1
  · rw [kp.gI s0]; exact d2
  · rw [kp.gI s0]; exact d3
  · rw [kp.gI s0]; exact d4
  · rw [kp.aI s1]; exact (d5 t' ht').1
  · rw [kp.aI s2]; exact (d5 t' ht').2.1
  · rw [kp.aI s3]; exact (d5 t' ht').2.2.1
  · rw [brw_bset]
    have ht'' : t' < bn k := ht'
    by_cases c : x' = x ∧ t' = t
    · rw [if_pos c]; obtain ⟨rfl, rfl⟩ := c; exact hr.2.2.1
    · rw [if_neg c]; exact ((d5 t' ht').2.2.2 x' hx').keep kp (fun y h1 h2 h3 => by unfold Rg ra at h3; unfold ra at h1 h2; omega)
  · obtain ⟨u1, u2, u3, u4, u5, u6⟩ := G5 t' ht'
    refine ⟨u1, u2, u3, u4, u5, fun x' hx' => ?_⟩
    rw [brw_bset]
    by_cases c : x' = x ∧ t' = t
    · rw [if_pos c]; exact hr.2.2.2
    · rw [if_neg c]; exact u6 x' hx'
theorem c_reset (h : CBook F w b k) : Ev (fX1_reset F N w b) fun w' => CBook F w' b (0, bkd k, brl k, bpr k, brw k, 0, 50, 20) ∧ Kp (Rg b 57) w w' := by
  obtain ⟨L, ⟨g1, g2, g3, g4, g5⟩, -, -⟩ := h
  unfold fX1_reset
  refine ev_bnd (ev_bnd (ev_bnd (ev_bnd (ev_some ⟨⟨L, ⟨g1, g2, g3, g4, g5⟩, ⟨?_, ?_, ?_, ?_, fun t ht => by cases ht⟩, ⟨Nat.zero_le _, Nat.zero_lt_succ _, ⟨show (0 : Int) ≤ 50 by decide, show (50 : Int) ≤ 200 by decide⟩, ⟨show (0 : Int) ≤ 20 by decide, show (20 : Int) ≤ 200 by decide⟩, fun t ht => by cases ht⟩⟩, ?_⟩))))
  · simp [q_gI_sI, q_gJ_sI, q_gR_sI, q_aI_sI, q_aJ_sI, q_aR_sI, q_aD_sI, q_gI_sJ, q_gJ_sJ, q_gR_sJ, q_aI_sJ, q_aJ_sJ, q_aR_sJ, q_aD_sJ, q_gI_sR, q_gJ_sR, q_gR_sR, q_aI_sR, q_aJ_sR, q_aR_sR, q_aD_sR, q_gI_sAI, q_gJ_sAI, q_gR_sAI, q_aI_sAI, q_aJ_sAI, q_aR_sAI, q_aD_sAI, q_gI_sAJ, q_gJ_sAJ, q_gR_sAJ, q_aI_sAJ, q_aJ_sAJ, q_aR_sAJ, q_aD_sAJ, q_gI_sAR, q_gJ_sAR, q_gR_sAR, q_aI_sAR, q_aJ_sAR, q_aR_sAR, q_aD_sAR, q_gI_sAD, q_gJ_sAD, q_gR_sAD, q_aI_sAD, q_aJ_sAD, q_aR_sAD, q_aD_sAD, z_0]; rfl
  · simp [q_gI_sI, q_gJ_sI, q_gR_sI, q_aI_sI, q_aJ_sI, q_aR_sI, q_aD_sI, q_gI_sJ, q_gJ_sJ, q_gR_sJ, q_aI_sJ, q_aJ_sJ, q_aR_sJ, q_aD_sJ, q_gI_sR, q_gJ_sR, q_gR_sR, q_aI_sR, q_aJ_sR, q_aR_sR, q_aD_sR, q_gI_sAI, q_gJ_sAI, q_gR_sAI, q_aI_sAI, q_aJ_sAI, q_aR_sAI, q_aD_sAI, q_gI_sAJ, q_gJ_sAJ, q_gR_sAJ, q_aI_sAJ, q_aJ_sAJ, q_aR_sAJ, q_aD_sAJ, q_gI_sAR, q_gJ_sAR, q_gR_sAR, q_aI_sAR, q_aJ_sAR, q_aR_sAR, q_aD_sAR, q_gI_sAD, q_gJ_sAD, q_gR_sAD, q_aI_sAD, q_aJ_sAD, q_aR_sAD, q_aD_sAD, z_0]; rfl
  · simp [q_gI_sI, q_gJ_sI, q_gR_sI, q_aI_sI, q_aJ_sI, q_aR_sI, q_aD_sI, q_gI_sJ, q_gJ_sJ, q_gR_sJ, q_aI_sJ, q_aJ_sJ, q_aR_sJ, q_aD_sJ, q_gI_sR, q_gJ_sR, q_gR_sR, q_aI_sR, q_aJ_sR, q_aR_sR, q_aD_sR, q_gI_sAI, q_gJ_sAI, q_gR_sAI, q_aI_sAI, q_aJ_sAI, q_aR_sAI, q_aD_sAI, q_gI_sAJ, q_gJ_sAJ, q_gR_sAJ, q_aI_sAJ, q_aJ_sAJ, q_aR_sAJ, q_aD_sAJ, q_gI_sAR, q_gJ_sAR, q_gR_sAR, q_aI_sAR, q_aJ_sAR, q_aR_sAR, q_aD_sAR, q_gI_sAD, q_gJ_sAD, q_gR_sAD, q_aI_sAD, q_aJ_sAD, q_aR_sAD, q_aD_sAD, z_50]; rfl
  · simp [q_gI_sI, q_gJ_sI, q_gR_sI, q_aI_sI, q_aJ_sI, q_aR_sI, q_aD_sI, q_gI_sJ, q_gJ_sJ, q_gR_sJ, q_aI_sJ, q_aJ_sJ, q_aR_sJ, q_aD_sJ, q_gI_sR, q_gJ_sR, q_gR_sR, q_aI_sR, q_aJ_sR, q_aR_sR, q_aD_sR, q_gI_sAI, q_gJ_sAI, q_gR_sAI, q_aI_sAI, q_aJ_sAI, q_aR_sAI, q_aD_sAI, q_gI_sAJ, q_gJ_sAJ, q_gR_sAJ, q_aI_sAJ, q_aJ_sAJ, q_aR_sAJ, q_aD_sAJ, q_gI_sAR, q_gJ_sAR, q_gR_sAR, q_aI_sAR, q_aJ_sAR, q_aR_sAR, q_aD_sAR, q_gI_sAD, q_gJ_sAD, q_gR_sAD, q_aI_sAD, q_aJ_sAD, q_aR_sAD, q_aD_sAD, z_20]; rfl
  · have hb : Rg b 57 b := by unfold Rg; omega
    exact (((kp_sI _ _ hb).trans (kp_sI _ _ hb)).trans (kp_sI _ _ hb)).trans (kp_sI _ _ hb)
theorem c_insertSpan (h : CBook F w b k) (hN : 40 ≤ N) {t : Nat} (ht : t < bn k) {f e : Int} (hf : -2147483648 ≤ f ∧ f < 2147483648) (he : -2147483648 ≤ e ∧ e < 2147483648) {l : List Nat} (hl : VL l) {z : Nat} :
    Ev (fX1_insertSpan F N w b (zI t) (zI f) (zI e) (cL l) z) fun x =>
      (¬ (tryR k t (-1) f e).1 = 0 ∧ x = (zI (-1), rfs w z (tryR k t (-1) f e).1 (tryR k t (-1) f e).2)) ∨
      ((tryR k t (-1) f e).1 = 0 ∧ 30 ≤ rn (brw k (ban k) t) ∧ x = (zI (-1), rfs w z 5 0)) ∨
      ((tryR k t (-1) f e).1 = 0 ∧ rn (brw k (ban k) t) < 30 ∧ ∃ p : Nat, x.1 = zI p ∧ InsAt (brw k (ban k) t) p f ∧ CBook F x.2 b (bset k (ban k) t (insR (brw k (ban k) t) p (f, e, l))) ∧ Kp (Rg (ra b (ban k) t) 4) w x.2) := by
  have hx := h.g.2.1
  have hr := h.row hx ht
  have hlm := hr.lim
  unfold fX1_insertSpan
  rw [show (-1 : Int32) = zI (-1) from rfl, c_tryFrames h hN ht (s := -1) (by omega) hf he]
  simp only [Option.bind_some]
  by_cases c : (tryR k t (-1) f e).1 = 0
  · rw [if_pos c]
    have hfe : ¬ (f < 0 ∨ 1000 < e ∨ e ≤ f) := by
      intro h9
      have et : tryR k t (-1) f e = (1, 0) := by unfold tryR; rw [if_pos h9]
      rw [et] at c
      exact absurd c (by decide)
    refine ev_pos (show (0 : Int32) ≤ zI 0 by decide) ?_
    show Ev ((fX1_present F N w b (zI t)).bind _) _
    rw [c_present h ht]
    simp only [Option.bind_some, h.ckRow hx ht, c_many hr]
    by_cases d : rn (brw k (ban k) t) < 30
    · refine ev_pos (by simp (disch := omega) only [z_0, z_1, z_2, z_3, z_4, z_5, z_6, z_7, z_8, z_9, z_10, z_12, z_13, z_16, z_20, z_24, z_30, z_31, z_32, z_38, z_42, z_44, z_45, z_47, z_48, z_49, z_50, z_57, z_58, z_59, z_60, z_61, z_91, z_97, z_98, z_100, z_108, z_114, z_120, z_122, z_126, z_127, z_128, z_200, z_255, z_961, z_990, z_992, z_998, z_999, z_1000, z_1092, z_1114, z_7798, z_10000, z_1000000, zI_neg, zI_add, zI_sub, zI_mul, zI_lt, zI_le, zI_eq, if_pos, if_neg, if_true, if_false, Option.bind_some, bnd, ldI_is, ldJ_is, Int.toNat_natCast, ]; omega) ?_
      refine ev_then (c_insert hr hN (by omega) (s := (f, e, l)) ⟨by show 0 ≤ f; omega, by show f ≤ 1000; omega⟩ ⟨by show 0 ≤ e; omega, by show e ≤ 1000; omega⟩ hl) fun x ⟨p, e2, e3, e4, e5, e6, e7⟩ => ?_
      exact ev_some (Or.inr (Or.inr ⟨c, d, p, e2, ⟨e3, e4, e5⟩, h.set hx ht e6 e7, e7⟩))
    · refine ev_neg (by simp (disch := omega) only [z_0, z_1, z_2, z_3, z_4, z_5, z_6, z_7, z_8, z_9, z_10, z_12, z_13, z_16, z_20, z_24, z_30, z_31, z_32, z_38, z_42, z_44, z_45, z_47, z_48, z_49, z_50, z_57, z_58, z_59, z_60, z_61, z_91, z_97, z_98, z_100, z_108, z_114, z_120, z_122, z_126, z_127, z_128, z_200, z_255, z_961, z_990, z_992, z_998, z_999, z_1000, z_1092, z_1114, z_7798, z_10000, z_1000000, zI_neg, zI_add, zI_sub, zI_mul, zI_lt, zI_le, zI_eq, if_pos, if_neg, if_true, if_false, Option.bind_some, bnd, ldI_is, ldJ_is, Int.toNat_natCast,  Int.not_lt]; omega) ?_
      exact ev_some (Or.inr (Or.inl ⟨c, by omega, rfl⟩))
  · rw [if_neg c]
    refine ev_neg (show ¬ (0 : Int32) ≤ zI (-1) by decide) ?_
    exact ev_some (Or.inl ⟨c, rfl⟩)
theorem c_shiftSpan (h : CBook F w b k) (hN : 40 ≤ N) {t s : Nat} (ht : t < bn k) (hs : s < rn (brw k (ban k) t)) {f e : Int} (hf : -2147483648 ≤ f ∧ f < 2147483648) (he : -2147483648 ≤ e ∧ e < 2147483648) {z : Nat} :
    Ev (fX1_shiftSpan F N w b (zI t) (zI s) (zI f) (zI e) z) fun x =>
      (¬ (tryR k t s f e).1 = 0 ∧ x = (zI (-1), rfs w z (tryR k t s f e).1 (tryR k t s f e).2)) ∨
      ((tryR k t s f e).1 = 0 ∧ ∃ (p : Nat) (w1 : Wd) (k1 : Bk), InsAt (delR (brw k (ban k) t) s) p f ∧ k1 = bset k (ban k) t (insR (delR (brw k (ban k) t) s) p (f, e, rl (brw k (ban k) t) s)) ∧ CBook F w1 b k1 ∧ Kp (Rg (ra b (ban k) t) 4) w w1 ∧
        ((ber k1 t = -1 ∧ x = (zI p, w1)) ∨ (0 ≤ ber k1 t ∧ x = (zI (-1), rfs w1 z 4 (ber k1 t))))) := by
  have hx := h.g.2.1
  have hr := h.row hx ht
  have hlm := hr.lim
  unfold fX1_shiftSpan
  rw [c_tryFrames h hN ht (s := s) (by omega) hf he]
  simp only [Option.bind_some]
  by_cases c : (tryR k t s f e).1 = 0
  · rw [if_pos c]
    have hfe : ¬ (f < 0 ∨ 1000 < e ∨ e ≤ f) := by
      intro h9
      have et : tryR k t s f e = (1, 0) := by unfold tryR; rw [if_pos h9]
      rw [et] at c
      exact absurd c (by decide)
    refine ev_pos (show (0 : Int32) ≤ zI 0 by decide) ?_
    show Ev ((fX1_present F N w b (zI t)).bind _) _
    rw [c_present h ht]
    simp only [Option.bind_some, h.ckRow hx ht, c_label hr hs]
    refine ev_then (c_delete hr hN hs) fun w1 ⟨r1, k1⟩ => ?_
    have hn1 : rn (delR (brw k (ban k) t) s) = rn (brw k (ban k) t) - 1 := rfl
    refine ev_then (c_insert r1 hN (by omega) (s := (f, e, rl (brw k (ban k) t) s)) ⟨by show 0 ≤ f; omega, by show f ≤ 1000; omega⟩ ⟨by show 0 ≤ e; omega, by show e ≤ 1000; omega⟩ (hr.at hs).2.2.2.2) fun x ⟨p, e2, e3, e4, e5, e6, e7⟩ => ?_
    have hk := h.set hx ht e6 (k1.trans e7)
    rw [c_lowestBereft hk hN (t := t) ht]
    simp only [Option.bind_some]
    have hb : ber (bset k (ban k) t (insR (delR (brw k (ban k) t) s) p (f, e, rl (brw k (ban k) t) s))) t = -1 ∨ (0 ≤ ber (bset k (ban k) t (insR (delR (brw k (ban k) t) s) p (f, e, rl (brw k (ban k) t) s))) t ∧ ber (bset k (ban k) t (insR (delR (brw k (ban k) t) s) p (f, e, rl (brw k (ban k) t) s))) t ≤ 100) := by
      have hn := h.g.1
      have hn2 : bn (bset k (ban k) t (insR (delR (brw k (ban k) t) s) p (f, e, rl (brw k (ban k) t) s))) = bn k := rfl
      unfold ber
      rcases fnd_cases (berP (bset k (ban k) t (insR (delR (brw k (ban k) t) s) p (f, e, rl (brw k (ban k) t) s))) t) (bn (bset k (ban k) t (insR (delR (brw k (ban k) t) s) p (f, e, rl (brw k (ban k) t) s))) - (t + 1)) (t + 1) with ⟨d, -⟩ | ⟨j, d, d2, d3, -⟩
      · exact Or.inl d
      · rw [d]; omega
    rcases hb with hb | hb
    · refine ev_pos (by rw [hb]; decide) ?_
      exact ev_some (Or.inr ⟨c, p, x.2, _, ⟨e3, e4, e5⟩, rfl, hk, k1.trans e7, Or.inl ⟨hb, by rw [e2]⟩⟩)
    · refine ev_neg (by simp (disch := omega) only [z_0, z_1, z_2, z_3, z_4, z_5, z_6, z_7, z_8, z_9, z_10, z_12, z_13, z_16, z_20, z_24, z_30, z_31, z_32, z_38, z_42, z_44, z_45, z_47, z_48, z_49, z_50, z_57, z_58, z_59, z_60, z_61, z_91, z_97, z_98, z_100, z_108, z_114, z_120, z_122, z_126, z_127, z_128, z_200, z_255, z_961, z_990, z_992, z_998, z_999, z_1000, z_1092, z_1114, z_7798, z_10000, z_1000000, zI_neg, zI_add, zI_sub, zI_mul, zI_lt, zI_le, zI_eq, if_pos, if_neg, if_true, if_false, Option.bind_some, bnd, ldI_is, ldJ_is, Int.toNat_natCast,  Int.not_lt]; omega) ?_
      rw [show (4 : Int32) = zI 4 from rfl, c_refuse]
      exact ev_some (Or.inr ⟨c, p, x.2, _, ⟨e3, e4, e5⟩, rfl, hk, k1.trans e7, Or.inr ⟨hb.1, rfl⟩⟩)
  · rw [if_neg c]
    refine ev_neg (show ¬ (0 : Int32) ≤ zI (-1) by decide) ?_
    exact ev_some (Or.inl ⟨c, rfl⟩)
end CBOOK
