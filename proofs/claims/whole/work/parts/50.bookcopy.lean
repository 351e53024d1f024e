/-! a tier is added; a book is copied -/
def emR : Rw := (0, fun _ => 0, fun _ => 0, fun _ => [])
def addT (k : Bk) (u v p : Int) : Bk := (bn k + 1, (fun j => if j = bn k then u else bkd k j), (fun j => if j = bn k then v else brl k j), (fun j => if j = bn k then p else bpr k j), (fun x t => if t = bn k then emR else brw k x t), ban k, bwi k, bga k)
def DPart (w : Wd) (b : Nat) (k : Bk) (i : Nat) : Prop := gI w 105 b = zI (bn k) ∧ gI w 106 b = zI (ban k) ∧ gI w 107 b = zI (bwi k) ∧ gI w 108 b = zI (bga k) ∧ ∀ t, t < i → aI w (b + 1) t = zI (bkd k t) ∧ aI w (b + 2) t = zI (brl k t) ∧ aI w (b + 3) t = zI (bpr k t) ∧ ∀ x, x < 2 → DRow w (ra b x t) (brw k x t)
theorem WBook.kp {S : Nat → Prop} {w w' : Wd} {b : Nat} (h : WBook w b) (k : Kp S w w') (s0 : ¬ S b) (s4 : ¬ S (b + 4)) (hs : ∀ x t, x < 2 → t < 6 → ∀ y, ra b x t ≤ y → y < ra b x t + 4 → ¬ S y) : WBook w' b := by
  obtain ⟨g1, g2, g3, g4, g5⟩ := h
  refine ⟨?_, ?_, ?_, ?_, fun x t hx ht => ⟨?_, (g5 x t hx ht).2.keep k (hs x t hx ht)⟩⟩
  · rw [k.gR s0]; exact g1
  · rw [k.gR s0]; exact g2
  · rw [k.gR s0]; exact g3
  · rw [k.gR s0]; exact g4
  · rw [k.aR s4]; exact (g5 x t hx ht).1
theorem WBook.set {w w' : Wd} {b x t : Nat} (h : WBook w b) (k : Kp (Rg (ra b x t) 4) w w') (hr : WRow w' (ra b x t)) : WBook w' b := by
  obtain ⟨g1, g2, g3, g4, g5⟩ := h
  have s0 : ¬ Rg (ra b x t) 4 b := by unfold Rg ra; omega
  have s4 : ¬ Rg (ra b x t) 4 (b + 4) := by unfold Rg ra; omega
  refine ⟨?_, ?_, ?_, ?_, fun x' t' hx ht => ⟨?_, ?_⟩⟩
  · rw [k.gR s0]; exact g1
  · rw [k.gR s0]; exact g2
  · rw [k.gR s0]; exact g3
  · rw [k.gR s0]; exact g4
  · rw [k.aR s4]; exact (g5 x' t' hx ht).1
  · by_cases c : 6 * x' + t' = 6 * x + t
    · have e : ra b x' t' = ra b x t := by unfold ra; omega
      rw [e]; exact hr
    · exact (g5 x' t' hx ht).2.keep k (fun y h1 h2 h3 => by unfold Rg ra at h3; unfold ra at h1 h2; omega)
section CBOOK
variable {F : Fr} {N : Nat} {w w' : Wd} {a b : Nat} {r q : Rw} {k : Bk}
theorem c_setTier (L : LBook F b) (W : WBook w b) {t : Nat} (ht : t < 6) (x y z : Int32) : Ev (fX1_setTier F N w b (zI t) x y z) fun w' =>
    Kp (fun q => q = b + 1 ∨ q = b + 2 ∨ q = b + 3) w w' ∧ (∀ j, aI w' (b + 1) j = if j = t then x else aI w (b + 1) j) ∧ (∀ j, aI w' (b + 2) j = if j = t then y else aI w (b + 2) j) ∧ ∀ j, aI w' (b + 3) j = if j = t then z else aI w (b + 3) j := by
  obtain ⟨o0, o1, o2, o3, o4, l1, l2, l3, l4, oR⟩ := L
  obtain ⟨g1, g2, g3, g4, g5⟩ := W
  unfold fX1_setTier
  refine ev_neg (by simp (disch := omega) only [z_0, z_1, z_2, z_3, z_4, z_5, z_6, z_7, z_8, z_9, z_10, z_12, z_13, z_16, z_20, z_24, z_30, z_31, z_32, z_38, z_42, z_44, z_45, z_47, z_48, z_49, z_50, z_57, z_58, z_59, z_60, z_61, z_91, z_97, z_98, z_100, z_108, z_114, z_120, z_122, z_126, z_127, z_128, z_200, z_255, z_961, z_990, z_992, z_998, z_999, z_1000, z_1092, z_1114, z_7798, z_10000, z_1000000, zI_neg, zI_add, zI_sub, zI_mul, zI_lt, zI_le, zI_eq, if_pos, if_neg, if_true, if_false, Option.bind_some, bnd, ldI_is, ldJ_is, Int.toNat_natCast,  Int.not_lt]; omega) (ev_neg (by simp (disch := omega) only [z_0, z_1, z_2, z_3, z_4, z_5, z_6, z_7, z_8, z_9, z_10, z_12, z_13, z_16, z_20, z_24, z_30, z_31, z_32, z_38, z_42, z_44, z_45, z_47, z_48, z_49, z_50, z_57, z_58, z_59, z_60, z_61, z_91, z_97, z_98, z_100, z_108, z_114, z_120, z_122, z_126, z_127, z_128, z_200, z_255, z_961, z_990, z_992, z_998, z_999, z_1000, z_1092, z_1114, z_7798, z_10000, z_1000000, zI_neg, zI_add, zI_sub, zI_mul, zI_lt, zI_le, zI_eq, if_pos, if_neg, if_true, if_false, Option.bind_some, bnd, ldI_is, ldJ_is, Int.toNat_natCast,  Int.not_le]; omega) ?_)
  refine ev_rdR g1 o1 (ev_eq (stI_is (by omega) (by omega) (by omega)) ?_)
  refine ev_rdR g2 o2 (ev_eq (stI_is (by omega) (by omega) (by omega)) ?_)
  refine ev_rdR g3 o3 (ev_eq (stI_is (by omega) (by omega) (by omega)) ?_)
  refine ev_some ⟨((kp_sAI _ _ (Or.inl rfl)).trans (kp_sAI _ _ (Or.inr (Or.inl rfl)))).trans (kp_sAI _ _ (Or.inr (Or.inr rfl))), fun j => ?_, fun j => ?_, fun j => ?_⟩
  · simp (disch := omega) only [q_gI_sI, q_gJ_sI, q_gR_sI, q_aI_sI, q_aJ_sI, q_aR_sI, q_aD_sI, q_gI_sJ, q_gJ_sJ, q_gR_sJ, q_aI_sJ, q_aJ_sJ, q_aR_sJ, q_aD_sJ, q_gI_sR, q_gJ_sR, q_gR_sR, q_aI_sR, q_aJ_sR, q_aR_sR, q_aD_sR, q_gI_sAI, q_gJ_sAI, q_gR_sAI, q_aI_sAI, q_aJ_sAI, q_aR_sAI, q_aD_sAI, q_gI_sAJ, q_gJ_sAJ, q_gR_sAJ, q_aI_sAJ, q_aJ_sAJ, q_aR_sAJ, q_aD_sAJ, q_gI_sAR, q_gJ_sAR, q_gR_sAR, q_aI_sAR, q_aJ_sAR, q_aR_sAR, q_aD_sAR, q_gI_sAD, q_gJ_sAD, q_gR_sAD, q_aI_sAD, q_aJ_sAD, q_aR_sAD, q_aD_sAD, upd_is, if_pos, if_neg, if_true, Int.toNat_natCast]
  · simp (disch := omega) only [q_gI_sI, q_gJ_sI, q_gR_sI, q_aI_sI, q_aJ_sI, q_aR_sI, q_aD_sI, q_gI_sJ, q_gJ_sJ, q_gR_sJ, q_aI_sJ, q_aJ_sJ, q_aR_sJ, q_aD_sJ, q_gI_sR, q_gJ_sR, q_gR_sR, q_aI_sR, q_aJ_sR, q_aR_sR, q_aD_sR, q_gI_sAI, q_gJ_sAI, q_gR_sAI, q_aI_sAI, q_aJ_sAI, q_aR_sAI, q_aD_sAI, q_gI_sAJ, q_gJ_sAJ, q_gR_sAJ, q_aI_sAJ, q_aJ_sAJ, q_aR_sAJ, q_aD_sAJ, q_gI_sAR, q_gJ_sAR, q_gR_sAR, q_aI_sAR, q_aJ_sAR, q_aR_sAR, q_aD_sAR, q_gI_sAD, q_gJ_sAD, q_gR_sAD, q_aI_sAD, q_aJ_sAD, q_aR_sAD, q_aD_sAD, upd_is, if_pos, if_neg, if_true, Int.toNat_natCast]
  · simp (disch := omega) only [q_gI_sI, q_gJ_sI, q_gR_sI, q_aI_sI, q_aJ_sI, q_aR_sI, q_aD_sI, q_gI_sJ, q_gJ_sJ, q_gR_sJ, q_aI_sJ, q_aJ_sJ, q_aR_sJ, q_aD_sJ, q_gI_sR, q_gJ_sR, q_gR_sR, q_aI_sR, q_aJ_sR, q_aR_sR, q_aD_sR, q_gI_sAI, q_gJ_sAI, q_gR_sAI, q_aI_sAI, q_aJ_sAI, q_aR_sAI, q_aD_sAI, q_gI_sAJ, q_gJ_sAJ, q_gR_sAJ, q_aI_sAJ, q_aJ_sAJ, q_aR_sAJ, q_aD_sAJ, q_gI_sAR, q_gJ_sAR, q_gR_sAR, q_aI_sAR, q_aJ_sAR, q_aR_sAR, q_aD_sAR, q_gI_sAD, q_gJ_sAD, q_gR_sAD, q_aI_sAD, q_aJ_sAD, q_aR_sAD, q_aD_sAD, upd_is, if_pos, if_neg, if_true, Int.toNat_natCast]
theorem c_putTier (h : CBook F w b k) (hb : bn k < 6) {u v p : Int} (hu : 0 ≤ u ∧ u ≤ 3) (hv : 0 ≤ v ∧ v ≤ 3) (hp : v ≠ 0 → 0 ≤ p ∧ p < bn k) :
    Ev (fX1_putTier F N w b (zI u) (zI v) (zI p)) fun x => x.1 = zI (bn k) ∧ CBook F x.2 b (addT k u v (if v = 0 then -1 else p)) ∧ Kp (Rg b 57) w x.2 := by
  obtain ⟨L, W, D, G⟩ := h
  have key : ∀ p : Int, (-1 ≤ p ∧ p < bn k) → (v = 0 → p = -1) → (v ≠ 0 → 0 ≤ p) → Ev (fX1_putTier_20 F N w b (zI (bn k)) b (zI (bn k)) (zI u) (zI v) (zI p)) fun x => x.1 = zI (bn k) ∧ CBook F x.2 b (addT k u v p) ∧ Kp (Rg b 57) w x.2 := by
    intro p hp1 hp2 hp3
    unfold fX1_putTier_20
    refine ev_then (c_setTier L W hb _ _ _) fun w1 ⟨k1, a1, a2, a3⟩ => ?_
    have W1 : WBook w1 b := W.kp k1 (by omega) (by omega) (fun x t hx ht y h1 h2 => by unfold ra at h1 h2; omega)
    have q0 := c_rowW (N := N) L W1 (x := 0) (by omega) hb
    rw [show (0 : Int32) = zI ((0 : Nat) : Int) from rfl, q0]
    simp only [Option.bind_some, bnd, ckF_is (L.2.2.2.2.2.2.2.2.2 0 (bn k) (by omega) hb).1]
    have k2 : Kp (Rg (ra b 0 (bn k)) 4) w1 (sI w1 703 (ra b 0 (bn k)) (zI ((0 : Nat) : Int))) := kp_sI _ _ (by unfold Rg; omega)
    have W2 : WBook (sI w1 703 (ra b 0 (bn k)) (zI ((0 : Nat) : Int))) b := W1.set k2 (W1.2.2.2.2 0 (bn k) (by omega) hb).2
    have q1 := c_rowW (N := N) L W2 (x := 1) (by omega) hb
    rw [show (1 : Int32) = zI ((1 : Nat) : Int) from rfl, q1]
    simp only [Option.bind_some, ckF_is (L.2.2.2.2.2.2.2.2.2 1 (bn k) (by omega) hb).1]
    generalize hw2 : sI w1 703 (ra b 0 (bn k)) (zI ((0 : Nat) : Int)) = w2 at k2 W2
    have k3 : Kp (Rg (ra b 1 (bn k)) 4) w2 (sI w2 703 (ra b 1 (bn k)) (zI ((0 : Nat) : Int))) := kp_sI _ _ (by unfold Rg; omega)
    have W3 : WBook (sI w2 703 (ra b 1 (bn k)) (zI ((0 : Nat) : Int))) b := W2.set k3 (W2.2.2.2.2 1 (bn k) (by omega) hb).2
    have z0 : gI w2 703 (ra b 0 (bn k)) = zI 0 := by rw [← hw2, q_gI_sI, if_pos ⟨rfl, rfl⟩]; rfl
    generalize hw3 : sI w2 703 (ra b 1 (bn k)) (zI ((0 : Nat) : Int)) = w3 at k3 W3
    have z1 : gI w3 703 (ra b 1 (bn k)) = zI 0 := by rw [← hw3, q_gI_sI, if_pos ⟨rfl, rfl⟩]; rfl
    have z0 : gI w3 703 (ra b 0 (bn k)) = zI 0 := by rw [k3.gI (by unfold Rg ra; omega)]; exact z0
    have k13 : Kp (fun q => q = b + 1 ∨ q = b + 2 ∨ q = b + 3 ∨ Rg (ra b 0 (bn k)) 4 q ∨ Rg (ra b 1 (bn k)) 4 q) w w3 :=
      ((k1.mono (fun q hq => by omega)).trans (k2.mono (fun q hq => Or.inr (Or.inr (Or.inr (Or.inl hq)))))).trans (k3.mono (fun q hq => Or.inr (Or.inr (Or.inr (Or.inr hq)))))
    obtain ⟨d1, d2, d3, d4, d5⟩ := D
    have sb : ¬ (b = b + 1 ∨ b = b + 2 ∨ b = b + 3 ∨ Rg (ra b 0 (bn k)) 4 b ∨ Rg (ra b 1 (bn k)) 4 b) := by unfold Rg ra; omega
    have e105 : gI w3 105 b = zI (bn k) := by rw [k13.gI sb]; exact d1
    have k4 : Kp (fun q => q = b) w3 (sI w3 105 b (zI (bn k) + zI ((1 : Nat) : Int))) := kp_sI (S := fun q => q = b) _ _ rfl
    have k23 : Kp (fun q => Rg (ra b 0 (bn k)) 4 q ∨ Rg (ra b 1 (bn k)) 4 q) w1 w3 := (k2.mono fun q hq => Or.inl hq).trans (k3.mono fun q hq => Or.inr hq)
    have u1 : ¬ (Rg (ra b 0 (bn k)) 4 (b + 1) ∨ Rg (ra b 1 (bn k)) 4 (b + 1)) := by unfold Rg ra; omega
    have u2 : ¬ (Rg (ra b 0 (bn k)) 4 (b + 2) ∨ Rg (ra b 1 (bn k)) 4 (b + 2)) := by unfold Rg ra; omega
    have u3 : ¬ (Rg (ra b 0 (bn k)) 4 (b + 3) ∨ Rg (ra b 1 (bn k)) 4 (b + 3)) := by unfold Rg ra; omega
    rw [e105]
    refine ev_some ⟨rfl, ⟨L, W3, ⟨?_, ?_, ?_, ?_, fun t ht => ⟨?_, ?_, ?_, fun x hx => ?_⟩⟩, ?_⟩, ?_⟩
    · rw [q_gI_sI, if_pos ⟨rfl, rfl⟩]
      exact zI_succ (bn k)
    · rw [q_gI_sI, if_neg (by omega), k13.gI sb]; exact d2
    · rw [q_gI_sI, if_neg (by omega), k13.gI sb]; exact d3
    · rw [q_gI_sI, if_neg (by omega), k13.gI sb]; exact d4
    · rw [q_aI_sI, k23.aI u1, a1]
      show _ = zI (if t = bn k then u else bkd k t)
      by_cases e : t = bn k
      · rw [if_pos e, if_pos e]
      · rw [if_neg e, if_neg e]
        have ht : t < bn k + 1 := ht
        exact (d5 t (by omega)).1
    · rw [q_aI_sI, k23.aI u2, a2]
      show _ = zI (if t = bn k then v else brl k t)
      by_cases e : t = bn k
      · rw [if_pos e, if_pos e]
      · rw [if_neg e, if_neg e]
        have ht : t < bn k + 1 := ht
        exact (d5 t (by omega)).2.1
    · rw [q_aI_sI, k23.aI u3, a3]
      show _ = zI (if t = bn k then p else bpr k t)
      by_cases e : t = bn k
      · rw [if_pos e, if_pos e]
      · rw [if_neg e, if_neg e]
        have ht : t < bn k + 1 := ht
        exact (d5 t (by omega)).2.2.1
    · show DRow _ _ (if t = bn k then emR else brw k x t)
      have ht : t < bn k + 1 := ht
      by_cases e : t = bn k
      · rw [if_pos e]
        subst e
        refine ⟨?_, fun i hi => by cases hi⟩
        have hx2 : x = 0 ∨ x = 1 := by omega
        rcases hx2 with rfl | rfl
        · rw [q_gI_sI, if_neg (by omega)]; exact z0
        · rw [q_gI_sI, if_neg (by omega)]; exact z1
      · rw [if_neg e]
        exact ((((d5 t (by omega)).2.2.2 x hx).keep k1 (fun y h1 h2 => by unfold ra at h1 h2; omega)).keep k23 (fun y h1 h2 h3 => by unfold Rg ra at h3; unfold ra at h1 h2; omega)).keep k4 (fun y h1 h2 => by unfold ra at h1 h2; omega)
    · obtain ⟨G1, G2, G3, G4, G5⟩ := G
      refine ⟨by show bn k + 1 ≤ 6; omega, G2, G3, G4, fun t ht => ?_⟩
      have ht : t < bn k + 1 := ht
      show (0 ≤ (if t = bn k then u else bkd k t) ∧ (if t = bn k then u else bkd k t) ≤ 3) ∧ (0 ≤ (if t = bn k then v else brl k t) ∧ (if t = bn k then v else brl k t) ≤ 3) ∧ (-1 ≤ (if t = bn k then p else bpr k t) ∧ (if t = bn k then p else bpr k t) < t) ∧ ((if t = bn k then v else brl k t) = 0 → (if t = bn k then p else bpr k t) = -1) ∧ ((if t = bn k then v else brl k t) ≠ 0 → 0 ≤ (if t = bn k then p else bpr k t)) ∧ ∀ x, x < 2 → GRow (if t = bn k then emR else brw k x t)
      by_cases e : t = bn k
      · simp only [if_pos e]
        exact ⟨hu, hv, ⟨hp1.1, by omega⟩, hp2, hp3, fun x hx => ⟨by decide, fun i hi => by cases hi⟩⟩
      · simp only [if_neg e]
        exact G5 t (by omega)
    · exact ((k1.mono fun q hq => by unfold Rg; omega).trans (k23.mono fun q hq => by unfold Rg ra at hq; unfold Rg; omega)).trans (k4.mono fun q hq => by unfold Rg; omega)
  unfold fX1_putTier
  rw [D.1]
  refine ev_bnd ?_
  by_cases c : v = 0
  · rw [if_pos c]
    refine ev_pos (by rw [c]; decide) ?_
    rw [show (-1 : Int32) = zI (-1) from rfl]
    exact key (-1) (by omega) (fun _ => rfl) (fun h => absurd c h)
  · rw [if_neg c]
    have := hp c
    refine ev_neg (by simp (disch := omega) only [z_0, z_1, z_2, z_3, z_4, z_5, z_6, z_7, z_8, z_9, z_10, z_12, z_13, z_16, z_20, z_24, z_30, z_31, z_32, z_38, z_42, z_44, z_45, z_47, z_48, z_49, z_50, z_57, z_58, z_59, z_60, z_61, z_91, z_97, z_98, z_100, z_108, z_114, z_120, z_122, z_126, z_127, z_128, z_200, z_255, z_961, z_990, z_992, z_998, z_999, z_1000, z_1092, z_1114, z_7798, z_10000, z_1000000, zI_neg, zI_add, zI_sub, zI_mul, zI_lt, zI_le, zI_eq, if_pos, if_neg, if_true, if_false, Option.bind_some, bnd, ldI_is, ldJ_is, Int.toNat_natCast,  c, not_false_eq_true]) ?_
    exact key p (by omega) (fun h => absurd h c) (fun h => by omega)
theorem c_copyBook_34 {c : Nat} (hd : b + 57 ≤ c ∨ c + 57 ≤ b) (L : LBook F b) : ∀ (m n i : Nat) (w : Wd), WBook w b → CBook F w c k → DPart w b k i → i + n = bn k → n < m →
    Ev (fX1_copyFrom_34 F N m w b c (zI i)) fun w' => CBook F w' b k ∧ Kp (Rg b 57) w w' := by
  intro m
  induction m with
  | zero => intro n i w _ _ _ _ h; omega
  | succ m ih =>
    intro n i w W h D hi hm
    have hn := h.g.1
    unfold fX1_copyFrom_34
    rw [D.1]
    cases n with
    | zero =>
      have e : i = bn k := by omega
      subst e
      exact ev_pos (by simp (disch := omega) only [z_0, z_1, z_2, z_3, z_4, z_5, z_6, z_7, z_8, z_9, z_10, z_12, z_13, z_16, z_20, z_24, z_30, z_31, z_32, z_38, z_42, z_44, z_45, z_47, z_48, z_49, z_50, z_57, z_58, z_59, z_60, z_61, z_91, z_97, z_98, z_100, z_108, z_114, z_120, z_122, z_126, z_127, z_128, z_200, z_255, z_961, z_990, z_992, z_998, z_999, z_1000, z_1092, z_1114, z_7798, z_10000, z_1000000, zI_neg, zI_add, zI_sub, zI_mul, zI_lt, zI_le, zI_eq, if_pos, if_neg, if_true, if_false, Option.bind_some, bnd, ldI_is, ldJ_is, Int.toNat_natCast, ]; omega) (ev_some ⟨⟨L, W, D, h.g⟩, Kp.refl _⟩)
    | succ n =>
      have hib : i < bn k := by omega
      have hi6 : i < 6 := by omega
      refine ev_neg (by simp (disch := omega) only [z_0, z_1, z_2, z_3, z_4, z_5, z_6, z_7, z_8, z_9, z_10, z_12, z_13, z_16, z_20, z_24, z_30, z_31, z_32, z_38, z_42, z_44, z_45, z_47, z_48, z_49, z_50, z_57, z_58, z_59, z_60, z_61, z_91, z_97, z_98, z_100, z_108, z_114, z_120, z_122, z_126, z_127, z_128, z_200, z_255, z_961, z_990, z_992, z_998, z_999, z_1000, z_1092, z_1114, z_7798, z_10000, z_1000000, zI_neg, zI_add, zI_sub, zI_mul, zI_lt, zI_le, zI_eq, if_pos, if_neg, if_true, if_false, Option.bind_some, bnd, ldI_is, ldJ_is, Int.toNat_natCast,  Int.not_le]; omega) ?_
      rw [c_kindOf h hib, c_ruleOf h hib, c_parentOf h hib]
      simp only [Option.bind_some]
      refine ev_then (c_setTier L W hi6 _ _ _) fun w1 ⟨k1, a1, a2, a3⟩ => ?_
      have W1 : WBook w1 b := W.kp k1 (by omega) (by omega) (fun x t hx ht y h1 h2 => by unfold ra at h1 h2; omega)
      have h1 : CBook F w1 c k := h.keep k1 (fun y h1 h2 => by omega)
      have oR := L.2.2.2.2.2.2.2.2.2
      rw [show (0 : Int32) = zI ((0 : Nat) : Int) from rfl, c_rowW L W1 (x := 0) (by omega) hi6, c_row h1 (x := 0) (by omega) hib]
      simp only [Option.bind_some, ckF_is (oR 0 i (by omega) hi6).1, h1.ckRow (show 0 < 2 by omega) hib]
      refine ev_then (c_copyRow (oR 0 i (by omega) hi6) (W1.2.2.2.2 0 i (by omega) hi6).2 (h1.row (show 0 < 2 by omega) hib) (by unfold ra; omega)) fun w2 ⟨r2, k2⟩ => ?_
      have W2 : WBook w2 b := W1.set k2 r2.2.1
      have h2 : CBook F w2 c k := h1.keep k2 (fun y h1 h2 h3 => by unfold Rg ra at h3; omega)
      rw [show (1 : Int32) = zI ((1 : Nat) : Int) from rfl, c_rowW L W2 (x := 1) (by omega) hi6, c_row h2 (x := 1) (by omega) hib]
      simp only [Option.bind_some, ckF_is (oR 1 i (by omega) hi6).1, h2.ckRow (show 1 < 2 by omega) hib]
      refine ev_then (c_copyRow (oR 1 i (by omega) hi6) (W2.2.2.2.2 1 i (by omega) hi6).2 (h2.row (show 1 < 2 by omega) hib) (by unfold ra; omega)) fun w3 ⟨r3, k3⟩ => ?_
      have W3 : WBook w3 b := W2.set k3 r3.2.1
      have h3 : CBook F w3 c k := h2.keep k3 (fun y h1 h2 h3 => by unfold Rg ra at h3; omega)
      have k23 : Kp (fun q => Rg (ra b 0 i) 4 q ∨ Rg (ra b 1 i) 4 q) w1 w3 := (k2.mono fun q hq => Or.inl hq).trans (k3.mono fun q hq => Or.inr hq)
      have k13 : Kp (Rg b 57) w w3 := (k1.mono fun q hq => by unfold Rg; omega).trans (k23.mono fun q hq => by unfold Rg ra at hq; unfold Rg; omega)
      obtain ⟨d1, d2, d3, d4, d5⟩ := D
      have s0 : ¬ (b = b + 1 ∨ b = b + 2 ∨ b = b + 3) := by omega
      have u0 : ¬ (Rg (ra b 0 i) 4 b ∨ Rg (ra b 1 i) 4 b) := by unfold Rg ra; omega
      have u1 : ¬ (Rg (ra b 0 i) 4 (b + 1) ∨ Rg (ra b 1 i) 4 (b + 1)) := by unfold Rg ra; omega
      have u2 : ¬ (Rg (ra b 0 i) 4 (b + 2) ∨ Rg (ra b 1 i) 4 (b + 2)) := by unfold Rg ra; omega
      have u3 : ¬ (Rg (ra b 0 i) 4 (b + 3) ∨ Rg (ra b 1 i) 4 (b + 3)) := by unfold Rg ra; omega
      have D3 : DPart w3 b k (i + 1) := by
        refine ⟨?_, ?_, ?_, ?_, fun t ht => ⟨?_, ?_, ?_, fun x hx => ?_⟩⟩
        · rw [k23.gI u0, k1.gI s0]; exact d1
        · rw [k23.gI u0, k1.gI s0]; exact d2
        · rw [k23.gI u0, k1.gI s0]; exact d3
        · rw [k23.gI u0, k1.gI s0]; exact d4
        · rw [k23.aI u1, a1]
          by_cases e : t = i
          · rw [if_pos e, e]
          · rw [if_neg e]; exact (d5 t (by omega)).1
        · rw [k23.aI u2, a2]
          by_cases e : t = i
          · rw [if_pos e, e]
          · rw [if_neg e]; exact (d5 t (by omega)).2.1
        · rw [k23.aI u3, a3]
          by_cases e : t = i
          · rw [if_pos e, e]
          · rw [if_neg e]; exact (d5 t (by omega)).2.2.1
        · by_cases e : t = i
          · subst e
            have hx2 : x = 0 ∨ x = 1 := by omega
            rcases hx2 with rfl | rfl
            · exact (r2.keep k3 (fun y h1 h2 h3 => by unfold Rg ra at h3; unfold ra at h1 h2; omega)).2.2.1
            · exact r3.2.2.1
          · exact (((d5 t (by omega)).2.2.2 x hx).keep k1 (fun y h1 h2 => by unfold ra at h1 h2; omega)).keep k23 (fun y h1 h2 h3 => by unfold Rg ra at h3; unfold ra at h1 h2; omega)
      rw [show zI (i : Int) + zI ((1 : Nat) : Int) = zI ((i + 1 : Nat) : Int) from zI_succ i]
      exact ev_mono (ih n (i + 1) w3 W3 h3 D3 (by omega) (by omega)) fun x ⟨x1, x2⟩ => ⟨x1, k13.trans x2⟩
theorem c_copyBook {c : Nat} (hd : b + 57 ≤ c ∨ c + 57 ≤ b) (hN : 40 ≤ N) (L : LBook F b) (W : WBook w b) (h : CBook F w c k) : Ev (fX1_copyFrom F N w b c) fun w' => CBook F w' b k ∧ Kp (Rg b 57) w w' := by
  have hn := h.g.1
  obtain ⟨d1, d2, d3, d4, d5⟩ := id h.2.2.1
  unfold fX1_copyFrom
  simp only [bnd, q_gI_sI, q_gJ_sI, q_gR_sI, q_aI_sI, q_aJ_sI, q_aR_sI, q_aD_sI, q_gI_sJ, q_gJ_sJ, q_gR_sJ, q_aI_sJ, q_aJ_sJ, q_aR_sJ, q_aD_sJ, q_gI_sR, q_gJ_sR, q_gR_sR, q_aI_sR, q_aJ_sR, q_aR_sR, q_aD_sR, q_gI_sAI, q_gJ_sAI, q_gR_sAI, q_aI_sAI, q_aJ_sAI, q_aR_sAI, q_aD_sAI, q_gI_sAJ, q_gJ_sAJ, q_gR_sAJ, q_aI_sAJ, q_aJ_sAJ, q_aR_sAJ, q_aD_sAJ, q_gI_sAR, q_gJ_sAR, q_gR_sAR, q_aI_sAR, q_aJ_sAR, q_aR_sAR, q_aD_sAR, q_gI_sAD, q_gJ_sAD, q_gR_sAD, q_aI_sAD, q_aJ_sAD, q_aR_sAD, q_aD_sAD]
  simp (disch := omega) only [if_neg, d1, d2, d3, d4]
  have kk : Kp (fun q => q = b) w (sI (sI (sI (sI w 105 b (zI (bn k))) 106 b (zI (ban k))) 107 b (zI (bwi k))) 108 b (zI (bga k))) := (((kp_sI (S := fun q => q = b) _ _ rfl).trans (kp_sI (S := fun q => q = b) _ _ rfl)).trans (kp_sI (S := fun q => q = b) _ _ rfl)).trans (kp_sI (S := fun q => q = b) _ _ rfl)
  refine ev_mono (c_copyBook_34 (N := N) hd L N (bn k) 0 _ W (h.keep kk (fun y h1 h2 => by omega)) ⟨?_, ?_, ?_, ?_, fun t ht => by omega⟩ (by omega) (by omega)) fun x ⟨x1, x2⟩ => ⟨x1, (kk.mono fun q hq => by unfold Rg; omega).trans x2⟩
  all_goals simp (disch := omega) only [q_gI_sI, q_gJ_sI, q_gR_sI, q_aI_sI, q_aJ_sI, q_aR_sI, q_aD_sI, q_gI_sJ, q_gJ_sJ, q_gR_sJ, q_aI_sJ, q_aJ_sJ, q_aR_sJ, q_aD_sJ, q_gI_sR, q_gJ_sR, q_gR_sR, q_aI_sR, q_aJ_sR, q_aR_sR, q_aD_sR, q_gI_sAI, q_gJ_sAI, q_gR_sAI, q_aI_sAI, q_aJ_sAI, q_aR_sAI, q_aD_sAI, q_gI_sAJ, q_gJ_sAJ, q_gR_sAJ, q_aI_sAJ, q_aJ_sAJ, q_aR_sAJ, q_aD_sAJ, q_gI_sAR, q_gJ_sAR, q_gR_sAR, q_aI_sAR, q_aJ_sAR, q_aR_sAR, q_aD_sAR, q_gI_sAD, q_gJ_sAD, q_gR_sAD, q_aI_sAD, q_aJ_sAD, q_aR_sAD, q_aD_sAD, if_neg, if_pos, and_self, if_true]
end CBOOK
