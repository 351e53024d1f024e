/-! what the class writes into its rows -/
def Raw (w : Wd) (a : Nat) (k : Nat) : Int32 × Int32 × Int64 := (aI w (a + 1) k, aI w (a + 2) k, aJ w (a + 3) k)
def enc (s : Int × Int × List Nat) : Int32 × Int32 × Int64 := (zI s.1, zI s.2.1, cL s.2.2)
def rs (r : Rw) (i : Nat) : Int × Int × List Nat := (rf r i, re r i, rl r i)
def Up (a : Nat) (w w' : Wd) (g : Nat → Int32 × Int32 × Int64) : Prop := WRow w' a ∧ gI w' 703 a = gI w 703 a ∧ Kp (Rg a 4) w w' ∧ ∀ k, Raw w' a k = g k
theorem DRow.raw {w : Wd} {a : Nat} {r : Rw} (h : DRow w a r) {i : Nat} (hi : i < rn r) : Raw w a i = enc (rs r i) := by
  obtain ⟨h1, h2, h3⟩ := h.2 i hi
  unfold Raw enc rs
  rw [h1, h2, h3]
theorem DRow.of {w : Wd} {a : Nat} {r : Rw} (h : gI w 703 a = zI (rn r)) (k : ∀ i, i < rn r → Raw w a i = enc (rs r i)) : DRow w a r := by
  refine ⟨h, fun i hi => ?_⟩
  have h1 := k i hi
  exact ⟨congrArg (fun x => x.1) h1, congrArg (fun x => x.2.1) h1, congrArg (fun x => x.2.2) h1⟩
theorem zI_prd (i : Nat) : zI ((i + 1 : Nat) : Int) - 1 = zI (i : Int) := by
  rw [show (1 : Int32) = zI 1 from rfl, zI_sub]
  congr 1
  omega
theorem zI_sb1 (x : Int) : zI x - 1 = zI (x - 1) := zI_sub x 1
section CROW
variable {F : Fr} {N : Nat} {w : Wd} {a b : Nat} {r q : Rw}
theorem c_setFrames (L : LRow F a) (W : WRow w a) {i : Nat} (hi : i < 31) (x y : Int32) : Ev (fX7_setFrames F N w a (zI i) x y) fun w' => Up a w w' fun k => if k = i then (x, y, (Raw w a k).2.2) else Raw w a k := by
  obtain ⟨o0, o1, o2, o3, l1, l2, l3⟩ := L
  obtain ⟨g1, g2, g3⟩ := W
  unfold fX7_setFrames
  simp (disch := omega) only [z_0, z_1, z_2, z_3, z_4, z_5, z_6, z_7, z_8, z_9, z_10, z_12, z_13, z_16, z_20, z_24, z_30, z_31, z_32, z_38, z_42, z_44, z_45, z_47, z_48, z_49, z_50, z_57, z_58, z_59, z_60, z_61, z_91, z_97, z_98, z_100, z_108, z_114, z_120, z_122, z_126, z_127, z_128, z_200, z_255, z_961, z_990, z_992, z_998, z_999, z_1000, z_1092, z_1114, z_7798, z_10000, z_1000000, zI_neg, zI_add, zI_sub, zI_mul, zI_lt, zI_le, zI_eq, if_pos, if_neg, if_true, if_false, Option.bind_some, bnd, ldI_is, ldJ_is, Int.toNat_natCast,  rdR_is g1 o1, stI_is]
  rw [rdR_is (w := sAI w (a + 1) (upd (aI w (a + 1)) i x)) g2 o2]
  simp (disch := omega) only [z_0, z_1, z_2, z_3, z_4, z_5, z_6, z_7, z_8, z_9, z_10, z_12, z_13, z_16, z_20, z_24, z_30, z_31, z_32, z_38, z_42, z_44, z_45, z_47, z_48, z_49, z_50, z_57, z_58, z_59, z_60, z_61, z_91, z_97, z_98, z_100, z_108, z_114, z_120, z_122, z_126, z_127, z_128, z_200, z_255, z_961, z_990, z_992, z_998, z_999, z_1000, z_1092, z_1114, z_7798, z_10000, z_1000000, zI_neg, zI_add, zI_sub, zI_mul, zI_lt, zI_le, zI_eq, if_pos, if_neg, if_true, if_false, Option.bind_some, bnd, ldI_is, ldJ_is, Int.toNat_natCast,  stI_is]
  refine ev_some ⟨⟨g1, g2, g3⟩, rfl, ?_, fun k => ?_⟩
  · exact (kp_sAI _ _ (by unfold Rg; omega)).trans (kp_sAI _ _ (by unfold Rg; omega))
  · by_cases c : k = i <;> simp (disch := omega) only [Raw, q_gI_sI, q_gJ_sI, q_gR_sI, q_aI_sI, q_aJ_sI, q_aR_sI, q_aD_sI, q_gI_sJ, q_gJ_sJ, q_gR_sJ, q_aI_sJ, q_aJ_sJ, q_aR_sJ, q_aD_sJ, q_gI_sR, q_gJ_sR, q_gR_sR, q_aI_sR, q_aJ_sR, q_aR_sR, q_aD_sR, q_gI_sAI, q_gJ_sAI, q_gR_sAI, q_aI_sAI, q_aJ_sAI, q_aR_sAI, q_aD_sAI, q_gI_sAJ, q_gJ_sAJ, q_gR_sAJ, q_aI_sAJ, q_aJ_sAJ, q_aR_sAJ, q_aD_sAJ, q_gI_sAR, q_gJ_sAR, q_gR_sAR, q_aI_sAR, q_aJ_sAR, q_aR_sAR, q_aD_sAR, q_gI_sAD, q_gJ_sAD, q_gR_sAD, q_aI_sAD, q_aJ_sAD, q_aR_sAD, q_aD_sAD, upd_is, if_pos, if_neg, c, if_true, if_false]
theorem c_setLabel (L : LRow F a) (W : WRow w a) {i : Nat} (hi : i < 31) (x : Int64) : Ev (fX7_setLabel F N w a (zI i) x) fun w' => Up a w w' fun k => if k = i then ((Raw w a k).1, (Raw w a k).2.1, x) else Raw w a k := by
  obtain ⟨o0, o1, o2, o3, l1, l2, l3⟩ := L
  obtain ⟨g1, g2, g3⟩ := W
  unfold fX7_setLabel
  simp (disch := omega) only [z_0, z_1, z_2, z_3, z_4, z_5, z_6, z_7, z_8, z_9, z_10, z_12, z_13, z_16, z_20, z_24, z_30, z_31, z_32, z_38, z_42, z_44, z_45, z_47, z_48, z_49, z_50, z_57, z_58, z_59, z_60, z_61, z_91, z_97, z_98, z_100, z_108, z_114, z_120, z_122, z_126, z_127, z_128, z_200, z_255, z_961, z_990, z_992, z_998, z_999, z_1000, z_1092, z_1114, z_7798, z_10000, z_1000000, zI_neg, zI_add, zI_sub, zI_mul, zI_lt, zI_le, zI_eq, if_pos, if_neg, if_true, if_false, Option.bind_some, bnd, ldI_is, ldJ_is, Int.toNat_natCast,  rdR_is g3 o3, stJ_is]
  refine ev_some ⟨⟨g1, g2, g3⟩, rfl, ?_, fun k => ?_⟩
  · exact (kp_sAJ _ _ (by unfold Rg; omega))
  · by_cases c : k = i <;> simp (disch := omega) only [Raw, q_gI_sI, q_gJ_sI, q_gR_sI, q_aI_sI, q_aJ_sI, q_aR_sI, q_aD_sI, q_gI_sJ, q_gJ_sJ, q_gR_sJ, q_aI_sJ, q_aJ_sJ, q_aR_sJ, q_aD_sJ, q_gI_sR, q_gJ_sR, q_gR_sR, q_aI_sR, q_aJ_sR, q_aR_sR, q_aD_sR, q_gI_sAI, q_gJ_sAI, q_gR_sAI, q_aI_sAI, q_aJ_sAI, q_aR_sAI, q_aD_sAI, q_gI_sAJ, q_gJ_sAJ, q_gR_sAJ, q_aI_sAJ, q_aJ_sAJ, q_aR_sAJ, q_aD_sAJ, q_gI_sAR, q_gJ_sAR, q_gR_sAR, q_aI_sAR, q_aJ_sAR, q_aR_sAR, q_aD_sAR, q_gI_sAD, q_gJ_sAD, q_gR_sAD, q_aI_sAD, q_aJ_sAD, q_aR_sAD, q_aD_sAD, updL_is, if_pos, if_neg, c, if_true, if_false]
theorem c_firstW (L : LRow F a) (W : WRow w a) {i : Nat} (hi : i < 31) : fX7_first F N w a (zI i) = some (Raw w a i).1 := by
  obtain ⟨o0, o1, o2, o3, l1, l2, l3⟩ := L
  obtain ⟨g1, g2, g3⟩ := W
  unfold fX7_first
  simp (disch := omega) only [z_0, z_1, z_2, z_3, z_4, z_5, z_6, z_7, z_8, z_9, z_10, z_12, z_13, z_16, z_20, z_24, z_30, z_31, z_32, z_38, z_42, z_44, z_45, z_47, z_48, z_49, z_50, z_57, z_58, z_59, z_60, z_61, z_91, z_97, z_98, z_100, z_108, z_114, z_120, z_122, z_126, z_127, z_128, z_200, z_255, z_961, z_990, z_992, z_998, z_999, z_1000, z_1092, z_1114, z_7798, z_10000, z_1000000, zI_neg, zI_add, zI_sub, zI_mul, zI_lt, zI_le, zI_eq, if_pos, if_neg, if_true, if_false, Option.bind_some, bnd, ldI_is, ldJ_is, Int.toNat_natCast,  rdR_is g1 o1, Raw]
theorem c_endW (L : LRow F a) (W : WRow w a) {i : Nat} (hi : i < 31) : fX7_end F N w a (zI i) = some (Raw w a i).2.1 := by
  obtain ⟨o0, o1, o2, o3, l1, l2, l3⟩ := L
  obtain ⟨g1, g2, g3⟩ := W
  unfold fX7_end
  simp (disch := omega) only [z_0, z_1, z_2, z_3, z_4, z_5, z_6, z_7, z_8, z_9, z_10, z_12, z_13, z_16, z_20, z_24, z_30, z_31, z_32, z_38, z_42, z_44, z_45, z_47, z_48, z_49, z_50, z_57, z_58, z_59, z_60, z_61, z_91, z_97, z_98, z_100, z_108, z_114, z_120, z_122, z_126, z_127, z_128, z_200, z_255, z_961, z_990, z_992, z_998, z_999, z_1000, z_1092, z_1114, z_7798, z_10000, z_1000000, zI_neg, zI_add, zI_sub, zI_mul, zI_lt, zI_le, zI_eq, if_pos, if_neg, if_true, if_false, Option.bind_some, bnd, ldI_is, ldJ_is, Int.toNat_natCast,  rdR_is g2 o2, Raw]
theorem c_labelW (L : LRow F a) (W : WRow w a) {i : Nat} (hi : i < 31) : fX7_label F N w a (zI i) = some (Raw w a i).2.2 := by
  obtain ⟨o0, o1, o2, o3, l1, l2, l3⟩ := L
  obtain ⟨g1, g2, g3⟩ := W
  unfold fX7_label
  simp (disch := omega) only [z_0, z_1, z_2, z_3, z_4, z_5, z_6, z_7, z_8, z_9, z_10, z_12, z_13, z_16, z_20, z_24, z_30, z_31, z_32, z_38, z_42, z_44, z_45, z_47, z_48, z_49, z_50, z_57, z_58, z_59, z_60, z_61, z_91, z_97, z_98, z_100, z_108, z_114, z_120, z_122, z_126, z_127, z_128, z_200, z_255, z_961, z_990, z_992, z_998, z_999, z_1000, z_1092, z_1114, z_7798, z_10000, z_1000000, zI_neg, zI_add, zI_sub, zI_mul, zI_lt, zI_le, zI_eq, if_pos, if_neg, if_true, if_false, Option.bind_some, bnd, ldI_is, ldJ_is, Int.toNat_natCast,  rdR_is g3 o3, Raw]
theorem c_shift (L : LRow F a) (W : WRow w a) {i j : Nat} (hi : i < 31) (hj : j < 31) (hij : i ≠ j) : Ev (fX7_shift F N w a (zI i) (zI j)) fun w' => Up a w w' fun k => if k = j then Raw w a i else Raw w a k := by
  unfold fX7_shift
  rw [c_firstW L W hi, c_endW L W hi]
  simp only [Option.bind_some]
  refine ev_then (c_setFrames L W hj _ _) fun w1 ⟨W1, n1, k1, r1⟩ => ?_
  rw [c_labelW L W1 hi]
  simp only [Option.bind_some]
  refine ev_then (c_setLabel L W1 hj _) fun w2 ⟨W2, n2, k2, r2⟩ => ?_
  dsimp only at r1 r2
  refine ev_some ⟨W2, n2.trans n1, k1.trans k2, fun k => ?_⟩
  dsimp only
  rw [r2, r1, r1, if_neg hij]
  by_cases c : k = j
  · simp only [if_pos c]
  · simp only [if_neg c]
def insR (r : Rw) (p : Nat) (s : Int × Int × List Nat) : Rw := (rn r + 1, (fun k => if k < p then rf r k else if k = p then s.1 else rf r (k - 1)), (fun k => if k < p then re r k else if k = p then s.2.1 else re r (k - 1)), fun k => if k < p then rl r k else if k = p then s.2.2 else rl r (k - 1))
def delR (r : Rw) (p : Nat) : Rw := (rn r - 1, (fun k => if k < p then rf r k else rf r (k + 1)), (fun k => if k < p then re r k else re r (k + 1)), fun k => if k < p then rl r k else rl r (k + 1))
theorem rs_ins (r : Rw) (p : Nat) (s : Int × Int × List Nat) (k : Nat) : rs (insR r p s) k = if k < p then rs r k else if k = p then s else rs r (k - 1) := by
  by_cases c : k < p
  · simp only [rs, insR, rf, re, rl, if_pos c]
  · by_cases d : k = p
    · simp only [rs, insR, rf, re, rl, if_neg c, if_pos d]
    · simp only [rs, insR, rf, re, rl, if_neg c, if_neg d]
theorem rs_del (r : Rw) (p : Nat) (k : Nat) : rs (delR r p) k = if k < p then rs r k else rs r (k + 1) := by
  by_cases c : k < p
  · simp only [rs, delR, rf, re, rl, if_pos c]
  · simp only [rs, delR, rf, re, rl, if_neg c]
theorem GRow.of {r : Rw} (h : rn r ≤ 31) (k : ∀ i, i < rn r → 0 ≤ (rs r i).1 ∧ (rs r i).1 ≤ 1000 ∧ 0 ≤ (rs r i).2.1 ∧ (rs r i).2.1 ≤ 1000 ∧ VL (rs r i).2.2) : GRow r := ⟨h, k⟩
theorem GRow.rs {r : Rw} (h : GRow r) {i : Nat} (hi : i < rn r) : 0 ≤ (rs r i).1 ∧ (rs r i).1 ≤ 1000 ∧ 0 ≤ (rs r i).2.1 ∧ (rs r i).2.1 ≤ 1000 ∧ VL (rs r i).2.2 := h.2 i hi
theorem c_insert_17 (L : LRow F a) (hg : GRow r) (hn : rn r < 31) {s : Int × Int × List Nat} (hs : 0 ≤ s.1 ∧ s.1 ≤ 1000) : ∀ (m p : Nat) (w : Wd), WRow w a → gI w 703 a = zI (rn r) → p ≤ rn r → p < m →
    (∀ k, k < p → Raw w a k = enc (rs r k)) → (∀ k, p < k → k ≤ rn r → Raw w a k = enc (rs r (k - 1))) → (∀ k, p ≤ k → k < rn r → s.1 < rf r k) →
    Ev (fX7_insert_17 F N m w a (zI s.1) (zI s.2.1) (cL s.2.2) (zI p)) fun x => ∃ p : Nat, x.1 = zI p ∧ p ≤ rn r ∧ (0 < p → rf r (p - 1) ≤ s.1) ∧ (∀ k, p ≤ k → k < rn r → s.1 < rf r k) ∧ WRow x.2 a ∧ Kp (Rg a 4) w x.2 ∧ DRow x.2 a (insR r p s) := by
  intro m
  induction m with
  | zero => intro p w _ _ _ h; omega
  | succ m ih =>
    intro p w W hc hp hm h1 h2 h3
    unfold fX7_insert_17
    have fin : (0 < p → rf r (p - 1) ≤ s.1) → Ev (fX7_insert_50 F N w a (zI s.1) (zI s.2.1) (cL s.2.2) (zI p)) fun x => ∃ p : Nat, x.1 = zI p ∧ p ≤ rn r ∧ (0 < p → rf r (p - 1) ≤ s.1) ∧ (∀ k, p ≤ k → k < rn r → s.1 < rf r k) ∧ WRow x.2 a ∧ Kp (Rg a 4) w x.2 ∧ DRow x.2 a (insR r p s) := by
      intro h4
      unfold fX7_insert_50
      refine ev_then (c_setFrames L W (by omega) _ _) fun w1 ⟨W1, n1, k1, r1⟩ => ?_
      refine ev_then (c_setLabel L W1 (by omega) _) fun w2 ⟨⟨g1, g2, g3⟩, n2, k2, r2⟩ => ?_
      dsimp only at r1 r2
      refine ev_bnd (ev_some ⟨p, rfl, hp, h4, h3, ⟨g1, g2, g3⟩, (k1.trans k2).trans (kp_sI _ _ (by unfold Rg; omega)), DRow.of ?_ fun k hk => ?_⟩)
      · rw [n2, n1, hc, q_gI_sI, if_pos ⟨rfl, rfl⟩]
        exact zI_succ (rn r)
      · show Raw w2 a k = _
        have hk : k < rn r + 1 := hk
        rw [r2, r1, rs_ins]
        by_cases c : k = p
        · subst c
          simp only [if_true, Nat.lt_irrefl, if_false, enc]
        · simp only [if_neg c]
          by_cases d : k < p
          · rw [if_pos d]; exact h1 k d
          · rw [if_neg d]; exact h2 k (by omega) (by omega)
    by_cases c : p = 0
    · subst c
      refine ev_pos (by decide) (fin (fun h => by omega))
    · refine ev_neg (by simp (disch := omega) only [z_0, z_1, z_2, z_3, z_4, z_5, z_6, z_7, z_8, z_9, z_10, z_12, z_13, z_16, z_20, z_24, z_30, z_31, z_32, z_38, z_42, z_44, z_45, z_47, z_48, z_49, z_50, z_57, z_58, z_59, z_60, z_61, z_91, z_97, z_98, z_100, z_108, z_114, z_120, z_122, z_126, z_127, z_128, z_200, z_255, z_961, z_990, z_992, z_998, z_999, z_1000, z_1092, z_1114, z_7798, z_10000, z_1000000, zI_neg, zI_add, zI_sub, zI_mul, zI_lt, zI_le, zI_eq, if_pos, if_neg, if_true, if_false, Option.bind_some, bnd, ldI_is, ldJ_is, Int.toNat_natCast,  Int.not_le]; omega) ?_
      obtain ⟨p, rfl⟩ : ∃ p', p = p' + 1 := ⟨p - 1, by omega⟩
      have e1 : zI ((p + 1 : Nat) : Int) - 1 = zI (p : Int) := zI_prd p
      have hb := hg.rs (i := p) (by omega)
      rw [e1, c_firstW L W (by omega), h1 p (by omega)]
      simp only [Option.bind_some, enc]
      by_cases d : (rs r p).1 ≤ s.1
      · exact ev_pos (by simp (disch := omega) only [z_0, z_1, z_2, z_3, z_4, z_5, z_6, z_7, z_8, z_9, z_10, z_12, z_13, z_16, z_20, z_24, z_30, z_31, z_32, z_38, z_42, z_44, z_45, z_47, z_48, z_49, z_50, z_57, z_58, z_59, z_60, z_61, z_91, z_97, z_98, z_100, z_108, z_114, z_120, z_122, z_126, z_127, z_128, z_200, z_255, z_961, z_990, z_992, z_998, z_999, z_1000, z_1092, z_1114, z_7798, z_10000, z_1000000, zI_neg, zI_add, zI_sub, zI_mul, zI_lt, zI_le, zI_eq, if_pos, if_neg, if_true, if_false, Option.bind_some, bnd, ldI_is, ldJ_is, Int.toNat_natCast,  d]) (fin (fun _ => d))
      · refine ev_neg (by simp (disch := omega) only [z_0, z_1, z_2, z_3, z_4, z_5, z_6, z_7, z_8, z_9, z_10, z_12, z_13, z_16, z_20, z_24, z_30, z_31, z_32, z_38, z_42, z_44, z_45, z_47, z_48, z_49, z_50, z_57, z_58, z_59, z_60, z_61, z_91, z_97, z_98, z_100, z_108, z_114, z_120, z_122, z_126, z_127, z_128, z_200, z_255, z_961, z_990, z_992, z_998, z_999, z_1000, z_1092, z_1114, z_7798, z_10000, z_1000000, zI_neg, zI_add, zI_sub, zI_mul, zI_lt, zI_le, zI_eq, if_pos, if_neg, if_true, if_false, Option.bind_some, bnd, ldI_is, ldJ_is, Int.toNat_natCast,  d, not_false_eq_true]) ?_
        refine ev_then (c_shift L W (by omega) (by omega) (by omega)) fun w1 ⟨W1, n1, k1, r1⟩ => ?_
        rw [zI_pred]
        dsimp only at r1
        refine ev_mono (ih p w1 W1 (n1.trans hc) (by omega) (by omega) (fun k hk => ?_) (fun k hk hk2 => ?_) (fun k hk hk2 => ?_)) fun x ⟨p', e2, e3, e4, e5, e6, e7, e8⟩ => ⟨p', e2, e3, e4, e5, e6, k1.trans e7, e8⟩
        · rw [r1, if_neg (by omega)]; exact h1 k (by omega)
        · rw [r1]
          by_cases c9 : k = p + 1
          · subst c9
            rw [if_pos rfl, h1 p (by omega)]
            rfl
          · rw [if_neg c9]; exact h2 k (by omega) hk2
        · by_cases c9 : k = p
          · subst c9
            have : (rs r k).1 = rf r k := rfl
            omega
          · exact h3 k (by omega) hk2
theorem c_insert (h : CRow F w a r) (hN : 40 ≤ N) (hn : rn r < 31) {s : Int × Int × List Nat} (hs : 0 ≤ s.1 ∧ s.1 ≤ 1000) (ht : 0 ≤ s.2.1 ∧ s.2.1 ≤ 1000) (hv : VL s.2.2) :
    Ev (fX7_insert F N w a (zI s.1) (zI s.2.1) (cL s.2.2)) fun x => ∃ p : Nat, x.1 = zI p ∧ p ≤ rn r ∧ (0 < p → rf r (p - 1) ≤ s.1) ∧ (∀ k, p ≤ k → k < rn r → s.1 < rf r k) ∧ CRow F x.2 a (insR r p s) ∧ Kp (Rg a 4) w x.2 := by
  obtain ⟨L, W, D, G⟩ := h
  unfold fX7_insert
  rw [D.1]
  refine ev_pos (by simp (disch := omega) only [z_0, z_1, z_2, z_3, z_4, z_5, z_6, z_7, z_8, z_9, z_10, z_12, z_13, z_16, z_20, z_24, z_30, z_31, z_32, z_38, z_42, z_44, z_45, z_47, z_48, z_49, z_50, z_57, z_58, z_59, z_60, z_61, z_91, z_97, z_98, z_100, z_108, z_114, z_120, z_122, z_126, z_127, z_128, z_200, z_255, z_961, z_990, z_992, z_998, z_999, z_1000, z_1092, z_1114, z_7798, z_10000, z_1000000, zI_neg, zI_add, zI_sub, zI_mul, zI_lt, zI_le, zI_eq, if_pos, if_neg, if_true, if_false, Option.bind_some, bnd, ldI_is, ldJ_is, Int.toNat_natCast, ]; omega) (ev_bnd ?_)
  refine ev_mono (c_insert_17 L G hn hs N (rn r) w W D.1 (by omega) (by omega) (fun k hk => D.raw hk) (fun k h1 h2 => by omega) (fun k h1 h2 => by omega)) fun x ⟨p, e2, e3, e4, e5, e6, e7, e8⟩ => ⟨p, e2, e3, e4, e5, ⟨L, e6, e8, GRow.of (by show rn r + 1 ≤ 31; omega) fun i hi => ?_⟩, e7⟩
  have hi : i < rn r + 1 := hi
  rw [rs_ins]
  by_cases c : i < p
  · rw [if_pos c]; exact G.rs (by omega)
  · rw [if_neg c]
    by_cases d : i = p
    · rw [if_pos d]; exact ⟨hs.1, hs.2, ht.1, ht.2, hv⟩
    · rw [if_neg d]; exact G.rs (by omega)
theorem c_delete_15 (L : LRow F a) (hl : rn r ≤ 31) {p : Nat} : ∀ (m k i : Nat) (w : Wd), WRow w a → gI w 703 a = zI (rn r) → p ≤ i → i + k + 1 = rn r → k < m →
    (∀ j, j < i → Raw w a j = enc (rs (delR r p) j)) → (∀ j, i < j → j < rn r → Raw w a j = enc (rs r j)) →
    Ev (fX7_delete_15 F N m w a (zI i)) fun w' => WRow w' a ∧ Kp (Rg a 4) w w' ∧ DRow w' a (delR r p) := by
  intro m
  induction m with
  | zero => intro k i w _ _ _ _ h; omega
  | succ m ih =>
    intro k i w W hc hp hk hm h1 h2
    unfold fX7_delete_15
    rw [hc]
    have e0 : zI (rn r : Int) - 1 = zI ((rn r - 1 : Nat) : Int) := by
      have : ((rn r - 1 : Nat) : Int) = (rn r : Int) - 1 := by omega
      rw [this]
      exact zI_sb1 _
    rw [e0]
    cases k with
    | zero =>
      refine ev_pos (by simp (disch := omega) only [z_0, z_1, z_2, z_3, z_4, z_5, z_6, z_7, z_8, z_9, z_10, z_12, z_13, z_16, z_20, z_24, z_30, z_31, z_32, z_38, z_42, z_44, z_45, z_47, z_48, z_49, z_50, z_57, z_58, z_59, z_60, z_61, z_91, z_97, z_98, z_100, z_108, z_114, z_120, z_122, z_126, z_127, z_128, z_200, z_255, z_961, z_990, z_992, z_998, z_999, z_1000, z_1092, z_1114, z_7798, z_10000, z_1000000, zI_neg, zI_add, zI_sub, zI_mul, zI_lt, zI_le, zI_eq, if_pos, if_neg, if_true, if_false, Option.bind_some, bnd, ldI_is, ldJ_is, Int.toNat_natCast, ]; omega) (ev_bnd (ev_some ⟨W, kp_sI _ _ (by unfold Rg; omega), DRow.of ?_ fun j hj => ?_⟩))
      · rw [q_gI_sI, if_pos ⟨rfl, rfl⟩]
        rfl
      · have hj : j < rn r - 1 := hj
        exact h1 j (by omega)
    | succ k =>
      refine ev_neg (by simp (disch := omega) only [z_0, z_1, z_2, z_3, z_4, z_5, z_6, z_7, z_8, z_9, z_10, z_12, z_13, z_16, z_20, z_24, z_30, z_31, z_32, z_38, z_42, z_44, z_45, z_47, z_48, z_49, z_50, z_57, z_58, z_59, z_60, z_61, z_91, z_97, z_98, z_100, z_108, z_114, z_120, z_122, z_126, z_127, z_128, z_200, z_255, z_961, z_990, z_992, z_998, z_999, z_1000, z_1092, z_1114, z_7798, z_10000, z_1000000, zI_neg, zI_add, zI_sub, zI_mul, zI_lt, zI_le, zI_eq, if_pos, if_neg, if_true, if_false, Option.bind_some, bnd, ldI_is, ldJ_is, Int.toNat_natCast,  Int.not_le]; omega) ?_
      rw [zI_succ]
      refine ev_then (c_shift L W (by omega) (by omega) (by omega)) fun w1 ⟨W1, n1, k1, r1⟩ => ?_
      dsimp only at r1
      refine ev_mono (ih k (i + 1) w1 W1 (n1.trans hc) (by omega) (by omega) (by omega) (fun j hj => ?_) (fun j hj hj2 => ?_)) fun x ⟨e1, e2, e3⟩ => ⟨e1, k1.trans e2, e3⟩
      · rw [r1]
        by_cases c9 : j = i
        · subst c9
          rw [if_pos rfl, h2 (j + 1) (by omega) (by omega), rs_del, if_neg (by omega)]
        · rw [if_neg c9]; exact h1 j (by omega)
      · rw [r1, if_neg (by omega)]; exact h2 j (by omega) hj2
theorem c_delete (h : CRow F w a r) (hN : 40 ≤ N) {p : Nat} (hp : p < rn r) : Ev (fX7_delete F N w a (zI p)) fun w' => CRow F w' a (delR r p) ∧ Kp (Rg a 4) w w' := by
  obtain ⟨L, W, D, G⟩ := h
  have hl := G.1
  unfold fX7_delete
  rw [D.1]
  refine ev_neg (by simp (disch := omega) only [z_0, z_1, z_2, z_3, z_4, z_5, z_6, z_7, z_8, z_9, z_10, z_12, z_13, z_16, z_20, z_24, z_30, z_31, z_32, z_38, z_42, z_44, z_45, z_47, z_48, z_49, z_50, z_57, z_58, z_59, z_60, z_61, z_91, z_97, z_98, z_100, z_108, z_114, z_120, z_122, z_126, z_127, z_128, z_200, z_255, z_961, z_990, z_992, z_998, z_999, z_1000, z_1092, z_1114, z_7798, z_10000, z_1000000, zI_neg, zI_add, zI_sub, zI_mul, zI_lt, zI_le, zI_eq, if_pos, if_neg, if_true, if_false, Option.bind_some, bnd, ldI_is, ldJ_is, Int.toNat_natCast,  Int.not_lt]; omega) (ev_pos (by simp (disch := omega) only [z_0, z_1, z_2, z_3, z_4, z_5, z_6, z_7, z_8, z_9, z_10, z_12, z_13, z_16, z_20, z_24, z_30, z_31, z_32, z_38, z_42, z_44, z_45, z_47, z_48, z_49, z_50, z_57, z_58, z_59, z_60, z_61, z_91, z_97, z_98, z_100, z_108, z_114, z_120, z_122, z_126, z_127, z_128, z_200, z_255, z_961, z_990, z_992, z_998, z_999, z_1000, z_1092, z_1114, z_7798, z_10000, z_1000000, zI_neg, zI_add, zI_sub, zI_mul, zI_lt, zI_le, zI_eq, if_pos, if_neg, if_true, if_false, Option.bind_some, bnd, ldI_is, ldJ_is, Int.toNat_natCast, ]; omega) ?_)
  refine ev_mono (c_delete_15 (p := p) L hl N (rn r - 1 - p) p w W D.1 (by omega) (by omega) (by omega) (fun j hj => ?_) (fun j hj hj2 => D.raw hj2)) fun x ⟨e1, e2, e3⟩ => ⟨⟨L, e1, e3, GRow.of (by show rn r - 1 ≤ 31; omega) fun i hi => ?_⟩, e2⟩
  · rw [D.raw (by omega), rs_del, if_pos hj]
  · have hi : i < rn r - 1 := hi
    rw [rs_del]
    by_cases c : i < p
    · rw [if_pos c]; exact G.rs (by omega)
    · rw [if_neg c]; exact G.rs (by omega)
theorem cpI_is {w : Wd} {a0 a : Nat} {m : Int} (h0 : 0 ≤ m) (h1 : m ≤ F.2.1 a0) (h2 : m ≤ F.2.1 a) (h3 : m < 2147483648) : cpI F w a0 (zI 0) a (zI 0) (zI m) = some (sAI w a (fun k => if k < m then aI w a0 k else aI w a k)) := by
  unfold cpI
  simp (disch := omega) only [z_0, zI_nat, zI_lt]
  rw [if_neg (by omega)]
  congr 2
  funext k
  unfold va_cpy
  by_cases c : (k : Int) < m
  · rw [if_pos (by omega), if_pos c]; congr 1; omega
  · rw [if_neg (by omega), if_neg c]
theorem cpJ_is {w : Wd} {a0 a : Nat} {m : Int} (h0 : 0 ≤ m) (h1 : m ≤ F.2.1 a0) (h2 : m ≤ F.2.1 a) (h3 : m < 2147483648) : cpJ F w a0 (zI 0) a (zI 0) (zI m) = some (sAJ w a (fun k => if k < m then aJ w a0 k else aJ w a k)) := by
  unfold cpJ
  simp (disch := omega) only [z_0, zI_nat, zI_lt]
  rw [if_neg (by omega)]
  congr 2
  funext k
  unfold va_cpy
  by_cases c : (k : Int) < m
  · rw [if_pos (by omega), if_pos c]; congr 1; omega
  · rw [if_neg (by omega), if_neg c]
theorem c_copyRow (L : LRow F a) (W : WRow w a) (h : CRow F w b r) (hd : a + 4 ≤ b ∨ b + 4 ≤ a) : Ev (fX7_copyFrom F N w a b) fun w' => CRow F w' a r ∧ Kp (Rg a 4) w w' := by
  obtain ⟨⟨p0, p1, p2, p3, m1, m2, m3⟩, ⟨f1, f2, f3⟩, ⟨d0, d⟩, G⟩ := h
  have hl := G.1
  have L0 := L
  obtain ⟨o0, o1, o2, o3, l1, l2, l3⟩ := L
  obtain ⟨g1, g2, g3⟩ := W
  unfold fX7_copyFrom
  rw [d0]
  refine ev_bnd (ev_neg (by simp (disch := omega) only [z_0, z_1, z_2, z_3, z_4, z_5, z_6, z_7, z_8, z_9, z_10, z_12, z_13, z_16, z_20, z_24, z_30, z_31, z_32, z_38, z_42, z_44, z_45, z_47, z_48, z_49, z_50, z_57, z_58, z_59, z_60, z_61, z_91, z_97, z_98, z_100, z_108, z_114, z_120, z_122, z_126, z_127, z_128, z_200, z_255, z_961, z_990, z_992, z_998, z_999, z_1000, z_1092, z_1114, z_7798, z_10000, z_1000000, zI_neg, zI_add, zI_sub, zI_mul, zI_lt, zI_le, zI_eq, if_pos, if_neg, if_true, if_false, Option.bind_some, bnd, ldI_is, ldJ_is, Int.toNat_natCast,  Int.not_lt]; omega) (ev_neg (by simp (disch := omega) only [z_0, z_1, z_2, z_3, z_4, z_5, z_6, z_7, z_8, z_9, z_10, z_12, z_13, z_16, z_20, z_24, z_30, z_31, z_32, z_38, z_42, z_44, z_45, z_47, z_48, z_49, z_50, z_57, z_58, z_59, z_60, z_61, z_91, z_97, z_98, z_100, z_108, z_114, z_120, z_122, z_126, z_127, z_128, z_200, z_255, z_961, z_990, z_992, z_998, z_999, z_1000, z_1092, z_1114, z_7798, z_10000, z_1000000, zI_neg, zI_add, zI_sub, zI_mul, zI_lt, zI_le, zI_eq, if_pos, if_neg, if_true, if_false, Option.bind_some, bnd, ldI_is, ldJ_is, Int.toNat_natCast,  Int.not_lt]; omega) ?_))
  refine ev_rdR f1 p1 (ev_rdR g1 o1 (ev_eq (cpI_is (by omega) (by omega) (by omega) (by omega)) ?_))
  refine ev_rdR f2 p2 (ev_rdR g2 o2 (ev_eq (cpI_is (by omega) (by omega) (by omega) (by omega)) ?_))
  refine ev_rdR f3 p3 (ev_rdR g3 o3 (ev_eq (cpJ_is (by omega) (by omega) (by omega) (by omega)) ?_))
  refine ev_bnd (ev_some ⟨⟨L0, ⟨g1, g2, g3⟩, ⟨?_, fun i hi => ?_⟩, G⟩, ?_⟩)
  · rw [q_gI_sI, if_pos ⟨rfl, rfl⟩]
  · have hi2 : ((i : Nat) : Int) < (rn r : Int) := by omega
    simp (disch := omega) only [q_gI_sI, q_gJ_sI, q_gR_sI, q_aI_sI, q_aJ_sI, q_aR_sI, q_aD_sI, q_gI_sJ, q_gJ_sJ, q_gR_sJ, q_aI_sJ, q_aJ_sJ, q_aR_sJ, q_aD_sJ, q_gI_sR, q_gJ_sR, q_gR_sR, q_aI_sR, q_aJ_sR, q_aR_sR, q_aD_sR, q_gI_sAI, q_gJ_sAI, q_gR_sAI, q_aI_sAI, q_aJ_sAI, q_aR_sAI, q_aD_sAI, q_gI_sAJ, q_gJ_sAJ, q_gR_sAJ, q_aI_sAJ, q_aJ_sAJ, q_aR_sAJ, q_aD_sAJ, q_gI_sAR, q_gJ_sAR, q_gR_sAR, q_aI_sAR, q_aJ_sAR, q_aR_sAR, q_aD_sAR, q_gI_sAD, q_gJ_sAD, q_gR_sAD, q_aI_sAD, q_aJ_sAD, q_aR_sAD, q_aD_sAD, if_pos, if_neg, if_true]
    exact d i hi
  · exact (((kp_sAI _ _ (by unfold Rg; omega)).trans (kp_sAI _ _ (by unfold Rg; omega))).trans (kp_sAJ _ _ (by unfold Rg; omega))).trans (kp_sI _ _ (by unfold Rg; omega))
end CROW
