/-! the class reads items of a text; a character is put into the buffer -/
def putC (T : Tx) (c : Int) : Tx := (tn T + 1, fun i => if i = tn T then c else tc T i)
theorem and255 (y : Int32) : ∃ v : Nat, v < 256 ∧ y &&& 255 = zI (v : Int) := by
  refine ⟨(y &&& 255).toBitVec.toNat, ?_, ?_⟩
  · rw [Int32.toBitVec_and, BitVec.toNat_and]
    exact Nat.and_lt_two_pow (n := 8) _ (by decide)
  · apply Int32.toBitVec_inj.mp
    rw [zI_bv, BitVec.ofNat_toNat, BitVec.setWidth_eq]
theorem narC {k : Nat} (h : k < 65536) : vp_nar .char (zI (k : Int)) = zI (k : Int) := by
  rw [vp_nar_char]
  have e9 := z16_is h
  have e8 : (zI (k : Int)).toUInt32.toUInt16.toUInt32 = (zI (k : Int)).toUInt32 % 65536 := UInt32.toNat.inj (by simp)
  rw [e8, e9]
section CINP
variable {F : Fr} {N : Nat} {w : Wd} {a b : Nat} {T : Tx} {p : Nat} {k : Bk}
theorem c_put (h : CIn0 F w a T) {c : Nat} (hn : tn T < 100) (hc : 32 ≤ c ∧ c ≤ 126) : Ev (fX3_put F N w a (zI c)) fun w' => CIn0 F w' a (putC T c) ∧ Kp (fun z => z = a ∨ z = a + 1) w w' := by
  obtain ⟨g1, g2, g3, g4, g5, g6, g7⟩ := h
  unfold fX3_put
  rw [g5]
  refine ev_neg (by simp (disch := omega) only [z_0, z_1, z_2, z_3, z_4, z_5, z_6, z_7, z_8, z_9, z_10, z_12, z_13, z_16, z_20, z_24, z_30, z_31, z_32, z_38, z_42, z_44, z_45, z_47, z_48, z_49, z_50, z_57, z_58, z_59, z_60, z_61, z_91, z_97, z_98, z_100, z_108, z_114, z_120, z_122, z_126, z_127, z_128, z_200, z_255, z_961, z_990, z_992, z_998, z_999, z_1000, z_1092, z_1114, z_7798, z_10000, z_1000000, zI_neg, zI_add, zI_sub, zI_mul, zI_lt, zI_le, zI_eq, if_pos, if_neg, if_true, if_false, Option.bind_some, bnd, ldI_is, ldJ_is, Int.toNat_natCast, ]; omega) (ev_neg (by simp (disch := omega) only [z_0, z_1, z_2, z_3, z_4, z_5, z_6, z_7, z_8, z_9, z_10, z_12, z_13, z_16, z_20, z_24, z_30, z_31, z_32, z_38, z_42, z_44, z_45, z_47, z_48, z_49, z_50, z_57, z_58, z_59, z_60, z_61, z_91, z_97, z_98, z_100, z_108, z_114, z_120, z_122, z_126, z_127, z_128, z_200, z_255, z_961, z_990, z_992, z_998, z_999, z_1000, z_1092, z_1114, z_7798, z_10000, z_1000000, zI_neg, zI_add, zI_sub, zI_mul, zI_lt, zI_le, zI_eq, if_pos, if_neg, if_true, if_false, Option.bind_some, bnd, ldI_is, ldJ_is, Int.toNat_natCast,  Int.not_lt]; omega) (ev_neg (by simp (disch := omega) only [z_0, z_1, z_2, z_3, z_4, z_5, z_6, z_7, z_8, z_9, z_10, z_12, z_13, z_16, z_20, z_24, z_30, z_31, z_32, z_38, z_42, z_44, z_45, z_47, z_48, z_49, z_50, z_57, z_58, z_59, z_60, z_61, z_91, z_97, z_98, z_100, z_108, z_114, z_120, z_122, z_126, z_127, z_128, z_200, z_255, z_961, z_990, z_992, z_998, z_999, z_1000, z_1092, z_1114, z_7798, z_10000, z_1000000, zI_neg, zI_add, zI_sub, zI_mul, zI_lt, zI_le, zI_eq, if_pos, if_neg, if_true, if_false, Option.bind_some, bnd, ldI_is, ldJ_is, Int.toNat_natCast,  Int.not_le]; omega) ?_))
  refine ev_rdR g4 g2 ?_
  rw [z16_is (by omega), narC (by omega)]
  refine ev_eq (stI_is (by omega) (by omega) (by omega)) ?_
  simp only [Int.toNat_natCast]
  refine ev_bnd (ev_some ⟨⟨g1, g2, g3, g4, ?_, fun i hi => ?_, ?_, fun i hi => ?_⟩, ?_⟩)
  · rw [q_gI_sI, if_pos ⟨rfl, rfl⟩, q_gI_sAI, g5]
    exact zI_succ (tn T)
  · have hi : i < tn T + 1 := hi
    rw [q_aI_sI, q_aI_sAI, if_pos rfl, upd_is]
    show _ = zI (if i = tn T then (c : Int) else tc T i)
    by_cases e : i = tn T
    · rw [if_pos e, if_pos e]
    · rw [if_neg e, if_neg e]; exact g6 i (by omega)
  · show tn T + 1 ≤ 100
    omega
  · have hi : i < tn T + 1 := hi
    show 32 ≤ (if i = tn T then (c : Int) else tc T i) ∧ (if i = tn T then (c : Int) else tc T i) ≤ 126
    by_cases e : i = tn T
    · rw [if_pos e]; omega
    · rw [if_neg e]; exact g7.2 i (by omega)
  · exact (kp_sAI _ _ (Or.inr rfl)).trans (kp_sI _ _ (Or.inl rfl))
theorem c_put0 : fX3_put F N w a (zI 0) = some w := if_pos rfl
theorem c_empty (h : CIn0 F w a T) : Ev (fX3_empty F N w a) fun w' => CIn0 F w' a (0, tc T) ∧ Kp (fun z => z = a) w w' ∧ gI w' 302 a = gI w 302 a := by
  obtain ⟨g1, g2, g3, g4, g5, g6, g7⟩ := h
  unfold fX3_empty
  refine ev_bnd (ev_some ⟨⟨g1, g2, g3, g4, ?_, fun i hi => ?_, ?_, fun i hi => ?_⟩, kp_sI (S := fun z => z = a) _ _ rfl, ?_⟩)
  · rw [q_gI_sI, if_pos ⟨rfl, rfl⟩]; rfl
  · exact absurd hi (Nat.not_lt_zero i)
  · exact Nat.zero_le _
  · exact absurd hi (Nat.not_lt_zero i)
  · rw [q_gI_sI, if_neg (by omega)]
theorem c_restart (h : CIn0 F w a T) : Ev (fX3_restart F N w a) fun w' => CInp F w' a T 0 ∧ Kp (fun z => z = a) w w' := by
  unfold fX3_restart
  exact ev_bnd (ev_some ⟨h.at0, kp_sI (S := fun z => z = a) _ _ rfl⟩)
def ItmOk (n : Nat) (i : Itm) : Prop := i.1 < n ∧ (0 ≤ i.2.1 ∧ i.2.1 ≤ 9999) ∧ (0 ≤ i.2.2.1 ∧ i.2.2.1 ≤ 9999) ∧ VL i.2.2.2
def ItmAt (w : Wd) (a : Nat) (i : Itm) : Prop := gI w 303 a = zI i.1 ∧ gI w 304 a = zI i.2.1 ∧ gI w 305 a = zI i.2.2.1 ∧ gJ w 306 a = cL i.2.2.2
theorem c_readItem (h : CInp F w a T p) (hb : CBook F w b k) (hab : a < b ∨ b + 57 ≤ a) (hN : 40 ≤ N) : Ev (fX3_readItem F N w a b) fun x => CInp F x.2 a T (itmP (bn k) (bkd k) T p).2 ∧ Kp (fun z => z = a) w x.2 ∧
    (((itmP (bn k) (bkd k) T p).1 = none ∧ x.1 = 0) ∨ ∃ i, (itmP (bn k) (bkd k) T p).1 = some i ∧ x.1 = 1 ∧ ItmOk (bn k) i ∧ ItmAt x.2 a i) := by
  have hg := h.gt
  have hn := hb.g.1
  unfold fX3_readItem
  rw [c_bn hb, c_readTier h hn]
  simp only [Option.bind_some]
  unfold itmP
  by_cases c : 48 ≤ pk T p ∧ pk T p < 48 + bn k
  · have cp := (pk_lim hg p).2.2 (by omega)
    simp only [if_pos c]
    generalize ht : (pk T p - 48).toNat = t
    have ht9 : t < bn k := by omega
    have H1 : CInp F (sI (ps w a (p + 1)) 303 a (zI t)) a T (p + 1) := (h.mv (by omega)).fld (by omega)
    have K1 : Kp (fun z => z = a) w (sI (ps w a (p + 1)) 303 a (zI t)) := (kp_sI (S := fun z => z = a) _ _ rfl).trans (kp_sI (S := fun z => z = a) _ _ rfl)
    have e303 : gI (sI (ps w a (p + 1)) 303 a (zI t)) 303 a = zI t := by rw [q_gI_sI, if_pos ⟨rfl, rfl⟩]
    refine ev_bnd ?_
    generalize sI (ps w a (p + 1)) 303 a (zI t) = w1 at H1 K1 e303 ⊢
    rw [e303]
    refine ev_neg (by simp (disch := omega) only [z_0, z_1, z_2, z_3, z_4, z_5, z_6, z_7, z_8, z_9, z_10, z_12, z_13, z_16, z_20, z_24, z_30, z_31, z_32, z_38, z_42, z_44, z_45, z_47, z_48, z_49, z_50, z_57, z_58, z_59, z_60, z_61, z_91, z_97, z_98, z_100, z_108, z_114, z_120, z_122, z_126, z_127, z_128, z_200, z_255, z_961, z_990, z_992, z_998, z_999, z_1000, z_1092, z_1114, z_7798, z_10000, z_1000000, zI_neg, zI_add, zI_sub, zI_mul, zI_lt, zI_le, zI_eq, if_pos, if_neg, if_true, if_false, Option.bind_some, bnd, ldI_is, ldJ_is, Int.toNat_natCast,  Int.not_lt]; omega) ?_
    rw [z_58, c_take H1 (by omega)]
    simp only [Option.bind_some]
    unfold it0
    by_cases c1 : pk T (p + 1) = 58
    · have cp1 := (pk_lim hg (p + 1)).2.2 (by omega)
      simp only [if_pos c1]
      refine ev_neg (by decide) ?_
      have H2 := H1.mv (q := p + 1 + 1) (by omega)
      rw [c_readNumber H2 hN]
      simp only [Option.bind_some]
      obtain ⟨n1, n2, n3, n4⟩ := numP_lim hg (p := p + 1 + 1) (by omega)
      unfold it1
      generalize (numP T (p + 1 + 1)).1 = f at n3 n4 ⊢
      generalize (numP T (p + 1 + 1)).2 = p2 at n1 n2 ⊢
      rw [ps_ps]
      have H3 : CInp F (sI (ps w1 a p2) 304 a (zI f)) a T p2 := (H1.mv n1).fld (by omega)
      have K3 : Kp (fun z => z = a) w (sI (ps w1 a p2) 304 a (zI f)) := (K1.trans (kp_sI (S := fun z => z = a) _ _ rfl)).trans (kp_sI (S := fun z => z = a) _ _ rfl)
      have f303 : gI (sI (ps w1 a p2) 304 a (zI f)) 303 a = zI t := by rw [q_gI_sI, if_neg (by omega)]; unfold ps; rw [q_gI_sI, if_neg (by omega)]; exact e303
      have f304 : gI (sI (ps w1 a p2) 304 a (zI f)) 304 a = zI f := by rw [q_gI_sI, if_pos ⟨rfl, rfl⟩]
      refine ev_bnd ?_
      generalize sI (ps w1 a p2) 304 a (zI f) = w3 at H3 K3 f303 f304 ⊢
      rw [f304]
      by_cases c2 : f < 0
      · rw [if_pos c2]
        refine ev_pos (by simp (disch := omega) only [z_0, z_1, z_2, z_3, z_4, z_5, z_6, z_7, z_8, z_9, z_10, z_12, z_13, z_16, z_20, z_24, z_30, z_31, z_32, z_38, z_42, z_44, z_45, z_47, z_48, z_49, z_50, z_57, z_58, z_59, z_60, z_61, z_91, z_97, z_98, z_100, z_108, z_114, z_120, z_122, z_126, z_127, z_128, z_200, z_255, z_961, z_990, z_992, z_998, z_999, z_1000, z_1092, z_1114, z_7798, z_10000, z_1000000, zI_neg, zI_add, zI_sub, zI_mul, zI_lt, zI_le, zI_eq, if_pos, if_neg, if_true, if_false, Option.bind_some, bnd, ldI_is, ldJ_is, Int.toNat_natCast, ]; exact c2) ?_
        exact ev_some ⟨H3, K3, Or.inl ⟨rfl, rfl⟩⟩
      · rw [if_neg c2]
        refine ev_neg (by simp (disch := omega) only [z_0, z_1, z_2, z_3, z_4, z_5, z_6, z_7, z_8, z_9, z_10, z_12, z_13, z_16, z_20, z_24, z_30, z_31, z_32, z_38, z_42, z_44, z_45, z_47, z_48, z_49, z_50, z_57, z_58, z_59, z_60, z_61, z_91, z_97, z_98, z_100, z_108, z_114, z_120, z_122, z_126, z_127, z_128, z_200, z_255, z_961, z_990, z_992, z_998, z_999, z_1000, z_1092, z_1114, z_7798, z_10000, z_1000000, zI_neg, zI_add, zI_sub, zI_mul, zI_lt, zI_le, zI_eq, if_pos, if_neg, if_true, if_false, Option.bind_some, bnd, ldI_is, ldJ_is, Int.toNat_natCast,  Int.not_lt]; omega) ?_
        rw [z_45, c_take H3 (by omega)]
        simp only [Option.bind_some]
        unfold it2
        by_cases c3 : pk T p2 = 45
        · have cp2 := (pk_lim hg p2).2.2 (by omega)
          simp only [if_pos c3]
          refine ev_neg (by decide) ?_
          have H4 := H3.mv (q := p2 + 1) (by omega)
          rw [c_readNumber H4 hN]
          simp only [Option.bind_some]
          obtain ⟨m1, m2, m3, m4⟩ := numP_lim hg (p := p2 + 1) (by omega)
          unfold it3
          generalize (numP T (p2 + 1)).1 = e at m3 m4 ⊢
          generalize (numP T (p2 + 1)).2 = p3 at m1 m2 ⊢
          rw [ps_ps]
          have H5 : CInp F (sI (ps w3 a p3) 305 a (zI e)) a T p3 := (H3.mv m1).fld (by omega)
          have K5 : Kp (fun z => z = a) w (sI (ps w3 a p3) 305 a (zI e)) := (K3.trans (kp_sI (S := fun z => z = a) _ _ rfl)).trans (kp_sI (S := fun z => z = a) _ _ rfl)
          have g303 : gI (sI (ps w3 a p3) 305 a (zI e)) 303 a = zI t := by rw [q_gI_sI, if_neg (by omega)]; unfold ps; rw [q_gI_sI, if_neg (by omega)]; exact f303
          have g304 : gI (sI (ps w3 a p3) 305 a (zI e)) 304 a = zI f := by rw [q_gI_sI, if_neg (by omega)]; unfold ps; rw [q_gI_sI, if_neg (by omega)]; exact f304
          have g305 : gI (sI (ps w3 a p3) 305 a (zI e)) 305 a = zI e := by rw [q_gI_sI, if_pos ⟨rfl, rfl⟩]
          refine ev_bnd ?_
          generalize sI (ps w3 a p3) 305 a (zI e) = w5 at H5 K5 g303 g304 g305 ⊢
          rw [g305]
          by_cases c4 : e < 0
          · rw [if_pos c4]
            refine ev_pos (by simp (disch := omega) only [z_0, z_1, z_2, z_3, z_4, z_5, z_6, z_7, z_8, z_9, z_10, z_12, z_13, z_16, z_20, z_24, z_30, z_31, z_32, z_38, z_42, z_44, z_45, z_47, z_48, z_49, z_50, z_57, z_58, z_59, z_60, z_61, z_91, z_97, z_98, z_100, z_108, z_114, z_120, z_122, z_126, z_127, z_128, z_200, z_255, z_961, z_990, z_992, z_998, z_999, z_1000, z_1092, z_1114, z_7798, z_10000, z_1000000, zI_neg, zI_add, zI_sub, zI_mul, zI_lt, zI_le, zI_eq, if_pos, if_neg, if_true, if_false, Option.bind_some, bnd, ldI_is, ldJ_is, Int.toNat_natCast, ]; exact c4) ?_
            exact ev_some ⟨H5, K5, Or.inl ⟨rfl, rfl⟩⟩
          · rw [if_neg c4]
            refine ev_neg (by simp (disch := omega) only [z_0, z_1, z_2, z_3, z_4, z_5, z_6, z_7, z_8, z_9, z_10, z_12, z_13, z_16, z_20, z_24, z_30, z_31, z_32, z_38, z_42, z_44, z_45, z_47, z_48, z_49, z_50, z_57, z_58, z_59, z_60, z_61, z_91, z_97, z_98, z_100, z_108, z_114, z_120, z_122, z_126, z_127, z_128, z_200, z_255, z_961, z_990, z_992, z_998, z_999, z_1000, z_1092, z_1114, z_7798, z_10000, z_1000000, zI_neg, zI_add, zI_sub, zI_mul, zI_lt, zI_le, zI_eq, if_pos, if_neg, if_true, if_false, Option.bind_some, bnd, ldI_is, ldJ_is, Int.toNat_natCast,  Int.not_lt]; omega) ?_
            rw [z_61, c_take H5 (by omega)]
            simp only [Option.bind_some]
            unfold it4
            by_cases c5 : pk T p3 = 61
            · have cp3 := (pk_lim hg p3).2.2 (by omega)
              simp only [if_pos c5]
              refine ev_neg (by decide) ?_
              have H6 := H5.mv (q := p3 + 1) (by omega)
              have K6 : Kp (fun z => z = a) w (ps w5 a (p3 + 1)) := K5.trans (kp_sI (S := fun z => z = a) _ _ rfl)
              have h303 : gI (ps w5 a (p3 + 1)) 303 a = zI t := by unfold ps; rw [q_gI_sI, if_neg (by omega)]; exact g303
              have hb6 : CBook F (ps w5 a (p3 + 1)) b k := hb.keep K6 (fun y h1 h2 => by omega)
              rw [h303, c_kindOf hb6 ht9]
              simp only [Option.bind_some]
              have hkd := (hb.g.2.2.2.2 t ht9).1
              rw [c_readLabel H6 hN hkd]
              simp only [Option.bind_some]
              obtain ⟨l1, l2⟩ := labK_lim (kd := bkd k t) hg (p := p3 + 1) (by omega)
              refine ev_bnd ?_
              rw [ps_ps]
              rw [q_gJ_sJ, if_pos (⟨rfl, rfl⟩ : 306 = 306 ∧ a = a)]
              by_cases c6 : labK T (bkd k t) (p3 + 1) = []
              · simp only [if_pos c6]
                rw [c6]
                refine ev_pos (by decide) ?_
                exact ev_some ⟨(H5.mv (by simp; omega)).fldJ, K5.trans ((kp_sI (S := fun z => z = a) _ _ rfl).trans (kp_sJ (S := fun z => z = a) _ _ rfl)), Or.inl ⟨trivial, rfl⟩⟩
              · simp only [if_neg c6]
                have hv := l2 c6
                refine ev_neg (by rw [lg_cmp_eq]; exact cL_ne hv) ?_
                refine ev_some ⟨(H5.mv (by omega)).fldJ, K5.trans ((kp_sI (S := fun z => z = a) _ _ rfl).trans (kp_sJ (S := fun z => z = a) _ _ rfl)), Or.inr ⟨_, rfl, rfl, ⟨ht9, ⟨by show 0 ≤ f; omega, by show f ≤ 9999; omega⟩, ⟨by show 0 ≤ e; omega, by show e ≤ 9999; omega⟩, hv⟩, ?_, ?_, ?_, ?_⟩⟩
                · rw [q_gI_sJ]; unfold ps; rw [q_gI_sI, if_neg (by omega)]; exact g303
                · rw [q_gI_sJ]; unfold ps; rw [q_gI_sI, if_neg (by omega)]; exact g304
                · rw [q_gI_sJ]; unfold ps; rw [q_gI_sI, if_neg (by omega)]; exact g305
                · rw [q_gJ_sJ, if_pos ⟨rfl, rfl⟩]
            · simp only [if_neg c5]
              refine ev_pos (by decide) ?_
              exact ev_some ⟨H5, K5, Or.inl ⟨trivial, rfl⟩⟩
        · simp only [if_neg c3]
          refine ev_pos (by decide) ?_
          exact ev_some ⟨H3, K3, Or.inl ⟨trivial, rfl⟩⟩
    · simp only [if_neg c1]
      refine ev_pos (by decide) ?_
      exact ev_some ⟨H1, K1, Or.inl ⟨trivial, rfl⟩⟩
  · simp only [if_neg c]
    refine ev_bnd ?_
    refine ev_pos (by rw [q_gI_sI, if_pos (⟨rfl, rfl⟩ : 303 = 303 ∧ a = a)]; decide) ?_
    exact ev_some ⟨h.fld (by omega), kp_sI (S := fun z => z = a) _ _ rfl, Or.inl ⟨trivial, rfl⟩⟩
theorem c_countItems_6 (hab : a < b ∨ b + 57 ≤ a) (hN : 40 ≤ N) : ∀ (m f c p : Nat) (w : Wd), CInp F w a T p → CBook F w b k → c + f = 101 → f < m →
    Ev (fX3_countItems_6 F N m w a b (zI c)) fun x => CInp F x.2 a T (itmsP (bn k) (bkd k) T f p).2 ∧ Kp (fun z => z = a) w x.2 ∧ (((itmsP (bn k) (bkd k) T f p).1 = none ∧ x.1 = 0) ∨ ∃ l, (itmsP (bn k) (bkd k) T f p).1 = some l ∧ 1 ≤ l.length ∧ x.1 = zI ((c + l.length - 1 : Nat) : Int)) := by
  intro m
  induction m with
  | zero => intro f c p w _ _ _ h; omega
  | succ m ih =>
    intro f c p w h hb hcf hm
    have hg := h.gt
    unfold fX3_countItems_6
    cases f with
    | zero =>
      refine ev_pos (by simp (disch := omega) only [z_0, z_1, z_2, z_3, z_4, z_5, z_6, z_7, z_8, z_9, z_10, z_12, z_13, z_16, z_20, z_24, z_30, z_31, z_32, z_38, z_42, z_44, z_45, z_47, z_48, z_49, z_50, z_57, z_58, z_59, z_60, z_61, z_91, z_97, z_98, z_100, z_108, z_114, z_120, z_122, z_126, z_127, z_128, z_200, z_255, z_961, z_990, z_992, z_998, z_999, z_1000, z_1092, z_1114, z_7798, z_10000, z_1000000, zI_neg, zI_add, zI_sub, zI_mul, zI_lt, zI_le, zI_eq, if_pos, if_neg, if_true, if_false, Option.bind_some, bnd, ldI_is, ldJ_is, Int.toNat_natCast, ]; omega) (ev_some ⟨h, Kp.refl _, Or.inl ⟨rfl, rfl⟩⟩)
    | succ f =>
      refine ev_neg (by simp (disch := omega) only [z_0, z_1, z_2, z_3, z_4, z_5, z_6, z_7, z_8, z_9, z_10, z_12, z_13, z_16, z_20, z_24, z_30, z_31, z_32, z_38, z_42, z_44, z_45, z_47, z_48, z_49, z_50, z_57, z_58, z_59, z_60, z_61, z_91, z_97, z_98, z_100, z_108, z_114, z_120, z_122, z_126, z_127, z_128, z_200, z_255, z_961, z_990, z_992, z_998, z_999, z_1000, z_1092, z_1114, z_7798, z_10000, z_1000000, zI_neg, zI_add, zI_sub, zI_mul, zI_lt, zI_le, zI_eq, if_pos, if_neg, if_true, if_false, Option.bind_some, bnd, ldI_is, ldJ_is, Int.toNat_natCast,  Int.not_lt]; omega) ?_
      refine ev_then (c_readItem h hb hab hN) fun x ⟨x1, x2, x3⟩ => ?_
      have hlim := itmP_lim hg (n := bn k) (ks := bkd k) h.2.2
      unfold itmsP
      rcases e : itmP (bn k) (bkd k) T p with ⟨o, q⟩
      rw [e] at x1 x3 hlim
      dsimp only at x1 x3 hlim
      rcases x3 with ⟨rfl, y2⟩ | ⟨i, rfl, y2, y3, y4⟩
      · refine ev_pos y2 (ev_some ⟨x1, x2, Or.inl ⟨rfl, rfl⟩⟩)
      · refine ev_neg (by rw [y2]; decide) ?_
        rw [c_isAtEnd x1]
        simp only [Option.bind_some]
        by_cases d : tn T ≤ q
        · simp only [if_pos d]
          refine ev_neg (by decide) (ev_some ⟨x1, x2, Or.inr ⟨[i], rfl, Nat.le_refl _, ?_⟩⟩)
          show zI (c : Int) = zI ((c + 1 - 1 : Nat) : Int)
          rw [Nat.add_sub_cancel]
        · simp only [if_neg d]
          refine ev_pos (by decide) ?_
          rw [z_59, c_take x1 (by omega)]
          simp only [Option.bind_some]
          by_cases g : pk T q = 59
          · simp only [if_pos g]
            refine ev_neg (by decide) ?_
            have K2 : Kp (fun z => z = a) w (ps x.2 a (q + 1)) := x2.trans (kp_sI (S := fun z => z = a) _ _ rfl)
            rw [zI_succ]
            refine ev_mono (ih f (c + 1) (q + 1) (ps x.2 a (q + 1)) (x1.mv (by omega)) (hb.keep K2 (fun y h1 h2 => by omega)) (by omega) (by omega)) fun y ⟨z1, z2, z3⟩ => ?_
            rcases e9 : itmsP (bn k) (bkd k) T f (q + 1) with ⟨o9, r⟩
            rw [e9] at z1 z3
            dsimp only at z1 z3
            rcases z3 with ⟨rfl, y9⟩ | ⟨l, rfl, y8, y9⟩
            · exact ⟨z1, K2.trans z2, Or.inl ⟨rfl, y9⟩⟩
            · refine ⟨z1, K2.trans z2, Or.inr ⟨i :: l, rfl, by rw [List.length_cons]; omega, ?_⟩⟩
              rw [y9]
              congr 2
              rw [List.length_cons]
              omega
          · simp only [if_neg g]
            refine ev_pos (by decide) (ev_some ⟨x1, x2, Or.inl ⟨trivial, rfl⟩⟩)
theorem c_countItems (h : CIn0 F w a T) (hb : CBook F w b k) (hab : a < b ∨ b + 57 ≤ a) (hN : 200 ≤ N) : Ev (fX3_countItems F N w a b) fun x => CInp F x.2 a T (itmsP (bn k) (bkd k) T 100 0).2 ∧ Kp (fun z => z = a) w x.2 ∧ (((itmsP (bn k) (bkd k) T 100 0).1 = none ∧ x.1 = 0) ∨ ∃ l, (itmsP (bn k) (bkd k) T 100 0).1 = some l ∧ 1 ≤ l.length ∧ x.1 = zI (l.length : Int)) := by
  unfold fX3_countItems
  refine ev_then (c_restart h) fun w1 ⟨h1, k1⟩ => ?_
  refine ev_mono (c_countItems_6 hab (by omega) N 100 1 0 w1 h1 (hb.keep k1 (fun y h1 h2 => by omega)) (by omega) (by omega)) fun x ⟨x1, x2, x3⟩ => ⟨x1, k1.trans x2, ?_⟩
  rcases x3 with x3 | ⟨l, y1, y2, y3⟩
  · exact Or.inl x3
  · refine Or.inr ⟨l, y1, y2, ?_⟩
    rw [y3]
    congr 2
    omega
end CINP
