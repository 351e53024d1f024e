/-! the reference reads the buffer: rdw w z p b is w with the reader at p, wrong or not -/
def bI (b : Bool) : Int32 := if b = true then 1 else 0
def rdw (w : Wd) (z p : Nat) (b : Bool) : Wd := sI (sI w 909 z (zI (p : Nat))) 910 z (bI b)
theorem sI_swap (w : Wd) {f g : Nat} (z : Nat) (u v : Int32) (h : ¬ f = g) : sI (sI w f z u) g z v = sI (sI w g z v) f z u := by
  unfold sI up2
  congr 1
  funext j b
  dsimp only
  by_cases c : j = g ∧ b = z
  · rw [if_pos c, if_neg (fun d : j = f ∧ b = z => h (d.1.symm.trans c.1)), if_pos c]
  · rw [if_neg c]
    by_cases d : j = f ∧ b = z
    · rw [if_pos d, if_pos d]
    · rw [if_neg d, if_neg d, if_neg c]
theorem ckZ_b (b : Bool) : ckZ (bI b) = some (bI b) := ckZ_if
theorem rdw_pl (w : Wd) (z p q : Nat) (b : Bool) : sI (rdw w z p b) 909 z (zI (q : Nat)) = rdw w z q b := by
  unfold rdw
  rw [sI_swap _ _ _ _ (by decide), sI_sI]
theorem rdw_wr (w : Wd) (z p : Nat) (b c : Bool) : sI (rdw w z p b) 910 z (bI c) = rdw w z p c := by
  unfold rdw
  rw [sI_sI]
section RD
variable {F : Fr} {N : Nat} {w : Wd} {z : Nat} {s : St} {k : Bk} {p : Nat} {b : Bool}
theorem rdw_910 : gI (rdw w z p b) 910 z = bI b := gI_same _ _ _ _
theorem rdw_909 : gI (rdw w z p b) 909 z = zI (p : Nat) := by unfold rdw; rw [gI_ne _ (by omega), gI_same]
theorem rdw_ne {f : Nat} (h1 : ¬ f = 909) (h2 : ¬ f = 910) : gI (rdw w z p b) f z = gI w f z := by unfold rdw; rw [gI_ne _ h2, gI_ne _ h1]
theorem sc_rdw : Sc z w (rdw w z p b) := (Sc.sI _ _ (by unfold KF; omega)).trans (Sc.sI _ _ (by unfold KF; omega))
theorem MSt.rd (h : MSt F w z s) : MSt F (rdw w z p b) z s := h.sc sc_rdw
theorem b1_ne : ¬ (1 : Int32) = 0 := by decide
theorem r_here (h : MSt F w z s) (hp : p ≤ 100) (V : GT (stx s)) : fX9_here F N (rdw w z p b) z = some (zI (pk (stx s) p)) := by
  have hT := V.1
  unfold fX9_here pk
  rw [rdw_909, rdw_ne (by omega) (by omega), h.2.2.2.2.1.1]
  by_cases c : p < tn (stx s)
  · rw [if_neg (by simp (disch := omega) only [z_0, z_1, z_2, z_3, z_4, z_5, z_6, z_7, z_8, z_9, z_10, z_12, z_13, z_16, z_20, z_24, z_30, z_31, z_32, z_38, z_42, z_44, z_45, z_47, z_48, z_49, z_50, z_57, z_58, z_59, z_60, z_61, z_91, z_97, z_98, z_100, z_108, z_114, z_120, z_122, z_126, z_127, z_128, z_200, z_255, z_961, z_990, z_992, z_998, z_999, z_1000, z_1092, z_1114, z_7798, z_10000, z_1000000, zI_neg, zI_add, zI_sub, zI_mul, zI_lt, zI_le, zI_eq, if_pos, if_neg, if_true, if_false, Option.bind_some, bnd, ldI_is, ldJ_is, Int.toNat_natCast,  Int.not_le]; omega), if_pos c, rdR_is (w := rdw w z p b) h.1.p907.1 h.1.p907.2.1]
    simp only [Option.bind_some]
    rw [ldI_is (by omega) (by rw [h.1.p907.2.2]; omega) (by omega), Int.toNat_natCast]
    simp only [Option.bind_some]
    rw [show aI (rdw w z p b) (z + 5) = aI w (z + 5) from rfl, h.2.2.2.2.1.2 p c]
  · rw [if_pos (by simp (disch := omega) only [z_0, z_1, z_2, z_3, z_4, z_5, z_6, z_7, z_8, z_9, z_10, z_12, z_13, z_16, z_20, z_24, z_30, z_31, z_32, z_38, z_42, z_44, z_45, z_47, z_48, z_49, z_50, z_57, z_58, z_59, z_60, z_61, z_91, z_97, z_98, z_100, z_108, z_114, z_120, z_122, z_126, z_127, z_128, z_200, z_255, z_961, z_990, z_992, z_998, z_999, z_1000, z_1092, z_1114, z_7798, z_10000, z_1000000, zI_neg, zI_add, zI_sub, zI_mul, zI_lt, zI_le, zI_eq, if_pos, if_neg, if_true, if_false, Option.bind_some, bnd, ldI_is, ldJ_is, Int.toNat_natCast, ]; omega), if_neg c]
    rfl
theorem r_isOf {kd x : Int} (hk : 0 ≤ kd ∧ kd ≤ 3) (hx : 0 ≤ x ∧ x ≤ 200) : fX9_isOf F N w (zI kd) (zI x) = some (if ofK kd x = true then 1 else 0) := by
  unfold fX9_isOf fX9_isOf_46 ofK
  by_cases k1 : kd = 1
  · rw [if_pos (by simp (disch := omega) only [z_0, z_1, z_2, z_3, z_4, z_5, z_6, z_7, z_8, z_9, z_10, z_12, z_13, z_16, z_20, z_24, z_30, z_31, z_32, z_38, z_42, z_44, z_45, z_47, z_48, z_49, z_50, z_57, z_58, z_59, z_60, z_61, z_91, z_97, z_98, z_100, z_108, z_114, z_120, z_122, z_126, z_127, z_128, z_200, z_255, z_961, z_990, z_992, z_998, z_999, z_1000, z_1092, z_1114, z_7798, z_10000, z_1000000, zI_neg, zI_add, zI_sub, zI_mul, zI_lt, zI_le, zI_eq, if_pos, if_neg, if_true, if_false, Option.bind_some, bnd, ldI_is, ldJ_is, Int.toNat_natCast, ]; exact k1), if_pos k1]
    simp only [decide_eq_true_eq]
    by_cases c1 : x = 108
    · rw [if_pos (by simp (disch := omega) only [z_0, z_1, z_2, z_3, z_4, z_5, z_6, z_7, z_8, z_9, z_10, z_12, z_13, z_16, z_20, z_24, z_30, z_31, z_32, z_38, z_42, z_44, z_45, z_47, z_48, z_49, z_50, z_57, z_58, z_59, z_60, z_61, z_91, z_97, z_98, z_100, z_108, z_114, z_120, z_122, z_126, z_127, z_128, z_200, z_255, z_961, z_990, z_992, z_998, z_999, z_1000, z_1092, z_1114, z_7798, z_10000, z_1000000, zI_neg, zI_add, zI_sub, zI_mul, zI_lt, zI_le, zI_eq, if_pos, if_neg, if_true, if_false, Option.bind_some, bnd, ldI_is, ldJ_is, Int.toNat_natCast, ]; exact c1), if_pos (Or.inl c1)]
    · rw [if_neg (by simp (disch := omega) only [z_0, z_1, z_2, z_3, z_4, z_5, z_6, z_7, z_8, z_9, z_10, z_12, z_13, z_16, z_20, z_24, z_30, z_31, z_32, z_38, z_42, z_44, z_45, z_47, z_48, z_49, z_50, z_57, z_58, z_59, z_60, z_61, z_91, z_97, z_98, z_100, z_108, z_114, z_120, z_122, z_126, z_127, z_128, z_200, z_255, z_961, z_990, z_992, z_998, z_999, z_1000, z_1092, z_1114, z_7798, z_10000, z_1000000, zI_neg, zI_add, zI_sub, zI_mul, zI_lt, zI_le, zI_eq, if_pos, if_neg, if_true, if_false, Option.bind_some, bnd, ldI_is, ldJ_is, Int.toNat_natCast, ]; exact c1)]
      by_cases c2 : x = 114
      · rw [if_pos (by simp (disch := omega) only [z_0, z_1, z_2, z_3, z_4, z_5, z_6, z_7, z_8, z_9, z_10, z_12, z_13, z_16, z_20, z_24, z_30, z_31, z_32, z_38, z_42, z_44, z_45, z_47, z_48, z_49, z_50, z_57, z_58, z_59, z_60, z_61, z_91, z_97, z_98, z_100, z_108, z_114, z_120, z_122, z_126, z_127, z_128, z_200, z_255, z_961, z_990, z_992, z_998, z_999, z_1000, z_1092, z_1114, z_7798, z_10000, z_1000000, zI_neg, zI_add, zI_sub, zI_mul, zI_lt, zI_le, zI_eq, if_pos, if_neg, if_true, if_false, Option.bind_some, bnd, ldI_is, ldJ_is, Int.toNat_natCast, ]; exact c2), if_pos (Or.inr (Or.inl c2))]
      · rw [if_neg (by simp (disch := omega) only [z_0, z_1, z_2, z_3, z_4, z_5, z_6, z_7, z_8, z_9, z_10, z_12, z_13, z_16, z_20, z_24, z_30, z_31, z_32, z_38, z_42, z_44, z_45, z_47, z_48, z_49, z_50, z_57, z_58, z_59, z_60, z_61, z_91, z_97, z_98, z_100, z_108, z_114, z_120, z_122, z_126, z_127, z_128, z_200, z_255, z_961, z_990, z_992, z_998, z_999, z_1000, z_1092, z_1114, z_7798, z_10000, z_1000000, zI_neg, zI_add, zI_sub, zI_mul, zI_lt, zI_le, zI_eq, if_pos, if_neg, if_true, if_false, Option.bind_some, bnd, ldI_is, ldJ_is, Int.toNat_natCast, ]; exact c2)]
        by_cases c3 : x = 98
        · rw [if_pos (by simp (disch := omega) only [z_0, z_1, z_2, z_3, z_4, z_5, z_6, z_7, z_8, z_9, z_10, z_12, z_13, z_16, z_20, z_24, z_30, z_31, z_32, z_38, z_42, z_44, z_45, z_47, z_48, z_49, z_50, z_57, z_58, z_59, z_60, z_61, z_91, z_97, z_98, z_100, z_108, z_114, z_120, z_122, z_126, z_127, z_128, z_200, z_255, z_961, z_990, z_992, z_998, z_999, z_1000, z_1092, z_1114, z_7798, z_10000, z_1000000, zI_neg, zI_add, zI_sub, zI_mul, zI_lt, zI_le, zI_eq, if_pos, if_neg, if_true, if_false, Option.bind_some, bnd, ldI_is, ldJ_is, Int.toNat_natCast, ]; exact c3), if_pos (Or.inr (Or.inr c3))]
        · rw [if_neg (by simp (disch := omega) only [z_0, z_1, z_2, z_3, z_4, z_5, z_6, z_7, z_8, z_9, z_10, z_12, z_13, z_16, z_20, z_24, z_30, z_31, z_32, z_38, z_42, z_44, z_45, z_47, z_48, z_49, z_50, z_57, z_58, z_59, z_60, z_61, z_91, z_97, z_98, z_100, z_108, z_114, z_120, z_122, z_126, z_127, z_128, z_200, z_255, z_961, z_990, z_992, z_998, z_999, z_1000, z_1092, z_1114, z_7798, z_10000, z_1000000, zI_neg, zI_add, zI_sub, zI_mul, zI_lt, zI_le, zI_eq, if_pos, if_neg, if_true, if_false, Option.bind_some, bnd, ldI_is, ldJ_is, Int.toNat_natCast, ]; exact c3), if_neg (by omega)]
  · rw [if_neg (by simp (disch := omega) only [z_0, z_1, z_2, z_3, z_4, z_5, z_6, z_7, z_8, z_9, z_10, z_12, z_13, z_16, z_20, z_24, z_30, z_31, z_32, z_38, z_42, z_44, z_45, z_47, z_48, z_49, z_50, z_57, z_58, z_59, z_60, z_61, z_91, z_97, z_98, z_100, z_108, z_114, z_120, z_122, z_126, z_127, z_128, z_200, z_255, z_961, z_990, z_992, z_998, z_999, z_1000, z_1092, z_1114, z_7798, z_10000, z_1000000, zI_neg, zI_add, zI_sub, zI_mul, zI_lt, zI_le, zI_eq, if_pos, if_neg, if_true, if_false, Option.bind_some, bnd, ldI_is, ldJ_is, Int.toNat_natCast, ]; exact k1), if_neg k1]
    by_cases k2 : kd = 2
    · rw [if_pos (by simp (disch := omega) only [z_0, z_1, z_2, z_3, z_4, z_5, z_6, z_7, z_8, z_9, z_10, z_12, z_13, z_16, z_20, z_24, z_30, z_31, z_32, z_38, z_42, z_44, z_45, z_47, z_48, z_49, z_50, z_57, z_58, z_59, z_60, z_61, z_91, z_97, z_98, z_100, z_108, z_114, z_120, z_122, z_126, z_127, z_128, z_200, z_255, z_961, z_990, z_992, z_998, z_999, z_1000, z_1092, z_1114, z_7798, z_10000, z_1000000, zI_neg, zI_add, zI_sub, zI_mul, zI_lt, zI_le, zI_eq, if_pos, if_neg, if_true, if_false, Option.bind_some, bnd, ldI_is, ldJ_is, Int.toNat_natCast, ]; exact k2), if_pos k2, z_48, z_57, m_in (by omega) (by omega) (by omega)]
      simp only [Option.bind_some, ckZ_if, isDg, decide_eq_true_eq]
    · rw [if_neg (by simp (disch := omega) only [z_0, z_1, z_2, z_3, z_4, z_5, z_6, z_7, z_8, z_9, z_10, z_12, z_13, z_16, z_20, z_24, z_30, z_31, z_32, z_38, z_42, z_44, z_45, z_47, z_48, z_49, z_50, z_57, z_58, z_59, z_60, z_61, z_91, z_97, z_98, z_100, z_108, z_114, z_120, z_122, z_126, z_127, z_128, z_200, z_255, z_961, z_990, z_992, z_998, z_999, z_1000, z_1092, z_1114, z_7798, z_10000, z_1000000, zI_neg, zI_add, zI_sub, zI_mul, zI_lt, zI_le, zI_eq, if_pos, if_neg, if_true, if_false, Option.bind_some, bnd, ldI_is, ldJ_is, Int.toNat_natCast, ]; exact k2), if_neg k2, z_97, z_122, m_in (by omega) (by omega) (by omega)]
      simp only [Option.bind_some, ckZ_if, decide_eq_true_eq]
theorem r_label_23 (h : MSt F w z s) (V : GT (stx s)) {kd : Int} (hk : 0 ≤ kd ∧ kd ≤ 3) {M : Nat} (hM : M ≤ 8) : ∀ (m n p : Nat) (l : List Nat), p ≤ tn (stx s) → l.length + n = M → n < m →
    fX9_readLabel_23 F N m (rdw w z p false) z (zI kd) (mL l) (zI (M : Nat)) (zI (l.length : Nat)) = some (mL (l ++ labR (stx s) kd n p), rdw w z (p + (labR (stx s) kd n p).length) (decide (l ++ labR (stx s) kd n p = []))) := by
  intro m
  induction m with
  | zero => intro n p l _ _ h; omega
  | succ m ih =>
    intro n p l hp hl hm
    have hT := V.1
    have fin : fX9_readLabel_76 F N (rdw w z p false) z (mL l) (zI (l.length : Nat)) = some (mL (l ++ []), rdw w z (p + 0) (decide (l ++ [] = []))) := by
      unfold fX9_readLabel_76 fX9_readLabel_89
      rw [rdw_910, if_pos (by rfl), List.append_nil, Nat.add_zero]
      by_cases c : l = []
      · rw [if_pos (by rw [c]; rfl)]
        simp only [bnd]
        rw [show (1 : Int32) = bI true from rfl, rdw_wr, decide_eq_true c]
      · have hne : ¬ l.length = 0 := fun e => c (List.length_eq_zero_iff.mp e)
        rw [if_neg (by simp (disch := omega) only [z_0, z_1, z_2, z_3, z_4, z_5, z_6, z_7, z_8, z_9, z_10, z_12, z_13, z_16, z_20, z_24, z_30, z_31, z_32, z_38, z_42, z_44, z_45, z_47, z_48, z_49, z_50, z_57, z_58, z_59, z_60, z_61, z_91, z_97, z_98, z_100, z_108, z_114, z_120, z_122, z_126, z_127, z_128, z_200, z_255, z_961, z_990, z_992, z_998, z_999, z_1000, z_1092, z_1114, z_7798, z_10000, z_1000000, zI_neg, zI_add, zI_sub, zI_mul, zI_lt, zI_le, zI_eq, if_pos, if_neg, if_true, if_false, Option.bind_some, bnd, ldI_is, ldJ_is, Int.toNat_natCast, ]; omega)]
        simp only [bnd]
        rw [show (0 : Int32) = bI false from rfl, rdw_wr, decide_eq_false c]
    unfold fX9_readLabel_23
    rw [rdw_910, if_pos (by rfl)]
    cases n with
    | zero =>
      rw [if_pos (by simp (disch := omega) only [z_0, z_1, z_2, z_3, z_4, z_5, z_6, z_7, z_8, z_9, z_10, z_12, z_13, z_16, z_20, z_24, z_30, z_31, z_32, z_38, z_42, z_44, z_45, z_47, z_48, z_49, z_50, z_57, z_58, z_59, z_60, z_61, z_91, z_97, z_98, z_100, z_108, z_114, z_120, z_122, z_126, z_127, z_128, z_200, z_255, z_961, z_990, z_992, z_998, z_999, z_1000, z_1092, z_1114, z_7798, z_10000, z_1000000, zI_neg, zI_add, zI_sub, zI_mul, zI_lt, zI_le, zI_eq, if_pos, if_neg, if_true, if_false, Option.bind_some, bnd, ldI_is, ldJ_is, Int.toNat_natCast, ]; omega)]
      exact fin
    | succ n =>
      have hpk := pk_lim V p
      rw [if_neg (by simp (disch := omega) only [z_0, z_1, z_2, z_3, z_4, z_5, z_6, z_7, z_8, z_9, z_10, z_12, z_13, z_16, z_20, z_24, z_30, z_31, z_32, z_38, z_42, z_44, z_45, z_47, z_48, z_49, z_50, z_57, z_58, z_59, z_60, z_61, z_91, z_97, z_98, z_100, z_108, z_114, z_120, z_122, z_126, z_127, z_128, z_200, z_255, z_961, z_990, z_992, z_998, z_999, z_1000, z_1092, z_1114, z_7798, z_10000, z_1000000, zI_neg, zI_add, zI_sub, zI_mul, zI_lt, zI_le, zI_eq, if_pos, if_neg, if_true, if_false, Option.bind_some, bnd, ldI_is, ldJ_is, Int.toNat_natCast,  Int.not_le]; omega), r_here h (by omega) V]
      simp only [Option.bind_some]
      rw [r_isOf hk (by omega)]
      simp only [Option.bind_some]
      unfold labR
      by_cases c : ofK kd (pk (stx s) p) = true
      · have ho := ofK_lim c
        have hpt := hpk.2.2 (by omega)
        rw [if_pos c, if_neg (by decide), if_pos c]
        simp only [bnd]
        rw [rdw_909, zI_succ, rdw_pl, zI_64 (by omega) (by omega)]
        have e1 : zJ (pk (stx s) p) = zJ (((pk (stx s) p).toNat : Nat) : Int) := by congr 1; omega
        rw [e1, mL_snoc]
        have ih := ih n (p + 1) (l ++ [(pk (stx s) p).toNat]) (by omega) (by rw [List.length_append, List.length_singleton]; omega) (by omega)
        rw [List.length_append, List.length_singleton] at ih
        rw [zI_succ]
        rw [ih, List.append_assoc, List.singleton_append, List.length_cons, show p + 1 + (labR (stx s) kd n (p + 1)).length = p + ((labR (stx s) kd n (p + 1)).length + 1) from by omega]
      · rw [if_neg c, if_pos (by rfl), if_neg c]
        exact fin
theorem r_label (h : MSt F w z s) (V : GT (stx s)) (hN : 40 ≤ N) (hp : p ≤ tn (stx s)) {kd : Int} (hk : 0 ≤ kd ∧ kd ≤ 3) :
    fX9_readLabel F N (rdw w z p false) z (zI kd) = some (mL (labK (stx s) kd p), rdw w z (p + (labK (stx s) kd p).length) (decide (labK (stx s) kd p = []))) := by
  have e1 := r_label_23 (N := N) h V hk (M := 1) (by omega) N 1 p [] hp rfl (by omega)
  have e8 := r_label_23 (N := N) h V hk (M := 8) (by omega) N 8 p [] hp rfl (by omega)
  unfold fX9_readLabel fX9_readLabel_12 fX9_readLabel_18 labK mstK
  by_cases k1 : kd = 1
  · rw [if_pos (by simp (disch := omega) only [z_0, z_1, z_2, z_3, z_4, z_5, z_6, z_7, z_8, z_9, z_10, z_12, z_13, z_16, z_20, z_24, z_30, z_31, z_32, z_38, z_42, z_44, z_45, z_47, z_48, z_49, z_50, z_57, z_58, z_59, z_60, z_61, z_91, z_97, z_98, z_100, z_108, z_114, z_120, z_122, z_126, z_127, z_128, z_200, z_255, z_961, z_990, z_992, z_998, z_999, z_1000, z_1092, z_1114, z_7798, z_10000, z_1000000, zI_neg, zI_add, zI_sub, zI_mul, zI_lt, zI_le, zI_eq, if_pos, if_neg, if_true, if_false, Option.bind_some, bnd, ldI_is, ldJ_is, Int.toNat_natCast, ]; exact k1), if_neg (by omega)]
    exact e1
  · rw [if_neg (by simp (disch := omega) only [z_0, z_1, z_2, z_3, z_4, z_5, z_6, z_7, z_8, z_9, z_10, z_12, z_13, z_16, z_20, z_24, z_30, z_31, z_32, z_38, z_42, z_44, z_45, z_47, z_48, z_49, z_50, z_57, z_58, z_59, z_60, z_61, z_91, z_97, z_98, z_100, z_108, z_114, z_120, z_122, z_126, z_127, z_128, z_200, z_255, z_961, z_990, z_992, z_998, z_999, z_1000, z_1092, z_1114, z_7798, z_10000, z_1000000, zI_neg, zI_add, zI_sub, zI_mul, zI_lt, zI_le, zI_eq, if_pos, if_neg, if_true, if_false, Option.bind_some, bnd, ldI_is, ldJ_is, Int.toNat_natCast, ]; exact k1)]
    by_cases k2 : kd = 2
    · rw [if_pos (by simp (disch := omega) only [z_0, z_1, z_2, z_3, z_4, z_5, z_6, z_7, z_8, z_9, z_10, z_12, z_13, z_16, z_20, z_24, z_30, z_31, z_32, z_38, z_42, z_44, z_45, z_47, z_48, z_49, z_50, z_57, z_58, z_59, z_60, z_61, z_91, z_97, z_98, z_100, z_108, z_114, z_120, z_122, z_126, z_127, z_128, z_200, z_255, z_961, z_990, z_992, z_998, z_999, z_1000, z_1092, z_1114, z_7798, z_10000, z_1000000, zI_neg, zI_add, zI_sub, zI_mul, zI_lt, zI_le, zI_eq, if_pos, if_neg, if_true, if_false, Option.bind_some, bnd, ldI_is, ldJ_is, Int.toNat_natCast, ]; exact k2), if_neg (by omega)]
      exact e1
    · rw [if_neg (by simp (disch := omega) only [z_0, z_1, z_2, z_3, z_4, z_5, z_6, z_7, z_8, z_9, z_10, z_12, z_13, z_16, z_20, z_24, z_30, z_31, z_32, z_38, z_42, z_44, z_45, z_47, z_48, z_49, z_50, z_57, z_58, z_59, z_60, z_61, z_91, z_97, z_98, z_100, z_108, z_114, z_120, z_122, z_126, z_127, z_128, z_200, z_255, z_961, z_990, z_992, z_998, z_999, z_1000, z_1092, z_1114, z_7798, z_10000, z_1000000, zI_neg, zI_add, zI_sub, zI_mul, zI_lt, zI_le, zI_eq, if_pos, if_neg, if_true, if_false, Option.bind_some, bnd, ldI_is, ldJ_is, Int.toNat_natCast, ]; exact k2), if_pos (by omega)]
      exact e8
theorem r_labelW (hN : 40 ≤ N) {kd : Int} (hk : 0 ≤ kd ∧ kd ≤ 3) : fX9_readLabel F N (rdw w z p true) z (zI kd) = some (0, rdw w z p true) := by
  obtain ⟨N', rfl⟩ : ∃ N', N = N' + 1 := ⟨N - 1, by omega⟩
  have e : ∀ M : Int32, fX9_readLabel_23 F (N' + 1) (N' + 1) (rdw w z p true) z (zI kd) 0 M 0 = some (0, rdw w z p true) := by
    intro M
    unfold fX9_readLabel_23 fX9_readLabel_76 fX9_readLabel_89
    rw [rdw_910, if_neg (by decide), if_neg (by decide)]
    simp only [bnd]
    rw [show (1 : Int32) = bI true from rfl, rdw_wr]
  unfold fX9_readLabel fX9_readLabel_12 fX9_readLabel_18
  by_cases k1 : kd = 1
  · rw [if_pos (by simp (disch := omega) only [z_0, z_1, z_2, z_3, z_4, z_5, z_6, z_7, z_8, z_9, z_10, z_12, z_13, z_16, z_20, z_24, z_30, z_31, z_32, z_38, z_42, z_44, z_45, z_47, z_48, z_49, z_50, z_57, z_58, z_59, z_60, z_61, z_91, z_97, z_98, z_100, z_108, z_114, z_120, z_122, z_126, z_127, z_128, z_200, z_255, z_961, z_990, z_992, z_998, z_999, z_1000, z_1092, z_1114, z_7798, z_10000, z_1000000, zI_neg, zI_add, zI_sub, zI_mul, zI_lt, zI_le, zI_eq, if_pos, if_neg, if_true, if_false, Option.bind_some, bnd, ldI_is, ldJ_is, Int.toNat_natCast, ]; exact k1)]; exact e _
  · rw [if_neg (by simp (disch := omega) only [z_0, z_1, z_2, z_3, z_4, z_5, z_6, z_7, z_8, z_9, z_10, z_12, z_13, z_16, z_20, z_24, z_30, z_31, z_32, z_38, z_42, z_44, z_45, z_47, z_48, z_49, z_50, z_57, z_58, z_59, z_60, z_61, z_91, z_97, z_98, z_100, z_108, z_114, z_120, z_122, z_126, z_127, z_128, z_200, z_255, z_961, z_990, z_992, z_998, z_999, z_1000, z_1092, z_1114, z_7798, z_10000, z_1000000, zI_neg, zI_add, zI_sub, zI_mul, zI_lt, zI_le, zI_eq, if_pos, if_neg, if_true, if_false, Option.bind_some, bnd, ldI_is, ldJ_is, Int.toNat_natCast, ]; exact k1)]
    by_cases k2 : kd = 2
    · rw [if_pos (by simp (disch := omega) only [z_0, z_1, z_2, z_3, z_4, z_5, z_6, z_7, z_8, z_9, z_10, z_12, z_13, z_16, z_20, z_24, z_30, z_31, z_32, z_38, z_42, z_44, z_45, z_47, z_48, z_49, z_50, z_57, z_58, z_59, z_60, z_61, z_91, z_97, z_98, z_100, z_108, z_114, z_120, z_122, z_126, z_127, z_128, z_200, z_255, z_961, z_990, z_992, z_998, z_999, z_1000, z_1092, z_1114, z_7798, z_10000, z_1000000, zI_neg, zI_add, zI_sub, zI_mul, zI_lt, zI_le, zI_eq, if_pos, if_neg, if_true, if_false, Option.bind_some, bnd, ldI_is, ldJ_is, Int.toNat_natCast, ]; exact k2)]; exact e _
    · rw [if_neg (by simp (disch := omega) only [z_0, z_1, z_2, z_3, z_4, z_5, z_6, z_7, z_8, z_9, z_10, z_12, z_13, z_16, z_20, z_24, z_30, z_31, z_32, z_38, z_42, z_44, z_45, z_47, z_48, z_49, z_50, z_57, z_58, z_59, z_60, z_61, z_91, z_97, z_98, z_100, z_108, z_114, z_120, z_122, z_126, z_127, z_128, z_200, z_255, z_961, z_990, z_992, z_998, z_999, z_1000, z_1092, z_1114, z_7798, z_10000, z_1000000, zI_neg, zI_add, zI_sub, zI_mul, zI_lt, zI_le, zI_eq, if_pos, if_neg, if_true, if_false, Option.bind_some, bnd, ldI_is, ldJ_is, Int.toNat_natCast, ]; exact k2)]; exact e _
theorem r_begin : fX9_beginText F N w z = some (rdw w z 0 false) := rfl
theorem r_tierW : fX9_readTierNumber F N (rdw w z p true) z = some (0, rdw w z p true) := by
  unfold fX9_readTierNumber fX9_readTierNumber_29 fX9_readTierNumber_34
  rw [rdw_910, if_neg (by decide), ckZ1]
  simp only [Option.bind_some, bnd]
  rw [show (1 : Int32) = bI true from rfl, rdw_wr, rdw_910, if_neg (by decide)]
theorem r_tier (h : MSt F w z s) (V : VSt s) (hp : p ≤ tn (stx s)) : fX9_readTierNumber F N (rdw w z p false) z = some (if 48 ≤ pk (stx s) p ∧ pk (stx s) p < 48 + bn (snw s) then (zI ((pk (stx s) p - 48).toNat : Nat), rdw w z (p + 1) false) else (0, rdw w z p true)) := by
  have hT := V.2.2.2.2.1.1
  have hn := V.1.1.1
  have hpk := pk_lim V.2.2.2.2.1 p
  have B : MS F (rdw w z p false) z (snw s) := (h.rd).ms V
  unfold fX9_readTierNumber fX9_readTierNumber_29 fX9_readTierNumber_34
  rw [rdw_910, if_pos (by rfl), r_here h (by omega) V.2.2.2.2.1, m_tiers B]
  simp only [Option.bind_some]
  rw [z_48, zI_add, zI_sb1, m_in (by omega) (by omega) (by omega)]
  simp only [Option.bind_some]
  by_cases c : 48 ≤ pk (stx s) p ∧ pk (stx s) p < 48 + bn (snw s)
  · have hpt := hpk.2.2 (by omega)
    rw [if_pos c, if_pos (c := 48 ≤ pk (stx s) p ∧ pk (stx s) p ≤ 48 + (bn (snw s) : Int) - 1) (by omega), if_neg (by decide), ckZ0]
    simp only [Option.bind_some, bnd]
    rw [show sI (rdw w z p false) 910 z 0 = rdw w z p false from rdw_wr w z p false false, rdw_910, if_pos (by rfl), rdw_909, zI_succ, rdw_pl, rdR_is (w := rdw w z (p + 1) false) h.1.p907.1 h.1.p907.2.1]
    simp only [Option.bind_some]
    rw [rdw_909, zI_prd, ldI_is (by omega) (by rw [h.1.p907.2.2]; omega) (by omega), Int.toNat_natCast]
    simp only [Option.bind_some]
    rw [show aI (rdw w z (p + 1) false) (z + 5) = aI w (z + 5) from rfl, h.2.2.2.2.1.2 p hpt, zI_sub]
    have e9 : tc (stx s) p = pk (stx s) p := by unfold pk; rw [if_pos hpt]
    rw [e9, show ((pk (stx s) p - 48).toNat : Int) = pk (stx s) p - 48 from by omega]
  · rw [if_neg c, if_neg (c := 48 ≤ pk (stx s) p ∧ pk (stx s) p ≤ 48 + (bn (snw s) : Int) - 1) (by omega), if_pos (by rfl), ckZ1]
    simp only [Option.bind_some, bnd]
    rw [show (1 : Int32) = bI true from rfl, rdw_wr, rdw_910, if_neg (by decide)]
theorem r_signW (x : Int32) : fX9_sign F N (rdw w z p true) z x = some (rdw w z p true) := by
  unfold fX9_sign fX9_sign_16 fX9_sign_21
  rw [rdw_910, if_neg (by decide), ckZ1]
  simp only [Option.bind_some, bnd]
  rw [show (1 : Int32) = bI true from rfl, rdw_wr, rdw_910, if_neg (by decide), rdw_909, z_0, zI_add, Int.add_zero, rdw_pl]
theorem r_sign (h : MSt F w z s) (V : GT (stx s)) (hp : p ≤ tn (stx s)) {x : Int} (hx : 0 ≤ x ∧ x ≤ 200) : fX9_sign F N (rdw w z p false) z (zI x) = some (if pk (stx s) p = x then rdw w z (p + 1) false else rdw w z p true) := by
  have hT := V.1
  have hpk := pk_lim V p
  unfold fX9_sign fX9_sign_16 fX9_sign_21
  rw [rdw_910, if_pos (by rfl), r_here h (by omega) V]
  simp only [Option.bind_some]
  by_cases c : pk (stx s) p = x
  · rw [if_pos (by rw [c]), if_pos c, ckZ0]
    simp only [Option.bind_some, bnd]
    rw [show sI (rdw w z p false) 910 z 0 = rdw w z p false from rdw_wr w z p false false, rdw_910, if_pos (by rfl), rdw_909, zI_succ, rdw_pl]
  · rw [if_neg (by simp (disch := omega) only [z_0, z_1, z_2, z_3, z_4, z_5, z_6, z_7, z_8, z_9, z_10, z_12, z_13, z_16, z_20, z_24, z_30, z_31, z_32, z_38, z_42, z_44, z_45, z_47, z_48, z_49, z_50, z_57, z_58, z_59, z_60, z_61, z_91, z_97, z_98, z_100, z_108, z_114, z_120, z_122, z_126, z_127, z_128, z_200, z_255, z_961, z_990, z_992, z_998, z_999, z_1000, z_1092, z_1114, z_7798, z_10000, z_1000000, zI_neg, zI_add, zI_sub, zI_mul, zI_lt, zI_le, zI_eq, if_pos, if_neg, if_true, if_false, Option.bind_some, bnd, ldI_is, ldJ_is, Int.toNat_natCast, ]; exact c), if_neg c, ckZ1]
    simp only [Option.bind_some, bnd]
    rw [show (1 : Int32) = bI true from rfl, rdw_wr, rdw_910, if_neg (by decide), rdw_909, z_0, zI_add, Int.add_zero, rdw_pl]
theorem r_number_49W (hN : 40 ≤ N) (x : Int32) : fX9_number_49 F N N (rdw w z p true) z 0 x 0 = some (0, rdw w z p true) := by
  obtain ⟨N', rfl⟩ : ∃ N', N = N' + 1 := ⟨N - 1, by omega⟩
  unfold fX9_number_49
  by_cases c : x ≤ 0
  · rw [if_pos c]
  · rw [if_neg c, rdw_910, if_neg (by decide)]
theorem r_number_49 (h : MSt F w z s) (V : GT (stx s)) {M : Nat} (hM : M ≤ 4) : ∀ (m n p j : Nat) (A : Int), p ≤ tn (stx s) → j + n = M → n < m → 0 ≤ A → A < 10 ^ j →
    fX9_number_49 F N m (rdw w z p false) z (zI A) (zI (M : Nat)) (zI (j : Nat)) = some (zI (numL (stx s) n p A).1, rdw w z (numL (stx s) n p A).2 false) := by
  intro m
  induction m with
  | zero => intro n p j A _ _ h; omega
  | succ m ih =>
    intro n p j A hp hj hm hA hA2
    have hT := V.1
    unfold fX9_number_49
    cases n with
    | zero => rw [if_pos (by simp (disch := omega) only [z_0, z_1, z_2, z_3, z_4, z_5, z_6, z_7, z_8, z_9, z_10, z_12, z_13, z_16, z_20, z_24, z_30, z_31, z_32, z_38, z_42, z_44, z_45, z_47, z_48, z_49, z_50, z_57, z_58, z_59, z_60, z_61, z_91, z_97, z_98, z_100, z_108, z_114, z_120, z_122, z_126, z_127, z_128, z_200, z_255, z_961, z_990, z_992, z_998, z_999, z_1000, z_1092, z_1114, z_7798, z_10000, z_1000000, zI_neg, zI_add, zI_sub, zI_mul, zI_lt, zI_le, zI_eq, if_pos, if_neg, if_true, if_false, Option.bind_some, bnd, ldI_is, ldJ_is, Int.toNat_natCast, ]; omega)]; rfl
    | succ n =>
      have hpk := pk_lim V p
      rw [if_neg (by simp (disch := omega) only [z_0, z_1, z_2, z_3, z_4, z_5, z_6, z_7, z_8, z_9, z_10, z_12, z_13, z_16, z_20, z_24, z_30, z_31, z_32, z_38, z_42, z_44, z_45, z_47, z_48, z_49, z_50, z_57, z_58, z_59, z_60, z_61, z_91, z_97, z_98, z_100, z_108, z_114, z_120, z_122, z_126, z_127, z_128, z_200, z_255, z_961, z_990, z_992, z_998, z_999, z_1000, z_1092, z_1114, z_7798, z_10000, z_1000000, zI_neg, zI_add, zI_sub, zI_mul, zI_lt, zI_le, zI_eq, if_pos, if_neg, if_true, if_false, Option.bind_some, bnd, ldI_is, ldJ_is, Int.toNat_natCast,  Int.not_le]; omega), rdw_910, if_pos (by rfl), r_here h (by omega) V]
      simp only [Option.bind_some]
      rw [z_48, z_57, m_in (by omega) (by omega) (by omega)]
      simp only [Option.bind_some]
      unfold numL
      by_cases c : 48 ≤ pk (stx s) p ∧ pk (stx s) p ≤ 57
      · have hpt := hpk.2.2 (by omega)
        rw [if_pos c, if_neg (by decide), if_pos (isDg_is.mpr c)]
        simp only [bnd]
        rw [rdw_909, zI_succ, rdw_pl, z_10, zI_mul, zI_add, zI_sub, zI_succ, show 10 * A + pk (stx s) p - 48 = A * 10 + pk (stx s) p - 48 from by omega]
        have e9 : (10 : Int) ^ (j + 1) = 10 ^ j * 10 := Int.pow_succ 10 j
        exact ih n (p + 1) (j + 1) (A * 10 + pk (stx s) p - 48) (by omega) (by omega) (by omega) (by omega) (by omega)
      · rw [if_neg c, if_pos (by rfl), if_neg (fun e => c (isDg_is.mp e))]
theorem r_number (h : MSt F w z s) (V : GT (stx s)) (hN : 40 ≤ N) (hp : p ≤ tn (stx s)) : fX9_number F N (rdw w z p false) z = some (if (numP (stx s) p).1 < 0 then (0, rdw w z p true) else (zI (numP (stx s) p).1, rdw w z (numP (stx s) p).2 false)) := by
  have hT := V.1
  have hpk := pk_lim V p
  unfold fX9_number fX9_number_22 fX9_number_27 fX9_number_46 numP
  rw [rdw_910, if_pos (by rfl), r_here h (by omega) V]
  simp only [Option.bind_some]
  rw [z_48, z_57, m_in (by omega) (by omega) (by omega)]
  simp only [Option.bind_some]
  by_cases c : 48 ≤ pk (stx s) p ∧ pk (stx s) p ≤ 57
  · rw [if_pos c, if_neg (by decide), if_pos (isDg_is.mpr c), ckZ0]
    simp only [Option.bind_some, bnd]
    rw [show sI (rdw w z p false) 910 z 0 = rdw w z p false from rdw_wr w z p false false, r_here h (by omega) V]
    simp only [Option.bind_some]
    by_cases c0 : pk (stx s) p = 48
    · rw [if_pos (by rw [c0]), if_pos c0]
      have e := r_number_49 (N := N) h V (M := 1) (by omega) N 1 p 0 0 hp (by omega) (by omega) (by omega) (by decide)
      have e2 : numL (stx s) 1 p 0 = (0, p + 1) := by
        unfold numL
        rw [if_pos (isDg_is.mpr c), c0]
        rfl
      rw [e2] at e
      rw [if_neg (show ¬ (0 : Int) < 0 by omega)]
      exact e
    · rw [if_neg (by simp (disch := omega) only [z_0, z_1, z_2, z_3, z_4, z_5, z_6, z_7, z_8, z_9, z_10, z_12, z_13, z_16, z_20, z_24, z_30, z_31, z_32, z_38, z_42, z_44, z_45, z_47, z_48, z_49, z_50, z_57, z_58, z_59, z_60, z_61, z_91, z_97, z_98, z_100, z_108, z_114, z_120, z_122, z_126, z_127, z_128, z_200, z_255, z_961, z_990, z_992, z_998, z_999, z_1000, z_1092, z_1114, z_7798, z_10000, z_1000000, zI_neg, zI_add, zI_sub, zI_mul, zI_lt, zI_le, zI_eq, if_pos, if_neg, if_true, if_false, Option.bind_some, bnd, ldI_is, ldJ_is, Int.toNat_natCast, ]; exact c0), if_neg c0]
      have e := r_number_49 (N := N) h V (M := 4) (by omega) N 4 p 0 0 hp (by omega) (by omega) (by omega) (by decide)
      have hlim := numL_lim V 4 p 0 hp (Int.le_refl _)
      rw [if_neg (by omega)]
      exact e
  · rw [if_neg c, if_pos (by rfl), if_neg (fun e => c (isDg_is.mp e)), ckZ1]
    simp only [Option.bind_some, bnd]
    rw [show (1 : Int32) = bI true from rfl, rdw_wr, r_here h (by omega) V]
    simp only [Option.bind_some]
    rw [if_neg (by simp (disch := omega) only [z_0, z_1, z_2, z_3, z_4, z_5, z_6, z_7, z_8, z_9, z_10, z_12, z_13, z_16, z_20, z_24, z_30, z_31, z_32, z_38, z_42, z_44, z_45, z_47, z_48, z_49, z_50, z_57, z_58, z_59, z_60, z_61, z_91, z_97, z_98, z_100, z_108, z_114, z_120, z_122, z_126, z_127, z_128, z_200, z_255, z_961, z_990, z_992, z_998, z_999, z_1000, z_1092, z_1114, z_7798, z_10000, z_1000000, zI_neg, zI_add, zI_sub, zI_mul, zI_lt, zI_le, zI_eq, if_pos, if_neg, if_true, if_false, Option.bind_some, bnd, ldI_is, ldJ_is, Int.toNat_natCast, ]; omega), if_pos (show (-1 : Int) < 0 by omega)]
    exact r_number_49W hN _
theorem r_numberW (h : MSt F w z s) (V : GT (stx s)) (hN : 40 ≤ N) (hp : p ≤ tn (stx s)) : fX9_number F N (rdw w z p true) z = some (0, rdw w z p true) := by
  have hT := V.1
  have hpk := pk_lim V p
  unfold fX9_number fX9_number_22 fX9_number_27 fX9_number_46
  rw [rdw_910, if_neg (by decide), ckZ1]
  simp only [Option.bind_some, bnd]
  rw [show (1 : Int32) = bI true from rfl, rdw_wr, r_here h (by omega) V]
  simp only [Option.bind_some]
  by_cases c0 : zI (pk (stx s) p) = 48
  · rw [if_pos c0]; exact r_number_49W hN _
  · rw [if_neg c0]; exact r_number_49W hN _
def emT (T : Tx) : Tx := (0, tc T)
/-- the state behind a text: read well, or wrong at p -/
def endS (s : St) (p : Nat) (b : Bool) : St := if b = true ∨ p < tn (stx s) then setbd (settx s (emT (stx s))) p else settx s (emT (stx s))
theorem r_end (h : MSt F w z s) (V : GT (stx s)) (hp : p ≤ tn (stx s)) : ∃ w', fX9_endText F N (rdw w z p b) z = some ((if b = true ∨ p < tn (stx s) then 1 else 0), w') ∧ MSt F w' z (endS s p b) ∧ Kp (Rg z 26) w w' ∧ gI w' 906 z = gI w 906 z ∧ (gI w' 924 z = gI w 924 z ∧ gI w' 945 z = gI w 945 z) ∧ aI w' = aI w ∧ aJ w' = aJ w := by
  have hT := V.1
  have go : ∀ c : Bool, (c = true ↔ (b = true ∨ p < tn (stx s))) → ∃ w', fX9_endText_24 F N (rdw w z p b) z z (bI c) = some ((if b = true ∨ p < tn (stx s) then 1 else 0), w') ∧ MSt F w' z (endS s p b) ∧ Kp (Rg z 26) w w' ∧ gI w' 906 z = gI w 906 z ∧ (gI w' 924 z = gI w 924 z ∧ gI w' 945 z = gI w 945 z) ∧ aI w' = aI w ∧ aJ w' = aJ w := by
    intro c hc
    unfold fX9_endText_24 fX9_endText_51
    rw [ckZ_b]
    simp only [Option.bind_some, bnd]
    rw [rdw_wr, gI_ne _ (by omega), rdw_910]
    have h1 : MSt F (sI (rdw w z p c) 908 z 0) z (settx s (emT (stx s))) := (h.rd).f908 rfl (fun i hi => absurd hi (Nat.not_lt_zero _))
    have kk : Kp (Rg z 26) w (sI (rdw w z p c) 908 z 0) := (sc_rdw.2.2.2.2).trans (kp_f _ _ _ _)
    have n9 : ∀ f, ¬ f = 908 → ¬ f = 909 → ¬ f = 910 → gI (sI (rdw w z p c) 908 z 0) f z = gI w f z := fun f a1 a2 a3 => by rw [gI_ne _ a1, rdw_ne a2 a3]
    have n10 : gI (sI (rdw w z p c) 908 z 0) 910 z = bI c := by rw [gI_ne _ (by omega), rdw_910]
    by_cases d : c = true
    · have d2 := hc.mp d
      subst d
      rw [if_neg (by decide), gI_ne _ (by omega), n10, gI_ne _ (by omega), rdw_909, ckZ_b]
      refine ⟨_, by rw [if_pos d2]; rfl, ?_, kk.trans (kp_f _ _ _ _), ?_, ⟨?_, ?_⟩, rfl, rfl⟩
      · unfold endS; rw [if_pos d2]; exact h1.f911
      · rw [gI_ne _ (by omega), n9 _ (by omega) (by omega) (by omega)]
      · rw [gI_ne _ (by omega), n9 _ (by omega) (by omega) (by omega)]
      · rw [gI_ne _ (by omega), n9 _ (by omega) (by omega) (by omega)]
    · have d2 : ¬ (b = true ∨ p < tn (stx s)) := fun x => d (hc.mpr x)
      have d3 : c = false := by simpa using d
      subst d3
      rw [if_pos (by decide), sI_self rfl, n10, ckZ_b]
      refine ⟨_, by rw [if_neg d2]; rfl, ?_, kk, ?_, ⟨?_, ?_⟩, rfl, rfl⟩
      · unfold endS; rw [if_neg d2]; exact h1
      · rw [n9 _ (by omega) (by omega) (by omega)]
      · rw [n9 _ (by omega) (by omega) (by omega)]
      · rw [n9 _ (by omega) (by omega) (by omega)]
  unfold fX9_endText fX9_endText_19
  rw [rdw_910, rdw_909, rdw_ne (by omega) (by omega), h.2.2.2.2.1.1]
  cases b with
  | false =>
    rw [if_pos (by rfl)]
    by_cases c : p < tn (stx s)
    · rw [if_neg (by simp (disch := omega) only [z_0, z_1, z_2, z_3, z_4, z_5, z_6, z_7, z_8, z_9, z_10, z_12, z_13, z_16, z_20, z_24, z_30, z_31, z_32, z_38, z_42, z_44, z_45, z_47, z_48, z_49, z_50, z_57, z_58, z_59, z_60, z_61, z_91, z_97, z_98, z_100, z_108, z_114, z_120, z_122, z_126, z_127, z_128, z_200, z_255, z_961, z_990, z_992, z_998, z_999, z_1000, z_1092, z_1114, z_7798, z_10000, z_1000000, zI_neg, zI_add, zI_sub, zI_mul, zI_lt, zI_le, zI_eq, if_pos, if_neg, if_true, if_false, Option.bind_some, bnd, ldI_is, ldJ_is, Int.toNat_natCast,  Int.not_le]; omega)]
      exact go true ⟨fun _ => Or.inr c, fun _ => rfl⟩
    · rw [if_pos (by simp (disch := omega) only [z_0, z_1, z_2, z_3, z_4, z_5, z_6, z_7, z_8, z_9, z_10, z_12, z_13, z_16, z_20, z_24, z_30, z_31, z_32, z_38, z_42, z_44, z_45, z_47, z_48, z_49, z_50, z_57, z_58, z_59, z_60, z_61, z_91, z_97, z_98, z_100, z_108, z_114, z_120, z_122, z_126, z_127, z_128, z_200, z_255, z_961, z_990, z_992, z_998, z_999, z_1000, z_1092, z_1114, z_7798, z_10000, z_1000000, zI_neg, zI_add, zI_sub, zI_mul, zI_lt, zI_le, zI_eq, if_pos, if_neg, if_true, if_false, Option.bind_some, bnd, ldI_is, ldJ_is, Int.toNat_natCast, ]; omega)]
      refine go false ⟨fun x => absurd x (by decide), fun x => ?_⟩
      rcases x with x | x
      · cases x
      · exact absurd x c
  | true =>
    rw [if_neg (by decide)]
    exact go true ⟨fun _ => Or.inl rfl, fun _ => rfl⟩
end RD
