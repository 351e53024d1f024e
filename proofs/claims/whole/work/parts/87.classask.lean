/-! the class's calls: what they come to; and its questions -/
def CO (F : Fr) (h : Nat) (w : Wd) (K : List Nat) (r : Rs) : (Int32 × Wd) ⊕ (Nat × Wd) → Prop
  | .inl x => r.1 = 0 ∧ x.1 = r.2.1 ∧ CSt F x.2 h r.2.2 ∧ Kp (Rg h 661) w x.2
  | .inr x => (∃ c : Nat, r.1 = (c : Int) + 1 ∧ K[c]? = some x.1) ∧ CSt F x.2 h r.2.2 ∧ Kp (Rg h 661) w x.2
section CO
variable {F : Fr} {N : Nat} {w w' : Wd} {h zp zn : Nat} {s s' : St} {K : List Nat} {u v : Int32}
theorem co_in (C : CSt F w' h s) (k : Kp (Rg h 661) w w') (e : v = u) : CO F h w K (0, u, s) (.inl (v, w')) := ⟨rfl, e, C, k⟩
theorem co_ok (C : CSt F w h s) (e : v = u) : CO F h w K (0, u, s) (.inl (v, w)) := ⟨rfl, e, C, Kp.refl _⟩
theorem co_e1 {k1 : Nat} (C : CSt F w' h s) (k : Kp (Rg h 661) w w') : CO F h w (k1 :: K) (1, u, s) (.inr (k1, w')) := ⟨⟨0, rfl, rfl⟩, C, k⟩
theorem co_e2 {k1 k2 : Nat} (C : CSt F w' h s) (k : Kp (Rg h 661) w w') : CO F h w (k1 :: k2 :: K) (2, u, s) (.inr (k2, w')) := ⟨⟨1, rfl, rfl⟩, C, k⟩
theorem co_e3 {k1 k2 k3 : Nat} (C : CSt F w' h s) (k : Kp (Rg h 661) w w') : CO F h w (k1 :: k2 :: k3 :: K) (3, u, s) (.inr (k3, w')) := ⟨⟨2, rfl, rfl⟩, C, k⟩
theorem CStP.st (C : CStP F w h zp zn s) : CSt F w h s := ⟨zp, zn, C⟩
theorem CStP.bk (C : CStP F w h zp zn s) : CBook F w (h + 1) (snw s) := C.2.2.1
theorem CStP.a0 (C : CStP F w h zp zn s) : rdR F w 800 h 1 = some (h + 1) := by
  obtain ⟨hz, cX, cN, cD, cV, cH, cI, cR, cA, cM, cP, cQ⟩ := C
  exact rdR_is cX.1.1.1 cN.1.1
theorem CStP.a1 (C : CStP F w h zp zn s) : rdR F w 801 h 1 = some (h + 58) := by
  obtain ⟨hz, cX, cN, cD, cV, cH, cI, cR, cA, cM, cP, cQ⟩ := C
  exact rdR_is cX.1.1.2.1 cD.1.1
theorem CStP.a2 (C : CStP F w h zp zn s) : rdR F w 802 h 1 = some (h + 115) := by
  obtain ⟨hz, cX, cN, cD, cV, cH, cI, cR, cA, cM, cP, cQ⟩ := C
  exact rdR_is cX.1.1.2.2.1 cV.1.1
theorem CStP.a3 (C : CStP F w h zp zn s) : rdR F w 803 h 2 = some (h + 172) := by
  obtain ⟨hz, cX, cN, cD, cV, cH, cI, cR, cA, cM, cP, cQ⟩ := C
  exact rdR_is cX.1.1.2.2.2.1 cH.1
theorem CStP.a4 (C : CStP F w h zp zn s) : rdR F w 804 h 3 = some (h + 630) := by
  obtain ⟨hz, cX, cN, cD, cV, cH, cI, cR, cA, cM, cP, cQ⟩ := C
  exact rdR_is cX.1.1.2.2.2.2 cI.1
theorem CStP.a5 (C : CStP F w h zp zn s) : rdR F w 805 h 6 = some (h + 632) := by
  obtain ⟨hz, cX, cN, cD, cV, cH, cI, cR, cA, cM, cP, cQ⟩ := C
  exact rdR_is cX.1.2.1 cR.1
theorem CStP.a6 (C : CStP F w h zp zn s) : rdR F w 806 h 0 = some (h + 633) := by
  obtain ⟨hz, cX, cN, cD, cV, cH, cI, cR, cA, cM, cP, cQ⟩ := C
  exact rdR_is cX.1.2.2.1 cA.1
theorem CStP.a7 (C : CStP F w h zp zn s) : rdR F w 807 h 4 = some (h + 636) := by
  obtain ⟨hz, cX, cN, cD, cV, cH, cI, cR, cA, cM, cP, cQ⟩ := C
  exact rdR_is cX.1.2.2.2.1 cM.1
theorem CStP.a8 (C : CStP F w h zp zn s) : rdR F w 808 h 5 = some zp := by
  obtain ⟨hz, cX, cN, cD, cV, cH, cI, cR, cA, cM, cP, cQ⟩ := C
  exact rdR_is cX.1.2.2.2.2.1 cP.1.1.1
theorem CStP.a9 (C : CStP F w h zp zn s) : rdR F w 809 h 5 = some zn := by
  obtain ⟨hz, cX, cN, cD, cV, cH, cI, cR, cA, cM, cP, cQ⟩ := C
  exact rdR_is cX.1.2.2.2.2.2 cQ.1.1
theorem c8_tier (C : CStP F w h zp zn s) (V : VSt s) (hN : 40 ≤ N) {t q : Int} (ht : I32 t) (hq : I32 q) : Ev (fX8_tier F N w h (zI t) (zI q)) (CO F h w [1, 0] (spTier s t q)) := by
  have B := C.bk
  unfold fX8_tier spTier
  refine ev_eq C.a0 (ev_eq (c_hasTier B ht) ?_)
  by_cases c : 0 ≤ t ∧ t < bn (snw s)
  · rw [if_pos c, if_pos c]
    refine ev_neg (by decide) ?_
    obtain ⟨t', rfl⟩ := Int.eq_ofNat_of_zero_le c.1
    have hb : t' < bn (snw s) := by omega
    have hx := V.1.1.2.1
    have R := B.row hx hb
    have O := R.1.1
    rw [Int.toNat_natCast]
    by_cases q0 : q = 0
    · subst q0
      exact ev_pos (by rfl) (ev_eq C.a0 (ev_eq (c_kindOf B hb) (ev_some (co_ok C.st rfl))))
    refine ev_neg (by simp (disch := omega) only [z_0, z_1, z_2, z_3, z_4, z_5, z_6, z_7, z_8, z_9, z_10, z_12, z_13, z_16, z_20, z_24, z_30, z_31, z_32, z_38, z_42, z_44, z_45, z_47, z_48, z_49, z_50, z_57, z_58, z_59, z_60, z_61, z_91, z_97, z_98, z_100, z_108, z_114, z_120, z_122, z_126, z_127, z_128, z_200, z_255, z_961, z_990, z_992, z_998, z_999, z_1000, z_1092, z_1114, z_7798, z_10000, z_1000000, zI_neg, zI_add, zI_sub, zI_mul, zI_lt, zI_le, zI_eq, if_pos, if_neg, if_true, if_false, Option.bind_some, bnd, ldI_is, ldJ_is, Int.toNat_natCast, ]; exact q0) ?_
    by_cases q1 : q = 1
    · subst q1
      exact ev_pos (by rfl) (ev_eq C.a0 (ev_eq (c_ruleOf B hb) (ev_some (co_ok C.st rfl))))
    refine ev_neg (by simp (disch := omega) only [z_0, z_1, z_2, z_3, z_4, z_5, z_6, z_7, z_8, z_9, z_10, z_12, z_13, z_16, z_20, z_24, z_30, z_31, z_32, z_38, z_42, z_44, z_45, z_47, z_48, z_49, z_50, z_57, z_58, z_59, z_60, z_61, z_91, z_97, z_98, z_100, z_108, z_114, z_120, z_122, z_126, z_127, z_128, z_200, z_255, z_961, z_990, z_992, z_998, z_999, z_1000, z_1092, z_1114, z_7798, z_10000, z_1000000, zI_neg, zI_add, zI_sub, zI_mul, zI_lt, zI_le, zI_eq, if_pos, if_neg, if_true, if_false, Option.bind_some, bnd, ldI_is, ldJ_is, Int.toNat_natCast, ]; exact q1) ?_
    by_cases q2 : q = 2
    · subst q2
      exact ev_pos (by rfl) (ev_eq C.a0 (ev_eq (c_parentOf B hb) (ev_some (co_ok C.st rfl))))
    refine ev_neg (by simp (disch := omega) only [z_0, z_1, z_2, z_3, z_4, z_5, z_6, z_7, z_8, z_9, z_10, z_12, z_13, z_16, z_20, z_24, z_30, z_31, z_32, z_38, z_42, z_44, z_45, z_47, z_48, z_49, z_50, z_57, z_58, z_59, z_60, z_61, z_91, z_97, z_98, z_100, z_108, z_114, z_120, z_122, z_126, z_127, z_128, z_200, z_255, z_961, z_990, z_992, z_998, z_999, z_1000, z_1092, z_1114, z_7798, z_10000, z_1000000, zI_neg, zI_add, zI_sub, zI_mul, zI_lt, zI_le, zI_eq, if_pos, if_neg, if_true, if_false, Option.bind_some, bnd, ldI_is, ldJ_is, Int.toNat_natCast, ]; exact q2) ?_
    by_cases q3 : q = 3
    · subst q3
      exact ev_pos (by rfl) (ev_eq C.a0 (ev_eq (c_present B hb) (ev_eq (ckF_is O) (ev_some (co_ok C.st (c_many R))))))
    refine ev_neg (by simp (disch := omega) only [z_0, z_1, z_2, z_3, z_4, z_5, z_6, z_7, z_8, z_9, z_10, z_12, z_13, z_16, z_20, z_24, z_30, z_31, z_32, z_38, z_42, z_44, z_45, z_47, z_48, z_49, z_50, z_57, z_58, z_59, z_60, z_61, z_91, z_97, z_98, z_100, z_108, z_114, z_120, z_122, z_126, z_127, z_128, z_200, z_255, z_961, z_990, z_992, z_998, z_999, z_1000, z_1092, z_1114, z_7798, z_10000, z_1000000, zI_neg, zI_add, zI_sub, zI_mul, zI_lt, zI_le, zI_eq, if_pos, if_neg, if_true, if_false, Option.bind_some, bnd, ldI_is, ldJ_is, Int.toNat_natCast, ]; exact q3) ?_
    by_cases q4 : q = 4
    · subst q4
      exact ev_pos (by rfl) (ev_eq C.a0 (ev_eq (c_present B hb) (ev_eq (ckF_is O) (ev_eq (c_frameSum R hN) (ev_some (co_ok C.st rfl))))))
    refine ev_neg (by simp (disch := omega) only [z_0, z_1, z_2, z_3, z_4, z_5, z_6, z_7, z_8, z_9, z_10, z_12, z_13, z_16, z_20, z_24, z_30, z_31, z_32, z_38, z_42, z_44, z_45, z_47, z_48, z_49, z_50, z_57, z_58, z_59, z_60, z_61, z_91, z_97, z_98, z_100, z_108, z_114, z_120, z_122, z_126, z_127, z_128, z_200, z_255, z_961, z_990, z_992, z_998, z_999, z_1000, z_1092, z_1114, z_7798, z_10000, z_1000000, zI_neg, zI_add, zI_sub, zI_mul, zI_lt, zI_le, zI_eq, if_pos, if_neg, if_true, if_false, Option.bind_some, bnd, ldI_is, ldJ_is, Int.toNat_natCast, ]; exact q4) ?_
    by_cases q5 : q = 5
    · subst q5
      refine ev_pos (by rfl) (ev_eq C.a0 (ev_eq C.a0 ?_))
      have R2 := B.row (show 1 - ban (snw s) < 2 by omega) hb
      rw [c_ban B, show (1 : Int32) - zI (ban (snw s) : Nat) = zI ((1 - ban (snw s) : Nat) : Int) from by rw [z_1, zI_sub]; congr 1; omega]
      exact ev_eq (c_row B (by omega) hb) (ev_eq (ckF_is (R2.1.1)) (ev_some (co_ok C.st (c_many R2))))
    refine ev_neg (by simp (disch := omega) only [z_0, z_1, z_2, z_3, z_4, z_5, z_6, z_7, z_8, z_9, z_10, z_12, z_13, z_16, z_20, z_24, z_30, z_31, z_32, z_38, z_42, z_44, z_45, z_47, z_48, z_49, z_50, z_57, z_58, z_59, z_60, z_61, z_91, z_97, z_98, z_100, z_108, z_114, z_120, z_122, z_126, z_127, z_128, z_200, z_255, z_961, z_990, z_992, z_998, z_999, z_1000, z_1092, z_1114, z_7798, z_10000, z_1000000, zI_neg, zI_add, zI_sub, zI_mul, zI_lt, zI_le, zI_eq, if_pos, if_neg, if_true, if_false, Option.bind_some, bnd, ldI_is, ldJ_is, Int.toNat_natCast, ]; exact q5) ?_
    by_cases q6 : q = 6
    · subst q6
      exact ev_pos (by rfl) (ev_eq C.a0 (ev_eq (c_childMask B hN hb) (ev_some (co_ok C.st rfl))))
    refine ev_neg (by simp (disch := omega) only [z_0, z_1, z_2, z_3, z_4, z_5, z_6, z_7, z_8, z_9, z_10, z_12, z_13, z_16, z_20, z_24, z_30, z_31, z_32, z_38, z_42, z_44, z_45, z_47, z_48, z_49, z_50, z_57, z_58, z_59, z_60, z_61, z_91, z_97, z_98, z_100, z_108, z_114, z_120, z_122, z_126, z_127, z_128, z_200, z_255, z_961, z_990, z_992, z_998, z_999, z_1000, z_1092, z_1114, z_7798, z_10000, z_1000000, zI_neg, zI_add, zI_sub, zI_mul, zI_lt, zI_le, zI_eq, if_pos, if_neg, if_true, if_false, Option.bind_some, bnd, ldI_is, ldJ_is, Int.toNat_natCast, ]; exact q6) ?_
    by_cases q7 : q = 7
    · subst q7
      exact ev_pos (by rfl) (ev_eq C.a0 (ev_eq (c_present B hb) (ev_eq (ckF_is O) (ev_eq (c_labelCount R hN) (ev_some (co_ok C.st rfl))))))
    refine ev_neg (by simp (disch := omega) only [z_0, z_1, z_2, z_3, z_4, z_5, z_6, z_7, z_8, z_9, z_10, z_12, z_13, z_16, z_20, z_24, z_30, z_31, z_32, z_38, z_42, z_44, z_45, z_47, z_48, z_49, z_50, z_57, z_58, z_59, z_60, z_61, z_91, z_97, z_98, z_100, z_108, z_114, z_120, z_122, z_126, z_127, z_128, z_200, z_255, z_961, z_990, z_992, z_998, z_999, z_1000, z_1092, z_1114, z_7798, z_10000, z_1000000, zI_neg, zI_add, zI_sub, zI_mul, zI_lt, zI_le, zI_eq, if_pos, if_neg, if_true, if_false, Option.bind_some, bnd, ldI_is, ldJ_is, Int.toNat_natCast, ]; exact q7) ?_
    rw [if_neg (by omega)]
    exact ev_some (co_e2 C.st (Kp.refl _))
  · rw [if_neg c, if_neg c]
    exact ev_pos (by rfl) (ev_some (co_e1 C.st (Kp.refl _)))
theorem c8_book (C : CStP F w h zp zn s) (hN : 40 ≤ N) {q : Int} (hq : I32 q) : Ev (fX8_book F N w h (zI q)) (CO F h w [0] (spBook s q)) := by
  have B := C.bk
  have C2 := C
  obtain ⟨hz, cX, cN, cD, cV, cH, cI, cR, cA, cM, cP, cQ⟩ := C2
  unfold fX8_book spBook
  by_cases q0 : q = 0
  · subst q0
    exact ev_pos (by rfl) (ev_eq C.a0 (ev_some (co_ok C.st (c_bn B))))
  refine ev_neg (by simp (disch := omega) only [z_0, z_1, z_2, z_3, z_4, z_5, z_6, z_7, z_8, z_9, z_10, z_12, z_13, z_16, z_20, z_24, z_30, z_31, z_32, z_38, z_42, z_44, z_45, z_47, z_48, z_49, z_50, z_57, z_58, z_59, z_60, z_61, z_91, z_97, z_98, z_100, z_108, z_114, z_120, z_122, z_126, z_127, z_128, z_200, z_255, z_961, z_990, z_992, z_998, z_999, z_1000, z_1092, z_1114, z_7798, z_10000, z_1000000, zI_neg, zI_add, zI_sub, zI_mul, zI_lt, zI_le, zI_eq, if_pos, if_neg, if_true, if_false, Option.bind_some, bnd, ldI_is, ldJ_is, Int.toNat_natCast, ]; exact q0) ?_
  by_cases q1 : q = 1
  · subst q1
    exact ev_pos (by rfl) (ev_eq C.a0 (ev_some (co_ok C.st (c_ban B))))
  refine ev_neg (by simp (disch := omega) only [z_0, z_1, z_2, z_3, z_4, z_5, z_6, z_7, z_8, z_9, z_10, z_12, z_13, z_16, z_20, z_24, z_30, z_31, z_32, z_38, z_42, z_44, z_45, z_47, z_48, z_49, z_50, z_57, z_58, z_59, z_60, z_61, z_91, z_97, z_98, z_100, z_108, z_114, z_120, z_122, z_126, z_127, z_128, z_200, z_255, z_961, z_990, z_992, z_998, z_999, z_1000, z_1092, z_1114, z_7798, z_10000, z_1000000, zI_neg, zI_add, zI_sub, zI_mul, zI_lt, zI_le, zI_eq, if_pos, if_neg, if_true, if_false, Option.bind_some, bnd, ldI_is, ldJ_is, Int.toNat_natCast, ]; exact q1) ?_
  by_cases q2 : q = 2
  · subst q2
    exact ev_pos (by rfl) (ev_eq C.a0 (ev_some (co_ok C.st B.2.2.1.2.2.1)))
  refine ev_neg (by simp (disch := omega) only [z_0, z_1, z_2, z_3, z_4, z_5, z_6, z_7, z_8, z_9, z_10, z_12, z_13, z_16, z_20, z_24, z_30, z_31, z_32, z_38, z_42, z_44, z_45, z_47, z_48, z_49, z_50, z_57, z_58, z_59, z_60, z_61, z_91, z_97, z_98, z_100, z_108, z_114, z_120, z_122, z_126, z_127, z_128, z_200, z_255, z_961, z_990, z_992, z_998, z_999, z_1000, z_1092, z_1114, z_7798, z_10000, z_1000000, zI_neg, zI_add, zI_sub, zI_mul, zI_lt, zI_le, zI_eq, if_pos, if_neg, if_true, if_false, Option.bind_some, bnd, ldI_is, ldJ_is, Int.toNat_natCast, ]; exact q2) ?_
  by_cases q3 : q = 3
  · subst q3
    exact ev_pos (by rfl) (ev_eq C.a0 (ev_some (co_ok C.st B.2.2.1.2.2.2.1)))
  refine ev_neg (by simp (disch := omega) only [z_0, z_1, z_2, z_3, z_4, z_5, z_6, z_7, z_8, z_9, z_10, z_12, z_13, z_16, z_20, z_24, z_30, z_31, z_32, z_38, z_42, z_44, z_45, z_47, z_48, z_49, z_50, z_57, z_58, z_59, z_60, z_61, z_91, z_97, z_98, z_100, z_108, z_114, z_120, z_122, z_126, z_127, z_128, z_200, z_255, z_961, z_990, z_992, z_998, z_999, z_1000, z_1092, z_1114, z_7798, z_10000, z_1000000, zI_neg, zI_add, zI_sub, zI_mul, zI_lt, zI_le, zI_eq, if_pos, if_neg, if_true, if_false, Option.bind_some, bnd, ldI_is, ldJ_is, Int.toNat_natCast, ]; exact q3) ?_
  by_cases q4 : q = 4
  · subst q4
    exact ev_pos (by rfl) (ev_eq C.a0 (ev_eq (c_spanCount B hN) (ev_some (co_ok C.st rfl))))
  refine ev_neg (by simp (disch := omega) only [z_0, z_1, z_2, z_3, z_4, z_5, z_6, z_7, z_8, z_9, z_10, z_12, z_13, z_16, z_20, z_24, z_30, z_31, z_32, z_38, z_42, z_44, z_45, z_47, z_48, z_49, z_50, z_57, z_58, z_59, z_60, z_61, z_91, z_97, z_98, z_100, z_108, z_114, z_120, z_122, z_126, z_127, z_128, z_200, z_255, z_961, z_990, z_992, z_998, z_999, z_1000, z_1092, z_1114, z_7798, z_10000, z_1000000, zI_neg, zI_add, zI_sub, zI_mul, zI_lt, zI_le, zI_eq, if_pos, if_neg, if_true, if_false, Option.bind_some, bnd, ldI_is, ldJ_is, Int.toNat_natCast, ]; exact q4) ?_
  by_cases q5 : q = 5
  · subst q5
    exact ev_pos (by rfl) (ev_eq C.a4 (ev_some (co_ok C.st cI.2.2.2.2.1)))
  refine ev_neg (by simp (disch := omega) only [z_0, z_1, z_2, z_3, z_4, z_5, z_6, z_7, z_8, z_9, z_10, z_12, z_13, z_16, z_20, z_24, z_30, z_31, z_32, z_38, z_42, z_44, z_45, z_47, z_48, z_49, z_50, z_57, z_58, z_59, z_60, z_61, z_91, z_97, z_98, z_100, z_108, z_114, z_120, z_122, z_126, z_127, z_128, z_200, z_255, z_961, z_990, z_992, z_998, z_999, z_1000, z_1092, z_1114, z_7798, z_10000, z_1000000, zI_neg, zI_add, zI_sub, zI_mul, zI_lt, zI_le, zI_eq, if_pos, if_neg, if_true, if_false, Option.bind_some, bnd, ldI_is, ldJ_is, Int.toNat_natCast, ]; exact q5) ?_
  by_cases q6 : q = 6
  · subst q6
    exact ev_pos (by rfl) (ev_eq C.a3 (ev_some (co_ok C.st (c_hcount cH))))
  refine ev_neg (by simp (disch := omega) only [z_0, z_1, z_2, z_3, z_4, z_5, z_6, z_7, z_8, z_9, z_10, z_12, z_13, z_16, z_20, z_24, z_30, z_31, z_32, z_38, z_42, z_44, z_45, z_47, z_48, z_49, z_50, z_57, z_58, z_59, z_60, z_61, z_91, z_97, z_98, z_100, z_108, z_114, z_120, z_122, z_126, z_127, z_128, z_200, z_255, z_961, z_990, z_992, z_998, z_999, z_1000, z_1092, z_1114, z_7798, z_10000, z_1000000, zI_neg, zI_add, zI_sub, zI_mul, zI_lt, zI_le, zI_eq, if_pos, if_neg, if_true, if_false, Option.bind_some, bnd, ldI_is, ldJ_is, Int.toNat_natCast, ]; exact q6) ?_
  by_cases q7 : q = 7
  · subst q7
    exact ev_pos (by rfl) (ev_eq C.a8 (ev_some (co_ok C.st cP.2.1)))
  refine ev_neg (by simp (disch := omega) only [z_0, z_1, z_2, z_3, z_4, z_5, z_6, z_7, z_8, z_9, z_10, z_12, z_13, z_16, z_20, z_24, z_30, z_31, z_32, z_38, z_42, z_44, z_45, z_47, z_48, z_49, z_50, z_57, z_58, z_59, z_60, z_61, z_91, z_97, z_98, z_100, z_108, z_114, z_120, z_122, z_126, z_127, z_128, z_200, z_255, z_961, z_990, z_992, z_998, z_999, z_1000, z_1092, z_1114, z_7798, z_10000, z_1000000, zI_neg, zI_add, zI_sub, zI_mul, zI_lt, zI_le, zI_eq, if_pos, if_neg, if_true, if_false, Option.bind_some, bnd, ldI_is, ldJ_is, Int.toNat_natCast, ]; exact q7) ?_
  rw [if_neg (by omega)]
  exact ev_some (co_e1 C.st (Kp.refl _))
theorem c8_span (C : CStP F w h zp zn s) (V : VSt s) (hN : 40 ≤ N) {t i q : Int} (ht : I32 t) (hi : I32 i) (hq : I32 q) : Ev (fX8_span F N w h (zI t) (zI i) (zI q)) (CO F h w [1, 0] (spSpan s t i q)) := by
  have B := C.bk
  unfold fX8_span spSpan
  refine ev_eq C.a0 (ev_eq (c_hasSpan B ht hi) ?_)
  by_cases c : 0 ≤ t ∧ t < bn (snw s) ∧ 0 ≤ i ∧ i < rn (brw (snw s) (ban (snw s)) t.toNat)
  · rw [if_pos c, if_pos c]
    refine ev_neg (by decide) ?_
    obtain ⟨c1, c2, c3, c4⟩ := c
    obtain ⟨t', rfl⟩ := Int.eq_ofNat_of_zero_le c1
    obtain ⟨i', rfl⟩ := Int.eq_ofNat_of_zero_le c3
    rw [Int.toNat_natCast] at c4
    have hb : t' < bn (snw s) := by omega
    have hi' : i' < rn (brw (snw s) (ban (snw s)) t') := by omega
    have hx := V.1.1.2.1
    have R := B.row hx hb
    have g := R.2.2.2.2 i' hi'
    rw [Int.toNat_natCast, Int.toNat_natCast]
    refine ev_eq C.a0 (ev_eq (c_present B hb) (ev_eq (ckF_is R.1.1) ?_))
    by_cases q0 : q = 0
    · subst q0
      exact ev_pos (by rfl) (ev_eq (c_first R hi') (ev_some (co_ok C.st rfl)))
    refine ev_neg (by simp (disch := omega) only [z_0, z_1, z_2, z_3, z_4, z_5, z_6, z_7, z_8, z_9, z_10, z_12, z_13, z_16, z_20, z_24, z_30, z_31, z_32, z_38, z_42, z_44, z_45, z_47, z_48, z_49, z_50, z_57, z_58, z_59, z_60, z_61, z_91, z_97, z_98, z_100, z_108, z_114, z_120, z_122, z_126, z_127, z_128, z_200, z_255, z_961, z_990, z_992, z_998, z_999, z_1000, z_1092, z_1114, z_7798, z_10000, z_1000000, zI_neg, zI_add, zI_sub, zI_mul, zI_lt, zI_le, zI_eq, if_pos, if_neg, if_true, if_false, Option.bind_some, bnd, ldI_is, ldJ_is, Int.toNat_natCast, ]; exact q0) ?_
    by_cases q1 : q = 1
    · subst q1
      exact ev_pos (by rfl) (ev_eq (c_end R hi') (ev_some (co_ok C.st rfl)))
    refine ev_neg (by simp (disch := omega) only [z_0, z_1, z_2, z_3, z_4, z_5, z_6, z_7, z_8, z_9, z_10, z_12, z_13, z_16, z_20, z_24, z_30, z_31, z_32, z_38, z_42, z_44, z_45, z_47, z_48, z_49, z_50, z_57, z_58, z_59, z_60, z_61, z_91, z_97, z_98, z_100, z_108, z_114, z_120, z_122, z_126, z_127, z_128, z_200, z_255, z_961, z_990, z_992, z_998, z_999, z_1000, z_1092, z_1114, z_7798, z_10000, z_1000000, zI_neg, zI_add, zI_sub, zI_mul, zI_lt, zI_le, zI_eq, if_pos, if_neg, if_true, if_false, Option.bind_some, bnd, ldI_is, ldJ_is, Int.toNat_natCast, ]; exact q1) ?_
    by_cases q2 : q = 2
    · subst q2
      exact ev_pos (by rfl) (ev_eq (c_label R hi') (ev_eq (c_labelLength g.2.2.2.2 hN) (ev_some (co_ok C.st rfl))))
    refine ev_neg (by simp (disch := omega) only [z_0, z_1, z_2, z_3, z_4, z_5, z_6, z_7, z_8, z_9, z_10, z_12, z_13, z_16, z_20, z_24, z_30, z_31, z_32, z_38, z_42, z_44, z_45, z_47, z_48, z_49, z_50, z_57, z_58, z_59, z_60, z_61, z_91, z_97, z_98, z_100, z_108, z_114, z_120, z_122, z_126, z_127, z_128, z_200, z_255, z_961, z_990, z_992, z_998, z_999, z_1000, z_1092, z_1114, z_7798, z_10000, z_1000000, zI_neg, zI_add, zI_sub, zI_mul, zI_lt, zI_le, zI_eq, if_pos, if_neg, if_true, if_false, Option.bind_some, bnd, ldI_is, ldJ_is, Int.toNat_natCast, ]; exact q2) ?_
    by_cases q3 : q = 3
    · subst q3
      refine ev_pos (by rfl) (ev_eq C.a0 (ev_eq C.a0 (ev_eq (c_first R hi') (ev_eq (c_end R hi') ?_))))
      rw [c_ban B]
      exact ev_eq (c_hostOf B hN hx hb ⟨g.1, g.2.1⟩ ⟨g.2.2.1, g.2.2.2.1⟩) (ev_some (co_ok C.st rfl))
    refine ev_neg (by simp (disch := omega) only [z_0, z_1, z_2, z_3, z_4, z_5, z_6, z_7, z_8, z_9, z_10, z_12, z_13, z_16, z_20, z_24, z_30, z_31, z_32, z_38, z_42, z_44, z_45, z_47, z_48, z_49, z_50, z_57, z_58, z_59, z_60, z_61, z_91, z_97, z_98, z_100, z_108, z_114, z_120, z_122, z_126, z_127, z_128, z_200, z_255, z_961, z_990, z_992, z_998, z_999, z_1000, z_1092, z_1114, z_7798, z_10000, z_1000000, zI_neg, zI_add, zI_sub, zI_mul, zI_lt, zI_le, zI_eq, if_pos, if_neg, if_true, if_false, Option.bind_some, bnd, ldI_is, ldJ_is, Int.toNat_natCast, ]; exact q3) ?_
    by_cases q4 : q = 4
    · subst q4
      exact ev_pos (by rfl) (ev_eq C.a0 (ev_eq (c_guestCount B hN hb (by omega)) (ev_some (co_ok C.st rfl))))
    refine ev_neg (by simp (disch := omega) only [z_0, z_1, z_2, z_3, z_4, z_5, z_6, z_7, z_8, z_9, z_10, z_12, z_13, z_16, z_20, z_24, z_30, z_31, z_32, z_38, z_42, z_44, z_45, z_47, z_48, z_49, z_50, z_57, z_58, z_59, z_60, z_61, z_91, z_97, z_98, z_100, z_108, z_114, z_120, z_122, z_126, z_127, z_128, z_200, z_255, z_961, z_990, z_992, z_998, z_999, z_1000, z_1092, z_1114, z_7798, z_10000, z_1000000, zI_neg, zI_add, zI_sub, zI_mul, zI_lt, zI_le, zI_eq, if_pos, if_neg, if_true, if_false, Option.bind_some, bnd, ldI_is, ldJ_is, Int.toNat_natCast, ]; exact q4) ?_
    rw [if_neg (by omega)]
    exact ev_some (co_e2 C.st (Kp.refl _))
  · rw [if_neg c, if_neg c]
    exact ev_pos (by rfl) (ev_some (co_e1 C.st (Kp.refl _)))
theorem c8_letter (C : CStP F w h zp zn s) (V : VSt s) (hN : 40 ≤ N) {t i q : Int} (ht : I32 t) (hi : I32 i) (hq : I32 q) : Ev (fX8_letter F N w h (zI t) (zI i) (zI q)) (CO F h w [1, 4] (spLetter s t i q)) := by
  have B := C.bk
  unfold fX8_letter spLetter
  refine ev_eq C.a0 (ev_eq (c_hasSpan B ht hi) ?_)
  by_cases c : 0 ≤ t ∧ t < bn (snw s) ∧ 0 ≤ i ∧ i < rn (brw (snw s) (ban (snw s)) t.toNat)
  · rw [if_pos c, if_pos c]
    refine ev_neg (by decide) ?_
    obtain ⟨c1, c2, c3, c4⟩ := c
    obtain ⟨t', rfl⟩ := Int.eq_ofNat_of_zero_le c1
    obtain ⟨i', rfl⟩ := Int.eq_ofNat_of_zero_le c3
    rw [Int.toNat_natCast] at c4
    have hb : t' < bn (snw s) := by omega
    have hi' : i' < rn (brw (snw s) (ban (snw s)) t') := by omega
    have hx := V.1.1.2.1
    have R := B.row hx hb
    have g := (R.2.2.2.2 i' hi').2.2.2.2
    rw [Int.toNat_natCast, Int.toNat_natCast]
    refine ev_eq C.a0 (ev_eq (c_present B hb) (ev_eq (ckF_is R.1.1) (ev_eq (c_label R hi') ?_)))
    have l8 := g.2.1
    by_cases n : q < 0
    · have nc : ¬ (0 ≤ q ∧ q < ((rl (brw (snw s) (ban (snw s)) t') i').length : Int)) := by omega
      rw [if_neg nc]
      exact ev_pos (by simp (disch := omega) only [z_0, z_1, z_2, z_3, z_4, z_5, z_6, z_7, z_8, z_9, z_10, z_12, z_13, z_16, z_20, z_24, z_30, z_31, z_32, z_38, z_42, z_44, z_45, z_47, z_48, z_49, z_50, z_57, z_58, z_59, z_60, z_61, z_91, z_97, z_98, z_100, z_108, z_114, z_120, z_122, z_126, z_127, z_128, z_200, z_255, z_961, z_990, z_992, z_998, z_999, z_1000, z_1092, z_1114, z_7798, z_10000, z_1000000, zI_neg, zI_add, zI_sub, zI_mul, zI_lt, zI_le, zI_eq, if_pos, if_neg, if_true, if_false, Option.bind_some, bnd, ldI_is, ldJ_is, Int.toNat_natCast, ]; exact n) (ev_some (co_e2 C.st (Kp.refl _)))
    refine ev_neg (by simp (disch := omega) only [z_0, z_1, z_2, z_3, z_4, z_5, z_6, z_7, z_8, z_9, z_10, z_12, z_13, z_16, z_20, z_24, z_30, z_31, z_32, z_38, z_42, z_44, z_45, z_47, z_48, z_49, z_50, z_57, z_58, z_59, z_60, z_61, z_91, z_97, z_98, z_100, z_108, z_114, z_120, z_122, z_126, z_127, z_128, z_200, z_255, z_961, z_990, z_992, z_998, z_999, z_1000, z_1092, z_1114, z_7798, z_10000, z_1000000, zI_neg, zI_add, zI_sub, zI_mul, zI_lt, zI_le, zI_eq, if_pos, if_neg, if_true, if_false, Option.bind_some, bnd, ldI_is, ldJ_is, Int.toNat_natCast, ]; exact n) (ev_eq (c_labelLength g hN) ?_)
    by_cases m : q < ((rl (brw (snw s) (ban (snw s)) t') i').length : Int)
    · have nc : 0 ≤ q ∧ q < ((rl (brw (snw s) (ban (snw s)) t') i').length : Int) := by omega
      rw [if_pos nc]
      obtain ⟨q', rfl⟩ := Int.eq_ofNat_of_zero_le nc.1
      refine ev_pos (by simp (disch := omega) only [z_0, z_1, z_2, z_3, z_4, z_5, z_6, z_7, z_8, z_9, z_10, z_12, z_13, z_16, z_20, z_24, z_30, z_31, z_32, z_38, z_42, z_44, z_45, z_47, z_48, z_49, z_50, z_57, z_58, z_59, z_60, z_61, z_91, z_97, z_98, z_100, z_108, z_114, z_120, z_122, z_126, z_127, z_128, z_200, z_255, z_961, z_990, z_992, z_998, z_999, z_1000, z_1092, z_1114, z_7798, z_10000, z_1000000, zI_neg, zI_add, zI_sub, zI_mul, zI_lt, zI_le, zI_eq, if_pos, if_neg, if_true, if_false, Option.bind_some, bnd, ldI_is, ldJ_is, Int.toNat_natCast, ]; exact m) (ev_eq (c_letter g (by omega)) (ev_eq (z16c (Nat.lt_of_le_of_lt (getD_lt g _) (by omega))) (ev_some (co_ok C.st (by rw [Int.toNat_natCast])))))
    · have nc : ¬ (0 ≤ q ∧ q < ((rl (brw (snw s) (ban (snw s)) t') i').length : Int)) := by omega
      rw [if_neg nc]
      exact ev_neg (by simp (disch := omega) only [z_0, z_1, z_2, z_3, z_4, z_5, z_6, z_7, z_8, z_9, z_10, z_12, z_13, z_16, z_20, z_24, z_30, z_31, z_32, z_38, z_42, z_44, z_45, z_47, z_48, z_49, z_50, z_57, z_58, z_59, z_60, z_61, z_91, z_97, z_98, z_100, z_108, z_114, z_120, z_122, z_126, z_127, z_128, z_200, z_255, z_961, z_990, z_992, z_998, z_999, z_1000, z_1092, z_1114, z_7798, z_10000, z_1000000, zI_neg, zI_add, zI_sub, zI_mul, zI_lt, zI_le, zI_eq, if_pos, if_neg, if_true, if_false, Option.bind_some, bnd, ldI_is, ldJ_is, Int.toNat_natCast, ]; exact m) (ev_some (co_e2 C.st (Kp.refl _)))
  · rw [if_neg c, if_neg c]
    exact ev_pos (by rfl) (ev_some (co_e1 C.st (Kp.refl _)))
theorem c8_spanAt (C : CStP F w h zp zn s) (V : VSt s) (hN : 40 ≤ N) {t f : Int} (ht : I32 t) (hf : I32 f) : Ev (fX8_spanAt F N w h (zI t) (zI f)) (CO F h w [1] (spSpanAt s t f)) := by
  have B := C.bk
  unfold fX8_spanAt spSpanAt
  refine ev_eq C.a0 (ev_eq (c_hasTier B ht) ?_)
  by_cases c : 0 ≤ t ∧ t < bn (snw s)
  · rw [if_pos c, if_pos c]
    refine ev_neg (by decide) ?_
    obtain ⟨t', rfl⟩ := Int.eq_ofNat_of_zero_le c.1
    have hb : t' < bn (snw s) := by omega
    have R := B.row V.1.1.2.1 hb
    rw [Int.toNat_natCast]
    exact ev_eq C.a0 (ev_eq (c_present B hb) (ev_eq (ckF_is R.1.1) (ev_eq (c_spanWith R hN hf) (ev_some (co_ok C.st rfl)))))
  · rw [if_neg c, if_neg c]
    exact ev_pos (by rfl) (ev_some (co_e1 C.st (Kp.refl _)))
theorem c8_refusal (C : CStP F w h zp zn s) (V : VSt s) {b : Bool} : Ev (fX8_refusal F N w h (if b = true then 1 else 0)) (CO F h w [4] (spRefusal s b)) := by
  have C2 := C
  obtain ⟨hz, cX, cN, cD, cV, cH, cI, cR, cA, cM, cP, cQ⟩ := C2
  obtain ⟨v1, v2⟩ := V.2.2.2.2.2.2.1
  unfold fX8_refusal spRefusal
  refine ev_eq C.a5 ?_
  rw [cR.2.1]
  by_cases c : (srf s).1 = 0
  · rw [if_pos c]
    exact ev_pos (by rw [c]; rfl) (ev_some (co_e1 C.st (Kp.refl _)))
  · rw [if_neg c]
    refine ev_neg (by simp (disch := omega) only [z_0, z_1, z_2, z_3, z_4, z_5, z_6, z_7, z_8, z_9, z_10, z_12, z_13, z_16, z_20, z_24, z_30, z_31, z_32, z_38, z_42, z_44, z_45, z_47, z_48, z_49, z_50, z_57, z_58, z_59, z_60, z_61, z_91, z_97, z_98, z_100, z_108, z_114, z_120, z_122, z_126, z_127, z_128, z_200, z_255, z_961, z_990, z_992, z_998, z_999, z_1000, z_1092, z_1114, z_7798, z_10000, z_1000000, zI_neg, zI_add, zI_sub, zI_mul, zI_lt, zI_le, zI_eq, if_pos, if_neg, if_true, if_false, Option.bind_some, bnd, ldI_is, ldJ_is, Int.toNat_natCast, ]; exact c) ?_
    cases b with
    | true => exact ev_neg (by decide) (ev_eq C.a5 (ev_some (co_ok C.st (by rw [cR.2.1]; rfl))))
    | false => exact ev_pos (by rfl) (ev_eq C.a5 (ev_some (co_ok C.st (by rw [cR.2.2]; rfl))))
theorem c8_errorPosition (C : CStP F w h zp zn s) (V : VSt s) : Ev (fX8_errorPosition F N w h) (CO F h w [4] (spErr s)) := by
  have cX := C.2.1
  have v1 := V.2.2.2.2.2.2.2.1
  unfold fX8_errorPosition spErr
  rw [cX.2.2.1]
  by_cases c : sbd s = -1
  · rw [if_pos c]
    exact ev_neg (by simp (disch := omega) only [z_0, z_1, z_2, z_3, z_4, z_5, z_6, z_7, z_8, z_9, z_10, z_12, z_13, z_16, z_20, z_24, z_30, z_31, z_32, z_38, z_42, z_44, z_45, z_47, z_48, z_49, z_50, z_57, z_58, z_59, z_60, z_61, z_91, z_97, z_98, z_100, z_108, z_114, z_120, z_122, z_126, z_127, z_128, z_200, z_255, z_961, z_990, z_992, z_998, z_999, z_1000, z_1092, z_1114, z_7798, z_10000, z_1000000, zI_neg, zI_add, zI_sub, zI_mul, zI_lt, zI_le, zI_eq, if_pos, if_neg, if_true, if_false, Option.bind_some, bnd, ldI_is, ldJ_is, Int.toNat_natCast, ]; omega) (ev_some (co_e1 C.st (Kp.refl _)))
  · rw [if_neg c]
    exact ev_pos (by simp (disch := omega) only [z_0, z_1, z_2, z_3, z_4, z_5, z_6, z_7, z_8, z_9, z_10, z_12, z_13, z_16, z_20, z_24, z_30, z_31, z_32, z_38, z_42, z_44, z_45, z_47, z_48, z_49, z_50, z_57, z_58, z_59, z_60, z_61, z_91, z_97, z_98, z_100, z_108, z_114, z_120, z_122, z_126, z_127, z_128, z_200, z_255, z_961, z_990, z_992, z_998, z_999, z_1000, z_1092, z_1114, z_7798, z_10000, z_1000000, zI_neg, zI_add, zI_sub, zI_mul, zI_lt, zI_le, zI_eq, if_pos, if_neg, if_true, if_false, Option.bind_some, bnd, ldI_is, ldJ_is, Int.toNat_natCast, ]; omega) (ev_some (co_ok C.st rfl))
theorem c8_refusedItem (C : CStP F w h zp zn s) (V : VSt s) : Ev (fX8_refusedItem F N w h) (CO F h w [4] (spItem s)) := by
  have cX := C.2.1
  have v1 := V.2.2.2.2.2.2.2.2
  unfold fX8_refusedItem spItem
  rw [cX.2.2.2]
  by_cases c : sri s = -1
  · rw [if_pos c]
    exact ev_neg (by simp (disch := omega) only [z_0, z_1, z_2, z_3, z_4, z_5, z_6, z_7, z_8, z_9, z_10, z_12, z_13, z_16, z_20, z_24, z_30, z_31, z_32, z_38, z_42, z_44, z_45, z_47, z_48, z_49, z_50, z_57, z_58, z_59, z_60, z_61, z_91, z_97, z_98, z_100, z_108, z_114, z_120, z_122, z_126, z_127, z_128, z_200, z_255, z_961, z_990, z_992, z_998, z_999, z_1000, z_1092, z_1114, z_7798, z_10000, z_1000000, zI_neg, zI_add, zI_sub, zI_mul, zI_lt, zI_le, zI_eq, if_pos, if_neg, if_true, if_false, Option.bind_some, bnd, ldI_is, ldJ_is, Int.toNat_natCast, ]; omega) (ev_some (co_e1 C.st (Kp.refl _)))
  · rw [if_neg c]
    exact ev_pos (by simp (disch := omega) only [z_0, z_1, z_2, z_3, z_4, z_5, z_6, z_7, z_8, z_9, z_10, z_12, z_13, z_16, z_20, z_24, z_30, z_31, z_32, z_38, z_42, z_44, z_45, z_47, z_48, z_49, z_50, z_57, z_58, z_59, z_60, z_61, z_91, z_97, z_98, z_100, z_108, z_114, z_120, z_122, z_126, z_127, z_128, z_200, z_255, z_961, z_990, z_992, z_998, z_999, z_1000, z_1092, z_1114, z_7798, z_10000, z_1000000, zI_neg, zI_add, zI_sub, zI_mul, zI_lt, zI_le, zI_eq, if_pos, if_neg, if_true, if_false, Option.bind_some, bnd, ldI_is, ldJ_is, Int.toNat_natCast, ]; omega) (ev_some (co_ok C.st rfl))
theorem c8_frames (C : CStP F w h zp zn s) (hN : 40 ≤ N) {t q : Int} (ht : I32 t) (hq : I32 q) : Ev (fX8_frames F N w h (zI t) (zI q)) (CO F h w [1, 0] (spFrames s t q)) := by
  have B := C.bk
  unfold fX8_frames spFrames
  refine ev_eq C.a0 (ev_eq (c_hasTier B ht) ?_)
  by_cases c : 0 ≤ t ∧ t < bn (snw s)
  · rw [if_pos c, if_pos c]
    refine ev_neg (by decide) ?_
    obtain ⟨t', rfl⟩ := Int.eq_ofNat_of_zero_le c.1
    have hb : t' < bn (snw s) := by omega
    have R := B.row (show 0 < 2 by omega) hb
    have Q := B.row (show 1 < 2 by omega) hb
    rw [Int.toNat_natCast]
    refine ev_eq C.a0 (ev_eq (c_row B (x := 0) (by omega) hb) (ev_eq (ckF_is R.1.1) (ev_eq C.a0 (ev_eq (c_row B (x := 1) (by omega) hb) (ev_eq (ckF_is Q.1.1) ?_)))))
    by_cases q0 : q = 0
    · subst q0
      exact ev_pos (by rfl) (ev_eq (c_frameSum R hN) (ev_some (co_ok C.st rfl)))
    refine ev_neg (by simp (disch := omega) only [z_0, z_1, z_2, z_3, z_4, z_5, z_6, z_7, z_8, z_9, z_10, z_12, z_13, z_16, z_20, z_24, z_30, z_31, z_32, z_38, z_42, z_44, z_45, z_47, z_48, z_49, z_50, z_57, z_58, z_59, z_60, z_61, z_91, z_97, z_98, z_100, z_108, z_114, z_120, z_122, z_126, z_127, z_128, z_200, z_255, z_961, z_990, z_992, z_998, z_999, z_1000, z_1092, z_1114, z_7798, z_10000, z_1000000, zI_neg, zI_add, zI_sub, zI_mul, zI_lt, zI_le, zI_eq, if_pos, if_neg, if_true, if_false, Option.bind_some, bnd, ldI_is, ldJ_is, Int.toNat_natCast, ]; exact q0) ?_
    by_cases q1 : q = 1
    · subst q1
      exact ev_pos (by rfl) (ev_eq (c_frameSum Q hN) (ev_some (co_ok C.st rfl)))
    refine ev_neg (by simp (disch := omega) only [z_0, z_1, z_2, z_3, z_4, z_5, z_6, z_7, z_8, z_9, z_10, z_12, z_13, z_16, z_20, z_24, z_30, z_31, z_32, z_38, z_42, z_44, z_45, z_47, z_48, z_49, z_50, z_57, z_58, z_59, z_60, z_61, z_91, z_97, z_98, z_100, z_108, z_114, z_120, z_122, z_126, z_127, z_128, z_200, z_255, z_961, z_990, z_992, z_998, z_999, z_1000, z_1092, z_1114, z_7798, z_10000, z_1000000, zI_neg, zI_add, zI_sub, zI_mul, zI_lt, zI_le, zI_eq, if_pos, if_neg, if_true, if_false, Option.bind_some, bnd, ldI_is, ldJ_is, Int.toNat_natCast, ]; exact q1) ?_
    by_cases q2 : q = 2
    · subst q2
      exact ev_pos (by rfl) (ev_eq (c_commonFrames R Q hN true) (ev_some (co_ok C.st rfl)))
    refine ev_neg (by simp (disch := omega) only [z_0, z_1, z_2, z_3, z_4, z_5, z_6, z_7, z_8, z_9, z_10, z_12, z_13, z_16, z_20, z_24, z_30, z_31, z_32, z_38, z_42, z_44, z_45, z_47, z_48, z_49, z_50, z_57, z_58, z_59, z_60, z_61, z_91, z_97, z_98, z_100, z_108, z_114, z_120, z_122, z_126, z_127, z_128, z_200, z_255, z_961, z_990, z_992, z_998, z_999, z_1000, z_1092, z_1114, z_7798, z_10000, z_1000000, zI_neg, zI_add, zI_sub, zI_mul, zI_lt, zI_le, zI_eq, if_pos, if_neg, if_true, if_false, Option.bind_some, bnd, ldI_is, ldJ_is, Int.toNat_natCast, ]; exact q2) ?_
    by_cases q3 : q = 3
    · subst q3
      exact ev_pos (by rfl) (ev_eq (c_commonFrames R Q hN false) (ev_some (co_ok C.st rfl)))
    refine ev_neg (by simp (disch := omega) only [z_0, z_1, z_2, z_3, z_4, z_5, z_6, z_7, z_8, z_9, z_10, z_12, z_13, z_16, z_20, z_24, z_30, z_31, z_32, z_38, z_42, z_44, z_45, z_47, z_48, z_49, z_50, z_57, z_58, z_59, z_60, z_61, z_91, z_97, z_98, z_100, z_108, z_114, z_120, z_122, z_126, z_127, z_128, z_200, z_255, z_961, z_990, z_992, z_998, z_999, z_1000, z_1092, z_1114, z_7798, z_10000, z_1000000, zI_neg, zI_add, zI_sub, zI_mul, zI_lt, zI_le, zI_eq, if_pos, if_neg, if_true, if_false, Option.bind_some, bnd, ldI_is, ldJ_is, Int.toNat_natCast, ]; exact q3) ?_
    by_cases q4 : q = 4
    · subst q4
      exact ev_pos (by rfl) (ev_eq (c_framesWith R Q hN) (ev_some (co_ok C.st rfl)))
    refine ev_neg (by simp (disch := omega) only [z_0, z_1, z_2, z_3, z_4, z_5, z_6, z_7, z_8, z_9, z_10, z_12, z_13, z_16, z_20, z_24, z_30, z_31, z_32, z_38, z_42, z_44, z_45, z_47, z_48, z_49, z_50, z_57, z_58, z_59, z_60, z_61, z_91, z_97, z_98, z_100, z_108, z_114, z_120, z_122, z_126, z_127, z_128, z_200, z_255, z_961, z_990, z_992, z_998, z_999, z_1000, z_1092, z_1114, z_7798, z_10000, z_1000000, zI_neg, zI_add, zI_sub, zI_mul, zI_lt, zI_le, zI_eq, if_pos, if_neg, if_true, if_false, Option.bind_some, bnd, ldI_is, ldJ_is, Int.toNat_natCast, ]; exact q4) ?_
    rw [if_neg (by omega)]
    exact ev_some (co_e2 C.st (Kp.refl _))
  · rw [if_neg c, if_neg c]
    exact ev_pos (by rfl) (ev_some (co_e1 C.st (Kp.refl _)))
end CO
