/-! the class's questions that work in a buffer of their own -/
section CO2
variable {F : Fr} {N : Nat} {w w' : Wd} {h zp zn : Nat} {s s' : St}
theorem c8_aligned (C : CStP F w h zp zn s) (V : VSt s) (hN : 200 ≤ N) {t o i : Int} (ht : I32 t) (ho : I32 o) (hi : I32 i) : Ev (fX8_aligned F N w h (zI t) (zI o) (zI i)) (CO F h w [1] (spAligned s t o i)) := by
  have B := C.bk
  have hx := V.1.1.2.1
  have hW := V.1.1.2.2.1
  have h30 := V.1.2.1
  unfold fX8_aligned spAligned
  refine ev_eq C.a0 (ev_eq (c_hasTier B ho) ?_)
  by_cases c : 0 ≤ o ∧ o < bn (snw s)
  · rw [if_pos c]
    refine ev_neg (by decide) (ev_eq C.a0 (ev_eq (c_hasSpan B ht hi) ?_))
    by_cases c2 : 0 ≤ t ∧ t < bn (snw s) ∧ 0 ≤ i ∧ i < rn (brw (snw s) (ban (snw s)) t.toNat)
    · rw [if_pos c2, if_pos (c := (0 ≤ o ∧ o < bn (snw s)) ∧ 0 ≤ t ∧ t < bn (snw s) ∧ 0 ≤ i ∧ i < rn (brw (snw s) (ban (snw s)) t.toNat)) ⟨c, c2⟩]
      refine ev_neg (by decide) ?_
      obtain ⟨c1, c3, c4, c5⟩ := c2
      obtain ⟨t', rfl⟩ := Int.eq_ofNat_of_zero_le c1
      obtain ⟨i', rfl⟩ := Int.eq_ofNat_of_zero_le c4
      obtain ⟨o', rfl⟩ := Int.eq_ofNat_of_zero_le c.1
      rw [Int.toNat_natCast] at c5
      rw [Int.toNat_natCast, Int.toNat_natCast, Int.toNat_natCast]
      have hb : t' < bn (snw s) := by omega
      have hb2 : o' < bn (snw s) := by omega
      have hi' : i' < rn (brw (snw s) (ban (snw s)) t') := by omega
      have h6 := V.1.1.1
      have R := B.row hx hb
      have Q := B.row hx hb2
      have r30 := h30 _ _ hx hb
      refine ev_eq C.a6 (ev_eq C.a0 (ev_eq (c_present B hb) (ev_eq (ckF_is R.1.1) (ev_eq C.a0 (ev_eq (c_present B hb2) (ev_eq (ckF_is Q.1.1) (ev_eq C.a0 ?_)))))))
      rw [B.2.2.1.2.2.1]
      have cA : CAlg F w (h + 633) := C.2.2.2.2.2.2.2.2.1
      refine ev_then (c_alrun cA R Q hN r30 (h30 _ _ hx hb2) hW (by unfold ra; omega) (by unfold ra; omega)) ?_
      intro w1 ⟨a1, k1, _, _, a4⟩
      have C1 := C.upA k1 (fun a ha => by unfold Rg at ha; omega) a1 EqX.rf
      refine ev_eq C1.a6 ?_
      unfold fX0_partnerOf
      rw [if_neg (show ¬ zI ((i' : Nat) : Int) < 0 by simp (disch := omega) only [z_0, z_1, z_2, z_3, z_4, z_5, z_6, z_7, z_8, z_9, z_10, z_12, z_13, z_16, z_20, z_24, z_30, z_31, z_32, z_38, z_42, z_44, z_45, z_47, z_48, z_49, z_50, z_57, z_58, z_59, z_60, z_61, z_91, z_97, z_98, z_100, z_108, z_114, z_120, z_122, z_126, z_127, z_128, z_200, z_255, z_961, z_990, z_992, z_998, z_999, z_1000, z_1092, z_1114, z_7798, z_10000, z_1000000, zI_neg, zI_add, zI_sub, zI_mul, zI_lt, zI_le, zI_eq, if_pos, if_neg, if_true, if_false, Option.bind_some, bnd, ldI_is, ldJ_is, Int.toNat_natCast, ]; omega), if_neg (show ¬ (30 : Int32) ≤ zI ((i' : Nat) : Int) by simp (disch := omega) only [z_0, z_1, z_2, z_3, z_4, z_5, z_6, z_7, z_8, z_9, z_10, z_12, z_13, z_16, z_20, z_24, z_30, z_31, z_32, z_38, z_42, z_44, z_45, z_47, z_48, z_49, z_50, z_57, z_58, z_59, z_60, z_61, z_91, z_97, z_98, z_100, z_108, z_114, z_120, z_122, z_126, z_127, z_128, z_200, z_255, z_961, z_990, z_992, z_998, z_999, z_1000, z_1092, z_1114, z_7798, z_10000, z_1000000, zI_neg, zI_add, zI_sub, zI_mul, zI_lt, zI_le, zI_eq, if_pos, if_neg, if_true, if_false, Option.bind_some, bnd, ldI_is, ldJ_is, Int.toNat_natCast, ]; omega)]
      refine ev_eq (a := zI (prtI (brw (snw s) (ban (snw s)) t') (brw (snw s) (ban (snw s)) o') (bwi (snw s)) i')) ?_ (ev_some (co_in C1.st (k1.mono fun a ha => by unfold Rg at *; omega) rfl))
      rw [rdR_is a1.2.2.2.2.2.2 a1.2.2.1]
      show (ldI F w1 (h + 633 + 2) (zI (i' : Nat))).bind _ = _
      rw [ldI_is (by omega) (by rw [a1.2.2.2.2.1]; omega) (by omega), Int.toNat_natCast, a4 i' hi']
      rfl
    · rw [if_neg c2, if_neg (c := (0 ≤ o ∧ o < bn (snw s)) ∧ 0 ≤ t ∧ t < bn (snw s) ∧ 0 ≤ i ∧ i < rn (brw (snw s) (ban (snw s)) t.toNat)) (fun d => c2 d.2)]
      exact ev_pos (by rfl) (ev_some (co_e1 C.st (Kp.refl _)))
  · rw [if_neg c, if_neg (c := (0 ≤ o ∧ o < bn (snw s)) ∧ 0 ≤ t ∧ t < bn (snw s) ∧ 0 ≤ i ∧ i < rn (brw (snw s) (ban (snw s)) t.toNat)) (fun d => c d.1)]
    exact ev_pos (by rfl) (ev_some (co_e1 C.st (Kp.refl _)))
theorem c8_alignment (C : CStP F w h zp zn s) (V : VSt s) (hN : 200 ≤ N) {t o : Int} (ht : I32 t) (ho : I32 o) (b : Bool) : Ev (fX8_alignment F N w h (zI t) (zI o) (if b = true then 1 else 0)) (CO F h w [1] (spAlignment s t o b)) := by
  have B := C.bk
  have hx := V.1.1.2.1
  have hW := V.1.1.2.2.1
  have h30 := V.1.2.1
  unfold fX8_alignment spAlignment
  refine ev_eq C.a0 (ev_eq (c_hasTier B ht) ?_)
  by_cases c : 0 ≤ t ∧ t < bn (snw s)
  · rw [if_pos c]
    refine ev_neg (by decide) (ev_eq C.a0 (ev_eq (c_hasTier B ho) ?_))
    by_cases c2 : 0 ≤ o ∧ o < bn (snw s)
    · rw [if_pos c2, if_pos (c := (0 ≤ t ∧ t < bn (snw s)) ∧ 0 ≤ o ∧ o < bn (snw s)) ⟨c, c2⟩]
      refine ev_neg (by decide) ?_
      obtain ⟨t', rfl⟩ := Int.eq_ofNat_of_zero_le c.1
      obtain ⟨o', rfl⟩ := Int.eq_ofNat_of_zero_le c2.1
      rw [Int.toNat_natCast, Int.toNat_natCast]
      have hb : t' < bn (snw s) := by omega
      have hb2 : o' < bn (snw s) := by omega
      have h6 := V.1.1.1
      have R := B.row hx hb
      have Q := B.row hx hb2
      refine ev_eq C.a6 (ev_eq C.a0 (ev_eq (c_present B hb) (ev_eq (ckF_is R.1.1) (ev_eq C.a0 (ev_eq (c_present B hb2) (ev_eq (ckF_is Q.1.1) (ev_eq C.a0 ?_)))))))
      rw [B.2.2.1.2.2.1]
      have cA : CAlg F w (h + 633) := C.2.2.2.2.2.2.2.2.1
      refine ev_then (c_alrun cA R Q hN (h30 _ _ hx hb) (h30 _ _ hx hb2) hW (by unfold ra; omega) (by unfold ra; omega)) ?_
      intro w1 ⟨a1, k1, a2, a3, _⟩
      have C1 := C.upA k1 (fun a ha => by unfold Rg at ha; omega) a1 EqX.rf
      have k2 : Kp (Rg h 661) w w1 := k1.mono fun a ha => by unfold Rg at *; omega
      cases b with
      | true => exact ev_neg (by decide) (ev_eq C1.a6 (ev_some (co_in C1.st k2 a2)))
      | false => exact ev_pos (by rfl) (ev_eq C1.a6 (ev_some (co_in C1.st k2 a3)))
    · rw [if_neg c2, if_neg (c := (0 ≤ t ∧ t < bn (snw s)) ∧ 0 ≤ o ∧ o < bn (snw s)) (fun d => c2 d.2)]
      exact ev_pos (by rfl) (ev_some (co_e1 C.st (Kp.refl _)))
  · rw [if_neg c, if_neg (c := (0 ≤ t ∧ t < bn (snw s)) ∧ 0 ≤ o ∧ o < bn (snw s)) (fun d => c d.1)]
    exact ev_pos (by rfl) (ev_some (co_e1 C.st (Kp.refl _)))
theorem c8_merge (C : CStP F w h zp zn s) (V : VSt s) (hN : 200 ≤ N) {t q : Int} (ht : I32 t) (hq : I32 q) : Ev (fX8_merge F N w h (zI t) (zI q)) (CO F h w [1, 0] (spMerge s t q)) := by
  have B := C.bk
  have h30 := V.1.2.1
  unfold fX8_merge spMerge
  refine ev_eq C.a0 (ev_eq (c_hasTier B ht) ?_)
  by_cases c : 0 ≤ t ∧ t < bn (snw s)
  · rw [if_pos c, if_pos c]
    refine ev_neg (by decide) ?_
    obtain ⟨t', rfl⟩ := Int.eq_ofNat_of_zero_le c.1
    rw [Int.toNat_natCast]
    have hb : t' < bn (snw s) := by omega
    have h6 := V.1.1.1
    have R := B.row (show 0 < 2 by omega) hb
    have Q := B.row (show 1 < 2 by omega) hb
    refine ev_eq C.a7 (ev_eq C.a0 (ev_eq (c_row B (x := 0) (by omega) hb) (ev_eq (ckF_is R.1.1) (ev_eq C.a0 (ev_eq (c_row B (x := 1) (by omega) hb) (ev_eq (ckF_is Q.1.1) ?_))))))
    have cM : CMrg F w (h + 636) := C.2.2.2.2.2.2.2.2.2.1
    refine ev_then (c_mrun hN (h30 _ _ (by omega) hb) (h30 _ _ (by omega) hb) (V.1.2.2.1 _ _ (by omega) hb) (V.1.2.2.1 _ _ (by omega) hb) (by unfold ra; omega) (by unfold ra; omega) cM R Q) ?_
    intro w1 ⟨a1, D, G, k1⟩
    have C1 := C.upM k1 (fun a ha => by unfold Rg at ha; omega) a1 EqX.rf
    have k2 : Kp (Rg h 661) w w1 := k1.mono fun a ha => by unfold Rg at *; omega
    by_cases q0 : q = 0
    · subst q0
      exact ev_pos (by rfl) (ev_eq C1.a7 (ev_some (co_in C1.st k2 D.1)))
    refine ev_neg (by simp (disch := omega) only [z_0, z_1, z_2, z_3, z_4, z_5, z_6, z_7, z_8, z_9, z_10, z_12, z_13, z_16, z_20, z_24, z_30, z_31, z_32, z_38, z_42, z_44, z_45, z_47, z_48, z_49, z_50, z_57, z_58, z_59, z_60, z_61, z_91, z_97, z_98, z_100, z_108, z_114, z_120, z_122, z_126, z_127, z_128, z_200, z_255, z_961, z_990, z_992, z_998, z_999, z_1000, z_1092, z_1114, z_7798, z_10000, z_1000000, zI_neg, zI_add, zI_sub, zI_mul, zI_lt, zI_le, zI_eq, if_pos, if_neg, if_true, if_false, Option.bind_some, bnd, ldI_is, ldJ_is, Int.toNat_natCast, ]; exact q0) ?_
    by_cases q1 : q = 1
    · subst q1
      exact ev_pos (by rfl) (ev_eq C1.a7 (ev_some (co_in C1.st k2 D.2.1)))
    refine ev_neg (by simp (disch := omega) only [z_0, z_1, z_2, z_3, z_4, z_5, z_6, z_7, z_8, z_9, z_10, z_12, z_13, z_16, z_20, z_24, z_30, z_31, z_32, z_38, z_42, z_44, z_45, z_47, z_48, z_49, z_50, z_57, z_58, z_59, z_60, z_61, z_91, z_97, z_98, z_100, z_108, z_114, z_120, z_122, z_126, z_127, z_128, z_200, z_255, z_961, z_990, z_992, z_998, z_999, z_1000, z_1092, z_1114, z_7798, z_10000, z_1000000, zI_neg, zI_add, zI_sub, zI_mul, zI_lt, zI_le, zI_eq, if_pos, if_neg, if_true, if_false, Option.bind_some, bnd, ldI_is, ldJ_is, Int.toNat_natCast, ]; exact q1) ?_
    by_cases q2 : q = 2
    · subst q2
      exact ev_pos (by rfl) (ev_eq C1.a7 (ev_some (co_in C1.st k2 D.2.2.1)))
    refine ev_neg (by simp (disch := omega) only [z_0, z_1, z_2, z_3, z_4, z_5, z_6, z_7, z_8, z_9, z_10, z_12, z_13, z_16, z_20, z_24, z_30, z_31, z_32, z_38, z_42, z_44, z_45, z_47, z_48, z_49, z_50, z_57, z_58, z_59, z_60, z_61, z_91, z_97, z_98, z_100, z_108, z_114, z_120, z_122, z_126, z_127, z_128, z_200, z_255, z_961, z_990, z_992, z_998, z_999, z_1000, z_1092, z_1114, z_7798, z_10000, z_1000000, zI_neg, zI_add, zI_sub, zI_mul, zI_lt, zI_le, zI_eq, if_pos, if_neg, if_true, if_false, Option.bind_some, bnd, ldI_is, ldJ_is, Int.toNat_natCast, ]; exact q2) ?_
    by_cases q3 : q = 3
    · subst q3
      exact ev_pos (by rfl) (ev_eq C1.a7 (ev_eq (c_sharedCount a1 D G (by omega) hN) (ev_some (co_in C1.st k2 rfl))))
    refine ev_neg (by simp (disch := omega) only [z_0, z_1, z_2, z_3, z_4, z_5, z_6, z_7, z_8, z_9, z_10, z_12, z_13, z_16, z_20, z_24, z_30, z_31, z_32, z_38, z_42, z_44, z_45, z_47, z_48, z_49, z_50, z_57, z_58, z_59, z_60, z_61, z_91, z_97, z_98, z_100, z_108, z_114, z_120, z_122, z_126, z_127, z_128, z_200, z_255, z_961, z_990, z_992, z_998, z_999, z_1000, z_1092, z_1114, z_7798, z_10000, z_1000000, zI_neg, zI_add, zI_sub, zI_mul, zI_lt, zI_le, zI_eq, if_pos, if_neg, if_true, if_false, Option.bind_some, bnd, ldI_is, ldJ_is, Int.toNat_natCast, ]; exact q3) ?_
    by_cases q4 : q = 4
    · subst q4
      exact ev_pos (by rfl) (ev_eq C1.a7 (ev_eq (c_mframeSum a1 D G (by omega) hN) (ev_some (co_in C1.st k2 rfl))))
    refine ev_neg (by simp (disch := omega) only [z_0, z_1, z_2, z_3, z_4, z_5, z_6, z_7, z_8, z_9, z_10, z_12, z_13, z_16, z_20, z_24, z_30, z_31, z_32, z_38, z_42, z_44, z_45, z_47, z_48, z_49, z_50, z_57, z_58, z_59, z_60, z_61, z_91, z_97, z_98, z_100, z_108, z_114, z_120, z_122, z_126, z_127, z_128, z_200, z_255, z_961, z_990, z_992, z_998, z_999, z_1000, z_1092, z_1114, z_7798, z_10000, z_1000000, zI_neg, zI_add, zI_sub, zI_mul, zI_lt, zI_le, zI_eq, if_pos, if_neg, if_true, if_false, Option.bind_some, bnd, ldI_is, ldJ_is, Int.toNat_natCast, ]; exact q4) ?_
    rw [if_neg (by omega)]
    exact ev_some (co_e2 C1.st k2)
  · rw [if_neg c, if_neg c]
    exact ev_pos (by rfl) (ev_some (co_e1 C.st (Kp.refl _)))
theorem c8_merged (C : CStP F w h zp zn s) (V : VSt s) (hN : 200 ≤ N) {t i q : Int} (ht : I32 t) (hi : I32 i) (hq : I32 q) : Ev (fX8_merged F N w h (zI t) (zI i) (zI q)) (CO F h w [1, 4, 0] (spMerged s t i q)) := by
  have B := C.bk
  have h30 := V.1.2.1
  unfold fX8_merged spMerged
  refine ev_eq C.a0 (ev_eq (c_hasTier B ht) ?_)
  by_cases c : 0 ≤ t ∧ t < bn (snw s)
  · rw [if_pos c, if_pos c]
    refine ev_neg (by decide) ?_
    obtain ⟨t', rfl⟩ := Int.eq_ofNat_of_zero_le c.1
    rw [Int.toNat_natCast]
    have hb : t' < bn (snw s) := by omega
    have h6 := V.1.1.1
    have R := B.row (show 0 < 2 by omega) hb
    have Q := B.row (show 1 < 2 by omega) hb
    refine ev_eq C.a7 (ev_eq C.a0 (ev_eq (c_row B (x := 0) (by omega) hb) (ev_eq (ckF_is R.1.1) (ev_eq C.a0 (ev_eq (c_row B (x := 1) (by omega) hb) (ev_eq (ckF_is Q.1.1) ?_))))))
    have cM : CMrg F w (h + 636) := C.2.2.2.2.2.2.2.2.2.1
    refine ev_then (c_mrun hN (h30 _ _ (by omega) hb) (h30 _ _ (by omega) hb) (V.1.2.2.1 _ _ (by omega) hb) (V.1.2.2.1 _ _ (by omega) hb) (by unfold ra; omega) (by unfold ra; omega) cM R Q) ?_
    intro w1 ⟨a1, D, G, k1⟩
    have C1 := C.upM k1 (fun a ha => by unfold Rg at ha; omega) a1 EqX.rf
    have k2 : Kp (Rg h 661) w w1 := k1.mono fun a ha => by unfold Rg at *; omega
    refine ev_eq C1.a7 (ev_eq (c_has D G (by omega) hi) ?_)
    by_cases c2 : 0 ≤ i ∧ i < rn (mgr (mrgA (brw (snw s) 0 t') (brw (snw s) 1 t')))
    · rw [if_pos c2, if_pos c2]
      refine ev_neg (by decide) ?_
      obtain ⟨i', rfl⟩ := Int.eq_ofNat_of_zero_le c2.1
      rw [Int.toNat_natCast]
      have hi' : i' < rn (mgr (mrgA (brw (snw s) 0 t') (brw (snw s) 1 t'))) := by omega
      by_cases q0 : q = 0
      · subst q0
        exact ev_pos (by rfl) (ev_eq C1.a7 (ev_eq (c_mfirst a1 D G (by omega) hi') (ev_some (co_in C1.st k2 rfl))))
      refine ev_neg (by simp (disch := omega) only [z_0, z_1, z_2, z_3, z_4, z_5, z_6, z_7, z_8, z_9, z_10, z_12, z_13, z_16, z_20, z_24, z_30, z_31, z_32, z_38, z_42, z_44, z_45, z_47, z_48, z_49, z_50, z_57, z_58, z_59, z_60, z_61, z_91, z_97, z_98, z_100, z_108, z_114, z_120, z_122, z_126, z_127, z_128, z_200, z_255, z_961, z_990, z_992, z_998, z_999, z_1000, z_1092, z_1114, z_7798, z_10000, z_1000000, zI_neg, zI_add, zI_sub, zI_mul, zI_lt, zI_le, zI_eq, if_pos, if_neg, if_true, if_false, Option.bind_some, bnd, ldI_is, ldJ_is, Int.toNat_natCast, ]; exact q0) ?_
      by_cases q1 : q = 1
      · subst q1
        exact ev_pos (by rfl) (ev_eq C1.a7 (ev_eq (c_mend a1 D G (by omega) hi') (ev_some (co_in C1.st k2 rfl))))
      refine ev_neg (by simp (disch := omega) only [z_0, z_1, z_2, z_3, z_4, z_5, z_6, z_7, z_8, z_9, z_10, z_12, z_13, z_16, z_20, z_24, z_30, z_31, z_32, z_38, z_42, z_44, z_45, z_47, z_48, z_49, z_50, z_57, z_58, z_59, z_60, z_61, z_91, z_97, z_98, z_100, z_108, z_114, z_120, z_122, z_126, z_127, z_128, z_200, z_255, z_961, z_990, z_992, z_998, z_999, z_1000, z_1092, z_1114, z_7798, z_10000, z_1000000, zI_neg, zI_add, zI_sub, zI_mul, zI_lt, zI_le, zI_eq, if_pos, if_neg, if_true, if_false, Option.bind_some, bnd, ldI_is, ldJ_is, Int.toNat_natCast, ]; exact q1) ?_
      by_cases q2 : q = 2
      · subst q2
        exact ev_pos (by rfl) (ev_eq C1.a7 (ev_eq (c_msource a1 D G (by omega) hi') (ev_some (co_in C1.st k2 rfl))))
      refine ev_neg (by simp (disch := omega) only [z_0, z_1, z_2, z_3, z_4, z_5, z_6, z_7, z_8, z_9, z_10, z_12, z_13, z_16, z_20, z_24, z_30, z_31, z_32, z_38, z_42, z_44, z_45, z_47, z_48, z_49, z_50, z_57, z_58, z_59, z_60, z_61, z_91, z_97, z_98, z_100, z_108, z_114, z_120, z_122, z_126, z_127, z_128, z_200, z_255, z_961, z_990, z_992, z_998, z_999, z_1000, z_1092, z_1114, z_7798, z_10000, z_1000000, zI_neg, zI_add, zI_sub, zI_mul, zI_lt, zI_le, zI_eq, if_pos, if_neg, if_true, if_false, Option.bind_some, bnd, ldI_is, ldJ_is, Int.toNat_natCast, ]; exact q2) ?_
      by_cases q3 : q = 3
      · subst q3
        exact ev_pos (by rfl) (ev_eq C1.a7 (ev_eq (c_mlabel a1 D G (by omega) hi') (ev_eq (c_labelLength (G.2.2.2 i' hi').2.2.1 (by omega)) (ev_some (co_in C1.st k2 rfl)))))
      refine ev_neg (by simp (disch := omega) only [z_0, z_1, z_2, z_3, z_4, z_5, z_6, z_7, z_8, z_9, z_10, z_12, z_13, z_16, z_20, z_24, z_30, z_31, z_32, z_38, z_42, z_44, z_45, z_47, z_48, z_49, z_50, z_57, z_58, z_59, z_60, z_61, z_91, z_97, z_98, z_100, z_108, z_114, z_120, z_122, z_126, z_127, z_128, z_200, z_255, z_961, z_990, z_992, z_998, z_999, z_1000, z_1092, z_1114, z_7798, z_10000, z_1000000, zI_neg, zI_add, zI_sub, zI_mul, zI_lt, zI_le, zI_eq, if_pos, if_neg, if_true, if_false, Option.bind_some, bnd, ldI_is, ldJ_is, Int.toNat_natCast, ]; exact q3) ?_
      rw [if_neg (by omega)]
      exact ev_some (co_e3 C1.st k2)
    · rw [if_neg c2, if_neg c2]
      exact ev_pos (by rfl) (ev_some (co_e2 C1.st k2))
  · rw [if_neg c, if_neg c]
    exact ev_pos (by rfl) (ev_some (co_e1 C.st (Kp.refl _)))
theorem c8_match (C : CStP F w h zp zn s) (V : VSt s) (hN : 40 ≤ N) {m i : Int} (hm : I32 m) (hi : I32 i) : Ev (fX8_match F N w h (zI m) (zI i)) (CO F h w [2, 4] (spMatch s m i)) := by
  have B := C.bk
  have C2 := C
  obtain ⟨hz, cX, cN, cD, cV, cH, cI, cR, cA, cM, cP, cQ⟩ := C2
  have G := V.2.2.2.2.2.1
  have g4 := G.1
  unfold fX8_match spMatch
  refine ev_eq C.a8 ?_
  rw [cP.2.1]
  by_cases c : spt s = []
  · rw [if_pos c]
    exact ev_pos (by rw [c]; rfl) (ev_some (co_e1 C.st (Kp.refl _)))
  rw [if_neg c]
  have hl : 0 < (spt s).length := List.length_pos_iff.mpr c
  refine ev_neg (by simp (disch := omega) only [z_0, z_1, z_2, z_3, z_4, z_5, z_6, z_7, z_8, z_9, z_10, z_12, z_13, z_16, z_20, z_24, z_30, z_31, z_32, z_38, z_42, z_44, z_45, z_47, z_48, z_49, z_50, z_57, z_58, z_59, z_60, z_61, z_91, z_97, z_98, z_100, z_108, z_114, z_120, z_122, z_126, z_127, z_128, z_200, z_255, z_961, z_990, z_992, z_998, z_999, z_1000, z_1092, z_1114, z_7798, z_10000, z_1000000, zI_neg, zI_add, zI_sub, zI_mul, zI_lt, zI_le, zI_eq, if_pos, if_neg, if_true, if_false, Option.bind_some, bnd, ldI_is, ldJ_is, Int.toNat_natCast, ]; omega) ?_
  by_cases i0 : i < 0
  · rw [if_neg (c := (0 ≤ m ∧ m < min (tot (snw s) (spt s)) 1000) ∧ 0 ≤ i ∧ i < (spt s).length) (by omega)]
    exact ev_pos (by simp (disch := omega) only [z_0, z_1, z_2, z_3, z_4, z_5, z_6, z_7, z_8, z_9, z_10, z_12, z_13, z_16, z_20, z_24, z_30, z_31, z_32, z_38, z_42, z_44, z_45, z_47, z_48, z_49, z_50, z_57, z_58, z_59, z_60, z_61, z_91, z_97, z_98, z_100, z_108, z_114, z_120, z_122, z_126, z_127, z_128, z_200, z_255, z_961, z_990, z_992, z_998, z_999, z_1000, z_1092, z_1114, z_7798, z_10000, z_1000000, zI_neg, zI_add, zI_sub, zI_mul, zI_lt, zI_le, zI_eq, if_pos, if_neg, if_true, if_false, Option.bind_some, bnd, ldI_is, ldJ_is, Int.toNat_natCast, ]; exact i0) (ev_some (co_e2 C.st (Kp.refl _)))
  refine ev_neg (by simp (disch := omega) only [z_0, z_1, z_2, z_3, z_4, z_5, z_6, z_7, z_8, z_9, z_10, z_12, z_13, z_16, z_20, z_24, z_30, z_31, z_32, z_38, z_42, z_44, z_45, z_47, z_48, z_49, z_50, z_57, z_58, z_59, z_60, z_61, z_91, z_97, z_98, z_100, z_108, z_114, z_120, z_122, z_126, z_127, z_128, z_200, z_255, z_961, z_990, z_992, z_998, z_999, z_1000, z_1092, z_1114, z_7798, z_10000, z_1000000, zI_neg, zI_add, zI_sub, zI_mul, zI_lt, zI_le, zI_eq, if_pos, if_neg, if_true, if_false, Option.bind_some, bnd, ldI_is, ldJ_is, Int.toNat_natCast, ]; exact i0) (ev_eq C.a8 ?_)
  rw [cP.2.1]
  by_cases i1 : ((spt s).length : Int) ≤ i
  · rw [if_neg (c := (0 ≤ m ∧ m < min (tot (snw s) (spt s)) 1000) ∧ 0 ≤ i ∧ i < (spt s).length) (by omega)]
    exact ev_pos (by simp (disch := omega) only [z_0, z_1, z_2, z_3, z_4, z_5, z_6, z_7, z_8, z_9, z_10, z_12, z_13, z_16, z_20, z_24, z_30, z_31, z_32, z_38, z_42, z_44, z_45, z_47, z_48, z_49, z_50, z_57, z_58, z_59, z_60, z_61, z_91, z_97, z_98, z_100, z_108, z_114, z_120, z_122, z_126, z_127, z_128, z_200, z_255, z_961, z_990, z_992, z_998, z_999, z_1000, z_1092, z_1114, z_7798, z_10000, z_1000000, zI_neg, zI_add, zI_sub, zI_mul, zI_lt, zI_le, zI_eq, if_pos, if_neg, if_true, if_false, Option.bind_some, bnd, ldI_is, ldJ_is, Int.toNat_natCast, ]; exact i1) (ev_some (co_e2 C.st (Kp.refl _)))
  refine ev_neg (by simp (disch := omega) only [z_0, z_1, z_2, z_3, z_4, z_5, z_6, z_7, z_8, z_9, z_10, z_12, z_13, z_16, z_20, z_24, z_30, z_31, z_32, z_38, z_42, z_44, z_45, z_47, z_48, z_49, z_50, z_57, z_58, z_59, z_60, z_61, z_91, z_97, z_98, z_100, z_108, z_114, z_120, z_122, z_126, z_127, z_128, z_200, z_255, z_961, z_990, z_992, z_998, z_999, z_1000, z_1092, z_1114, z_7798, z_10000, z_1000000, zI_neg, zI_add, zI_sub, zI_mul, zI_lt, zI_le, zI_eq, if_pos, if_neg, if_true, if_false, Option.bind_some, bnd, ldI_is, ldJ_is, Int.toNat_natCast, ]; exact i1) ?_
  by_cases m0 : m < 0
  · rw [if_neg (c := (0 ≤ m ∧ m < min (tot (snw s) (spt s)) 1000) ∧ 0 ≤ i ∧ i < (spt s).length) (by omega)]
    exact ev_pos (by simp (disch := omega) only [z_0, z_1, z_2, z_3, z_4, z_5, z_6, z_7, z_8, z_9, z_10, z_12, z_13, z_16, z_20, z_24, z_30, z_31, z_32, z_38, z_42, z_44, z_45, z_47, z_48, z_49, z_50, z_57, z_58, z_59, z_60, z_61, z_91, z_97, z_98, z_100, z_108, z_114, z_120, z_122, z_126, z_127, z_128, z_200, z_255, z_961, z_990, z_992, z_998, z_999, z_1000, z_1092, z_1114, z_7798, z_10000, z_1000000, zI_neg, zI_add, zI_sub, zI_mul, zI_lt, zI_le, zI_eq, if_pos, if_neg, if_true, if_false, Option.bind_some, bnd, ldI_is, ldJ_is, Int.toNat_natCast, ]; exact m0) (ev_some (co_e2 C.st (Kp.refl _)))
  refine ev_neg (by simp (disch := omega) only [z_0, z_1, z_2, z_3, z_4, z_5, z_6, z_7, z_8, z_9, z_10, z_12, z_13, z_16, z_20, z_24, z_30, z_31, z_32, z_38, z_42, z_44, z_45, z_47, z_48, z_49, z_50, z_57, z_58, z_59, z_60, z_61, z_91, z_97, z_98, z_100, z_108, z_114, z_120, z_122, z_126, z_127, z_128, z_200, z_255, z_961, z_990, z_992, z_998, z_999, z_1000, z_1092, z_1114, z_7798, z_10000, z_1000000, zI_neg, zI_add, zI_sub, zI_mul, zI_lt, zI_le, zI_eq, if_pos, if_neg, if_true, if_false, Option.bind_some, bnd, ldI_is, ldJ_is, Int.toNat_natCast, ]; exact m0) (ev_eq C.a8 (ev_eq C.a0 ?_))
  refine ev_then (c_countMatches cP.1 cP.2 B G V.1.2.1 hN (by unfold ZZ at hz; omega)) ?_
  intro x ⟨x1, k1, A1, D1, B1, T1⟩
  have C1 := C.upP k1 (fun a ha => by omega) ⟨A1, D1⟩ EqX.rf
  have k2 : Kp (Rg h 661) w x.2 := k1.mono fun a ha => by unfold ZZ at hz; unfold Rg; omega
  rw [x1]
  have ht : 0 ≤ tot (snw s) (spt s) := by
    cases hs : spt s with
    | nil => exact Int.le_refl _
    | cons e es => exact sumN_nn _ fun j _ => (way_lim _ _ _).1
  by_cases m1 : m < min (tot (snw s) (spt s)) 1000
  · rw [if_pos (c := (0 ≤ m ∧ m < min (tot (snw s) (spt s)) 1000) ∧ 0 ≤ i ∧ i < (spt s).length) (by omega)]
    obtain ⟨i', rfl⟩ := Int.eq_ofNat_of_zero_le (show 0 ≤ i by omega)
    rw [Int.toNat_natCast]
    exact ev_pos (by simp (disch := omega) only [z_0, z_1, z_2, z_3, z_4, z_5, z_6, z_7, z_8, z_9, z_10, z_12, z_13, z_16, z_20, z_24, z_30, z_31, z_32, z_38, z_42, z_44, z_45, z_47, z_48, z_49, z_50, z_57, z_58, z_59, z_60, z_61, z_91, z_97, z_98, z_100, z_108, z_114, z_120, z_122, z_126, z_127, z_128, z_200, z_255, z_961, z_990, z_992, z_998, z_999, z_1000, z_1092, z_1114, z_7798, z_10000, z_1000000, zI_neg, zI_add, zI_sub, zI_mul, zI_lt, zI_le, zI_eq, if_pos, if_neg, if_true, if_false, Option.bind_some, bnd, ldI_is, ldJ_is, Int.toNat_natCast, ]; exact m1) (ev_eq C1.a8 (ev_eq C1.a0 (ev_eq (c_spanOf A1 D1 G B1 V.1.2.1 hN T1 (by omega) (by omega) m1) (ev_some (co_in C1.st k2 rfl)))))
  · rw [if_neg (c := (0 ≤ m ∧ m < min (tot (snw s) (spt s)) 1000) ∧ 0 ≤ i ∧ i < (spt s).length) (by omega)]
    exact ev_neg (by simp (disch := omega) only [z_0, z_1, z_2, z_3, z_4, z_5, z_6, z_7, z_8, z_9, z_10, z_12, z_13, z_16, z_20, z_24, z_30, z_31, z_32, z_38, z_42, z_44, z_45, z_47, z_48, z_49, z_50, z_57, z_58, z_59, z_60, z_61, z_91, z_97, z_98, z_100, z_108, z_114, z_120, z_122, z_126, z_127, z_128, z_200, z_255, z_961, z_990, z_992, z_998, z_999, z_1000, z_1092, z_1114, z_7798, z_10000, z_1000000, zI_neg, zI_add, zI_sub, zI_mul, zI_lt, zI_le, zI_eq, if_pos, if_neg, if_true, if_false, Option.bind_some, bnd, ldI_is, ldJ_is, Int.toNat_natCast, ]; exact m1) (ev_some (co_e2 C1.st k2))
end CO2
