/-! the reference tells what it merged -/
section MRG
variable {F : Fr} {N : Nat} {w : Wd} {z : Nat} {s : St} {k : Bk} {M : Mg} {c : Nat}
theorem g_tier (B : MS F w z k) {t : Nat} (ht : t < bn k) (S0 : SRow (brw k 0 t)) (S1 : SRow (brw k 1 t)) (hN : 200 ≤ N) : ∃ w', fX9_mergeTier F N w z (zI (t : Nat)) = some w' ∧ Sc z w w' ∧ gI w' 906 z = gI w 906 z ∧ MM w' z (mrgA (brw k 0 t) (brw k 1 t)) ∧ GMg (mrgA (brw k 0 t) (brw k 1 t)) 60 := by
  have l0 := B.lim (show 0 < 2 by omega) ht
  have l1 := B.lim (show 1 < 2 by omega) ht
  unfold fX9_mergeTier
  simp only [bnd]
  have s1 : Sc z w (sI (sI (sI w 933 z 0) 934 z 0) 935 z 0) := ((Sc.sI _ _ (by unfold KF; omega)).trans (Sc.sI _ _ (by unfold KF; omega))).trans (Sc.sI _ _ (by unfold KF; omega))
  have D0 : MM (sI (sI (sI w 933 z 0) 934 z 0) 935 z 0) z mg0 := by
    refine ⟨?_, ?_, gI_same _ _ _ _, fun i hi => absurd hi (Nat.not_lt_zero _)⟩
    · rw [gI_ne _ (by omega), gI_ne _ (by omega)]; exact gI_same _ _ _ _
    · rw [gI_ne _ (by omega)]; exact gI_same _ _ _ _
  have G0 : GMg mg0 (0 + 0) := ⟨Nat.le_refl _, Nat.le_refl _, Nat.le_refl _, fun i hi => absurd hi (Nat.not_lt_zero _)⟩
  obtain ⟨w', r1, r2, r3, r4, r5⟩ := g_33 (F := F) (N := N) ht S0 S1 N (rn (brw k 0 t) + rn (brw k 1 t)) 0 0 (sI (sI (sI w 933 z 0) 934 z 0) 935 z 0) mg0 B D0 G0 (Nat.zero_le _) (Nat.zero_le _) (by omega) (by omega)
  refine ⟨w', ?_, s1.trans r2, ?_, r4, r5⟩
  · rw [show fX9_row F N (sI (sI (sI w 933 z 0) 934 z 0) 935 z 0) 0 (zI (t : Nat)) = _ from m_row 0 t, show fX9_row F N (sI (sI (sI w 933 z 0) 934 z 0) 935 z 0) 1 (zI (t : Nat)) = _ from m_row 1 t]
    simp only [Option.bind_some]
    exact r1
  · rw [r3, gI_ne _ (by omega), gI_ne _ (by omega), gI_ne _ (by omega)]
theorem g_52 (A : CMod F w z) (D : MM w z M) (Gm : GMg M 60) {q : Int} (hq : 0 ≤ q ∧ q ≤ 4) : ∀ (m n i : Nat), i + n = rn (mgr M) → n < m →
    fX9_merge_52 F N m w z (zI q) (zI (sumN (shrS M) i)) (zI (sumN (fun i => re (mgr M) i - rf (mgr M) i) i)) (zI (i : Nat)) = some ((if q = 0 then zI (rn (mgr M) : Nat) else if q = 1 then zI (mgc M : Nat) else if q = 2 then zI (mgd M : Nat) else if q = 3 then zI (sumN (shrS M) (rn (mgr M))) else zI (fsum (mgr M))), w) := by
  obtain ⟨d1, d2, d3, d4⟩ := D
  have hn := Gm.1
  intro m
  induction m with
  | zero => intro n i _ h; omega
  | succ m ih =>
    intro n i hi hm
    rw [fX9_merge_52, d1]
    cases n with
    | zero =>
      have e9 : i = rn (mgr M) := by omega
      rw [if_pos (by simp (disch := omega) only [z_0, z_1, z_2, z_3, z_4, z_5, z_6, z_7, z_8, z_9, z_10, z_12, z_13, z_16, z_20, z_24, z_30, z_31, z_32, z_38, z_42, z_44, z_45, z_47, z_48, z_49, z_50, z_57, z_58, z_59, z_60, z_61, z_91, z_97, z_98, z_100, z_108, z_114, z_120, z_122, z_126, z_127, z_128, z_200, z_255, z_961, z_990, z_992, z_998, z_999, z_1000, z_1092, z_1114, z_7798, z_10000, z_1000000, zI_neg, zI_add, zI_sub, zI_mul, zI_lt, zI_le, zI_eq, if_pos, if_neg, if_true, if_false, Option.bind_some, bnd, ldI_is, ldJ_is, Int.toNat_natCast, ]; omega)]
      by_cases q0 : q = 0
      · rw [if_pos (by simp (disch := omega) only [z_0, z_1, z_2, z_3, z_4, z_5, z_6, z_7, z_8, z_9, z_10, z_12, z_13, z_16, z_20, z_24, z_30, z_31, z_32, z_38, z_42, z_44, z_45, z_47, z_48, z_49, z_50, z_57, z_58, z_59, z_60, z_61, z_91, z_97, z_98, z_100, z_108, z_114, z_120, z_122, z_126, z_127, z_128, z_200, z_255, z_961, z_990, z_992, z_998, z_999, z_1000, z_1092, z_1114, z_7798, z_10000, z_1000000, zI_neg, zI_add, zI_sub, zI_mul, zI_lt, zI_le, zI_eq, if_pos, if_neg, if_true, if_false, Option.bind_some, bnd, ldI_is, ldJ_is, Int.toNat_natCast, ]; exact q0), if_pos q0]
      rw [if_neg (by simp (disch := omega) only [z_0, z_1, z_2, z_3, z_4, z_5, z_6, z_7, z_8, z_9, z_10, z_12, z_13, z_16, z_20, z_24, z_30, z_31, z_32, z_38, z_42, z_44, z_45, z_47, z_48, z_49, z_50, z_57, z_58, z_59, z_60, z_61, z_91, z_97, z_98, z_100, z_108, z_114, z_120, z_122, z_126, z_127, z_128, z_200, z_255, z_961, z_990, z_992, z_998, z_999, z_1000, z_1092, z_1114, z_7798, z_10000, z_1000000, zI_neg, zI_add, zI_sub, zI_mul, zI_lt, zI_le, zI_eq, if_pos, if_neg, if_true, if_false, Option.bind_some, bnd, ldI_is, ldJ_is, Int.toNat_natCast, ]; exact q0), if_neg q0]
      by_cases q1 : q = 1
      · rw [if_pos (by simp (disch := omega) only [z_0, z_1, z_2, z_3, z_4, z_5, z_6, z_7, z_8, z_9, z_10, z_12, z_13, z_16, z_20, z_24, z_30, z_31, z_32, z_38, z_42, z_44, z_45, z_47, z_48, z_49, z_50, z_57, z_58, z_59, z_60, z_61, z_91, z_97, z_98, z_100, z_108, z_114, z_120, z_122, z_126, z_127, z_128, z_200, z_255, z_961, z_990, z_992, z_998, z_999, z_1000, z_1092, z_1114, z_7798, z_10000, z_1000000, zI_neg, zI_add, zI_sub, zI_mul, zI_lt, zI_le, zI_eq, if_pos, if_neg, if_true, if_false, Option.bind_some, bnd, ldI_is, ldJ_is, Int.toNat_natCast, ]; exact q1), if_pos q1, d2]
      rw [if_neg (by simp (disch := omega) only [z_0, z_1, z_2, z_3, z_4, z_5, z_6, z_7, z_8, z_9, z_10, z_12, z_13, z_16, z_20, z_24, z_30, z_31, z_32, z_38, z_42, z_44, z_45, z_47, z_48, z_49, z_50, z_57, z_58, z_59, z_60, z_61, z_91, z_97, z_98, z_100, z_108, z_114, z_120, z_122, z_126, z_127, z_128, z_200, z_255, z_961, z_990, z_992, z_998, z_999, z_1000, z_1092, z_1114, z_7798, z_10000, z_1000000, zI_neg, zI_add, zI_sub, zI_mul, zI_lt, zI_le, zI_eq, if_pos, if_neg, if_true, if_false, Option.bind_some, bnd, ldI_is, ldJ_is, Int.toNat_natCast, ]; exact q1), if_neg q1]
      by_cases q2 : q = 2
      · rw [if_pos (by simp (disch := omega) only [z_0, z_1, z_2, z_3, z_4, z_5, z_6, z_7, z_8, z_9, z_10, z_12, z_13, z_16, z_20, z_24, z_30, z_31, z_32, z_38, z_42, z_44, z_45, z_47, z_48, z_49, z_50, z_57, z_58, z_59, z_60, z_61, z_91, z_97, z_98, z_100, z_108, z_114, z_120, z_122, z_126, z_127, z_128, z_200, z_255, z_961, z_990, z_992, z_998, z_999, z_1000, z_1092, z_1114, z_7798, z_10000, z_1000000, zI_neg, zI_add, zI_sub, zI_mul, zI_lt, zI_le, zI_eq, if_pos, if_neg, if_true, if_false, Option.bind_some, bnd, ldI_is, ldJ_is, Int.toNat_natCast, ]; exact q2), if_pos q2, d3]
      rw [if_neg (by simp (disch := omega) only [z_0, z_1, z_2, z_3, z_4, z_5, z_6, z_7, z_8, z_9, z_10, z_12, z_13, z_16, z_20, z_24, z_30, z_31, z_32, z_38, z_42, z_44, z_45, z_47, z_48, z_49, z_50, z_57, z_58, z_59, z_60, z_61, z_91, z_97, z_98, z_100, z_108, z_114, z_120, z_122, z_126, z_127, z_128, z_200, z_255, z_961, z_990, z_992, z_998, z_999, z_1000, z_1092, z_1114, z_7798, z_10000, z_1000000, zI_neg, zI_add, zI_sub, zI_mul, zI_lt, zI_le, zI_eq, if_pos, if_neg, if_true, if_false, Option.bind_some, bnd, ldI_is, ldJ_is, Int.toNat_natCast, ]; exact q2), if_neg q2]
      by_cases q3 : q = 3
      · rw [if_pos (by simp (disch := omega) only [z_0, z_1, z_2, z_3, z_4, z_5, z_6, z_7, z_8, z_9, z_10, z_12, z_13, z_16, z_20, z_24, z_30, z_31, z_32, z_38, z_42, z_44, z_45, z_47, z_48, z_49, z_50, z_57, z_58, z_59, z_60, z_61, z_91, z_97, z_98, z_100, z_108, z_114, z_120, z_122, z_126, z_127, z_128, z_200, z_255, z_961, z_990, z_992, z_998, z_999, z_1000, z_1092, z_1114, z_7798, z_10000, z_1000000, zI_neg, zI_add, zI_sub, zI_mul, zI_lt, zI_le, zI_eq, if_pos, if_neg, if_true, if_false, Option.bind_some, bnd, ldI_is, ldJ_is, Int.toNat_natCast, ]; exact q3), if_pos q3, e9]
      rw [if_neg (by simp (disch := omega) only [z_0, z_1, z_2, z_3, z_4, z_5, z_6, z_7, z_8, z_9, z_10, z_12, z_13, z_16, z_20, z_24, z_30, z_31, z_32, z_38, z_42, z_44, z_45, z_47, z_48, z_49, z_50, z_57, z_58, z_59, z_60, z_61, z_91, z_97, z_98, z_100, z_108, z_114, z_120, z_122, z_126, z_127, z_128, z_200, z_255, z_961, z_990, z_992, z_998, z_999, z_1000, z_1092, z_1114, z_7798, z_10000, z_1000000, zI_neg, zI_add, zI_sub, zI_mul, zI_lt, zI_le, zI_eq, if_pos, if_neg, if_true, if_false, Option.bind_some, bnd, ldI_is, ldJ_is, Int.toNat_natCast, ]; exact q3), if_neg q3, e9]
      rfl
    | succ n =>
      have hi2 : i < rn (mgr M) := by omega
      obtain ⟨b1, b2, b3, b4⟩ := d4 i hi2
      have v := Gm.2.2.2 i hi2
      rw [if_neg (by simp (disch := omega) only [z_0, z_1, z_2, z_3, z_4, z_5, z_6, z_7, z_8, z_9, z_10, z_12, z_13, z_16, z_20, z_24, z_30, z_31, z_32, z_38, z_42, z_44, z_45, z_47, z_48, z_49, z_50, z_57, z_58, z_59, z_60, z_61, z_91, z_97, z_98, z_100, z_108, z_114, z_120, z_122, z_126, z_127, z_128, z_200, z_255, z_961, z_990, z_992, z_998, z_999, z_1000, z_1092, z_1114, z_7798, z_10000, z_1000000, zI_neg, zI_add, zI_sub, zI_mul, zI_lt, zI_le, zI_eq, if_pos, if_neg, if_true, if_false, Option.bind_some, bnd, ldI_is, ldJ_is, Int.toNat_natCast,  Int.not_le]; omega), rdR_is A.p932.1 A.p932.2.1]
      simp only [Option.bind_some]
      rw [ldI_is (by omega) (by rw [A.p932.2.2]; omega) (by omega), Int.toNat_natCast, b4]
      simp only [Option.bind_some]
      have ih := ih n (i + 1) (by omega) (by omega)
      rw [← sumN_succ, ← sumN_succ] at ih
      have go : ∀ y : Int, y = shrS M i → fX9_merge_78 F N (fX9_merge_52 F N m) w z (zI q) (zI (sumN (fun i => re (mgr M) i - rf (mgr M) i) i)) (zI (i : Nat)) (zI (sumN (shrS M) i)) (zI y) = some ((if q = 0 then zI (rn (mgr M) : Nat) else if q = 1 then zI (mgc M : Nat) else if q = 2 then zI (mgd M : Nat) else if q = 3 then zI (sumN (shrS M) (rn (mgr M))) else zI (fsum (mgr M))), w) := by
        intro y hy
        unfold fX9_merge_78
        simp only [bnd]
        rw [rdR_is A.p930.1 A.p930.2.1]
        simp only [Option.bind_some]
        rw [ldI_is (by omega) (by rw [A.p930.2.2]; omega) (by omega), rdR_is A.p929.1 A.p929.2.1]
        simp only [Option.bind_some]
        rw [ldI_is (by omega) (by rw [A.p929.2.2]; omega) (by omega), Int.toNat_natCast, b1, b2]
        simp only [Option.bind_some]
        rw [zI_add, zI_sub, zI_add, zI_succ, hy]
        exact ih
      by_cases c3 : mgs M i = 3
      · rw [if_pos (by rw [c3]; rfl)]
        exact go 1 (by unfold shrS; rw [if_pos c3])
      · rw [if_neg (by simp (disch := omega) only [z_0, z_1, z_2, z_3, z_4, z_5, z_6, z_7, z_8, z_9, z_10, z_12, z_13, z_16, z_20, z_24, z_30, z_31, z_32, z_38, z_42, z_44, z_45, z_47, z_48, z_49, z_50, z_57, z_58, z_59, z_60, z_61, z_91, z_97, z_98, z_100, z_108, z_114, z_120, z_122, z_126, z_127, z_128, z_200, z_255, z_961, z_990, z_992, z_998, z_999, z_1000, z_1092, z_1114, z_7798, z_10000, z_1000000, zI_neg, zI_add, zI_sub, zI_mul, zI_lt, zI_le, zI_eq, if_pos, if_neg, if_true, if_false, Option.bind_some, bnd, ldI_is, ldJ_is, Int.toNat_natCast, ]; omega)]
        exact go 0 (by unfold shrS; rw [if_neg c3])
theorem m_merge (h : MSt F w z s) (V : VSt s) (hN : 200 ≤ N) {t q : Int} (ht : I32 t) (hq : I32 q) : Ev (fX9_merge F N w z (zI t) (zI q)) (MO F z w (spMerge s t q)) := by
  have B := h.ms V
  unfold fX9_merge spMerge
  refine ev_eq (m_isTier B ht) ?_
  by_cases c : 0 ≤ t ∧ t < bn (snw s)
  · rw [if_pos c, if_pos c]
    refine ev_neg (by decide) ?_
    rw [show (0 : Int32) = zI 0 from rfl, z_4, m_in hq (by omega) (by omega)]
    simp only [Option.bind_some]
    by_cases c2 : 0 ≤ q ∧ q ≤ 4
    · rw [if_pos c2, if_pos c2]
      refine ev_neg (by decide) ?_
      obtain ⟨t', rfl⟩ := Int.eq_ofNat_of_zero_le c.1
      have hb : t' < bn (snw s) := by omega
      rw [Int.toNat_natCast]
      unfold fX9_merge_27
      have h1 := h.thr (zI 0)
      have B1 : MS F (sI w 906 z (zI 0)) z (snw s) := B
      obtain ⟨w', r1, r2, r3, r4, r5⟩ := g_tier (N := N) B1 hb (V.1.2.2.1 0 _ (by omega) hb) (V.1.2.2.1 1 _ (by omega) hb) hN
      have e := g_52 (N := N) (h1.1.sc r2.1) r4 r5 c2 N (rn (mgr (mrgA (brw (snw s) 0 t') (brw (snw s) 1 t')))) 0 (by omega) (by have := r5.1; omega)
      refine ev_bnd (ev_pos (by rw [gI_same]; decide) (ev_eq r1 ⟨_, e, r3.trans (gI_same _ _ _ _), fun _ => rfl, h1.sc r2, (kp_thr _ _ _).trans r2.2.2.2.2⟩))
    · rw [if_neg c2, if_neg c2]
      refine ev_pos (by rfl) ?_
      unfold fX9_merge_27
      exact ev_bnd (ev_neg (by rw [gI_same]; decide) (ev_some (mo_err h (by omega) rfl)))
  · rw [if_neg c, if_neg c]
    refine ev_pos (by rfl) ?_
    unfold fX9_merge_27
    exact ev_bnd (ev_neg (by rw [gI_same]; decide) (ev_some (mo_err h (by omega) rfl)))
theorem m_merged (h : MSt F w z s) (V : VSt s) (hN : 200 ≤ N) {t i q : Int} (ht : I32 t) (hi : I32 i) (hq : I32 q) : Ev (fX9_merged F N w z (zI t) (zI i) (zI q)) (MO F z w (spMerged s t i q)) := by
  have B := h.ms V
  unfold fX9_merged spMerged
  refine ev_eq (m_isTier B ht) ?_
  by_cases c : 0 ≤ t ∧ t < bn (snw s)
  · rw [if_pos c, if_pos c]
    refine ev_neg (by decide) ?_
    obtain ⟨t', rfl⟩ := Int.eq_ofNat_of_zero_le c.1
    have hb : t' < bn (snw s) := by omega
    rw [Int.toNat_natCast]
    unfold fX9_merged_14
    have h1 := h.thr 0
    have B1 : MS F (sI w 906 z 0) z (snw s) := B
    obtain ⟨w', r1, r2, r3, ⟨d1, d2, d3, d4⟩, r5⟩ := g_tier (N := N) B1 hb (V.1.2.2.1 0 _ (by omega) hb) (V.1.2.2.1 1 _ (by omega) hb) hN
    have hn := r5.1
    have h2 := h1.sc r2
    have kk : Kp (Rg z 26) w w' := (kp_thr _ _ _).trans r2.2.2.2.2
    refine ev_bnd (ev_pos (by rw [gI_same]; decide) (ev_eq r1 ?_))
    rw [d1, zI_sb1, show (0 : Int32) = zI 0 from rfl, z_3, m_in hi (by omega) (by omega), m_in hq (by omega) (by omega)]
    simp only [Option.bind_some]
    unfold fX9_merged_64
    by_cases c2 : 0 ≤ i ∧ i < rn (mgr (mrgA (brw (snw s) 0 t') (brw (snw s) 1 t')))
    · rw [if_pos c2, if_pos (c := 0 ≤ i ∧ i ≤ (rn (mgr (mrgA (brw (snw s) 0 t') (brw (snw s) 1 t'))) : Int) - 1) (by omega)]
      refine ev_neg (by decide) ?_
      obtain ⟨i', rfl⟩ := Int.eq_ofNat_of_zero_le c2.1
      rw [Int.toNat_natCast]
      have hi2 : i' < rn (mgr (mrgA (brw (snw s) 0 t') (brw (snw s) 1 t'))) := by omega
      obtain ⟨b1, b2, b3, b4⟩ := d4 i' hi2
      have v := r5.2.2.2 i' hi2
      by_cases c3 : 0 ≤ q ∧ q ≤ 3
      · rw [if_pos c3, if_pos c3]
        refine ev_neg (by decide) (ev_bnd (ev_pos (by rw [gI_same]; decide) ?_))
        have h3 := h2.thr (zI 0)
        have kk3 : Kp (Rg z 26) w (sI w' 906 z (zI 0)) := kk.trans (kp_thr _ _ _)
        by_cases q0 : q = 0
        · rw [if_pos q0]
          refine ev_pos (by simp (disch := omega) only [z_0, z_1, z_2, z_3, z_4, z_5, z_6, z_7, z_8, z_9, z_10, z_12, z_13, z_16, z_20, z_24, z_30, z_31, z_32, z_38, z_42, z_44, z_45, z_47, z_48, z_49, z_50, z_57, z_58, z_59, z_60, z_61, z_91, z_97, z_98, z_100, z_108, z_114, z_120, z_122, z_126, z_127, z_128, z_200, z_255, z_961, z_990, z_992, z_998, z_999, z_1000, z_1092, z_1114, z_7798, z_10000, z_1000000, zI_neg, zI_add, zI_sub, zI_mul, zI_lt, zI_le, zI_eq, if_pos, if_neg, if_true, if_false, Option.bind_some, bnd, ldI_is, ldJ_is, Int.toNat_natCast, ]; exact q0) (ev_eq (rdR_is h3.1.p929.1 h3.1.p929.2.1) (ev_eq (ldI_is (by omega) (by rw [h3.1.p929.2.2]; omega) (by omega)) (ev_some ⟨gI_same _ _ _ _, fun _ => ?_, h3, kk3⟩)))
          rw [Int.toNat_natCast]; exact b1
        rw [if_neg q0]
        refine ev_neg (by simp (disch := omega) only [z_0, z_1, z_2, z_3, z_4, z_5, z_6, z_7, z_8, z_9, z_10, z_12, z_13, z_16, z_20, z_24, z_30, z_31, z_32, z_38, z_42, z_44, z_45, z_47, z_48, z_49, z_50, z_57, z_58, z_59, z_60, z_61, z_91, z_97, z_98, z_100, z_108, z_114, z_120, z_122, z_126, z_127, z_128, z_200, z_255, z_961, z_990, z_992, z_998, z_999, z_1000, z_1092, z_1114, z_7798, z_10000, z_1000000, zI_neg, zI_add, zI_sub, zI_mul, zI_lt, zI_le, zI_eq, if_pos, if_neg, if_true, if_false, Option.bind_some, bnd, ldI_is, ldJ_is, Int.toNat_natCast, ]; exact q0) ?_
        by_cases q1 : q = 1
        · rw [if_pos q1]
          refine ev_pos (by simp (disch := omega) only [z_0, z_1, z_2, z_3, z_4, z_5, z_6, z_7, z_8, z_9, z_10, z_12, z_13, z_16, z_20, z_24, z_30, z_31, z_32, z_38, z_42, z_44, z_45, z_47, z_48, z_49, z_50, z_57, z_58, z_59, z_60, z_61, z_91, z_97, z_98, z_100, z_108, z_114, z_120, z_122, z_126, z_127, z_128, z_200, z_255, z_961, z_990, z_992, z_998, z_999, z_1000, z_1092, z_1114, z_7798, z_10000, z_1000000, zI_neg, zI_add, zI_sub, zI_mul, zI_lt, zI_le, zI_eq, if_pos, if_neg, if_true, if_false, Option.bind_some, bnd, ldI_is, ldJ_is, Int.toNat_natCast, ]; exact q1) (ev_eq (rdR_is h3.1.p930.1 h3.1.p930.2.1) (ev_eq (ldI_is (by omega) (by rw [h3.1.p930.2.2]; omega) (by omega)) (ev_some ⟨gI_same _ _ _ _, fun _ => ?_, h3, kk3⟩)))
          rw [Int.toNat_natCast]; exact b2
        rw [if_neg q1]
        refine ev_neg (by simp (disch := omega) only [z_0, z_1, z_2, z_3, z_4, z_5, z_6, z_7, z_8, z_9, z_10, z_12, z_13, z_16, z_20, z_24, z_30, z_31, z_32, z_38, z_42, z_44, z_45, z_47, z_48, z_49, z_50, z_57, z_58, z_59, z_60, z_61, z_91, z_97, z_98, z_100, z_108, z_114, z_120, z_122, z_126, z_127, z_128, z_200, z_255, z_961, z_990, z_992, z_998, z_999, z_1000, z_1092, z_1114, z_7798, z_10000, z_1000000, zI_neg, zI_add, zI_sub, zI_mul, zI_lt, zI_le, zI_eq, if_pos, if_neg, if_true, if_false, Option.bind_some, bnd, ldI_is, ldJ_is, Int.toNat_natCast, ]; exact q1) ?_
        by_cases q2 : q = 2
        · rw [if_pos q2]
          refine ev_pos (by simp (disch := omega) only [z_0, z_1, z_2, z_3, z_4, z_5, z_6, z_7, z_8, z_9, z_10, z_12, z_13, z_16, z_20, z_24, z_30, z_31, z_32, z_38, z_42, z_44, z_45, z_47, z_48, z_49, z_50, z_57, z_58, z_59, z_60, z_61, z_91, z_97, z_98, z_100, z_108, z_114, z_120, z_122, z_126, z_127, z_128, z_200, z_255, z_961, z_990, z_992, z_998, z_999, z_1000, z_1092, z_1114, z_7798, z_10000, z_1000000, zI_neg, zI_add, zI_sub, zI_mul, zI_lt, zI_le, zI_eq, if_pos, if_neg, if_true, if_false, Option.bind_some, bnd, ldI_is, ldJ_is, Int.toNat_natCast, ]; exact q2) (ev_eq (rdR_is h3.1.p932.1 h3.1.p932.2.1) (ev_eq (ldI_is (by omega) (by rw [h3.1.p932.2.2]; omega) (by omega)) (ev_some ⟨gI_same _ _ _ _, fun _ => ?_, h3, kk3⟩)))
          rw [Int.toNat_natCast]; exact b4
        rw [if_neg q2]
        refine ev_neg (by simp (disch := omega) only [z_0, z_1, z_2, z_3, z_4, z_5, z_6, z_7, z_8, z_9, z_10, z_12, z_13, z_16, z_20, z_24, z_30, z_31, z_32, z_38, z_42, z_44, z_45, z_47, z_48, z_49, z_50, z_57, z_58, z_59, z_60, z_61, z_91, z_97, z_98, z_100, z_108, z_114, z_120, z_122, z_126, z_127, z_128, z_200, z_255, z_961, z_990, z_992, z_998, z_999, z_1000, z_1092, z_1114, z_7798, z_10000, z_1000000, zI_neg, zI_add, zI_sub, zI_mul, zI_lt, zI_le, zI_eq, if_pos, if_neg, if_true, if_false, Option.bind_some, bnd, ldI_is, ldJ_is, Int.toNat_natCast, ]; exact q2) (ev_eq (rdR_is h3.1.p931.1 h3.1.p931.2.1) (ev_eq (ldJ_is (by omega) (by rw [h3.1.p931.2.2]; omega) (by omega)) ?_))
        rw [Int.toNat_natCast, show aJ (sI w' 906 z (zI 0)) (z + 19) i' = _ from b3]
        exact ev_eq (m_lengthOf v.2.2.1 (by omega)) (ev_some ⟨gI_same _ _ _ _, fun _ => rfl, h3, kk3⟩)
      · rw [if_neg c3, if_neg c3]
        exact ev_pos (by rfl) (ev_bnd (ev_neg (by rw [gI_same]; decide) (ev_some ⟨gI_same _ _ _ _, fun x => absurd x (show ¬ (3 : Int) = 0 by decide), h2.thr _, kk.trans (kp_thr _ _ _)⟩)))
    · rw [if_neg c2, if_neg (c := 0 ≤ i ∧ i ≤ (rn (mgr (mrgA (brw (snw s) 0 t') (brw (snw s) 1 t'))) : Int) - 1) (by omega)]
      exact ev_pos (by rfl) (ev_bnd (ev_neg (by rw [gI_same]; decide) (ev_some ⟨gI_same _ _ _ _, fun x => absurd x (show ¬ (2 : Int) = 0 by decide), h2.thr _, kk.trans (kp_thr _ _ _)⟩)))
  · rw [if_neg c, if_neg c]
    refine ev_pos (by rfl) ?_
    unfold fX9_merged_14
    exact ev_bnd (ev_neg (by rw [gI_same]; decide) (ev_some (mo_err h (by omega) rfl)))
end MRG
