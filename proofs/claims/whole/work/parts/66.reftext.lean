/-! the reference reads texts -/
section APP
variable {F : Fr} {N : Nat} {w : Wd} {z : Nat} {s : St} {k : Bk} {p : Int32}
theorem m8 (j : Nat) : zI (8 * ((j + 1 : Nat) : Int) - 8) = zI (8 * (j : Int)) := by congr 1; omega
theorem m8b (j : Nat) : zI (8 * (j : Int)) + (-8) = zI (8 * (j : Int) - 8) := by rw [show (-8 : Int32) = zI (-8) from rfl, zI_add]; congr 1
theorem MSt.putc (h : MSt F w z s) {c : Nat} (hn : tn (stx s) < 100) (v : Int32) (hv : v = zI (tn (stx s) + 1 : Nat)) : MSt F (sI (sAI w (z + 5) (upd (aI w (z + 5)) (tn (stx s)) (zI (c : Nat)))) 908 z v) z (settx s (putC (stx s) (c : Int))) := by
  obtain ⟨h1, h2, h3, h4, h5, h6, h7⟩ := h
  have e5 : ∀ i, aI (sI (sAI w (z + 5) (upd (aI w (z + 5)) (tn (stx s)) (zI (c : Nat)))) 908 z v) (z + 5) i = if i = tn (stx s) then zI (c : Nat) else aI w (z + 5) i := fun i => by rw [q_aI_sI, q_aI_sAI, if_pos rfl, upd_is]
  have e8 : aI (sI (sAI w (z + 5) (upd (aI w (z + 5)) (tn (stx s)) (zI (c : Nat)))) 908 z v) (z + 8) = aI w (z + 8) := by rw [q_aI_sI, q_aI_sAI, if_neg (by omega)]
  have e9 : aI (sI (sAI w (z + 5) (upd (aI w (z + 5)) (tn (stx s)) (zI (c : Nat)))) 908 z v) (z + 9) = aI w (z + 9) := by rw [q_aI_sI, q_aI_sAI, if_neg (by omega)]
  have e11 : aI (sI (sAI w (z + 5) (upd (aI w (z + 5)) (tn (stx s)) (zI (c : Nat)))) 908 z v) (z + 11) = aI w (z + 11) := by rw [q_aI_sI, q_aI_sAI, if_neg (by omega)]
  have eI : ∀ f, ¬ f = 908 → gI (sI (sAI w (z + 5) (upd (aI w (z + 5)) (tn (stx s)) (zI (c : Nat)))) 908 z v) f z = gI w f z := fun f hf => by rw [gI_ne _ hf]; rfl
  refine ⟨h1, h2, ⟨?_, h3.2⟩, ⟨?_, h4.2⟩, ⟨?_, fun i hi => ?_⟩, ⟨?_, fun i e he => ?_⟩, ?_, ?_, ?_, ?_⟩
  · rw [eI _ (by omega)]; exact h3.1
  · rw [eI _ (by omega)]; exact h4.1
  · rw [gI_same]; exact hv
  · have hi : i < tn (stx s) + 1 := hi
    rw [e5]
    show _ = zI (if i = tn (stx s) then (c : Int) else tc (stx s) i)
    by_cases c1 : i = tn (stx s)
    · rw [if_pos c1, if_pos c1]
    · rw [if_neg c1, if_neg c1]; exact h5.2 i (by omega)
  · rw [eI _ (by omega)]; exact h6.1
  · obtain ⟨a1, a2, a3, a4⟩ := h6.2 i e he
    refine ⟨?_, ?_, a3, fun hi => ?_⟩
    · rw [e8]; exact a1
    · rw [e9]; exact a2
    · rw [e11]; exact a4 hi
  · rw [eI _ (by omega)]; exact h7.1
  · rw [eI _ (by omega)]; exact h7.2.1
  · rw [eI _ (by omega)]; exact h7.2.2.1
  · rw [eI _ (by omega)]; exact h7.2.2.2
theorem m_append_113 : ∀ (j m : Nat) (w : Wd) (s : St), MSt F w z s → j < m → j ≤ 4 → (byl p j).all okc = true → tn (stx s) + (byl p j).length ≤ 100 →
    ∃ w', fX9_append_113 F N m w z p (zI (8 * (j : Int) - 8)) = some (zI (tn (stx s) + (byl p j).length : Nat), w') ∧ MSt F w' z (settx s (putL (stx s) (byl p j))) ∧ Kp (Rg z 26) w w' ∧ gI w' 906 z = gI w 906 z := by
  intro j
  induction j with
  | zero =>
    intro m w s h hm _ _ _
    obtain ⟨m', rfl⟩ : ∃ m', m = m' + 1 := ⟨m - 1, by omega⟩
    unfold fX9_append_113
    rw [if_pos (by decide)]
    exact ⟨w, by rw [h.2.2.2.2.1.1]; rfl, h, Kp.refl _, rfl⟩
  | succ j ih =>
    intro m w s h hm h4 ha hl
    obtain ⟨m', rfl⟩ : ∃ m', m = m' + 1 := ⟨m - 1, by omega⟩
    have hb := bV_is p (zI (8 * (j : Int)))
    unfold fX9_append_113 fX9_append_152
    rw [m8, if_neg (by simp (disch := omega) only [z_0, z_1, z_2, z_3, z_4, z_5, z_6, z_7, z_8, z_9, z_10, z_12, z_13, z_16, z_20, z_24, z_30, z_31, z_32, z_38, z_42, z_44, z_45, z_47, z_48, z_49, z_50, z_57, z_58, z_59, z_60, z_61, z_91, z_97, z_98, z_100, z_108, z_114, z_120, z_122, z_126, z_127, z_128, z_200, z_255, z_961, z_990, z_992, z_998, z_999, z_1000, z_1092, z_1114, z_7798, z_10000, z_1000000, zI_neg, zI_add, zI_sub, zI_mul, zI_lt, zI_le, zI_eq, if_pos, if_neg, if_true, if_false, Option.bind_some, bnd, ldI_is, ldJ_is, Int.toNat_natCast,  Int.not_lt]; omega)]
    rw [show ((p.toUInt32 >>> (Int32.toUInt32 (zI (8 * (j : Int))) &&& Int32.toUInt32 31)).toInt32) &&& 255 = bV p (zI (8 * (j : Int))) from rfl, hb.1]
    simp only [bnd]
    unfold byl at ha hl
    unfold byl
    rw [m8b]
    by_cases c : bN p (zI (8 * (j : Int))) = 0
    · rw [if_pos c] at ha hl
      rw [if_pos c, if_pos (by simp (disch := omega) only [z_0, z_1, z_2, z_3, z_4, z_5, z_6, z_7, z_8, z_9, z_10, z_12, z_13, z_16, z_20, z_24, z_30, z_31, z_32, z_38, z_42, z_44, z_45, z_47, z_48, z_49, z_50, z_57, z_58, z_59, z_60, z_61, z_91, z_97, z_98, z_100, z_108, z_114, z_120, z_122, z_126, z_127, z_128, z_200, z_255, z_961, z_990, z_992, z_998, z_999, z_1000, z_1092, z_1114, z_7798, z_10000, z_1000000, zI_neg, zI_add, zI_sub, zI_mul, zI_lt, zI_le, zI_eq, if_pos, if_neg, if_true, if_false, Option.bind_some, bnd, ldI_is, ldJ_is, Int.toNat_natCast, ]; omega)]
      exact ih m' w s h (by omega) (by omega) ha hl
    · rw [if_neg c] at ha hl
      rw [if_neg c, if_neg (by simp (disch := omega) only [z_0, z_1, z_2, z_3, z_4, z_5, z_6, z_7, z_8, z_9, z_10, z_12, z_13, z_16, z_20, z_24, z_30, z_31, z_32, z_38, z_42, z_44, z_45, z_47, z_48, z_49, z_50, z_57, z_58, z_59, z_60, z_61, z_91, z_97, z_98, z_100, z_108, z_114, z_120, z_122, z_126, z_127, z_128, z_200, z_255, z_961, z_990, z_992, z_998, z_999, z_1000, z_1092, z_1114, z_7798, z_10000, z_1000000, zI_neg, zI_add, zI_sub, zI_mul, zI_lt, zI_le, zI_eq, if_pos, if_neg, if_true, if_false, Option.bind_some, bnd, ldI_is, ldJ_is, Int.toNat_natCast,  Int.not_le]; omega)]
      rw [List.all_cons, Bool.and_eq_true] at ha
      rw [List.length_cons] at hl
      rw [List.length_cons]
      rw [rdR_is h.1.p907.1 h.1.p907.2.1]
      simp only [Option.bind_some]
      rw [h.2.2.2.2.1.1, stI_is (by omega) (by rw [h.1.p907.2.2]; omega) (by omega), Int.toNat_natCast]
      simp only [Option.bind_some]
      have h2 := h.putc (c := bN p (zI (8 * (j : Int)))) (by omega) (gI (sAI w (z + 5) (upd (aI w (z + 5)) (tn (stx s)) (zI (bN p (zI (8 * (j : Int))) : Nat)))) 908 z + 1) (by
        show gI w 908 z + 1 = _
        rw [h.2.2.2.2.1.1, zI_succ])
      have e1 : tn (putC (stx s) (bN p (zI (8 * (j : Int))) : Int)) = tn (stx s) + 1 := rfl
      obtain ⟨w', r1, r2, r3, r4⟩ := ih m' _ _ h2 (by omega) (by omega) ha.2 (by show tn (putC (stx s) _) + _ ≤ 100; omega)
      refine ⟨w', ?_, r2, ((kp_sAI _ _ ⟨by omega, by omega⟩).trans (kp_f _ _ _ _)).trans r3, ?_⟩
      · rw [r1]
        show some (zI (tn (putC (stx s) _) + _ : Nat), w') = _
        rw [e1, show tn (stx s) + 1 + (byl p j).length = tn (stx s) + ((byl p j).length + 1) from by omega]
      · rw [r4, gI_ne _ (by omega)]
        rfl
theorem m_append_10 (h : MSt F w z s) : ∀ (j m : Nat) (w : Wd) (A : Nat) (t : Int), j < m → j ≤ 4 → A + j ≤ 4 → (t = 0 ∨ t = 1) → gI w 906 z = zI t →
    ∃ m', m = m' + j ∧ fX9_append_10 F N m w z p (zI A) (zI (8 * (j : Int) - 8)) = fX9_append_10 F N m' (sI w 906 z (zI (if (byl p j).all okc = true then t else 1))) z p (zI (A + (byl p j).length : Nat)) (zI (-8)) := by
  intro j
  induction j with
  | zero =>
    intro m w A t hm _ _ ht h6
    refine ⟨m, by omega, ?_⟩
    rw [show (byl p 0).all okc = true from rfl, if_pos rfl, sI_self h6]
    rfl
  | succ j ih =>
    intro m w A t hm h4 hA ht h6
    obtain ⟨m9, rfl⟩ : ∃ m9, m = m9 + 1 := ⟨m - 1, by omega⟩
    have hb := bV_is p (zI (8 * (j : Int)))
    have hl := byl_lim p j
    rw [fX9_append_10]
    unfold fX9_append_34 fX9_append_58 fX9_append_62
    rw [m8, if_neg (by simp (disch := omega) only [z_0, z_1, z_2, z_3, z_4, z_5, z_6, z_7, z_8, z_9, z_10, z_12, z_13, z_16, z_20, z_24, z_30, z_31, z_32, z_38, z_42, z_44, z_45, z_47, z_48, z_49, z_50, z_57, z_58, z_59, z_60, z_61, z_91, z_97, z_98, z_100, z_108, z_114, z_120, z_122, z_126, z_127, z_128, z_200, z_255, z_961, z_990, z_992, z_998, z_999, z_1000, z_1092, z_1114, z_7798, z_10000, z_1000000, zI_neg, zI_add, zI_sub, zI_mul, zI_lt, zI_le, zI_eq, if_pos, if_neg, if_true, if_false, Option.bind_some, bnd, ldI_is, ldJ_is, Int.toNat_natCast,  Int.not_lt]; omega)]
    rw [show ((p.toUInt32 >>> (Int32.toUInt32 (zI (8 * (j : Int))) &&& Int32.toUInt32 31)).toInt32) &&& 255 = bV p (zI (8 * (j : Int))) from rfl, hb.1]
    simp only [bnd]
    unfold byl
    rw [m8b]
    by_cases c : bN p (zI (8 * (j : Int))) = 0
    · rw [if_pos c]
      obtain ⟨m', r1, r2⟩ := ih m9 (sI w 906 z (zI t)) A t (by omega) (by omega) (by omega) ht (gI_same _ _ _ _)
      refine ⟨m', by omega, ?_⟩
      rw [sI_sI] at r2
      rw [if_pos (by simp (disch := omega) only [z_0, z_1, z_2, z_3, z_4, z_5, z_6, z_7, z_8, z_9, z_10, z_12, z_13, z_16, z_20, z_24, z_30, z_31, z_32, z_38, z_42, z_44, z_45, z_47, z_48, z_49, z_50, z_57, z_58, z_59, z_60, z_61, z_91, z_97, z_98, z_100, z_108, z_114, z_120, z_122, z_126, z_127, z_128, z_200, z_255, z_961, z_990, z_992, z_998, z_999, z_1000, z_1092, z_1114, z_7798, z_10000, z_1000000, zI_neg, zI_add, zI_sub, zI_mul, zI_lt, zI_le, zI_eq, if_pos, if_neg, if_true, if_false, Option.bind_some, bnd, ldI_is, ldJ_is, Int.toNat_natCast, ]; omega), if_pos (by simp (disch := omega) only [z_0, z_1, z_2, z_3, z_4, z_5, z_6, z_7, z_8, z_9, z_10, z_12, z_13, z_16, z_20, z_24, z_30, z_31, z_32, z_38, z_42, z_44, z_45, z_47, z_48, z_49, z_50, z_57, z_58, z_59, z_60, z_61, z_91, z_97, z_98, z_100, z_108, z_114, z_120, z_122, z_126, z_127, z_128, z_200, z_255, z_961, z_990, z_992, z_998, z_999, z_1000, z_1092, z_1114, z_7798, z_10000, z_1000000, zI_neg, zI_add, zI_sub, zI_mul, zI_lt, zI_le, zI_eq, if_pos, if_neg, if_true, if_false, Option.bind_some, bnd, ldI_is, ldJ_is, Int.toNat_natCast, ]; omega), h6, z_0, zI_add, Int.add_zero]
      exact r2
    · rw [if_neg c, List.all_cons, List.length_cons]
      rw [if_neg (by simp (disch := omega) only [z_0, z_1, z_2, z_3, z_4, z_5, z_6, z_7, z_8, z_9, z_10, z_12, z_13, z_16, z_20, z_24, z_30, z_31, z_32, z_38, z_42, z_44, z_45, z_47, z_48, z_49, z_50, z_57, z_58, z_59, z_60, z_61, z_91, z_97, z_98, z_100, z_108, z_114, z_120, z_122, z_126, z_127, z_128, z_200, z_255, z_961, z_990, z_992, z_998, z_999, z_1000, z_1092, z_1114, z_7798, z_10000, z_1000000, zI_neg, zI_add, zI_sub, zI_mul, zI_lt, zI_le, zI_eq, if_pos, if_neg, if_true, if_false, Option.bind_some, bnd, ldI_is, ldJ_is, Int.toNat_natCast,  Int.not_le]; omega), if_neg (by simp (disch := omega) only [z_0, z_1, z_2, z_3, z_4, z_5, z_6, z_7, z_8, z_9, z_10, z_12, z_13, z_16, z_20, z_24, z_30, z_31, z_32, z_38, z_42, z_44, z_45, z_47, z_48, z_49, z_50, z_57, z_58, z_59, z_60, z_61, z_91, z_97, z_98, z_100, z_108, z_114, z_120, z_122, z_126, z_127, z_128, z_200, z_255, z_961, z_990, z_992, z_998, z_999, z_1000, z_1092, z_1114, z_7798, z_10000, z_1000000, zI_neg, zI_add, zI_sub, zI_mul, zI_lt, zI_le, zI_eq, if_pos, if_neg, if_true, if_false, Option.bind_some, bnd, ldI_is, ldJ_is, Int.toNat_natCast,  Int.not_le]; omega), z_32, z_126, m_in (by omega) (by omega) (by omega)]
      simp only [Option.bind_some]
      rw [h6, z_1, zI_add, show (A : Int) + 1 = ((A + 1 : Nat) : Int) from by omega]
      by_cases c2 : 32 ≤ bN p (zI (8 * (j : Int))) ∧ bN p (zI (8 * (j : Int))) ≤ 126
      · have ok : okc (bN p (zI (8 * (j : Int)))) = true := decide_eq_true c2
        obtain ⟨m', r1, r2⟩ := ih m9 (sI w 906 z (zI t)) (A + 1) t (by omega) (by omega) (by omega) ht (gI_same _ _ _ _)
        refine ⟨m', by omega, ?_⟩
        rw [sI_sI] at r2
        rw [if_pos (c := (32 : Int) ≤ (bN p (zI (8 * (j : Int))) : Nat) ∧ ((bN p (zI (8 * (j : Int))) : Nat) : Int) ≤ 126) (by omega), if_neg (by decide), ok, Bool.true_and]
        rw [show A + ((byl p j).length + 1) = A + 1 + (byl p j).length from by omega]
        exact r2
      · have ok : okc (bN p (zI (8 * (j : Int)))) = false := decide_eq_false c2
        obtain ⟨m', r1, r2⟩ := ih m9 (sI w 906 z (zI 1)) (A + 1) 1 (by omega) (by omega) (by omega) (Or.inr rfl) (gI_same _ _ _ _)
        refine ⟨m', by omega, ?_⟩
        rw [sI_sI, ite_self] at r2
        rw [if_neg (c := (32 : Int) ≤ (bN p (zI (8 * (j : Int))) : Nat) ∧ ((bN p (zI (8 * (j : Int))) : Nat) : Int) ≤ 126) (by omega), if_pos (by rfl), ok, Bool.false_and, if_neg (by decide)]
        rw [show A + ((byl p j).length + 1) = A + 1 + (byl p j).length from by omega]
        exact r2
theorem m_append (h : MSt F w z s) (V : VSt s) (hN : 40 ≤ N) : Ev (fX9_append F N w z p) (MO F z w (spAppend s p)) := by
  have hT := V.2.2.2.2.1
  have hl4 := byl_lim p 4
  have h1 := h.thr 0
  obtain ⟨m', r1, r2⟩ := m_append_10 (N := N) (p := p) h1 4 N (sI w 906 z 0) 0 0 (by omega) (by omega) (by omega) (Or.inl rfl) (gI_same _ _ _ _)
  unfold fX9_append
  refine ev_bnd ?_
  obtain ⟨m'', rfl⟩ : ∃ m'', m' = m'' + 1 := ⟨m' - 1, by omega⟩
  rw [show fX9_append_10 F N N (sI w 906 z 0) z p 0 24 = _ from r2, sI_sI]
  unfold fX9_append_10 fX9_append_94 fX9_append_98 spAppend
  refine ev_pos (by decide) ?_
  rw [gI_same, gI_ne _ (by omega), h.2.2.2.2.1.1, zI_add, Nat.zero_add]
  have hgt := hT.1
  by_cases ca : (byl p 4).all okc = true
  · rw [if_pos ca, if_pos ca]
    refine ev_pos (by rfl) ?_
    by_cases cl : tn (stx s) + (byl p 4).length ≤ 100
    · rw [if_pos cl]
      refine ev_pos (by simp (disch := omega) only [z_0, z_1, z_2, z_3, z_4, z_5, z_6, z_7, z_8, z_9, z_10, z_12, z_13, z_16, z_20, z_24, z_30, z_31, z_32, z_38, z_42, z_44, z_45, z_47, z_48, z_49, z_50, z_57, z_58, z_59, z_60, z_61, z_91, z_97, z_98, z_100, z_108, z_114, z_120, z_122, z_126, z_127, z_128, z_200, z_255, z_961, z_990, z_992, z_998, z_999, z_1000, z_1092, z_1114, z_7798, z_10000, z_1000000, zI_neg, zI_add, zI_sub, zI_mul, zI_lt, zI_le, zI_eq, if_pos, if_neg, if_true, if_false, Option.bind_some, bnd, ldI_is, ldJ_is, Int.toNat_natCast, ]; omega) (ev_bnd ?_)
      rw [sI_sI]
      refine ev_pos (by rw [gI_same]; decide) ?_
      obtain ⟨w', e1, e2, e3, e4⟩ := m_append_113 (F := F) (N := N) (p := p) 4 N _ s (h.thr (zI 0)) (by omega) (by omega) ca cl
      exact ⟨_, e1, e4.trans (gI_same _ _ _ _), fun _ => rfl, e2, (kp_f _ _ _ _).trans e3⟩
    · rw [if_neg cl]
      refine ev_neg (by simp (disch := omega) only [z_0, z_1, z_2, z_3, z_4, z_5, z_6, z_7, z_8, z_9, z_10, z_12, z_13, z_16, z_20, z_24, z_30, z_31, z_32, z_38, z_42, z_44, z_45, z_47, z_48, z_49, z_50, z_57, z_58, z_59, z_60, z_61, z_91, z_97, z_98, z_100, z_108, z_114, z_120, z_122, z_126, z_127, z_128, z_200, z_255, z_961, z_990, z_992, z_998, z_999, z_1000, z_1092, z_1114, z_7798, z_10000, z_1000000, zI_neg, zI_add, zI_sub, zI_mul, zI_lt, zI_le, zI_eq, if_pos, if_neg, if_true, if_false, Option.bind_some, bnd, ldI_is, ldJ_is, Int.toNat_natCast,  Int.not_le]; omega) (ev_bnd ?_)
      rw [sI_sI]
      exact ev_neg (by rw [gI_same]; decide) (ev_some (mo_err h (by omega) rfl))
  · rw [if_neg ca, if_neg ca]
    refine ev_neg (by decide) (ev_bnd ?_)
    rw [sI_sI]
    exact ev_neg (by rw [gI_same]; decide) (ev_some (mo_err h (by omega) rfl))
end APP
