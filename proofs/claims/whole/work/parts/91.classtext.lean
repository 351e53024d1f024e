/-! the class: appending, consistency -/
section TXT8
variable {F : Fr} {N : Nat} {w w' : Wd} {h zp zn : Nat} {s s' : St} {p : Int32}
theorem c8_append_89 : ∀ (j m : Nat) (w : Wd) (s : St), CStP F w h zp zn s → j < m → j ≤ 4 → (byl p j).all okc = true → tn (stx s) + (byl p j).length ≤ 100 →
    Ev (fX8_append_89 F N m w h p (zI (8 * (j : Int) - 8))) fun y => ∃ w', y = .inl (zI (tn (stx s) + (byl p j).length : Nat), w') ∧ CStP F w' h zp zn (settx s (putL (stx s) (byl p j))) ∧ Kp (Rg h 661) w w' := by
  intro j
  induction j with
  | zero =>
    intro m w s C hm h4 ha hl
    match m, hm with
    | m' + 1, hm =>
    unfold fX8_append_89
    have cI : CIn0 F w (h + 630) (stx s) := C.2.2.2.2.2.2.1
    refine ev_pos (by rfl) (ev_eq C.a4 (ev_some ⟨w, ?_, C, Kp.refl _⟩))
    rw [cI.2.2.2.2.1]
    rfl
  | succ j ih =>
    intro m w s C hm h4 ha hl
    match m, hm with
    | m' + 1, hm =>
    unfold fX8_append_89
    have hb := bV_is p (zI (8 * (j : Int)))
    have cI : CIn0 F w (h + 630) (stx s) := C.2.2.2.2.2.2.1
    rw [m8]
    refine ev_neg (by simp (disch := omega) only [z_0, z_1, z_2, z_3, z_4, z_5, z_6, z_7, z_8, z_9, z_10, z_12, z_13, z_16, z_20, z_24, z_30, z_31, z_32, z_38, z_42, z_44, z_45, z_47, z_48, z_49, z_50, z_57, z_58, z_59, z_60, z_61, z_91, z_97, z_98, z_100, z_108, z_114, z_120, z_122, z_126, z_127, z_128, z_200, z_255, z_961, z_990, z_992, z_998, z_999, z_1000, z_1092, z_1114, z_7798, z_10000, z_1000000, zI_neg, zI_add, zI_sub, zI_mul, zI_lt, zI_le, zI_eq, if_pos, if_neg, if_true, if_false, Option.bind_some, bnd, ldI_is, ldJ_is, Int.toNat_natCast,  Int.not_lt]; omega) (ev_eq C.a4 ?_)
    rw [show ((p.toUInt32 >>> (Int32.toUInt32 (zI (8 * (j : Int))) &&& Int32.toUInt32 31)).toInt32) &&& 255 = bV p (zI (8 * (j : Int))) from rfl, hb.1, m8b]
    unfold byl at ha hl
    unfold byl
    by_cases c : bN p (zI (8 * (j : Int))) = 0
    · rw [if_pos c] at ha hl
      rw [if_pos c, c]
      refine ev_eq (show fX3_put F N w (h + 630) (zI ((0 : Nat) : Int)) = some w from c_put0) ?_
      exact ih m' w s C (by omega) (by omega) ha hl
    · rw [if_neg c] at ha hl
      rw [if_neg c]
      rw [List.all_cons, Bool.and_eq_true] at ha
      rw [List.length_cons] at hl
      rw [List.length_cons]
      have ho := ha.1
      unfold okc at ho
      have ho := of_decide_eq_true ho
      refine ev_then (c_put cI (by omega) ho) ?_
      intro w1 ⟨a1, k1⟩
      have C1 : CStP F w1 h zp zn (settx s (putC (stx s) (bN p (zI (8 * (j : Int))) : Int))) := C.upI k1 (fun a ha => by omega) a1 eqx_tx
      have e1 : tn (putC (stx s) (bN p (zI (8 * (j : Int))) : Int)) = tn (stx s) + 1 := rfl
      refine ev_mono (ih m' _ _ C1 (by omega) (by omega) ha.2 (by show tn (putC (stx s) _) + _ ≤ 100; omega)) ?_
      intro y ⟨w2, r1, r2, r3⟩
      refine ⟨w2, ?_, r2, (k1.mono fun a ha => by unfold Rg; omega).trans r3⟩
      rw [r1]
      show Sum.inl (zI (tn (putC (stx s) _) + _ : Nat), w2) = _
      rw [e1, show tn (stx s) + 1 + (byl p j).length = tn (stx s) + ((byl p j).length + 1) from by omega]
theorem c8_append_5 (C : CStP F w h zp zn s) (hn : tn (stx s) ≤ 100) : ∀ (j m A : Nat), j < m → j ≤ 4 → A + j ≤ 4 →
    fX8_append_5 F N m w h p (zI A) (zI (8 * (j : Int) - 8)) = if (byl p j).all okc = true then (if tn (stx s) + (A + (byl p j).length) ≤ 100 then fX8_append_89 F N N w h p 24 else some (.inr (2, w))) else some (.inr (0, w)) := by
  intro j
  induction j with
  | zero =>
    intro m A hm h4 hA
    match m, hm with
    | m' + 1, hm =>
    unfold fX8_append_5
    have cI : CIn0 F w (h + 630) (stx s) := C.2.2.2.2.2.2.1
    rw [if_pos (by rfl), C.a4, Option.bind_some, cI.2.2.2.2.1, zI_add, if_pos (show (byl p 0).all okc = true from rfl)]
    show (if zI ((tn (stx s) : Int) + (A : Int)) ≤ 100 then _ else _) = if tn (stx s) + (A + 0) ≤ 100 then _ else _
    by_cases c : tn (stx s) + (A + 0) ≤ 100
    · rw [if_pos c, if_pos (by simp (disch := omega) only [z_0, z_1, z_2, z_3, z_4, z_5, z_6, z_7, z_8, z_9, z_10, z_12, z_13, z_16, z_20, z_24, z_30, z_31, z_32, z_38, z_42, z_44, z_45, z_47, z_48, z_49, z_50, z_57, z_58, z_59, z_60, z_61, z_91, z_97, z_98, z_100, z_108, z_114, z_120, z_122, z_126, z_127, z_128, z_200, z_255, z_961, z_990, z_992, z_998, z_999, z_1000, z_1092, z_1114, z_7798, z_10000, z_1000000, zI_neg, zI_add, zI_sub, zI_mul, zI_lt, zI_le, zI_eq, if_pos, if_neg, if_true, if_false, Option.bind_some, bnd, ldI_is, ldJ_is, Int.toNat_natCast, ]; omega)]
    · rw [if_neg c, if_neg (by simp (disch := omega) only [z_0, z_1, z_2, z_3, z_4, z_5, z_6, z_7, z_8, z_9, z_10, z_12, z_13, z_16, z_20, z_24, z_30, z_31, z_32, z_38, z_42, z_44, z_45, z_47, z_48, z_49, z_50, z_57, z_58, z_59, z_60, z_61, z_91, z_97, z_98, z_100, z_108, z_114, z_120, z_122, z_126, z_127, z_128, z_200, z_255, z_961, z_990, z_992, z_998, z_999, z_1000, z_1092, z_1114, z_7798, z_10000, z_1000000, zI_neg, zI_add, zI_sub, zI_mul, zI_lt, zI_le, zI_eq, if_pos, if_neg, if_true, if_false, Option.bind_some, bnd, ldI_is, ldJ_is, Int.toNat_natCast, ]; omega)]
  | succ j ih =>
    intro m A hm h4 hA
    match m, hm with
    | m' + 1, hm =>
    have hb := bV_is p (zI (8 * (j : Int)))
    unfold fX8_append_5
    rw [m8, if_neg (by simp (disch := omega) only [z_0, z_1, z_2, z_3, z_4, z_5, z_6, z_7, z_8, z_9, z_10, z_12, z_13, z_16, z_20, z_24, z_30, z_31, z_32, z_38, z_42, z_44, z_45, z_47, z_48, z_49, z_50, z_57, z_58, z_59, z_60, z_61, z_91, z_97, z_98, z_100, z_108, z_114, z_120, z_122, z_126, z_127, z_128, z_200, z_255, z_961, z_990, z_992, z_998, z_999, z_1000, z_1092, z_1114, z_7798, z_10000, z_1000000, zI_neg, zI_add, zI_sub, zI_mul, zI_lt, zI_le, zI_eq, if_pos, if_neg, if_true, if_false, Option.bind_some, bnd, ldI_is, ldJ_is, Int.toNat_natCast,  Int.not_lt]; omega)]
    rw [show ((p.toUInt32 >>> (Int32.toUInt32 (zI (8 * (j : Int))) &&& Int32.toUInt32 31)).toInt32) &&& 255 = bV p (zI (8 * (j : Int))) from rfl, hb.1]
    simp only [bnd]
    unfold byl fX8_append_45 fX8_append_56 fX8_append_37
    simp only [bnd]
    rw [m8b]
    by_cases c : bN p (zI (8 * (j : Int))) = 0
    · rw [if_pos c, if_pos (by simp (disch := omega) only [z_0, z_1, z_2, z_3, z_4, z_5, z_6, z_7, z_8, z_9, z_10, z_12, z_13, z_16, z_20, z_24, z_30, z_31, z_32, z_38, z_42, z_44, z_45, z_47, z_48, z_49, z_50, z_57, z_58, z_59, z_60, z_61, z_91, z_97, z_98, z_100, z_108, z_114, z_120, z_122, z_126, z_127, z_128, z_200, z_255, z_961, z_990, z_992, z_998, z_999, z_1000, z_1092, z_1114, z_7798, z_10000, z_1000000, zI_neg, zI_add, zI_sub, zI_mul, zI_lt, zI_le, zI_eq, if_pos, if_neg, if_true, if_false, Option.bind_some, bnd, ldI_is, ldJ_is, Int.toNat_natCast, ]; omega), if_pos (by simp (disch := omega) only [z_0, z_1, z_2, z_3, z_4, z_5, z_6, z_7, z_8, z_9, z_10, z_12, z_13, z_16, z_20, z_24, z_30, z_31, z_32, z_38, z_42, z_44, z_45, z_47, z_48, z_49, z_50, z_57, z_58, z_59, z_60, z_61, z_91, z_97, z_98, z_100, z_108, z_114, z_120, z_122, z_126, z_127, z_128, z_200, z_255, z_961, z_990, z_992, z_998, z_999, z_1000, z_1092, z_1114, z_7798, z_10000, z_1000000, zI_neg, zI_add, zI_sub, zI_mul, zI_lt, zI_le, zI_eq, if_pos, if_neg, if_true, if_false, Option.bind_some, bnd, ldI_is, ldJ_is, Int.toNat_natCast, ]; omega), z_0, zI_add, Int.add_zero]
      exact ih m' A (by omega) (by omega) (by omega)
    · rw [if_neg c, List.all_cons, List.length_cons]
      rw [if_neg (by simp (disch := omega) only [z_0, z_1, z_2, z_3, z_4, z_5, z_6, z_7, z_8, z_9, z_10, z_12, z_13, z_16, z_20, z_24, z_30, z_31, z_32, z_38, z_42, z_44, z_45, z_47, z_48, z_49, z_50, z_57, z_58, z_59, z_60, z_61, z_91, z_97, z_98, z_100, z_108, z_114, z_120, z_122, z_126, z_127, z_128, z_200, z_255, z_961, z_990, z_992, z_998, z_999, z_1000, z_1092, z_1114, z_7798, z_10000, z_1000000, zI_neg, zI_add, zI_sub, zI_mul, zI_lt, zI_le, zI_eq, if_pos, if_neg, if_true, if_false, Option.bind_some, bnd, ldI_is, ldJ_is, Int.toNat_natCast, ]; omega)]
      by_cases c2 : 32 ≤ bN p (zI (8 * (j : Int)))
      · rw [if_neg (by simp (disch := omega) only [z_0, z_1, z_2, z_3, z_4, z_5, z_6, z_7, z_8, z_9, z_10, z_12, z_13, z_16, z_20, z_24, z_30, z_31, z_32, z_38, z_42, z_44, z_45, z_47, z_48, z_49, z_50, z_57, z_58, z_59, z_60, z_61, z_91, z_97, z_98, z_100, z_108, z_114, z_120, z_122, z_126, z_127, z_128, z_200, z_255, z_961, z_990, z_992, z_998, z_999, z_1000, z_1092, z_1114, z_7798, z_10000, z_1000000, zI_neg, zI_add, zI_sub, zI_mul, zI_lt, zI_le, zI_eq, if_pos, if_neg, if_true, if_false, Option.bind_some, bnd, ldI_is, ldJ_is, Int.toNat_natCast, ]; omega)]
        by_cases c3 : bN p (zI (8 * (j : Int))) ≤ 126
        · rw [if_pos (by simp (disch := omega) only [z_0, z_1, z_2, z_3, z_4, z_5, z_6, z_7, z_8, z_9, z_10, z_12, z_13, z_16, z_20, z_24, z_30, z_31, z_32, z_38, z_42, z_44, z_45, z_47, z_48, z_49, z_50, z_57, z_58, z_59, z_60, z_61, z_91, z_97, z_98, z_100, z_108, z_114, z_120, z_122, z_126, z_127, z_128, z_200, z_255, z_961, z_990, z_992, z_998, z_999, z_1000, z_1092, z_1114, z_7798, z_10000, z_1000000, zI_neg, zI_add, zI_sub, zI_mul, zI_lt, zI_le, zI_eq, if_pos, if_neg, if_true, if_false, Option.bind_some, bnd, ldI_is, ldJ_is, Int.toNat_natCast, ]; omega), if_neg (by simp (disch := omega) only [z_0, z_1, z_2, z_3, z_4, z_5, z_6, z_7, z_8, z_9, z_10, z_12, z_13, z_16, z_20, z_24, z_30, z_31, z_32, z_38, z_42, z_44, z_45, z_47, z_48, z_49, z_50, z_57, z_58, z_59, z_60, z_61, z_91, z_97, z_98, z_100, z_108, z_114, z_120, z_122, z_126, z_127, z_128, z_200, z_255, z_961, z_990, z_992, z_998, z_999, z_1000, z_1092, z_1114, z_7798, z_10000, z_1000000, zI_neg, zI_add, zI_sub, zI_mul, zI_lt, zI_le, zI_eq, if_pos, if_neg, if_true, if_false, Option.bind_some, bnd, ldI_is, ldJ_is, Int.toNat_natCast, ]; omega), z_1, zI_add, show (A : Int) + 1 = ((A + 1 : Nat) : Int) from by omega, ih m' (A + 1) (by omega) (by omega) (by omega)]
          rw [show okc (bN p (zI (8 * (j : Int)))) = true from decide_eq_true ⟨c2, c3⟩, Bool.true_and, show A + ((byl p j).length + 1) = A + 1 + (byl p j).length from by omega]
        · rw [if_neg (by simp (disch := omega) only [z_0, z_1, z_2, z_3, z_4, z_5, z_6, z_7, z_8, z_9, z_10, z_12, z_13, z_16, z_20, z_24, z_30, z_31, z_32, z_38, z_42, z_44, z_45, z_47, z_48, z_49, z_50, z_57, z_58, z_59, z_60, z_61, z_91, z_97, z_98, z_100, z_108, z_114, z_120, z_122, z_126, z_127, z_128, z_200, z_255, z_961, z_990, z_992, z_998, z_999, z_1000, z_1092, z_1114, z_7798, z_10000, z_1000000, zI_neg, zI_add, zI_sub, zI_mul, zI_lt, zI_le, zI_eq, if_pos, if_neg, if_true, if_false, Option.bind_some, bnd, ldI_is, ldJ_is, Int.toNat_natCast, ]; omega), show okc (bN p (zI (8 * (j : Int)))) = false from decide_eq_false (by omega), Bool.false_and, if_neg (by decide)]
      · rw [if_pos (by simp (disch := omega) only [z_0, z_1, z_2, z_3, z_4, z_5, z_6, z_7, z_8, z_9, z_10, z_12, z_13, z_16, z_20, z_24, z_30, z_31, z_32, z_38, z_42, z_44, z_45, z_47, z_48, z_49, z_50, z_57, z_58, z_59, z_60, z_61, z_91, z_97, z_98, z_100, z_108, z_114, z_120, z_122, z_126, z_127, z_128, z_200, z_255, z_961, z_990, z_992, z_998, z_999, z_1000, z_1092, z_1114, z_7798, z_10000, z_1000000, zI_neg, zI_add, zI_sub, zI_mul, zI_lt, zI_le, zI_eq, if_pos, if_neg, if_true, if_false, Option.bind_some, bnd, ldI_is, ldJ_is, Int.toNat_natCast, ]; omega), show okc (bN p (zI (8 * (j : Int)))) = false from decide_eq_false (by omega), Bool.false_and, if_neg (by decide)]
theorem c8_append (C : CStP F w h zp zn s) (V : VSt s) (hN : 40 ≤ N) : Ev (fX8_append F N w h p) (CO F h w [0, 2] (spAppend s p)) := by
  have hn := V.2.2.2.2.1.1
  have e := c8_append_5 (N := N) (p := p) C hn 4 N 0 (by omega) (by omega) (by omega)
  unfold fX8_append spAppend
  have e2 : fX8_append_5 F N N w h p 0 24 = _ := e
  rw [e2, Nat.zero_add]
  by_cases ca : (byl p 4).all okc = true
  · rw [if_pos ca, if_pos ca]
    by_cases cl : tn (stx s) + (byl p 4).length ≤ 100
    · rw [if_pos cl, if_pos cl]
      refine ev_mono (c8_append_89 4 N w s C (by omega) (by omega) ca cl) ?_
      intro y ⟨w', r1, r2, r3⟩
      rw [r1]
      exact co_in r2.st r3 rfl
    · rw [if_neg cl, if_neg cl]
      exact ev_some (co_e2 C.st (Kp.refl _))
  · rw [if_neg ca, if_neg ca]
    exact ev_some (co_e1 C.st (Kp.refl _))
theorem c8_ic_9 (C : CStP F w h zp zn s) (V : VSt s) (hN : 40 ≤ N) {x : Nat} (hx : x < 2) {k2 : Nat → Int32 → Option Int32} : ∀ (m n t : Nat), t + n = bn (snw s) → n < m →
    fX8_isConsistent_9 F N w k2 m h (zI x) (zI t) = k2 h (zI x + 1) := by
  have B := C.bk
  have h6 := V.1.1.1
  intro m
  induction m with
  | zero => intro n t _ hm; omega
  | succ m ih =>
    intro n t hc hm
    unfold fX8_isConsistent_9
    rw [C.a0, Option.bind_some, c_bn B]
    match n, hc, hm with
    | 0, hc, hm => rw [if_pos (by simp (disch := omega) only [z_0, z_1, z_2, z_3, z_4, z_5, z_6, z_7, z_8, z_9, z_10, z_12, z_13, z_16, z_20, z_24, z_30, z_31, z_32, z_38, z_42, z_44, z_45, z_47, z_48, z_49, z_50, z_57, z_58, z_59, z_60, z_61, z_91, z_97, z_98, z_100, z_108, z_114, z_120, z_122, z_126, z_127, z_128, z_200, z_255, z_961, z_990, z_992, z_998, z_999, z_1000, z_1092, z_1114, z_7798, z_10000, z_1000000, zI_neg, zI_add, zI_sub, zI_mul, zI_lt, zI_le, zI_eq, if_pos, if_neg, if_true, if_false, Option.bind_some, bnd, ldI_is, ldJ_is, Int.toNat_natCast, ]; omega)]
    | n + 1, hc, hm =>
      have ht : t < bn (snw s) := by omega
      have R := B.row hx ht
      have S := V.1.2.2.1 x t hx ht
      rw [if_neg (by simp (disch := omega) only [z_0, z_1, z_2, z_3, z_4, z_5, z_6, z_7, z_8, z_9, z_10, z_12, z_13, z_16, z_20, z_24, z_30, z_31, z_32, z_38, z_42, z_44, z_45, z_47, z_48, z_49, z_50, z_57, z_58, z_59, z_60, z_61, z_91, z_97, z_98, z_100, z_108, z_114, z_120, z_122, z_126, z_127, z_128, z_200, z_255, z_961, z_990, z_992, z_998, z_999, z_1000, z_1092, z_1114, z_7798, z_10000, z_1000000, zI_neg, zI_add, zI_sub, zI_mul, zI_lt, zI_le, zI_eq, if_pos, if_neg, if_true, if_false, Option.bind_some, bnd, ldI_is, ldJ_is, Int.toNat_natCast, ]; omega), Option.bind_some, c_row B hx ht, Option.bind_some, ckF_is R.1.1, Option.bind_some, c_isInOrder R S hN, Option.bind_some, if_neg (by decide), c_coveredFrames R S hN, Option.bind_some, c_frameSum R hN, Option.bind_some, if_pos rfl, Option.bind_some, c_hasOrphan B hN hx ht, Option.bind_some, V.1.2.2.2 x t hx ht]
      rw [if_pos (by rfl), zI_succ]
      exact ih n (t + 1) (by omega) (by omega)
theorem c8_isConsistent (C : CStP F w h zp zn s) (V : VSt s) (hN : 40 ≤ N) : fX8_isConsistent F N w h = some 1 := by
  have h6 := V.1.1.1
  unfold fX8_isConsistent
  have l9 := fun x hx k2 => c8_ic_9 (N := N) C V hN (x := x) hx (k2 := k2) N (bn (snw s)) 0 (by omega) (by omega)
  match N, hN with
  | n + 3, hN =>
    unfold fX8_isConsistent_2
    rw [if_neg (by decide)]
    have e0 := l9 0 (by omega) (fX8_isConsistent_2 F (n + 3) w (n + 2))
    refine Eq.trans e0 ?_
    unfold fX8_isConsistent_2
    rw [if_neg (by decide)]
    have e1 := l9 1 (by omega) (fX8_isConsistent_2 F (n + 3) w (n + 1))
    refine Eq.trans e1 ?_
    unfold fX8_isConsistent_2
    rw [if_pos (by decide)]
end TXT8
