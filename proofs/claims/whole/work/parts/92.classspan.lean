/-! the class: spans are added, renamed, moved, cut, joined, removed -/
section SPN8
variable {F : Fr} {N : Nat} {w w' : Wd} {h zp zn : Nat} {s s' : St}
theorem CStP.bad (C : CStP F w h zp zn s) (v : Int) : CStP F (sI w 811 h (zI v)) h zp zn (setbd s v) ∧ Kp (Rg h 661) w (sI w 811 h (zI v)) := by
  have cX := C.2.1
  have k1 : Kp (Rg h 1) w (sI w 811 h (zI v)) := kp_sI _ _ ⟨Nat.le_refl _, by omega⟩
  refine ⟨C.upX k1 (fun a ha => by unfold Rg at ha; omega) ⟨cX.1, ?_, ?_, ?_⟩ eqx_bd, kp_up k1 (by omega) (by omega)⟩
  · rw [gI_ne _ (by omega)]; exact cX.2.1
  · rw [gI_same]; rfl
  · rw [gI_ne _ (by omega)]; exact cX.2.2.2
theorem CStP.badItem (C : CStP F w h zp zn s) (v : Int) : CStP F (sI w 812 h (zI v)) h zp zn (setri s v) ∧ Kp (Rg h 661) w (sI w 812 h (zI v)) := by
  have cX := C.2.1
  have k1 : Kp (Rg h 1) w (sI w 812 h (zI v)) := kp_sI _ _ ⟨Nat.le_refl _, by omega⟩
  refine ⟨C.upX k1 (fun a ha => by unfold Rg at ha; omega) ⟨cX.1, ?_, ?_, ?_⟩ eqx_ri, kp_up k1 (by omega) (by omega)⟩
  · rw [gI_ne _ (by omega)]; exact cX.2.1
  · rw [gI_ne _ (by omega)]; exact cX.2.2.1
  · rw [gI_same]; rfl
theorem CStP.inp (C : CStP F w h zp zn s) : CIn0 F w (h + 630) (stx s) := C.2.2.2.2.2.2.1
theorem CStP.upIn (C : CStP F w h zp zn s) {S : Nat → Prop} (k1 : Kp S w w') (hS : ∀ a, S a → h + 630 ≤ a ∧ a < h + 632) (a1 : CIn0 F w' (h + 630) (stx s)) : CStP F w' h zp zn s ∧ Kp (Rg h 661) w w' :=
  ⟨C.upI k1 (fun a ha => by have := hS a ha; omega) a1 EqX.rf, k1.mono fun a ha => by have := hS a ha; unfold Rg; omega⟩
theorem CStP.empty (C : CStP F w h zp zn s) : Ev (fX3_empty F N w (h + 630)) fun w' => CStP F w' h zp zn (settx s (emT (stx s))) ∧ Kp (Rg h 661) w w' := by
  refine ev_mono (c_empty C.inp) ?_
  intro w1 ⟨a1, k1, _⟩
  exact ⟨C.upI k1 (fun a ha => by omega) a1 eqx_tx, k1.mono fun a ha => by unfold Rg; omega⟩
theorem CStP.takeLabel (C : CStP F w h zp zn s) (V : VSt s) (hN : 40 ≤ N) {kd : Int} (hk : 0 ≤ kd ∧ kd ≤ 3) : Ev (fX8_takeLabel F N w h (zI kd)) fun x =>
    ((labK (stx s) kd 0 ≠ [] ∧ tn (stx s) ≤ (labK (stx s) kd 0).length) ∧ x.1 = cL (labK (stx s) kd 0) ∧ CStP F x.2 h zp zn (settx s (emT (stx s))) ∧ Kp (Rg h 661) w x.2) ∨
    (¬ (labK (stx s) kd 0 ≠ [] ∧ tn (stx s) ≤ (labK (stx s) kd 0).length) ∧ x.1 = 0 ∧ CStP F x.2 h zp zn (setbd (settx s (emT (stx s))) (labK (stx s) kd 0).length) ∧ Kp (Rg h 661) w x.2) := by
  have T := V.2.2.2.2.1
  have hlim := labK_lim (kd := kd) T (Nat.zero_le (tn (stx s)))
  rw [Nat.zero_add] at hlim
  unfold fX8_takeLabel
  refine ev_eq C.a4 (ev_then (c_restart C.inp) ?_)
  intro w1 ⟨a1, k1⟩
  obtain ⟨C1, q1⟩ := C.upIn k1 (fun a ha => by omega) a1.1
  refine ev_eq C1.a4 (ev_eq (c_readLabel a1 hN hk) ?_)
  rw [Nat.zero_add]
  have a2 := a1.mv hlim.1
  have k2 : Kp (fun a => a = h + 630) w1 (ps w1 (h + 630) (labK (stx s) kd 0).length) := kp_sI _ _ rfl
  obtain ⟨C2, q2⟩ := C1.upIn k2 (fun a ha => by omega) a2.1
  have bad : ¬ (labK (stx s) kd 0 ≠ [] ∧ tn (stx s) ≤ (labK (stx s) kd 0).length) → Ev (fX8_takeLabel_36 F N (ps w1 (h + 630) (labK (stx s) kd 0).length) h (cL (labK (stx s) kd 0))) fun x =>
    ((labK (stx s) kd 0 ≠ [] ∧ tn (stx s) ≤ (labK (stx s) kd 0).length) ∧ x.1 = cL (labK (stx s) kd 0) ∧ CStP F x.2 h zp zn (settx s (emT (stx s))) ∧ Kp (Rg h 661) w x.2) ∨
    (¬ (labK (stx s) kd 0 ≠ [] ∧ tn (stx s) ≤ (labK (stx s) kd 0).length) ∧ x.1 = 0 ∧ CStP F x.2 h zp zn (setbd (settx s (emT (stx s))) (labK (stx s) kd 0).length) ∧ Kp (Rg h 661) w x.2) := by
    intro n
    unfold fX8_takeLabel_36 fX8_takeLabel_37 fX8_takeLabel_55
    obtain ⟨C3, q3⟩ := C2.bad ((labK (stx s) kd 0).length : Nat)
    refine ev_pos rfl (ev_eq C2.a4 ?_)
    rw [a2.2.1]
    refine ev_bnd (ev_eq C3.a4 (ev_then C3.empty ?_))
    intro w4 ⟨C4, q4⟩
    exact ev_pos rfl (ev_some (Or.inr ⟨n, rfl, C4, ((q1.trans q2).trans q3).trans q4⟩))
  have z0 : (0 : Int64) = cL [] := rfl
  by_cases c : labK (stx s) kd 0 = []
  · refine ev_pos ?_ (bad (fun d => d.1 c))
    dsimp only
    rw [c]
    rfl
  · have hv := hlim.2 c
    refine ev_neg ?_ (ev_eq C2.a4 (ev_eq (c_isAtEnd a2) ?_))
    · dsimp only
      rw [z_0, lg_z]
      exact cL_ne hv
    · by_cases d : tn (stx s) ≤ (labK (stx s) kd 0).length
      · rw [if_pos d]
        unfold fX8_takeLabel_37 fX8_takeLabel_55
        refine ev_neg (by decide) (ev_neg (by decide) (ev_eq C2.a4 (ev_then C2.empty ?_)))
        intro w4 ⟨C4, q4⟩
        exact ev_neg (by decide) (ev_some (Or.inl ⟨⟨c, d⟩, rfl, C4, (q1.trans q2).trans q4⟩))
      · rw [if_neg d]
        exact ev_pos rfl (bad (fun e => d e.2))
theorem CStP.ofD (C : CStP F w h zp zn s) {k : Bk} {a : Nat} (D : CBook F w' (h + 58) k) (k1 : Kp (Rg a 4) w w') (h1 : h + 58 ≤ a) (h2 : a + 4 ≤ h + 115) : CStP F w' h zp zn s ∧ Kp (Rg h 661) w w' :=
  ⟨C.upD k1 (fun a ha => by unfold Rg at ha; omega) ⟨D.1, D.2.1⟩ EqX.rf, kp_up k1 (by omega) (by omega)⟩
theorem c8_addSpan (C : CStP F w h zp zn s) (V : VSt s) (hN : 40 ≤ N) {t f e : Int} (ht : I32 t) (hf : I32 f) (he : I32 e) : Ev (fX8_addSpan F N w h (zI t) (zI f) (zI e)) (CO F h w [1, 0, 3] (spAddSpan s t f e)) := by
  have B := C.bk
  unfold fX8_addSpan spAddSpan
  refine ev_eq C.a0 (ev_eq (c_hasTier B ht) ?_)
  by_cases c : 0 ≤ t ∧ t < bn (snw s)
  · rw [if_pos c, if_pos c]
    refine ev_neg (by decide) ?_
    obtain ⟨t', rfl⟩ := Int.eq_ofNat_of_zero_le c.1
    rw [Int.toNat_natCast]
    have hb : t' < bn (snw s) := by omega
    have h6 := V.1.1.1
    have hx := V.1.1.2.1
    have hk := (V.1.1.2.2.2.2 t' hb).1
    have h30 := V.1.2.1 _ _ hx hb
    have hlim := labK_lim (kd := bkd (snw s) t') V.2.2.2.2.1 (Nat.zero_le (tn (stx s)))
    refine ev_eq C.a0 (ev_eq (c_kindOf B hb) (ev_then (C.takeLabel V hN hk) ?_))
    intro x hx1
    rcases hx1 with ⟨d, x1, C1, q1⟩ | ⟨d, x1, C1, q1⟩
    · have hv := hlim.2 d.1
      rw [if_pos d, x1]
      refine ev_neg (by rw [z_0, lg_z]; exact cL_ne hv) (ev_eq C1.a1 (ev_eq C1.a0 (ev_then (C1.draft hN) ?_)))
      intro w2 ⟨C2, D2, q2⟩
      have D2 : CBook F w2 (h + 58) (snw s) := D2
      refine ev_eq C2.a1 (ev_eq C2.a5 (ev_then (c_insertSpan D2 hN hb hf he hv) ?_))
      intro y hy
      rcases hy with ⟨y1, y2⟩ | ⟨y1, y2, y3⟩ | ⟨y1, y2, p, y3, y4, y5, y6⟩
      · have er : rsn (snw s) t' f e = tryR (snw s) t' (-1) f e := by unfold rsn; rw [if_neg y1]
        rw [er, if_neg y1, y2]
        obtain ⟨C3, q3⟩ := C2.rfs (tryR (snw s) t' (-1) f e).1 (tryR (snw s) t' (-1) f e).2
        exact ev_neg (show ¬ (0 : Int32) ≤ zI (-1) by decide) (ev_some (co_e3 C3.st ((q1.trans q2).trans q3)))
      · have er : rsn (snw s) t' f e = (5, 0) := by unfold rsn; rw [if_pos y1, if_pos (by omega)]
        rw [er, y3, if_neg (show ¬ ((5, 0) : Int × Int).1 = 0 by show ¬ (5 : Int) = 0; decide)]
        obtain ⟨C3, q3⟩ := C2.rfs 5 0
        exact ev_neg (show ¬ (0 : Int32) ≤ zI (-1) by decide) (ev_some (co_e3 C3.st ((q1.trans q2).trans q3)))
      · have er : rsn (snw s) t' f e = (0, 0) := by unfold rsn; rw [if_pos y1, if_neg (by omega)]
        have ep := y4.uniq (insP_is (V.1.2.2.1 _ _ hx hb) f)
        subst ep
        rw [er, y3, if_pos (show ((0, 0) : Int × Int).1 = 0 from rfl)]
        obtain ⟨C3, q3⟩ := C2.ofD y5 y6 (by unfold ra; omega) (by unfold ra; omega)
        have hp := y4.1
        refine ev_pos (by simp (disch := omega) only [z_0, z_1, z_2, z_3, z_4, z_5, z_6, z_7, z_8, z_9, z_10, z_12, z_13, z_16, z_20, z_24, z_30, z_31, z_32, z_38, z_42, z_44, z_45, z_47, z_48, z_49, z_50, z_57, z_58, z_59, z_60, z_61, z_91, z_97, z_98, z_100, z_108, z_114, z_120, z_122, z_126, z_127, z_128, z_200, z_255, z_961, z_990, z_992, z_998, z_999, z_1000, z_1092, z_1114, z_7798, z_10000, z_1000000, zI_neg, zI_add, zI_sub, zI_mul, zI_lt, zI_le, zI_eq, if_pos, if_neg, if_true, if_false, Option.bind_some, bnd, ldI_is, ldJ_is, Int.toNat_natCast, ]; omega) (ev_then (C3.keepDraft y5 hN) ?_)
        intro w4 ⟨C4, q4⟩
        exact ev_some (co_in C4.st (((q1.trans q2).trans q3).trans q4) rfl)
    · rw [if_neg d, x1]
      exact ev_pos (by rfl) (ev_some (co_e2 C1.st q1))
  · rw [if_neg c, if_neg c]
    exact ev_pos (by rfl) (ev_some (co_e1 C.st (Kp.refl _)))
theorem c8_rename (C : CStP F w h zp zn s) (V : VSt s) (hN : 40 ≤ N) {t i : Int} (ht : I32 t) (hi : I32 i) : Ev (fX8_rename F N w h (zI t) (zI i)) (CO F h w [1, 0] (spRename s t i)) := by
  have B := C.bk
  unfold fX8_rename spRename
  refine ev_eq C.a0 (ev_eq (c_hasSpan B ht hi) ?_)
  by_cases c : 0 ≤ t ∧ t < bn (snw s) ∧ 0 ≤ i ∧ i < rn (brw (snw s) (ban (snw s)) t.toNat)
  · rw [if_pos c, if_pos c]
    refine ev_neg (by decide) ?_
    obtain ⟨t', rfl⟩ := Int.eq_ofNat_of_zero_le c.1
    obtain ⟨i', rfl⟩ := Int.eq_ofNat_of_zero_le c.2.2.1
    have hb : t' < bn (snw s) := by omega
    have hi' : i' < rn (brw (snw s) (ban (snw s)) t') := by have := c.2.2.2; rw [Int.toNat_natCast] at this; omega
    rw [Int.toNat_natCast, Int.toNat_natCast]
    have h6 := V.1.1.1
    have hx := V.1.1.2.1
    have hk := (V.1.1.2.2.2.2 t' hb).1
    have hlim := labK_lim (kd := bkd (snw s) t') V.2.2.2.2.1 (Nat.zero_le (tn (stx s)))
    refine ev_eq C.a0 (ev_eq (c_kindOf B hb) (ev_then (C.takeLabel V hN hk) ?_))
    intro x hx1
    rcases hx1 with ⟨d, x1, C1, q1⟩ | ⟨d, x1, C1, q1⟩
    · have hv := hlim.2 d.1
      rw [if_pos d, x1]
      refine ev_neg (by rw [z_0, lg_z]; exact cL_ne hv) (ev_eq C1.a3 (ev_eq C1.a0 (ev_then (C1.push hN) ?_)))
      intro w2 ⟨C2, q2, _⟩
      have B2 : CBook F w2 (h + 1) (snw s) := C2.bk
      have R := B2.row hx hb
      refine ev_eq C2.a0 (ev_eq (c_present B2 hb) (ev_eq (ckF_is R.1.1) (ev_eq (c_label R hi') ?_)))
      have go : ∀ v : Int32, Ev (fX8_rename_84 F N w2 (zI i') (cL (labK (stx s) (bkd (snw s) t') 0)) (ra (h + 1) (ban (snw s)) t') v) fun y => ∃ w', y = .inl (v, w') ∧ CStP F w' h zp zn (psh (settx s (emT (stx s))) (bset (snw s) (ban (snw s)) t' (setL (brw (snw s) (ban (snw s)) t') i' (labK (stx s) (bkd (snw s) t') 0)))) ∧ Kp (Rg h 661) w w' := by
        intro v
        unfold fX8_rename_84
        refine ev_then (c_setLabelC R hi' hv) ?_
        intro w3 ⟨a3, k3⟩
        have C3 : CStP F w3 h zp zn (psh (settx s (emT (stx s))) (bset (snw s) (ban (snw s)) t' (setL (brw (snw s) (ban (snw s)) t') i' (labK (stx s) (bkd (snw s) t') 0)))) := C2.upN k3 (fun a ha => by unfold Rg ra at ha; omega) (B2.set hx hb a3 k3) eqx_nw
        exact ev_some ⟨w3, rfl, C3, (q1.trans q2).trans (kp_up k3 (by unfold ra; omega) (by unfold ra; omega))⟩
      have hw := (R.2.2.2.2 i' hi').2.2.2.2
      by_cases e : rl (brw (snw s) (ban (snw s)) t') i' = labK (stx s) (bkd (snw s) t') 0
      · rw [if_pos e]
        refine ev_pos (by rw [z_0, lg_z, cL_inj hw hv]; exact e) (ev_mono (go 0) ?_)
        intro y ⟨w', y1, y2, y3⟩
        rw [y1]
        exact co_in y2.st y3 rfl
      · rw [if_neg e]
        refine ev_neg (by rw [z_0, lg_z, cL_inj hw hv]; exact e) (ev_mono (go 1) ?_)
        intro y ⟨w', y1, y2, y3⟩
        rw [y1]
        exact co_in y2.st y3 rfl
    · rw [if_neg d, x1]
      exact ev_pos (by rfl) (ev_some (co_e2 C1.st q1))
  · rw [if_neg c, if_neg c]
    exact ev_pos (by rfl) (ev_some (co_e1 C.st (Kp.refl _)))
theorem c8_moveSpan (C : CStP F w h zp zn s) (V : VSt s) (hN : 40 ≤ N) {t i f e : Int} (ht : I32 t) (hi : I32 i) (hf : I32 f) (he : I32 e) : Ev (fX8_moveSpan F N w h (zI t) (zI i) (zI f) (zI e)) (CO F h w [1, 3] (spMove s t i f e)) := by
  have B := C.bk
  unfold fX8_moveSpan spMove
  refine ev_eq C.a0 (ev_eq (c_hasSpan B ht hi) ?_)
  by_cases c : 0 ≤ t ∧ t < bn (snw s) ∧ 0 ≤ i ∧ i < rn (brw (snw s) (ban (snw s)) t.toNat)
  · rw [if_pos c, if_pos c]
    refine ev_neg (by decide) ?_
    obtain ⟨t', rfl⟩ := Int.eq_ofNat_of_zero_le c.1
    obtain ⟨i', rfl⟩ := Int.eq_ofNat_of_zero_le c.2.2.1
    have hb : t' < bn (snw s) := by omega
    have hi' : i' < rn (brw (snw s) (ban (snw s)) t') := by have := c.2.2.2; rw [Int.toNat_natCast] at this; omega
    rw [Int.toNat_natCast, Int.toNat_natCast]
    have h6 := V.1.1.1
    have hx := V.1.1.2.1
    have h30 := V.1.2.1 _ _ hx hb
    refine ev_eq C.a1 (ev_eq C.a0 (ev_then (C.draft hN) ?_))
    intro w1 ⟨C1, D1, q1⟩
    refine ev_eq C1.a1 (ev_eq C1.a5 (ev_then (c_shiftSpan D1 hN hb hi' hf he) ?_))
    intro y hy
    rcases hy with ⟨y1, y2⟩ | ⟨y1, p, w2, k1, y2, y3, y4, y5, y6⟩
    · rw [if_neg y1, y2]
      obtain ⟨C3, q3⟩ := C1.rfs (tryR (snw s) t' i' f e).1 (tryR (snw s) t' i' f e).2
      exact ev_neg (show ¬ (0 : Int32) ≤ zI (-1) by decide) (ev_some (co_e2 C3.st (q1.trans q3)))
    · rw [if_pos y1]
      have ep := y2.uniq (mvR_ok V.1 hb hi' y1).1
      subst ep
      have hp := y2.1
      have hp2 : rn (delR (brw (snw s) (ban (snw s)) t') i') ≤ 30 := by show rn (brw (snw s) (ban (snw s)) t') - 1 ≤ 30; omega
      obtain ⟨C2, q2⟩ := C1.ofD y4 y5 (by unfold ra; omega) (by unfold ra; omega)
      have e3 : k1 = bset (snw s) (ban (snw s)) t' (mvR (brw (snw s) (ban (snw s)) t') i' f e) := y3
      rw [← e3]
      rcases y6 with ⟨y7, y8⟩ | ⟨y7, y8⟩
      · rw [if_pos y7, y8]
        refine ev_pos (by simp (disch := omega) only [z_0, z_1, z_2, z_3, z_4, z_5, z_6, z_7, z_8, z_9, z_10, z_12, z_13, z_16, z_20, z_24, z_30, z_31, z_32, z_38, z_42, z_44, z_45, z_47, z_48, z_49, z_50, z_57, z_58, z_59, z_60, z_61, z_91, z_97, z_98, z_100, z_108, z_114, z_120, z_122, z_126, z_127, z_128, z_200, z_255, z_961, z_990, z_992, z_998, z_999, z_1000, z_1092, z_1114, z_7798, z_10000, z_1000000, zI_neg, zI_add, zI_sub, zI_mul, zI_lt, zI_le, zI_eq, if_pos, if_neg, if_true, if_false, Option.bind_some, bnd, ldI_is, ldJ_is, Int.toNat_natCast, ]; omega) (ev_then (C2.keepDraft y4 hN) ?_)
        intro w4 ⟨C4, q4⟩
        exact ev_some (co_in C4.st ((q1.trans q2).trans q4) rfl)
      · rw [if_neg (show ¬ ber k1 t' = -1 by omega), y8]
        obtain ⟨C3, q3⟩ := C2.rfs 4 (ber k1 t')
        exact ev_neg (show ¬ (0 : Int32) ≤ zI (-1) by decide) (ev_some (co_e2 C3.st ((q1.trans q2).trans q3)))
  · rw [if_neg c, if_neg c]
    exact ev_pos (by rfl) (ev_some (co_e1 C.st (Kp.refl _)))
theorem c8_split (C : CStP F w h zp zn s) (V : VSt s) (hN : 40 ≤ N) {t i g : Int} (ht : I32 t) (hi : I32 i) (hg : I32 g) : Ev (fX8_split F N w h (zI t) (zI i) (zI g)) (CO F h w [1, 3] (spSplit s t i g)) := by
  have B := C.bk
  unfold fX8_split spSplit
  refine ev_eq C.a0 (ev_eq (c_hasSpan B ht hi) ?_)
  by_cases c : 0 ≤ t ∧ t < bn (snw s) ∧ 0 ≤ i ∧ i < rn (brw (snw s) (ban (snw s)) t.toNat)
  · rw [if_pos c, if_pos c]
    refine ev_neg (by decide) ?_
    obtain ⟨t', rfl⟩ := Int.eq_ofNat_of_zero_le c.1
    obtain ⟨i', rfl⟩ := Int.eq_ofNat_of_zero_le c.2.2.1
    have hb : t' < bn (snw s) := by omega
    have hi' : i' < rn (brw (snw s) (ban (snw s)) t') := by have := c.2.2.2; rw [Int.toNat_natCast] at this; omega
    rw [Int.toNat_natCast, Int.toNat_natCast]
    have h6 := V.1.1.1
    have hx := V.1.1.2.1
    have h30 := V.1.2.1 _ _ hx hb
    refine ev_eq C.a1 (ev_eq C.a0 (ev_then (C.draft hN) ?_))
    intro w1 ⟨C1, D1, q1⟩
    refine ev_eq C1.a1 (ev_eq C1.a5 (ev_then (c_cutSpan D1 hN hb hi' h30 hg) ?_))
    intro y hy
    rcases hy with ⟨y1, y2⟩ | ⟨y0, y00, y1, y2⟩ | ⟨y0, y00, ya, yb, p, w2, k1, y2, y3, y4, y5, y6⟩
    · rw [if_pos y1, y2]
      obtain ⟨C3, q3⟩ := C1.rfs 1 0
      exact ev_neg (show ¬ (0 : Int32) ≤ zI (-1) by decide) (ev_some (co_e2 C3.st (q1.trans q3)))
    · rw [if_neg (c := g ≤ rf (brw (snw s) (ban (snw s)) t') i' ∨ re (brw (snw s) (ban (snw s)) t') i' ≤ g) (by omega), if_pos y1, y2]
      obtain ⟨C3, q3⟩ := C1.rfs 3 0
      exact ev_neg (show ¬ (0 : Int32) ≤ zI (-1) by decide) (ev_some (co_e2 C3.st (q1.trans q3)))
    · rw [if_neg (c := g ≤ rf (brw (snw s) (ban (snw s)) t') i' ∨ re (brw (snw s) (ban (snw s)) t') i' ≤ g) (by omega), if_neg (c := lack (snw s) (ban (snw s)) t' (rf (brw (snw s) (ban (snw s)) t') i') g = true ∨ lack (snw s) (ban (snw s)) t' g (re (brw (snw s) (ban (snw s)) t') i') = true) (by rw [ya, yb]; simp)]
      have ep := y2.uniq (cutR_at V.1 hb hi' y0 y00)
      subst ep
      obtain ⟨C2, q2⟩ := C1.ofD y4 y5 (by unfold ra; omega) (by unfold ra; omega)
      have e3 : k1 = bset (snw s) (ban (snw s)) t' (cutR (brw (snw s) (ban (snw s)) t') i' g) := y3
      rw [← e3]
      rcases y6 with ⟨y7, y9, y8⟩ | ⟨y7, y9, y8⟩ | ⟨y7, y8⟩
      · rw [if_pos y7, if_neg (show ¬ rn (brw (snw s) (ban (snw s)) t') = 30 by omega), y8]
        refine ev_pos (by simp (disch := omega) only [z_0, z_1, z_2, z_3, z_4, z_5, z_6, z_7, z_8, z_9, z_10, z_12, z_13, z_16, z_20, z_24, z_30, z_31, z_32, z_38, z_42, z_44, z_45, z_47, z_48, z_49, z_50, z_57, z_58, z_59, z_60, z_61, z_91, z_97, z_98, z_100, z_108, z_114, z_120, z_122, z_126, z_127, z_128, z_200, z_255, z_961, z_990, z_992, z_998, z_999, z_1000, z_1092, z_1114, z_7798, z_10000, z_1000000, zI_neg, zI_add, zI_sub, zI_mul, zI_lt, zI_le, zI_eq, if_pos, if_neg, if_true, if_false, Option.bind_some, bnd, ldI_is, ldJ_is, Int.toNat_natCast, ]; omega) (ev_then (C2.keepDraft y4 hN) ?_)
        intro w4 ⟨C4, q4⟩
        exact ev_some (co_in C4.st ((q1.trans q2).trans q4) rfl)
      · rw [if_pos y7, if_pos y9, y8]
        obtain ⟨C3, q3⟩ := C2.rfs 5 0
        exact ev_neg (show ¬ (0 : Int32) ≤ zI (-1) by decide) (ev_some (co_e2 C3.st ((q1.trans q2).trans q3)))
      · rw [if_neg (show ¬ ber k1 t' = -1 by omega), y8]
        obtain ⟨C3, q3⟩ := C2.rfs 4 (ber k1 t')
        exact ev_neg (show ¬ (0 : Int32) ≤ zI (-1) by decide) (ev_some (co_e2 C3.st ((q1.trans q2).trans q3)))
  · rw [if_neg c, if_neg c]
    exact ev_pos (by rfl) (ev_some (co_e1 C.st (Kp.refl _)))
theorem c8_join (C : CStP F w h zp zn s) (V : VSt s) (hN : 40 ≤ N) {t i : Int} (ht : I32 t) (hi : I32 i) : Ev (fX8_join F N w h (zI t) (zI i)) (CO F h w [1, 3] (spJoin s t i)) := by
  have B := C.bk
  unfold fX8_join spJoin
  refine ev_eq C.a0 (ev_eq (c_hasSpan B ht hi) ?_)
  by_cases c : 0 ≤ t ∧ t < bn (snw s) ∧ 0 ≤ i ∧ i < rn (brw (snw s) (ban (snw s)) t.toNat)
  · rw [if_pos c, if_pos c]
    refine ev_neg (by decide) ?_
    obtain ⟨t', rfl⟩ := Int.eq_ofNat_of_zero_le c.1
    obtain ⟨i', rfl⟩ := Int.eq_ofNat_of_zero_le c.2.2.1
    have hb : t' < bn (snw s) := by omega
    have hi' : i' < rn (brw (snw s) (ban (snw s)) t') := by have := c.2.2.2; rw [Int.toNat_natCast] at this; omega
    rw [Int.toNat_natCast, Int.toNat_natCast]
    have h6 := V.1.1.1
    have hx := V.1.1.2.1
    have h30 := V.1.2.1 _ _ hx hb
    refine ev_eq C.a1 (ev_eq C.a0 (ev_then (C.draft hN) ?_))
    intro w1 ⟨C1, D1, q1⟩
    refine ev_eq C1.a1 (ev_eq C1.a5 (ev_then (c_uniteSpan D1 hN hb hi') ?_))
    intro y hy
    rcases hy with ⟨y1, y2⟩ | ⟨y0, y1, y2⟩ | ⟨y0, ya, w2, k1, y3, y4, y5, y6⟩
    · rw [if_pos y1, y2]
      obtain ⟨C3, q3⟩ := C1.rfs 1 0
      exact ev_neg (show ¬ (0 : Int32) ≤ zI (-1) by decide) (ev_some (co_e2 C3.st (q1.trans q3)))
    · rw [if_neg (show ¬ i' + 1 = rn (brw (snw s) (ban (snw s)) t') by omega), if_pos y1, y2]
      obtain ⟨C3, q3⟩ := C1.rfs 3 0
      exact ev_neg (show ¬ (0 : Int32) ≤ zI (-1) by decide) (ev_some (co_e2 C3.st (q1.trans q3)))
    · rw [if_neg (show ¬ i' + 1 = rn (brw (snw s) (ban (snw s)) t') by omega), ya, if_neg (show ¬ false = true by decide)]
      obtain ⟨C2, q2⟩ := C1.ofD y4 y5 (by unfold ra; omega) (by unfold ra; omega)
      have e3 : k1 = bset (snw s) (ban (snw s)) t' (uniR (brw (snw s) (ban (snw s)) t') i') := y3
      rw [← e3]
      rcases y6 with ⟨y7, y8⟩ | ⟨y7, y8⟩
      · rw [if_pos y7, y8]
        refine ev_pos (by simp (disch := omega) only [z_0, z_1, z_2, z_3, z_4, z_5, z_6, z_7, z_8, z_9, z_10, z_12, z_13, z_16, z_20, z_24, z_30, z_31, z_32, z_38, z_42, z_44, z_45, z_47, z_48, z_49, z_50, z_57, z_58, z_59, z_60, z_61, z_91, z_97, z_98, z_100, z_108, z_114, z_120, z_122, z_126, z_127, z_128, z_200, z_255, z_961, z_990, z_992, z_998, z_999, z_1000, z_1092, z_1114, z_7798, z_10000, z_1000000, zI_neg, zI_add, zI_sub, zI_mul, zI_lt, zI_le, zI_eq, if_pos, if_neg, if_true, if_false, Option.bind_some, bnd, ldI_is, ldJ_is, Int.toNat_natCast, ]; omega) (ev_then (C2.keepDraft y4 hN) ?_)
        intro w4 ⟨C4, q4⟩
        exact ev_some (co_in C4.st ((q1.trans q2).trans q4) rfl)
      · rw [if_neg (show ¬ ber k1 t' = -1 by omega), y8]
        obtain ⟨C3, q3⟩ := C2.rfs 4 (ber k1 t')
        exact ev_neg (show ¬ (0 : Int32) ≤ zI (-1) by decide) (ev_some (co_e2 C3.st ((q1.trans q2).trans q3)))
  · rw [if_neg c, if_neg c]
    exact ev_pos (by rfl) (ev_some (co_e1 C.st (Kp.refl _)))
theorem c8_removeSpan (C : CStP F w h zp zn s) (V : VSt s) (hN : 40 ≤ N) {t i : Int} (ht : I32 t) (hi : I32 i) : Ev (fX8_removeSpan F N w h (zI t) (zI i)) (CO F h w [1] (spRemove s t i)) := by
  have B := C.bk
  unfold fX8_removeSpan spRemove
  refine ev_eq C.a0 (ev_eq (c_hasSpan B ht hi) ?_)
  by_cases c : 0 ≤ t ∧ t < bn (snw s) ∧ 0 ≤ i ∧ i < rn (brw (snw s) (ban (snw s)) t.toNat)
  · rw [if_pos c, if_pos c]
    refine ev_neg (by decide) ?_
    obtain ⟨t', rfl⟩ := Int.eq_ofNat_of_zero_le c.1
    obtain ⟨i', rfl⟩ := Int.eq_ofNat_of_zero_le c.2.2.1
    have hb : t' < bn (snw s) := by omega
    have hi' : i' < rn (brw (snw s) (ban (snw s)) t') := by have := c.2.2.2; rw [Int.toNat_natCast] at this; omega
    rw [Int.toNat_natCast, Int.toNat_natCast]
    refine ev_eq C.a3 (ev_eq C.a0 (ev_then (C.push hN) ?_))
    intro w1 ⟨C1, q1, _⟩
    have B1 : CBook F w1 (h + 1) (snw s) := C1.bk
    refine ev_eq C1.a0 (ev_then (c_dropSpan B1 hN hb hi') ?_)
    intro x ⟨x1, x2, k2⟩
    have C2 : CStP F x.2 h zp zn (psh s (drps (bn (snw s) - (t' + 1)) (t' + 1) (bset (snw s) (ban (snw s)) t' (delR (brw (snw s) (ban (snw s)) t') i'))).1) := C1.upN k2 (fun a ha => by unfold Rg at ha; omega) x2 eqx_nw
    exact ev_some (co_in C2.st (q1.trans (kp_up k2 (by omega) (by omega))) x1)
  · rw [if_neg c, if_neg c]
    exact ev_pos (by rfl) (ev_some (co_e1 C.st (Kp.refl _)))
end SPN8
