/-! the class's calls that change the book as a whole -/
section EQX
variable {s : St}
theorem eqx_nw {k : Bk} : EqX s (setnw s k) False True True True True True True True := ⟨fun e => e.elim, fun _ => rfl, fun _ => rfl, fun _ => rfl, fun _ => rfl, fun _ => rfl, fun _ => rfl, fun _ => rfl⟩
theorem eqx_sv {o : Option Bk} : EqX s (setsv s o) True False True True True True True True := ⟨fun _ => rfl, fun e => e.elim, fun _ => rfl, fun _ => rfl, fun _ => rfl, fun _ => rfl, fun _ => rfl, fun _ => rfl⟩
theorem eqx_ps {P : List Bk} : EqX s (setps s P) True True False True True True True True := ⟨fun _ => rfl, fun _ => rfl, fun e => e.elim, fun _ => rfl, fun _ => rfl, fun _ => rfl, fun _ => rfl, fun _ => rfl⟩
theorem eqx_tx {T : Tx} : EqX s (settx s T) True True True False True True True True := ⟨fun _ => rfl, fun _ => rfl, fun _ => rfl, fun e => e.elim, fun _ => rfl, fun _ => rfl, fun _ => rfl, fun _ => rfl⟩
theorem eqx_pt {p : List Pe} : EqX s (setpt s p) True True True True False True True True := ⟨fun _ => rfl, fun _ => rfl, fun _ => rfl, fun _ => rfl, fun e => e.elim, fun _ => rfl, fun _ => rfl, fun _ => rfl⟩
theorem eqx_rf {a b : Int} : EqX s (setrf s a b) True True True True True False True True := ⟨fun _ => rfl, fun _ => rfl, fun _ => rfl, fun _ => rfl, fun _ => rfl, fun e => e.elim, fun _ => rfl, fun _ => rfl⟩
theorem eqx_bd {a : Int} : EqX s (setbd s a) True True True True True True False False := ⟨fun _ => rfl, fun _ => rfl, fun _ => rfl, fun _ => rfl, fun _ => rfl, fun _ => rfl, fun e => e.elim, fun e => e.elim⟩
theorem eqx_ri {a : Int} : EqX s (setri s a) True True True True True True False False := ⟨fun _ => rfl, fun _ => rfl, fun _ => rfl, fun _ => rfl, fun _ => rfl, fun _ => rfl, fun e => e.elim, fun e => e.elim⟩
end EQX
section CHG8
variable {F : Fr} {N : Nat} {w w' : Wd} {h zp zn b : Nat} {s s' : St} {k : Bk}
theorem kp_up {a n : Nat} (hk : Kp (Rg a n) w w') (h1 : h ≤ a) (h2 : a + n ≤ h + 661) : Kp (Rg h 661) w w' := hk.mono fun x hx => by unfold Rg at *; omega
theorem CStP.push (C : CStP F w h zp zn s) (hN : 40 ≤ N) : Ev (fX2_push F N w (h + 172) (h + 1)) fun w' => CStP F w' h zp zn (setps s ((snw s :: sps s).take 8)) ∧ Kp (Rg h 661) w w' ∧ Kp (Rg (h + 172) 458) w w' := by
  have cH : CHist F w (h + 172) (sps s) := C.2.2.2.2.2.1
  refine ev_mono (c_push cH C.bk (by omega) hN) ?_
  intro w1 ⟨a1, k1⟩
  exact ⟨C.upH k1 (fun a ha => by unfold Rg at ha; omega) a1 eqx_ps, kp_up k1 (by omega) (by omega), k1⟩
theorem CStP.draft (C : CStP F w h zp zn s) (hN : 40 ≤ N) : Ev (fX1_copyFrom F N w (h + 58) (h + 1)) fun w' => CStP F w' h zp zn s ∧ CBook F w' (h + 58) (snw s) ∧ Kp (Rg h 661) w w' := by
  have cD : LBook F (h + 58) ∧ WBook w (h + 58) := C.2.2.2.1
  refine ev_mono (c_copyBook (by omega) hN cD.1 cD.2 C.bk) ?_
  intro w1 ⟨a1, k1⟩
  exact ⟨C.upD k1 (fun a ha => by unfold Rg at ha; omega) ⟨a1.1, a1.2.1⟩ EqX.rf, a1, kp_up k1 (by omega) (by omega)⟩
theorem CStP.keepDraft (C : CStP F w h zp zn s) (D : CBook F w (h + 58) k) (hN : 40 ≤ N) : Ev (fX8_keepDraft F N w h) fun w' => CStP F w' h zp zn (psh s k) ∧ Kp (Rg h 661) w w' := by
  unfold fX8_keepDraft
  refine ev_eq C.a3 (ev_eq C.a0 (ev_then (C.push hN) ?_))
  intro w1 ⟨C1, k1, k2⟩
  have D1 := D.keep k2 fun x x1 x2 => by unfold Rg; omega
  refine ev_eq C1.a0 (ev_eq C1.a1 (ev_then (c_copyBook (by omega) hN C1.bk.1 C1.bk.2.1 D1) ?_))
  intro w2 ⟨a2, k3⟩
  have C2 : CStP F w2 h zp zn (psh s k) := C1.upN k3 (fun a ha => by unfold Rg at ha; omega) a2 eqx_nw
  exact ev_some ⟨C2, k1.trans (kp_up k3 (by omega) (by omega))⟩
theorem CStP.rfs (C : CStP F w h zp zn s) (x y : Int) : CStP F (rfs w (h + 632) x y) h zp zn (setrf s x y) ∧ Kp (Rg h 661) w (rfs w (h + 632) x y) := by
  have cR : okF F (h + 632) 6 ∧ gI w 600 (h + 632) = zI (srf s).1 ∧ gI w 601 (h + 632) = zI (srf s).2 := C.2.2.2.2.2.2.2.1
  have k1 : Kp (Rg (h + 632) 1) w (Jvm.Pilot.CLessonTiersLaw_law_r6582_a11baa.rfs w (h + 632) x y) := (kp_sI _ _ ⟨Nat.le_refl _, by omega⟩).trans (kp_sI _ _ ⟨Nat.le_refl _, by omega⟩)
  refine ⟨C.upR k1 (fun a ha => by unfold Rg at ha; omega) ⟨cR.1, ?_, ?_⟩ eqx_rf, kp_up k1 (by omega) (by omega)⟩
  · show gI (sI (sI w 600 (h + 632) (zI x)) 601 (h + 632) (zI y)) 600 (h + 632) = zI x
    rw [gI_ne _ (by omega), gI_same]
  · show gI (sI (sI w 600 (h + 632) (zI x)) 601 (h + 632) (zI y)) 601 (h + 632) = zI y
    rw [gI_same]
theorem DRow.sI8 {a f : Nat} {r : Rw} {v : Int32} (D : DRow w a r) (hf : ¬ 703 = f) : DRow (sI w f b v) a r := ⟨by rw [q_gI_sI, if_neg (fun c => hf c.1)]; exact D.1, D.2⟩
theorem CBook.setA (B : CBook F w b k) {a : Nat} (ha : a < 2) {v : Int32} (hv : v = zI (a : Nat)) : CBook F (sI w 106 b v) b (seta k a) := by
  obtain ⟨L, W, ⟨d1, d2, d3, d4, d5⟩, g1, g2, g3⟩ := B
  refine ⟨L, W, ⟨?_, ?_, ?_, ?_, fun t ht => ⟨(d5 t ht).1, (d5 t ht).2.1, (d5 t ht).2.2.1, fun x hx => ((d5 t ht).2.2.2 x hx).sI8 (by omega)⟩⟩, g1, ha, g3⟩
  · rw [gI_ne _ (by omega)]; exact d1
  · rw [gI_same]; exact hv
  · rw [gI_ne _ (by omega)]; exact d3
  · rw [gI_ne _ (by omega)]; exact d4
theorem CBook.setW (B : CBook F w b k) {a : Int} (ha : 0 ≤ a ∧ a ≤ 200) : CBook F (sI w 107 b (zI a)) b (setw k a) := by
  obtain ⟨L, W, ⟨d1, d2, d3, d4, d5⟩, g1, g2, g3, g4⟩ := B
  refine ⟨L, W, ⟨?_, ?_, ?_, ?_, fun t ht => ⟨(d5 t ht).1, (d5 t ht).2.1, (d5 t ht).2.2.1, fun x hx => ((d5 t ht).2.2.2 x hx).sI8 (by omega)⟩⟩, g1, g2, ha, g4⟩
  · rw [gI_ne _ (by omega)]; exact d1
  · rw [gI_ne _ (by omega)]; exact d2
  · rw [gI_same]; rfl
  · rw [gI_ne _ (by omega)]; exact d4
theorem CBook.setG (B : CBook F w b k) {a : Int} (ha : 0 ≤ a ∧ a ≤ 200) : CBook F (sI w 108 b (zI a)) b (setg k a) := by
  obtain ⟨L, W, ⟨d1, d2, d3, d4, d5⟩, g1, g2, g3, g4, g5⟩ := B
  refine ⟨L, W, ⟨?_, ?_, ?_, ?_, fun t ht => ⟨(d5 t ht).1, (d5 t ht).2.1, (d5 t ht).2.2.1, fun x hx => ((d5 t ht).2.2.2 x hx).sI8 (by omega)⟩⟩, g1, g2, g3, ha, g5⟩
  · rw [gI_ne _ (by omega)]; exact d1
  · rw [gI_ne _ (by omega)]; exact d2
  · rw [gI_ne _ (by omega)]; exact d3
  · rw [gI_same]; rfl
theorem c8_clear (C : CStP F w h zp zn s) : Ev (fX8_clear F N w h) fun x => x.1 = (spClear s).2.1 ∧ CSt F x.2 h (spClear s).2.2 ∧ Kp (Rg h 661) w x.2 := by
  unfold fX8_clear
  have B := C.bk
  have hz := C.1
  refine ev_eq C.a0 (ev_bnd (ev_eq C.a0 (ev_then (c_reset B) ?_)))
  intro w1 ⟨a1, k1⟩
  have C1 : CStP F w1 h zp zn (setnw s _) := C.upN k1 (fun a ha => by unfold Rg at ha; omega) a1 eqx_nw
  have cH : CHist F w1 (h + 172) (sps (setnw s _)) := C1.2.2.2.2.2.1
  refine ev_eq C1.a3 (ev_then (c_forget cH) ?_)
  intro w2 ⟨a2, k2⟩
  have C2 : CStP F w2 h zp zn (setps (setnw s _) []) := C1.upH k2 (fun a ha => by omega) a2 eqx_ps
  obtain ⟨A, D⟩ : CPat F w2 zp ∧ DPat w2 zp (spt (setps (setnw s _) [])) := C2.2.2.2.2.2.2.2.2.2.2.1
  have k3 : Kp (fun q => q = zp) w2 (sI w2 506 zp 0) := kp_sI _ _ rfl
  refine ev_eq C2.a8 (ev_bnd (ev_some ⟨c_bn B, ?_, ?_⟩))
  · refine ⟨zp, zn, C2.upP (s' := setpt (setps (setnw s (0, bkd (snw s), brl (snw s), bpr (snw s), brw (snw s), 0, 50, 20)) []) []) k3 (fun a ha => by omega) ⟨⟨A.1, A.2.1, A.2.2.1, A.2.2.2.keep k3 fun x x1 x2 => by omega⟩, gI_same _ _ _ _, fun i e he => ?_⟩ eqx_pt⟩
    have he : ([] : List Pe)[i]? = some e := he
    simp at he
  · exact ((kp_up k1 (by omega) (by omega)).trans (k2.mono fun x hx => by unfold Rg; omega)).trans (k3.mono fun x hx => by unfold ZZ at hz; unfold Rg; omega)
theorem c8_addTier (C : CStP F w h zp zn s) (V : VSt s) (hN : 40 ≤ N) {a b c : Int} (ha : I32 a) (hb : I32 b) (hc : I32 c) : Ev (fX8_addTier F N w h (zI a) (zI b) (zI c)) (CO F h w [0, 1, 2] (spAddTier s a b c)) := by
  have B := C.bk
  have h6 := V.1.1.1
  unfold fX8_addTier spAddTier
  have bad : ¬ ((0 ≤ a ∧ a ≤ 3) ∧ 0 ≤ b ∧ b ≤ 3) → Ev (fX8_addTier_18 F N w) (CO F h w [0, 1, 2] (if (0 ≤ a ∧ a ≤ 3) ∧ 0 ≤ b ∧ b ≤ 3 then (if b = 0 ∨ (0 ≤ c ∧ c < bn (snw s)) then (if bn (snw s) = 6 then (3, 0, s) else (0, zI (bn (snw s) : Nat), psh s (addT (snw s) a b (if b = 0 then -1 else c)))) else (2, 0, s)) else (1, 0, s))) := by
    intro n
    rw [if_neg n]
    exact ev_some (co_e1 C.st (Kp.refl _))
  by_cases a0 : a < 0
  · exact ev_pos (by simp (disch := omega) only [z_0, z_1, z_2, z_3, z_4, z_5, z_6, z_7, z_8, z_9, z_10, z_12, z_13, z_16, z_20, z_24, z_30, z_31, z_32, z_38, z_42, z_44, z_45, z_47, z_48, z_49, z_50, z_57, z_58, z_59, z_60, z_61, z_91, z_97, z_98, z_100, z_108, z_114, z_120, z_122, z_126, z_127, z_128, z_200, z_255, z_961, z_990, z_992, z_998, z_999, z_1000, z_1092, z_1114, z_7798, z_10000, z_1000000, zI_neg, zI_add, zI_sub, zI_mul, zI_lt, zI_le, zI_eq, if_pos, if_neg, if_true, if_false, Option.bind_some, bnd, ldI_is, ldJ_is, Int.toNat_natCast, ]; exact a0) (bad (by omega))
  refine ev_neg (by simp (disch := omega) only [z_0, z_1, z_2, z_3, z_4, z_5, z_6, z_7, z_8, z_9, z_10, z_12, z_13, z_16, z_20, z_24, z_30, z_31, z_32, z_38, z_42, z_44, z_45, z_47, z_48, z_49, z_50, z_57, z_58, z_59, z_60, z_61, z_91, z_97, z_98, z_100, z_108, z_114, z_120, z_122, z_126, z_127, z_128, z_200, z_255, z_961, z_990, z_992, z_998, z_999, z_1000, z_1092, z_1114, z_7798, z_10000, z_1000000, zI_neg, zI_add, zI_sub, zI_mul, zI_lt, zI_le, zI_eq, if_pos, if_neg, if_true, if_false, Option.bind_some, bnd, ldI_is, ldJ_is, Int.toNat_natCast, ]; exact a0) ?_
  by_cases a3 : 3 < a
  · exact ev_pos (by simp (disch := omega) only [z_0, z_1, z_2, z_3, z_4, z_5, z_6, z_7, z_8, z_9, z_10, z_12, z_13, z_16, z_20, z_24, z_30, z_31, z_32, z_38, z_42, z_44, z_45, z_47, z_48, z_49, z_50, z_57, z_58, z_59, z_60, z_61, z_91, z_97, z_98, z_100, z_108, z_114, z_120, z_122, z_126, z_127, z_128, z_200, z_255, z_961, z_990, z_992, z_998, z_999, z_1000, z_1092, z_1114, z_7798, z_10000, z_1000000, zI_neg, zI_add, zI_sub, zI_mul, zI_lt, zI_le, zI_eq, if_pos, if_neg, if_true, if_false, Option.bind_some, bnd, ldI_is, ldJ_is, Int.toNat_natCast, ]; exact a3) (bad (by omega))
  refine ev_neg (by simp (disch := omega) only [z_0, z_1, z_2, z_3, z_4, z_5, z_6, z_7, z_8, z_9, z_10, z_12, z_13, z_16, z_20, z_24, z_30, z_31, z_32, z_38, z_42, z_44, z_45, z_47, z_48, z_49, z_50, z_57, z_58, z_59, z_60, z_61, z_91, z_97, z_98, z_100, z_108, z_114, z_120, z_122, z_126, z_127, z_128, z_200, z_255, z_961, z_990, z_992, z_998, z_999, z_1000, z_1092, z_1114, z_7798, z_10000, z_1000000, zI_neg, zI_add, zI_sub, zI_mul, zI_lt, zI_le, zI_eq, if_pos, if_neg, if_true, if_false, Option.bind_some, bnd, ldI_is, ldJ_is, Int.toNat_natCast, ]; exact a3) ?_
  by_cases b0 : b < 0
  · exact ev_pos (by simp (disch := omega) only [z_0, z_1, z_2, z_3, z_4, z_5, z_6, z_7, z_8, z_9, z_10, z_12, z_13, z_16, z_20, z_24, z_30, z_31, z_32, z_38, z_42, z_44, z_45, z_47, z_48, z_49, z_50, z_57, z_58, z_59, z_60, z_61, z_91, z_97, z_98, z_100, z_108, z_114, z_120, z_122, z_126, z_127, z_128, z_200, z_255, z_961, z_990, z_992, z_998, z_999, z_1000, z_1092, z_1114, z_7798, z_10000, z_1000000, zI_neg, zI_add, zI_sub, zI_mul, zI_lt, zI_le, zI_eq, if_pos, if_neg, if_true, if_false, Option.bind_some, bnd, ldI_is, ldJ_is, Int.toNat_natCast, ]; exact b0) (bad (by omega))
  refine ev_neg (by simp (disch := omega) only [z_0, z_1, z_2, z_3, z_4, z_5, z_6, z_7, z_8, z_9, z_10, z_12, z_13, z_16, z_20, z_24, z_30, z_31, z_32, z_38, z_42, z_44, z_45, z_47, z_48, z_49, z_50, z_57, z_58, z_59, z_60, z_61, z_91, z_97, z_98, z_100, z_108, z_114, z_120, z_122, z_126, z_127, z_128, z_200, z_255, z_961, z_990, z_992, z_998, z_999, z_1000, z_1092, z_1114, z_7798, z_10000, z_1000000, zI_neg, zI_add, zI_sub, zI_mul, zI_lt, zI_le, zI_eq, if_pos, if_neg, if_true, if_false, Option.bind_some, bnd, ldI_is, ldJ_is, Int.toNat_natCast, ]; exact b0) ?_
  by_cases b3 : b ≤ 3
  · refine ev_pos (by simp (disch := omega) only [z_0, z_1, z_2, z_3, z_4, z_5, z_6, z_7, z_8, z_9, z_10, z_12, z_13, z_16, z_20, z_24, z_30, z_31, z_32, z_38, z_42, z_44, z_45, z_47, z_48, z_49, z_50, z_57, z_58, z_59, z_60, z_61, z_91, z_97, z_98, z_100, z_108, z_114, z_120, z_122, z_126, z_127, z_128, z_200, z_255, z_961, z_990, z_992, z_998, z_999, z_1000, z_1092, z_1114, z_7798, z_10000, z_1000000, zI_neg, zI_add, zI_sub, zI_mul, zI_lt, zI_le, zI_eq, if_pos, if_neg, if_true, if_false, Option.bind_some, bnd, ldI_is, ldJ_is, Int.toNat_natCast, ]; exact b3) ?_
    rw [if_pos (c := (0 ≤ a ∧ a ≤ 3) ∧ 0 ≤ b ∧ b ≤ 3) (by omega)]
    have tail : (b ≠ 0 → 0 ≤ c ∧ c < bn (snw s)) → Ev (fX8_addTier_49 F N w h (zI a) (zI b) (zI c)) (CO F h w [0, 1, 2] (if bn (snw s) = 6 then (3, 0, s) else (0, zI (bn (snw s) : Nat), psh s (addT (snw s) a b (if b = 0 then -1 else c))))) := by
      intro hp
      unfold fX8_addTier_49
      refine ev_eq C.a0 ?_
      rw [c_bn B]
      by_cases b6 : bn (snw s) = 6
      · rw [if_pos b6]
        exact ev_neg (by rw [b6]; decide) (ev_some (co_e3 C.st (Kp.refl _)))
      · rw [if_neg b6]
        refine ev_pos (by simp (disch := omega) only [z_0, z_1, z_2, z_3, z_4, z_5, z_6, z_7, z_8, z_9, z_10, z_12, z_13, z_16, z_20, z_24, z_30, z_31, z_32, z_38, z_42, z_44, z_45, z_47, z_48, z_49, z_50, z_57, z_58, z_59, z_60, z_61, z_91, z_97, z_98, z_100, z_108, z_114, z_120, z_122, z_126, z_127, z_128, z_200, z_255, z_961, z_990, z_992, z_998, z_999, z_1000, z_1092, z_1114, z_7798, z_10000, z_1000000, zI_neg, zI_add, zI_sub, zI_mul, zI_lt, zI_le, zI_eq, if_pos, if_neg, if_true, if_false, Option.bind_some, bnd, ldI_is, ldJ_is, Int.toNat_natCast, ]; omega) (ev_eq C.a3 (ev_eq C.a0 (ev_then (C.push hN) ?_)))
        intro w1 ⟨C1, k1, _⟩
        refine ev_eq C1.a0 (ev_then (c_putTier C1.bk (show bn (snw s) < 6 by omega) (by omega) (by omega) hp) ?_)
        intro x ⟨x1, a1, k2⟩
        have C2 : CStP F x.2 h zp zn (psh s _) := C1.upN k2 (fun a ha => by unfold Rg at ha; omega) a1 eqx_nw
        exact ev_some (co_in C2.st (k1.trans (kp_up k2 (by omega) (by omega))) x1)
    by_cases bz : b = 0
    · rw [if_pos (c := b = 0 ∨ (0 ≤ c ∧ c < bn (snw s))) (by omega)]
      exact ev_pos (by rw [bz]; rfl) (tail (fun n => absurd bz n))
    · refine ev_neg (by simp (disch := omega) only [z_0, z_1, z_2, z_3, z_4, z_5, z_6, z_7, z_8, z_9, z_10, z_12, z_13, z_16, z_20, z_24, z_30, z_31, z_32, z_38, z_42, z_44, z_45, z_47, z_48, z_49, z_50, z_57, z_58, z_59, z_60, z_61, z_91, z_97, z_98, z_100, z_108, z_114, z_120, z_122, z_126, z_127, z_128, z_200, z_255, z_961, z_990, z_992, z_998, z_999, z_1000, z_1092, z_1114, z_7798, z_10000, z_1000000, zI_neg, zI_add, zI_sub, zI_mul, zI_lt, zI_le, zI_eq, if_pos, if_neg, if_true, if_false, Option.bind_some, bnd, ldI_is, ldJ_is, Int.toNat_natCast, ]; exact bz) (ev_eq C.a0 (ev_eq (c_hasTier B hc) ?_))
      by_cases cc : 0 ≤ c ∧ c < bn (snw s)
      · rw [if_pos cc, if_pos (c := b = 0 ∨ (0 ≤ c ∧ c < bn (snw s))) (by omega)]
        exact ev_neg (by decide) (tail (fun _ => cc))
      · rw [if_neg cc, if_neg (c := b = 0 ∨ (0 ≤ c ∧ c < bn (snw s))) (by omega)]
        exact ev_pos (by rfl) (ev_some (co_e2 C.st (Kp.refl _)))
  · exact ev_neg (by simp (disch := omega) only [z_0, z_1, z_2, z_3, z_4, z_5, z_6, z_7, z_8, z_9, z_10, z_12, z_13, z_16, z_20, z_24, z_30, z_31, z_32, z_38, z_42, z_44, z_45, z_47, z_48, z_49, z_50, z_57, z_58, z_59, z_60, z_61, z_91, z_97, z_98, z_100, z_108, z_114, z_120, z_122, z_126, z_127, z_128, z_200, z_255, z_961, z_990, z_992, z_998, z_999, z_1000, z_1092, z_1114, z_7798, z_10000, z_1000000, zI_neg, zI_add, zI_sub, zI_mul, zI_lt, zI_le, zI_eq, if_pos, if_neg, if_true, if_false, Option.bind_some, bnd, ldI_is, ldJ_is, Int.toNat_natCast, ]; exact b3) (bad (by omega))
theorem c8_select (C : CStP F w h zp zn s) (hN : 40 ≤ N) {a : Int} (ha : I32 a) : Ev (fX8_select F N w h (zI a)) (CO F h w [0] (spSelect s a)) := by
  have B := C.bk
  unfold fX8_select spSelect
  by_cases a0 : a < 0
  · rw [if_neg (c := 0 ≤ a ∧ a ≤ 1) (by omega)]
    exact ev_pos (by simp (disch := omega) only [z_0, z_1, z_2, z_3, z_4, z_5, z_6, z_7, z_8, z_9, z_10, z_12, z_13, z_16, z_20, z_24, z_30, z_31, z_32, z_38, z_42, z_44, z_45, z_47, z_48, z_49, z_50, z_57, z_58, z_59, z_60, z_61, z_91, z_97, z_98, z_100, z_108, z_114, z_120, z_122, z_126, z_127, z_128, z_200, z_255, z_961, z_990, z_992, z_998, z_999, z_1000, z_1092, z_1114, z_7798, z_10000, z_1000000, zI_neg, zI_add, zI_sub, zI_mul, zI_lt, zI_le, zI_eq, if_pos, if_neg, if_true, if_false, Option.bind_some, bnd, ldI_is, ldJ_is, Int.toNat_natCast, ]; exact a0) (ev_some (co_e1 C.st (Kp.refl _)))
  refine ev_neg (by simp (disch := omega) only [z_0, z_1, z_2, z_3, z_4, z_5, z_6, z_7, z_8, z_9, z_10, z_12, z_13, z_16, z_20, z_24, z_30, z_31, z_32, z_38, z_42, z_44, z_45, z_47, z_48, z_49, z_50, z_57, z_58, z_59, z_60, z_61, z_91, z_97, z_98, z_100, z_108, z_114, z_120, z_122, z_126, z_127, z_128, z_200, z_255, z_961, z_990, z_992, z_998, z_999, z_1000, z_1092, z_1114, z_7798, z_10000, z_1000000, zI_neg, zI_add, zI_sub, zI_mul, zI_lt, zI_le, zI_eq, if_pos, if_neg, if_true, if_false, Option.bind_some, bnd, ldI_is, ldJ_is, Int.toNat_natCast, ]; exact a0) ?_
  by_cases a2 : a < 2
  · rw [if_pos (c := 0 ≤ a ∧ a ≤ 1) (by omega)]
    obtain ⟨a', rfl⟩ := Int.eq_ofNat_of_zero_le (show 0 ≤ a by omega)
    rw [Int.toNat_natCast]
    refine ev_pos (by simp (disch := omega) only [z_0, z_1, z_2, z_3, z_4, z_5, z_6, z_7, z_8, z_9, z_10, z_12, z_13, z_16, z_20, z_24, z_30, z_31, z_32, z_38, z_42, z_44, z_45, z_47, z_48, z_49, z_50, z_57, z_58, z_59, z_60, z_61, z_91, z_97, z_98, z_100, z_108, z_114, z_120, z_122, z_126, z_127, z_128, z_200, z_255, z_961, z_990, z_992, z_998, z_999, z_1000, z_1092, z_1114, z_7798, z_10000, z_1000000, zI_neg, zI_add, zI_sub, zI_mul, zI_lt, zI_le, zI_eq, if_pos, if_neg, if_true, if_false, Option.bind_some, bnd, ldI_is, ldJ_is, Int.toNat_natCast, ]; exact a2) (ev_eq C.a3 (ev_eq C.a0 (ev_then (C.push hN) ?_)))
    intro w1 ⟨C1, k1, _⟩
    have k2 : Kp (Rg (h + 1) 1) w1 (sI w1 106 (h + 1) (zI (a' : Nat))) := kp_sI _ _ ⟨Nat.le_refl _, by omega⟩
    have C2 : CStP F (sI w1 106 (h + 1) (zI (a' : Nat))) h zp zn (psh s (seta (snw s) a')) := C1.upN k2 (fun a ha => by unfold Rg at ha; omega) (C1.bk.setA (by omega) rfl) eqx_nw
    exact ev_eq C1.a0 (ev_bnd (ev_eq C1.a0 (ev_bnd (ev_some (co_in C2.st (k1.trans (kp_up k2 (by omega) (by omega))) (c_ban C1.bk))))))
  · rw [if_neg (c := 0 ≤ a ∧ a ≤ 1) (by omega)]
    exact ev_neg (by simp (disch := omega) only [z_0, z_1, z_2, z_3, z_4, z_5, z_6, z_7, z_8, z_9, z_10, z_12, z_13, z_16, z_20, z_24, z_30, z_31, z_32, z_38, z_42, z_44, z_45, z_47, z_48, z_49, z_50, z_57, z_58, z_59, z_60, z_61, z_91, z_97, z_98, z_100, z_108, z_114, z_120, z_122, z_126, z_127, z_128, z_200, z_255, z_961, z_990, z_992, z_998, z_999, z_1000, z_1092, z_1114, z_7798, z_10000, z_1000000, zI_neg, zI_add, zI_sub, zI_mul, zI_lt, zI_le, zI_eq, if_pos, if_neg, if_true, if_false, Option.bind_some, bnd, ldI_is, ldJ_is, Int.toNat_natCast, ]; exact a2) (ev_some (co_e1 C.st (Kp.refl _)))
theorem c8_setSetting (C : CStP F w h zp zn s) (hN : 40 ≤ N) {q v : Int} (hq : I32 q) (hv : I32 v) : Ev (fX8_setSetting F N w h (zI q) (zI v)) (CO F h w [1, 0] (spSetting s q v)) := by
  have B := C.bk
  unfold fX8_setSetting spSetting
  by_cases a0 : q < 0
  · rw [if_neg (c := 0 ≤ q ∧ q ≤ 1) (by omega)]
    exact ev_pos (by simp (disch := omega) only [z_0, z_1, z_2, z_3, z_4, z_5, z_6, z_7, z_8, z_9, z_10, z_12, z_13, z_16, z_20, z_24, z_30, z_31, z_32, z_38, z_42, z_44, z_45, z_47, z_48, z_49, z_50, z_57, z_58, z_59, z_60, z_61, z_91, z_97, z_98, z_100, z_108, z_114, z_120, z_122, z_126, z_127, z_128, z_200, z_255, z_961, z_990, z_992, z_998, z_999, z_1000, z_1092, z_1114, z_7798, z_10000, z_1000000, zI_neg, zI_add, zI_sub, zI_mul, zI_lt, zI_le, zI_eq, if_pos, if_neg, if_true, if_false, Option.bind_some, bnd, ldI_is, ldJ_is, Int.toNat_natCast, ]; exact a0) (ev_some (co_e1 C.st (Kp.refl _)))
  refine ev_neg (by simp (disch := omega) only [z_0, z_1, z_2, z_3, z_4, z_5, z_6, z_7, z_8, z_9, z_10, z_12, z_13, z_16, z_20, z_24, z_30, z_31, z_32, z_38, z_42, z_44, z_45, z_47, z_48, z_49, z_50, z_57, z_58, z_59, z_60, z_61, z_91, z_97, z_98, z_100, z_108, z_114, z_120, z_122, z_126, z_127, z_128, z_200, z_255, z_961, z_990, z_992, z_998, z_999, z_1000, z_1092, z_1114, z_7798, z_10000, z_1000000, zI_neg, zI_add, zI_sub, zI_mul, zI_lt, zI_le, zI_eq, if_pos, if_neg, if_true, if_false, Option.bind_some, bnd, ldI_is, ldJ_is, Int.toNat_natCast, ]; exact a0) ?_
  by_cases a2 : q ≤ 1
  · rw [if_pos (c := 0 ≤ q ∧ q ≤ 1) (by omega)]
    refine ev_pos (by simp (disch := omega) only [z_0, z_1, z_2, z_3, z_4, z_5, z_6, z_7, z_8, z_9, z_10, z_12, z_13, z_16, z_20, z_24, z_30, z_31, z_32, z_38, z_42, z_44, z_45, z_47, z_48, z_49, z_50, z_57, z_58, z_59, z_60, z_61, z_91, z_97, z_98, z_100, z_108, z_114, z_120, z_122, z_126, z_127, z_128, z_200, z_255, z_961, z_990, z_992, z_998, z_999, z_1000, z_1092, z_1114, z_7798, z_10000, z_1000000, zI_neg, zI_add, zI_sub, zI_mul, zI_lt, zI_le, zI_eq, if_pos, if_neg, if_true, if_false, Option.bind_some, bnd, ldI_is, ldJ_is, Int.toNat_natCast, ]; exact a2) ?_
    by_cases v0 : v < 0
    · rw [if_neg (c := 0 ≤ v ∧ v ≤ 200) (by omega)]
      exact ev_pos (by simp (disch := omega) only [z_0, z_1, z_2, z_3, z_4, z_5, z_6, z_7, z_8, z_9, z_10, z_12, z_13, z_16, z_20, z_24, z_30, z_31, z_32, z_38, z_42, z_44, z_45, z_47, z_48, z_49, z_50, z_57, z_58, z_59, z_60, z_61, z_91, z_97, z_98, z_100, z_108, z_114, z_120, z_122, z_126, z_127, z_128, z_200, z_255, z_961, z_990, z_992, z_998, z_999, z_1000, z_1092, z_1114, z_7798, z_10000, z_1000000, zI_neg, zI_add, zI_sub, zI_mul, zI_lt, zI_le, zI_eq, if_pos, if_neg, if_true, if_false, Option.bind_some, bnd, ldI_is, ldJ_is, Int.toNat_natCast, ]; exact v0) (ev_some (co_e2 C.st (Kp.refl _)))
    refine ev_neg (by simp (disch := omega) only [z_0, z_1, z_2, z_3, z_4, z_5, z_6, z_7, z_8, z_9, z_10, z_12, z_13, z_16, z_20, z_24, z_30, z_31, z_32, z_38, z_42, z_44, z_45, z_47, z_48, z_49, z_50, z_57, z_58, z_59, z_60, z_61, z_91, z_97, z_98, z_100, z_108, z_114, z_120, z_122, z_126, z_127, z_128, z_200, z_255, z_961, z_990, z_992, z_998, z_999, z_1000, z_1092, z_1114, z_7798, z_10000, z_1000000, zI_neg, zI_add, zI_sub, zI_mul, zI_lt, zI_le, zI_eq, if_pos, if_neg, if_true, if_false, Option.bind_some, bnd, ldI_is, ldJ_is, Int.toNat_natCast, ]; exact v0) ?_
    by_cases v2 : v ≤ 200
    · rw [if_pos (c := 0 ≤ v ∧ v ≤ 200) (by omega)]
      refine ev_pos (by simp (disch := omega) only [z_0, z_1, z_2, z_3, z_4, z_5, z_6, z_7, z_8, z_9, z_10, z_12, z_13, z_16, z_20, z_24, z_30, z_31, z_32, z_38, z_42, z_44, z_45, z_47, z_48, z_49, z_50, z_57, z_58, z_59, z_60, z_61, z_91, z_97, z_98, z_100, z_108, z_114, z_120, z_122, z_126, z_127, z_128, z_200, z_255, z_961, z_990, z_992, z_998, z_999, z_1000, z_1092, z_1114, z_7798, z_10000, z_1000000, zI_neg, zI_add, zI_sub, zI_mul, zI_lt, zI_le, zI_eq, if_pos, if_neg, if_true, if_false, Option.bind_some, bnd, ldI_is, ldJ_is, Int.toNat_natCast, ]; exact v2) (ev_eq C.a3 (ev_eq C.a0 (ev_then (C.push hN) ?_)))
      intro w1 ⟨C1, k1, _⟩
      by_cases q0 : q = 0
      · subst q0
        rw [if_pos rfl]
        have k2 : Kp (Rg (h + 1) 1) w1 (sI w1 107 (h + 1) (zI v)) := kp_sI _ _ ⟨Nat.le_refl _, by omega⟩
        have C2 : CStP F (sI w1 107 (h + 1) (zI v)) h zp zn (psh s (setw (snw s) v)) := C1.upN k2 (fun a ha => by unfold Rg at ha; omega) (C1.bk.setW (by omega)) eqx_nw
        exact ev_pos (by rfl) (ev_eq C1.a0 (ev_pos (by rfl) (ev_eq C1.a0 (ev_bnd (ev_some (co_in C2.st (k1.trans (kp_up k2 (by omega) (by omega))) C1.bk.2.2.1.2.2.1))))))
      · rw [if_neg q0]
        have k2 : Kp (Rg (h + 1) 1) w1 (sI w1 108 (h + 1) (zI v)) := kp_sI _ _ ⟨Nat.le_refl _, by omega⟩
        have C2 : CStP F (sI w1 108 (h + 1) (zI v)) h zp zn (psh s (setg (snw s) v)) := C1.upN k2 (fun a ha => by unfold Rg at ha; omega) (C1.bk.setG (by omega)) eqx_nw
        exact ev_neg (by simp (disch := omega) only [z_0, z_1, z_2, z_3, z_4, z_5, z_6, z_7, z_8, z_9, z_10, z_12, z_13, z_16, z_20, z_24, z_30, z_31, z_32, z_38, z_42, z_44, z_45, z_47, z_48, z_49, z_50, z_57, z_58, z_59, z_60, z_61, z_91, z_97, z_98, z_100, z_108, z_114, z_120, z_122, z_126, z_127, z_128, z_200, z_255, z_961, z_990, z_992, z_998, z_999, z_1000, z_1092, z_1114, z_7798, z_10000, z_1000000, zI_neg, zI_add, zI_sub, zI_mul, zI_lt, zI_le, zI_eq, if_pos, if_neg, if_true, if_false, Option.bind_some, bnd, ldI_is, ldJ_is, Int.toNat_natCast, ]; exact q0) (ev_eq C1.a0 (ev_neg (by simp (disch := omega) only [z_0, z_1, z_2, z_3, z_4, z_5, z_6, z_7, z_8, z_9, z_10, z_12, z_13, z_16, z_20, z_24, z_30, z_31, z_32, z_38, z_42, z_44, z_45, z_47, z_48, z_49, z_50, z_57, z_58, z_59, z_60, z_61, z_91, z_97, z_98, z_100, z_108, z_114, z_120, z_122, z_126, z_127, z_128, z_200, z_255, z_961, z_990, z_992, z_998, z_999, z_1000, z_1092, z_1114, z_7798, z_10000, z_1000000, zI_neg, zI_add, zI_sub, zI_mul, zI_lt, zI_le, zI_eq, if_pos, if_neg, if_true, if_false, Option.bind_some, bnd, ldI_is, ldJ_is, Int.toNat_natCast, ]; exact q0) (ev_eq C1.a0 (ev_bnd (ev_some (co_in C2.st (k1.trans (kp_up k2 (by omega) (by omega))) C1.bk.2.2.1.2.2.2.1))))))
    · rw [if_neg (c := 0 ≤ v ∧ v ≤ 200) (by omega)]
      exact ev_neg (by simp (disch := omega) only [z_0, z_1, z_2, z_3, z_4, z_5, z_6, z_7, z_8, z_9, z_10, z_12, z_13, z_16, z_20, z_24, z_30, z_31, z_32, z_38, z_42, z_44, z_45, z_47, z_48, z_49, z_50, z_57, z_58, z_59, z_60, z_61, z_91, z_97, z_98, z_100, z_108, z_114, z_120, z_122, z_126, z_127, z_128, z_200, z_255, z_961, z_990, z_992, z_998, z_999, z_1000, z_1092, z_1114, z_7798, z_10000, z_1000000, zI_neg, zI_add, zI_sub, zI_mul, zI_lt, zI_le, zI_eq, if_pos, if_neg, if_true, if_false, Option.bind_some, bnd, ldI_is, ldJ_is, Int.toNat_natCast, ]; exact v2) (ev_some (co_e2 C.st (Kp.refl _)))
  · rw [if_neg (c := 0 ≤ q ∧ q ≤ 1) (by omega)]
    exact ev_neg (by simp (disch := omega) only [z_0, z_1, z_2, z_3, z_4, z_5, z_6, z_7, z_8, z_9, z_10, z_12, z_13, z_16, z_20, z_24, z_30, z_31, z_32, z_38, z_42, z_44, z_45, z_47, z_48, z_49, z_50, z_57, z_58, z_59, z_60, z_61, z_91, z_97, z_98, z_100, z_108, z_114, z_120, z_122, z_126, z_127, z_128, z_200, z_255, z_961, z_990, z_992, z_998, z_999, z_1000, z_1092, z_1114, z_7798, z_10000, z_1000000, zI_neg, zI_add, zI_sub, zI_mul, zI_lt, zI_le, zI_eq, if_pos, if_neg, if_true, if_false, Option.bind_some, bnd, ldI_is, ldJ_is, Int.toNat_natCast, ]; exact a2) (ev_some (co_e1 C.st (Kp.refl _)))
theorem c8_undo (C : CStP F w h zp zn s) (hN : 40 ≤ N) : Ev (fX8_undo F N w h) (CO F h w [2] (spUndo s)) := by
  have cH : CHist F w (h + 172) (sps s) := C.2.2.2.2.2.1
  unfold fX8_undo spUndo
  refine ev_eq C.a3 ?_
  rw [c_hcount cH]
  have l8 := cH.2.2.2.2.2.2.1
  cases hs : sps s with
  | nil => exact ev_pos (by rfl) (ev_some (co_e1 C.st (Kp.refl _)))
  | cons k P =>
    rw [hs] at cH l8
    have l9 : P.length + 1 ≤ 8 := l8
    refine ev_neg (show ¬ zI ((P.length + 1 : Nat) : Int) = 0 by simp (disch := omega) only [z_0, z_1, z_2, z_3, z_4, z_5, z_6, z_7, z_8, z_9, z_10, z_12, z_13, z_16, z_20, z_24, z_30, z_31, z_32, z_38, z_42, z_44, z_45, z_47, z_48, z_49, z_50, z_57, z_58, z_59, z_60, z_61, z_91, z_97, z_98, z_100, z_108, z_114, z_120, z_122, z_126, z_127, z_128, z_200, z_255, z_961, z_990, z_992, z_998, z_999, z_1000, z_1092, z_1114, z_7798, z_10000, z_1000000, zI_neg, zI_add, zI_sub, zI_mul, zI_lt, zI_le, zI_eq, if_pos, if_neg, if_true, if_false, Option.bind_some, bnd, ldI_is, ldJ_is, Int.toNat_natCast, ]; omega) (ev_eq C.a3 (ev_eq C.a0 (ev_then (c_pop cH C.bk.1 C.bk.2.1 (by omega) hN) ?_)))
    intro w1 ⟨a1, a2, k1⟩
    have C1 : CStP F w1 h zp zn (setnw (setps s P) k) := C.upNH k1 (fun a ha => by unfold Rg at ha; omega) a1 a2 ⟨fun e => e.elim, fun _ => rfl, fun e => e.elim, fun _ => rfl, fun _ => rfl, fun _ => rfl, fun _ => rfl, fun _ => rfl⟩
    exact ev_eq C1.a3 (ev_some (co_in C1.st (k1.mono fun a ha => by unfold Rg at *; omega) (c_hcount a2)))
theorem c8_restore (C : CStP F w h zp zn s) (hN : 40 ≤ N) : Ev (fX8_restore F N w h) (CO F h w [2] (spRestore s)) := by
  have cX := C.2.1
  have cV : LBook F (h + 115) ∧ WBook w (h + 115) ∧ ∀ b, ssv s = some b → CBook F w (h + 115) b := C.2.2.2.2.1
  unfold fX8_restore spRestore
  rw [cX.2.1]
  cases hs : ssv s with
  | none => exact ev_pos (by rfl) (ev_some (co_e1 C.st (Kp.refl _)))
  | some k =>
    refine ev_neg (show ¬ (1 : Int32) = 0 by decide) (ev_eq C.a0 (ev_eq C.a2 (ev_then (c_copyBook (by omega) hN C.bk.1 C.bk.2.1 (cV.2.2 k hs)) ?_)))
    intro w1 ⟨a1, k1⟩
    have C1 : CStP F w1 h zp zn (setnw s k) := C.upN k1 (fun a ha => by unfold Rg at ha; omega) a1 eqx_nw
    have cH : CHist F w1 (h + 172) (sps (setnw s k)) := C1.2.2.2.2.2.1
    refine ev_eq C1.a3 (ev_then (c_forget cH) ?_)
    intro w2 ⟨a2, k2⟩
    have C2 : CStP F w2 h zp zn (setps (setnw s k) []) := C1.upH k2 (fun a ha => by omega) a2 eqx_ps
    exact ev_eq C2.a0 (ev_some (co_in C2.st ((kp_up k1 (by omega) (by omega)).trans (k2.mono fun a ha => by unfold Rg; omega)) (c_bn C2.bk)))
theorem c8_snapshot (C : CStP F w h zp zn s) (hN : 40 ≤ N) : Ev (fX8_snapshot F N w h) fun x => x.1 = (spSnap s).2.1 ∧ CSt F x.2 h (spSnap s).2.2 ∧ Kp (Rg h 661) w x.2 := by
  have cX := C.2.1
  have cV : LBook F (h + 115) ∧ WBook w (h + 115) ∧ ∀ b, ssv s = some b → CBook F w (h + 115) b := C.2.2.2.2.1
  unfold fX8_snapshot
  refine ev_eq C.a2 (ev_eq C.a0 (ev_then (c_copyBook (by omega) hN cV.1 cV.2.1 C.bk) ?_))
  intro w1 ⟨a1, k1⟩
  have k2 : Kp (fun a => a = h) w1 (sI w1 810 h 1) := kp_sI _ _ rfl
  have k3 : Kp (fun a => a = h ∨ Rg (h + 115) 57 a) w (sI w1 810 h 1) := (k1.mono fun a ha => Or.inr ha).trans (k2.mono fun a ha => Or.inl ha)
  have nh : ¬ Rg (h + 115) 57 h := by unfold Rg; omega
  have a3 : CBook F (sI w1 810 h 1) (h + 115) (snw s) := a1.keep k2 fun x x1 x2 => by omega
  have C1 : CStP F (sI w1 810 h 1) h zp zn (setsv s (some (snw s))) := C.upS k3 (fun a ha => by unfold Rg at ha; omega) ⟨by have q := cX.1.keep k1 nh; exact q, gI_same _ _ _ _, by rw [gI_ne _ (by omega), k1.gI nh]; exact cX.2.2.1, by rw [gI_ne _ (by omega), k1.gI nh]; exact cX.2.2.2⟩ ⟨a3.1, a3.2.1, fun b hb => by
    have hb : some (snw s) = some b := hb
    cases hb
    exact a3⟩ eqx_sv
  exact ev_bnd (ev_eq C1.a0 (ev_some ⟨c_bn C1.bk, C1.st, k3.mono fun a ha => by unfold Rg at *; omega⟩))
end CHG8
