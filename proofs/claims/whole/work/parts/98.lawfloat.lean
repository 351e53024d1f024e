/-! the law: agreement and kappa -/
theorem OKB.gr {k : Bk} (h : OKB k) {x t : Nat} (hx : x < 2) (ht : t < bn k) : GRow (brw k x t) := (h.1.2.2.2.2 t ht).2.2.2.2.2 x hx
theorem ag_code (s : St) (t : Int) : (spAg s t).1 = 0 ∨ (spAg s t).1 = 1 ∨ (spAg s t).1 = 2 := by
  unfold spAg
  by_cases c : 0 ≤ t ∧ t < bn (snw s)
  · rw [if_pos c]
    by_cases c2 : told (brw (snw s) 0 t.toNat) (brw (snw s) 1 t.toNat) = 0
    · rw [if_pos c2]; exact Or.inr (Or.inr rfl)
    · rw [if_neg c2]; exact Or.inl rfl
  · rw [if_neg c]; exact Or.inr (Or.inl rfl)
theorem ka_code (s : St) (t : Int) : (spKa s t).1 = 0 ∨ (spKa s t).1 = 1 ∨ (spKa s t).1 = 2 := by
  unfold spKa
  by_cases c : 0 ≤ t ∧ t < bn (snw s)
  · rw [if_pos c]
    by_cases c2 : prods (brw (snw s) 0 t.toNat) (brw (snw s) 1 t.toNat) = 1000000
    · rw [if_pos c2]; exact Or.inr (Or.inr rfl)
    · rw [if_neg c2]; exact Or.inl rfl
  · rw [if_neg c]; exact Or.inr (Or.inl rfl)
theorem ag_num {s : St} (V : VSt s) {t : Int} (e : (spAg s t).1 = 0) : FP.Core.val32 (spAg s t).2 ≠ .nan := by
  unfold spAg at *
  by_cases c : 0 ≤ t ∧ t < bn (snw s)
  · rw [if_pos c] at *
    by_cases c2 : told (brw (snw s) 0 t.toNat) (brw (snw s) 1 t.toNat) = 0
    · rw [if_pos c2] at e
      exact absurd e (by decide)
    · rw [if_neg c2]
      have hb : t.toNat < bn (snw s) := by omega
      have hl := told_lim (V.1.gr (show 0 < 2 by omega) hb) (V.1.gr (show 1 < 2 by omega) hb) (V.1.2.2.1 0 _ (by omega) hb) (V.1.2.2.1 1 _ (by omega) hb)
      have hz : ¬ zI (told (brw (snw s) 0 t.toNat) (brw (snw s) 1 t.toNat)) = 0 := by simp (disch := omega) only [z_0, z_1, z_2, z_3, z_4, z_5, z_6, z_7, z_8, z_9, z_10, z_12, z_13, z_16, z_20, z_24, z_30, z_31, z_32, z_38, z_42, z_44, z_45, z_47, z_48, z_49, z_50, z_57, z_58, z_59, z_60, z_61, z_91, z_97, z_98, z_100, z_108, z_114, z_120, z_122, z_126, z_127, z_128, z_200, z_255, z_961, z_990, z_992, z_998, z_999, z_1000, z_1092, z_1114, z_7798, z_10000, z_1000000, zI_neg, zI_add, zI_sub, zI_mul, zI_lt, zI_le, zI_eq, if_pos, if_neg, if_true, if_false, Option.bind_some, bnd, ldI_is, ldJ_is, Int.toNat_natCast, ]; exact c2
      exact fl_share _ _ hz
  · rw [if_neg c] at e
    exact absurd e (by decide)
theorem ka_num {s : St} (V : VSt s) {t : Int} (e : (spKa s t).1 = 0) : FP.Core.val64 (spKa s t).2 ≠ .nan := by
  unfold spKa at *
  by_cases c : 0 ≤ t ∧ t < bn (snw s)
  · rw [if_pos c] at *
    by_cases c2 : prods (brw (snw s) 0 t.toNat) (brw (snw s) 1 t.toNat) = 1000000
    · rw [if_pos c2] at e
      exact absurd e (by decide)
    · rw [if_neg c2]
      have hb : t.toNat < bn (snw s) := by omega
      have hl := prods_lim (V.1.gr (show 0 < 2 by omega) hb) (V.1.gr (show 1 < 2 by omega) hb) (V.1.2.2.1 0 _ (by omega) hb) (V.1.2.2.1 1 _ (by omega) hb)
      exact (FP.Core.notNaN_iff _).mp (kap_num _ (by omega) (by omega))
  · rw [if_neg c] at e
    exact absurd e (by decide)
def LOD (F : Fr) (h : Nat) (w : Wd) (s : St) (c : Int) (d : UInt64) (p : Int32 × Wd) : Prop := p.1 = zI c ∧ (c = 0 → aD p.2 (h + 688) 0 = d) ∧ CSt F p.2 h s ∧ Kp (WK h) w p.2
section LAWF
variable {F : Fr} {N L : Nat} {xs : Nat → Int32} {w : Wd} {h i j zp zn : Nat} {s : St} {k28 : Nat → Wd → Nat → Nat → Nat → Nat → Int32 → Option Unit}
theorem lod_put (A : LF F h) (C : CSt F w h s) (d : UInt64) : Ev ((stD F w (h + 688) 0 d).bind fun w4 => some ((0 : Int32), w4)) (LOD F h w s 0 d) := by
  refine ev_eq (stD_is (i := 0) (v := d) (Int.le_refl _) (by rw [A.2]; decide) (by decide)) (ev_some ⟨rfl, fun _ => ?_, ?_, ?_⟩)
  · dsimp only
    rw [q_aD_sAD, if_pos rfl]
    unfold vf_upd
    exact if_pos rfl
  · exact C.off (S := fun q => q = h + 688) (kp_sAD _ _ rfl) (fun x hx => by omega)
  · exact kp_sAD _ _ (Or.inr (Or.inr rfl))
theorem ag_class (A : LF F h) (C : CStP F w h zp zn s) (V : VSt s) (hN : 40 ≤ N) {t : Int} (ht : I32 t) : Ev (fL_agreement F N w h (zI t) (h + 688)) (LOD F h w s (spAg s t).1 (FP.f2d (spAg s t).2)) := by
  unfold fL_agreement
  rw [c8_agreement C V hN ht, Option.bind_some]
  by_cases c0 : (spAg s t).1 = 0
  · rw [if_pos c0, c0]
    show Ev ((nnD (FP.f2d (spAg s t).2)).bind fun v3 => (stD F w (h + 688) 0 v3).bind fun w4 => some ((0 : Int32), w4)) _
    exact ev_eq (nnD_ok ((FP.Core.notNaN_iff _).mpr (fl_wide (ag_num V c0)))) (lod_put A C.st _)
  · rw [if_neg c0]
    by_cases c1 : (spAg s t).1 = 1
    · rw [if_pos c1, c1]
      exact ev_some ⟨rfl, fun e => absurd e (by decide), C.st, Kp.refl _⟩
    · have c2 : (spAg s t).1 = 2 := by have := ag_code s t; omega
      rw [if_neg c1, c2]
      exact ev_some ⟨rfl, fun e => absurd e (by decide), C.st, Kp.refl _⟩
theorem ka_class (A : LF F h) (C : CStP F w h zp zn s) (V : VSt s) (hN : 40 ≤ N) {t : Int} (ht : I32 t) : Ev (fL_kappa F N w h (zI t) (h + 688)) (LOD F h w s (spKa s t).1 (spKa s t).2) := by
  unfold fL_kappa
  rw [c8_kappa C V hN ht, Option.bind_some]
  by_cases c0 : (spKa s t).1 = 0
  · rw [if_pos c0, c0]
    exact lod_put A C.st _
  · rw [if_neg c0]
    by_cases c1 : (spKa s t).1 = 1
    · rw [if_pos c1, c1]
      exact ev_some ⟨rfl, fun e => absurd e (by decide), C.st, Kp.refl _⟩
    · have c2 : (spKa s t).1 = 2 := by have := ka_code s t; omega
      rw [if_neg c1, c2]
      exact ev_some ⟨rfl, fun e => absurd e (by decide), C.st, Kp.refl _⟩
theorem law_1849 (A : LF F h) (I : Inv F w h s) (hN : 2100 ≤ N) (hL : L ≤ 2560) (hi : i + 5 ≤ L) (hk : ∀ w' s', Inv F w' h s' → k28 (j + 1) w' h (h + 661) (h + 687) (h + 688) (zI i + 5) = some ()) : fL_law_1849 F N L xs k28 j w h (h + 661) (h + 687) (h + 688) (zI i) = some () := by
  obtain ⟨a1, i1, e1⟩ := ldS_1 (xs := xs) hi hL
  have V := I.1
  obtain ⟨zp, zn, C⟩ := I.2.1
  unfold fL_law_1849
  rw [e1]
  simp only [Option.bind_some]
  obtain ⟨p, hp, p1, p2, p3, p4⟩ := ag_class (N := N) A C V (by omega) i1
  rw [hp, Option.bind_some]
  obtain ⟨q, hq, q1, q2, q3, q4⟩ := m_agreement (N := N) (I.2.2.kp p4 (fun x h1 h2 => off_m h1 h2)) V hN i1
  rw [hq, Option.bind_some]
  have fin : k28 (j + 1) q.2 h (h + 661) (h + 687) (h + 688) (zI i + 5) = some () := hk _ _ ⟨V, p3.off q4 (fun x hx => by unfold Rg at hx; omega), q3⟩
  unfold fX9_thrown
  rw [Option.bind_some, q1, p1, if_pos rfl]
  by_cases c0 : (spAg s a1).1 = 0
  · have ed : aD q.2 (h + 688) 0 = FP.f2d (spAg s a1).2 := by
      rw [q4.aD (by unfold Rg; omega)]
      exact p2 c0
    have nn := fl_wide (ag_num V c0)
    rw [if_pos (by rw [c0]; rfl), show ldD F q.2 (h + 688) 0 = some (aD q.2 (h + 688) 0) from ldD_is (i := 0) (Int.le_refl _) (by rw [A.2]; decide) (by decide), Option.bind_some, ed, q2 c0, nnD_ok ((FP.Core.notNaN_iff _).mpr nn), Option.bind_some, if_pos (fl_same nn)]
    exact fin
  · rw [if_neg (by have := ag_code s a1; simp (disch := omega) only [z_0, z_1, z_2, z_3, z_4, z_5, z_6, z_7, z_8, z_9, z_10, z_12, z_13, z_16, z_20, z_24, z_30, z_31, z_32, z_38, z_42, z_44, z_45, z_47, z_48, z_49, z_50, z_57, z_58, z_59, z_60, z_61, z_91, z_97, z_98, z_100, z_108, z_114, z_120, z_122, z_126, z_127, z_128, z_200, z_255, z_961, z_990, z_992, z_998, z_999, z_1000, z_1092, z_1114, z_7798, z_10000, z_1000000, zI_neg, zI_add, zI_sub, zI_mul, zI_lt, zI_le, zI_eq, if_pos, if_neg, if_true, if_false, Option.bind_some, bnd, ldI_is, ldJ_is, Int.toNat_natCast, ]; exact c0)]
    exact fin
theorem law_1927 (A : LF F h) (I : Inv F w h s) (hN : 2100 ≤ N) (hL : L ≤ 2560) (hi : i + 5 ≤ L) (hk : ∀ w' s', Inv F w' h s' → k28 (j + 1) w' h (h + 661) (h + 687) (h + 688) (zI i + 5) = some ()) : fL_law_1927 F N L xs k28 j w h (h + 661) (h + 687) (h + 688) (zI i) = some () := by
  obtain ⟨a1, i1, e1⟩ := ldS_1 (xs := xs) hi hL
  have V := I.1
  obtain ⟨zp, zn, C⟩ := I.2.1
  unfold fL_law_1927
  rw [e1]
  simp only [Option.bind_some]
  obtain ⟨p, hp, p1, p2, p3, p4⟩ := ka_class (N := N) A C V (by omega) i1
  rw [hp, Option.bind_some]
  obtain ⟨q, hq, q1, q2, q3, q4⟩ := m_kappa (N := N) (I.2.2.kp p4 (fun x h1 h2 => off_m h1 h2)) V hN i1
  rw [hq, Option.bind_some]
  have fin : k28 (j + 1) q.2 h (h + 661) (h + 687) (h + 688) (zI i + 5) = some () := hk _ _ ⟨V, p3.off q4 (fun x hx => by unfold Rg at hx; omega), q3⟩
  unfold fX9_thrown
  rw [Option.bind_some, q1, p1, if_pos rfl]
  by_cases c0 : (spKa s a1).1 = 0
  · have ed : aD q.2 (h + 688) 0 = (spKa s a1).2 := by
      rw [q4.aD (by unfold Rg; omega)]
      exact p2 c0
    have nn := ka_num V c0
    rw [if_pos (by rw [c0]; rfl), show ldD F q.2 (h + 688) 0 = some (aD q.2 (h + 688) 0) from ldD_is (i := 0) (Int.le_refl _) (by rw [A.2]; decide) (by decide), Option.bind_some, ed, q2 c0, if_pos (fl_same nn)]
    exact fin
  · rw [if_neg (by have := ka_code s a1; simp (disch := omega) only [z_0, z_1, z_2, z_3, z_4, z_5, z_6, z_7, z_8, z_9, z_10, z_12, z_13, z_16, z_20, z_24, z_30, z_31, z_32, z_38, z_42, z_44, z_45, z_47, z_48, z_49, z_50, z_57, z_58, z_59, z_60, z_61, z_91, z_97, z_98, z_100, z_108, z_114, z_120, z_122, z_126, z_127, z_128, z_200, z_255, z_961, z_990, z_992, z_998, z_999, z_1000, z_1092, z_1114, z_7798, z_10000, z_1000000, zI_neg, zI_add, zI_sub, zI_mul, zI_lt, zI_le, zI_eq, if_pos, if_neg, if_true, if_false, Option.bind_some, bnd, ldI_is, ldJ_is, Int.toNat_natCast, ]; exact c0)]
    exact fin
end LAWF
