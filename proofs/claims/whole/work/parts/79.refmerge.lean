/-! the reference merges -/
def spMerge (s : St) (t q : Int) : Rs :=
  if 0 ≤ t ∧ t < bn (snw s) then
    (if 0 ≤ q ∧ q ≤ 4 then (0, (if q = 0 then zI (rn (mgr (mrgA (brw (snw s) 0 t.toNat) (brw (snw s) 1 t.toNat))) : Nat) else if q = 1 then zI (mgc (mrgA (brw (snw s) 0 t.toNat) (brw (snw s) 1 t.toNat)) : Nat) else if q = 2 then zI (mgd (mrgA (brw (snw s) 0 t.toNat) (brw (snw s) 1 t.toNat)) : Nat) else if q = 3 then zI (sumN (shrS (mrgA (brw (snw s) 0 t.toNat) (brw (snw s) 1 t.toNat))) (rn (mgr (mrgA (brw (snw s) 0 t.toNat) (brw (snw s) 1 t.toNat))))) else zI (fsum (mgr (mrgA (brw (snw s) 0 t.toNat) (brw (snw s) 1 t.toNat))))), s) else (2, 0, s))
  else (1, 0, s)
def spMerged (s : St) (t i q : Int) : Rs :=
  if 0 ≤ t ∧ t < bn (snw s) then
    (if 0 ≤ i ∧ i < rn (mgr (mrgA (brw (snw s) 0 t.toNat) (brw (snw s) 1 t.toNat))) then
      (if 0 ≤ q ∧ q ≤ 3 then (0, (if q = 0 then zI (rf (mgr (mrgA (brw (snw s) 0 t.toNat) (brw (snw s) 1 t.toNat))) i.toNat) else if q = 1 then zI (re (mgr (mrgA (brw (snw s) 0 t.toNat) (brw (snw s) 1 t.toNat))) i.toNat) else if q = 2 then zI (mgs (mrgA (brw (snw s) 0 t.toNat) (brw (snw s) 1 t.toNat)) i.toNat : Nat) else zI ((rl (mgr (mrgA (brw (snw s) 0 t.toNat) (brw (snw s) 1 t.toNat))) i.toNat).length : Nat)), s) else (3, 0, s))
    else (2, 0, s))
  else (1, 0, s)
/-- what has been merged so far stands in the arrays -/
def MM (w : Wd) (z : Nat) (M : Mg) : Prop := gI w 933 z = zI (rn (mgr M) : Nat) ∧ gI w 934 z = zI (mgc M : Nat) ∧ gI w 935 z = zI (mgd M : Nat) ∧ ∀ i, i < rn (mgr M) → aI w (z + 17) i = zI (rf (mgr M) i) ∧ aI w (z + 18) i = zI (re (mgr M) i) ∧ aJ w (z + 19) i = mL (rl (mgr M) i) ∧ aI w (z + 20) i = zI (mgs M i : Nat)
section MRG
variable {F : Fr} {N : Nat} {w : Wd} {z : Nat} {s : St} {k : Bk} {M : Mg} {c : Nat}
theorem shl01 {x : Nat} (hx : x < 2) : (1 : Int32) <<< (zI (x : Nat) &&& 31) = zI (x + 1 : Nat) := by
  rcases (show x = 0 ∨ x = 1 by omega) with h | h
  · subst h; rfl
  · subst h; rfl
theorem g_put (A : CMod F w z) (D : MM w z M) (hn : rn (mgr M) < 60) {f e : Int} {l : List Nat} {x d : Nat} (hx : x < 2) (h934 : gI w 934 z = zI (mgc M + d : Nat)) : ∃ w', fX9_put F N w z (zI f) (zI e) (mL l) (zI (x : Nat)) = some w' ∧ Sc z w w' ∧ gI w' 906 z = gI w 906 z ∧ MM w' z (mpsh M (f, e, l) (x + 1) d) := by
  obtain ⟨d1, d2, d3, d4⟩ := D
  have e0 : ∀ w1 : Wd, CMod F w1 z → gI w1 933 z = zI (rn (mgr M) : Nat) → True := fun _ _ _ => trivial
  unfold fX9_put
  rw [rdR_is A.p929.1 A.p929.2.1]
  simp only [Option.bind_some]
  rw [d1, stI_is (by omega) (by rw [A.p929.2.2]; omega) (by omega), Int.toNat_natCast]
  simp only [Option.bind_some]
  generalize hw1 : sAI w (z + 17) (upd (aI w (z + 17)) (rn (mgr M)) (zI f)) = w1
  have s1 : Sc z w w1 := hw1 ▸ Sc.sAI _ _ ⟨by omega, by omega⟩ (by omega) (by omega) (by omega) (by omega)
  have A1 := A.sc s1.1
  have g1 : ∀ f', gI w1 f' z = gI w f' z := fun f' => by rw [← hw1]; rfl
  rw [rdR_is A1.p930.1 A1.p930.2.1]
  simp only [Option.bind_some]
  rw [g1, d1, stI_is (by omega) (by rw [A1.p930.2.2]; omega) (by omega), Int.toNat_natCast]
  simp only [Option.bind_some]
  generalize hw2 : sAI w1 (z + 18) (upd (aI w1 (z + 18)) (rn (mgr M)) (zI e)) = w2
  have s2 : Sc z w1 w2 := hw2 ▸ Sc.sAI _ _ ⟨by omega, by omega⟩ (by omega) (by omega) (by omega) (by omega)
  have A2 := A1.sc s2.1
  have g2 : ∀ f', gI w2 f' z = gI w f' z := fun f' => by rw [← hw2]; exact g1 f'
  rw [rdR_is A2.p931.1 A2.p931.2.1]
  simp only [Option.bind_some]
  rw [g2, d1, stJ_is (by omega) (by rw [A2.p931.2.2]; omega) (by omega), Int.toNat_natCast]
  simp only [Option.bind_some]
  generalize hw3 : sAJ w2 (z + 19) (vp_updL (aJ w2 (z + 19)) (rn (mgr M)) (mL l)) = w3
  have s3 : Sc z w2 w3 := hw3 ▸ Sc.sAJ _ _ ⟨by omega, by omega⟩ (by omega) (by omega) (by omega) (by omega)
  have A3 := A2.sc s3.1
  have g3 : ∀ f', gI w3 f' z = gI w f' z := fun f' => by rw [← hw3]; exact g2 f'
  rw [rdR_is A3.p932.1 A3.p932.2.1]
  simp only [Option.bind_some]
  rw [g3, d1, stI_is (by omega) (by rw [A3.p932.2.2]; omega) (by omega), Int.toNat_natCast, shl01 hx]
  simp only [Option.bind_some, bnd]
  generalize hw4 : sAI w3 (z + 20) (upd (aI w3 (z + 20)) (rn (mgr M)) (zI (x + 1 : Nat))) = w4
  have s4 : Sc z w3 w4 := hw4 ▸ Sc.sAI _ _ ⟨by omega, by omega⟩ (by omega) (by omega) (by omega) (by omega)
  have g4 : ∀ f', gI w4 f' z = gI w f' z := fun f' => by rw [← hw4]; exact g3 f'
  rw [g4, d1, zI_succ]
  have s5 : Sc z w4 (sI w4 933 z (zI (rn (mgr M) + 1 : Nat))) := Sc.sI _ _ (by unfold KF; omega)
  have v17 : ∀ i, aI w4 (z + 17) i = if i = rn (mgr M) then zI f else aI w (z + 17) i := by
    intro i
    rw [← hw4, q_aI_sAI, if_neg (by omega), ← hw3, q_aI_sAJ, ← hw2, q_aI_sAI, if_neg (by omega), ← hw1, q_aI_sAI, if_pos rfl, upd_is]
  have v18 : ∀ i, aI w4 (z + 18) i = if i = rn (mgr M) then zI e else aI w (z + 18) i := by
    intro i
    rw [← hw4, q_aI_sAI, if_neg (by omega), ← hw3, q_aI_sAJ, ← hw2, q_aI_sAI, if_pos rfl, upd_is, ← hw1, q_aI_sAI, if_neg (c := z + 18 = z + 17) (by omega)]
  have v19 : ∀ i, aJ w4 (z + 19) i = if i = rn (mgr M) then mL l else aJ w (z + 19) i := by
    intro i
    rw [← hw4, q_aJ_sAI, ← hw3, q_aJ_sAJ, if_pos rfl, updL_is, ← hw2, q_aJ_sAI, ← hw1, q_aJ_sAI]
  have v20 : ∀ i, aI w4 (z + 20) i = if i = rn (mgr M) then zI (x + 1 : Nat) else aI w (z + 20) i := by
    intro i
    rw [← hw4, q_aI_sAI, if_pos rfl, upd_is, ← hw3, q_aI_sAJ, ← hw2, q_aI_sAI, if_neg (c := z + 20 = z + 18) (by omega), ← hw1, q_aI_sAI, if_neg (c := z + 20 = z + 17) (by omega)]
  refine ⟨_, rfl, (((s1.trans s2).trans s3).trans s4).trans s5, ?_, gI_same _ _ _ _, ?_, ?_, fun i hi => ?_⟩
  · rw [gI_ne _ (by omega), g4]
  · rw [gI_ne _ (by omega), g4, h934]; rfl
  · rw [gI_ne _ (by omega), g4, d3]; rfl
  · have hi : i < rn (mgr M) + 1 := hi
    show aI w4 (z + 17) i = zI (if i = rn (mgr M) then f else rf (mgr M) i) ∧ aI w4 (z + 18) i = zI (if i = rn (mgr M) then e else re (mgr M) i) ∧ aJ w4 (z + 19) i = mL (if i = rn (mgr M) then l else rl (mgr M) i) ∧ aI w4 (z + 20) i = zI (if i = rn (mgr M) then x + 1 else mgs M i : Nat)
    rw [v17, v18, v19, v20]
    by_cases q : i = rn (mgr M)
    · rw [if_pos q, if_pos q, if_pos q, if_pos q, if_pos q, if_pos q, if_pos q, if_pos q]
      exact ⟨rfl, rfl, rfl, rfl⟩
    · rw [if_neg q, if_neg q, if_neg q, if_neg q, if_neg q, if_neg q, if_neg q, if_neg q]
      exact d4 i (by omega)
theorem g_in (A : CMod F w z) (D : MM w z M) (Gm : GMg M c) (hc : c < 60) {f e : Int} {l : List Nat} {x : Nat} (hx : x < 2) (hf : 0 ≤ f ∧ f ≤ 1000) (he : 0 ≤ e ∧ e ≤ 1000) (hl : VL l) : ∃ w', fX9_mergeIn F N w z (zI f) (zI e) (mL l) (zI (x : Nat)) = some w' ∧ Sc z w w' ∧ gI w' 906 z = gI w 906 z ∧ MM w' z (mput M (f, e, l) (x + 1)) := by
  have hn : rn (mgr M) < 60 := by have := Gm.1; omega
  obtain ⟨d1, d2, d3, d4⟩ := id D
  obtain ⟨w9, p1, p2, p3, p4⟩ := g_put (N := N) (f := f) (e := e) (l := l) A D hn hx (d := 0) d2
  unfold fX9_mergeIn fX9_mergeIn_24 mput
  rw [d1, p1]
  simp only [bnd, Option.bind_some]
  rw [zI_sb1]
  by_cases n0 : 0 < rn (mgr M)
  · have hi : rn (mgr M) - 1 < rn (mgr M) := by omega
    obtain ⟨b1, b2, b3, b4⟩ := d4 _ hi
    obtain ⟨v1, v2, v3, v4⟩ := Gm.2.2.2 _ hi
    rw [if_neg (by simp (disch := omega) only [z_0, z_1, z_2, z_3, z_4, z_5, z_6, z_7, z_8, z_9, z_10, z_12, z_13, z_16, z_20, z_24, z_30, z_31, z_32, z_38, z_42, z_44, z_45, z_47, z_48, z_49, z_50, z_57, z_58, z_59, z_60, z_61, z_91, z_97, z_98, z_100, z_108, z_114, z_120, z_122, z_126, z_127, z_128, z_200, z_255, z_961, z_990, z_992, z_998, z_999, z_1000, z_1092, z_1114, z_7798, z_10000, z_1000000, zI_neg, zI_add, zI_sub, zI_mul, zI_lt, zI_le, zI_eq, if_pos, if_neg, if_true, if_false, Option.bind_some, bnd, ldI_is, ldJ_is, Int.toNat_natCast,  Int.not_lt]; omega), show ((rn (mgr M) : Nat) : Int) - 1 = ((rn (mgr M) - 1 : Nat) : Int) from by omega, rdR_is A.p930.1 A.p930.2.1]
    simp only [Option.bind_some]
    rw [ldI_is (by omega) (by rw [A.p930.2.2]; omega) (by omega), Int.toNat_natCast, b2]
    simp only [Option.bind_some]
    by_cases q1 : f < re (mgr M) (rn (mgr M) - 1)
    · rw [if_pos (by simp (disch := omega) only [z_0, z_1, z_2, z_3, z_4, z_5, z_6, z_7, z_8, z_9, z_10, z_12, z_13, z_16, z_20, z_24, z_30, z_31, z_32, z_38, z_42, z_44, z_45, z_47, z_48, z_49, z_50, z_57, z_58, z_59, z_60, z_61, z_91, z_97, z_98, z_100, z_108, z_114, z_120, z_122, z_126, z_127, z_128, z_200, z_255, z_961, z_990, z_992, z_998, z_999, z_1000, z_1092, z_1114, z_7798, z_10000, z_1000000, zI_neg, zI_add, zI_sub, zI_mul, zI_lt, zI_le, zI_eq, if_pos, if_neg, if_true, if_false, Option.bind_some, bnd, ldI_is, ldJ_is, Int.toNat_natCast, ]; exact q1), if_pos (c := 0 < rn (mgr M) ∧ f < re (mgr M) (rn (mgr M) - 1)) ⟨n0, q1⟩, rdR_is A.p931.1 A.p931.2.1]
      simp only [Option.bind_some]
      rw [ldJ_is (by omega) (by rw [A.p931.2.2]; omega) (by omega), Int.toNat_natCast, b3]
      simp only [Option.bind_some]
      by_cases q2 : rl (mgr M) (rn (mgr M) - 1) = l
      · rw [if_pos (by rw [lg_cmp_eq, q2]), if_pos q2]
        rw [stI_is (by omega) (by rw [A.p930.2.2]; omega) (by omega), Int.toNat_natCast, imax_z (by omega) (by omega) (by omega) (by omega)]
        simp only [Option.bind_some]
        generalize hw1 : sAI w (z + 18) (upd (aI w (z + 18)) (rn (mgr M) - 1) (zI (max (re (mgr M) (rn (mgr M) - 1)) e))) = w1
        have s1 : Sc z w w1 := hw1 ▸ Sc.sAI _ _ ⟨by omega, by omega⟩ (by omega) (by omega) (by omega) (by omega)
        have A1 := A.sc s1.1
        rw [rdR_is A1.p932.1 A1.p932.2.1]
        simp only [Option.bind_some]
        have r20 : aI w1 (z + 20) = aI w (z + 20) := by rw [← hw1, q_aI_sAI, if_neg (by omega)]
        rw [ldI_is (by omega) (by rw [A1.p932.2.2]; omega) (by omega), Int.toNat_natCast, r20, b4]
        simp only [Option.bind_some]
        rw [stI_is (by omega) (by rw [A1.p932.2.2]; omega) (by omega), Int.toNat_natCast, shl01 hx, zI_or]
        have s2 : Sc z w1 (sAI w1 (z + 20) (upd (aI w1 (z + 20)) (rn (mgr M) - 1) (zI (mgs M (rn (mgr M) - 1) ||| (x + 1) : Nat)))) := Sc.sAI _ _ ⟨by omega, by omega⟩ (by omega) (by omega) (by omega) (by omega)
        refine ⟨_, rfl, s1.trans s2, ?_, ?_, ?_, ?_, fun i hi => ?_⟩
        · rw [← hw1]; rfl
        · rw [← hw1]; exact d1
        · rw [← hw1]; exact d2
        · rw [← hw1]; exact d3
        · have hi : i < rn (mgr M) := hi
          obtain ⟨c1, c2, c3, c4⟩ := d4 i hi
          have o17 : aI (sAI w1 (z + 20) (upd (aI w1 (z + 20)) (rn (mgr M) - 1) (zI (mgs M (rn (mgr M) - 1) ||| (x + 1) : Nat)))) (z + 17) = aI w (z + 17) := by rw [q_aI_sAI, if_neg (by omega), ← hw1, q_aI_sAI, if_neg (by omega)]
          have o18 : aI (sAI w1 (z + 20) (upd (aI w1 (z + 20)) (rn (mgr M) - 1) (zI (mgs M (rn (mgr M) - 1) ||| (x + 1) : Nat)))) (z + 18) i = if i = rn (mgr M) - 1 then zI (max (re (mgr M) (rn (mgr M) - 1)) e) else aI w (z + 18) i := by rw [q_aI_sAI, if_neg (by omega), ← hw1, q_aI_sAI, if_pos rfl, upd_is]
          have o19 : aJ (sAI w1 (z + 20) (upd (aI w1 (z + 20)) (rn (mgr M) - 1) (zI (mgs M (rn (mgr M) - 1) ||| (x + 1) : Nat)))) (z + 19) = aJ w (z + 19) := by rw [q_aJ_sAI, ← hw1, q_aJ_sAI]
          have o20 : aI (sAI w1 (z + 20) (upd (aI w1 (z + 20)) (rn (mgr M) - 1) (zI (mgs M (rn (mgr M) - 1) ||| (x + 1) : Nat)))) (z + 20) i = if i = rn (mgr M) - 1 then zI (mgs M (rn (mgr M) - 1) ||| (x + 1) : Nat) else aI w (z + 20) i := by rw [q_aI_sAI, if_pos rfl, upd_is, r20]
          show _ = zI (if i = rn (mgr M) - 1 then rf (mgr M) (rn (mgr M) - 1) else rf (mgr M) i) ∧ _ = zI (if i = rn (mgr M) - 1 then max (re (mgr M) (rn (mgr M) - 1)) e else re (mgr M) i) ∧ _ = mL (rl (mgr M) i) ∧ _ = zI (if i = rn (mgr M) - 1 then mgs M (rn (mgr M) - 1) ||| (x + 1) else mgs M i : Nat)
          rw [o17, o18, o19, o20, c1, c2, c3, c4]
          by_cases y : i = rn (mgr M) - 1
          · rw [if_pos y, if_pos y, if_pos y, if_pos y, if_pos y, y]
            exact ⟨rfl, rfl, rfl, rfl⟩
          · rw [if_neg y, if_neg y, if_neg y, if_neg y, if_neg y]
            exact ⟨rfl, rfl, rfl, rfl⟩
      · rw [if_neg (by rw [lg_cmp_eq, mL_inj v3 hl]; exact q2), if_neg q2, d2, zI_succ]
        have A1 : CMod F (sI w 934 z (zI (mgc M + 1 : Nat))) z := A
        have s1 : Sc z w (sI w 934 z (zI (mgc M + 1 : Nat))) := Sc.sI _ _ (by unfold KF; omega)
        rw [rdR_is A1.p930.1 A1.p930.2.1]
        simp only [Option.bind_some]
        rw [ldI_is (by omega) (by rw [A1.p930.2.2]; omega) (by omega), Int.toNat_natCast, q_aI_sI, b2]
        simp only [Option.bind_some]
        by_cases q3 : e ≤ re (mgr M) (rn (mgr M) - 1)
        · rw [if_pos (by simp (disch := omega) only [z_0, z_1, z_2, z_3, z_4, z_5, z_6, z_7, z_8, z_9, z_10, z_12, z_13, z_16, z_20, z_24, z_30, z_31, z_32, z_38, z_42, z_44, z_45, z_47, z_48, z_49, z_50, z_57, z_58, z_59, z_60, z_61, z_91, z_97, z_98, z_100, z_108, z_114, z_120, z_122, z_126, z_127, z_128, z_200, z_255, z_961, z_990, z_992, z_998, z_999, z_1000, z_1092, z_1114, z_7798, z_10000, z_1000000, zI_neg, zI_add, zI_sub, zI_mul, zI_lt, zI_le, zI_eq, if_pos, if_neg, if_true, if_false, Option.bind_some, bnd, ldI_is, ldJ_is, Int.toNat_natCast, ]; exact q3), if_neg (c := re (mgr M) (rn (mgr M) - 1) < e) (by omega), gI_ne _ (by omega), d3, zI_succ]
          refine ⟨_, rfl, s1.trans (Sc.sI _ _ (by unfold KF; omega)), ?_, ?_, ?_, gI_same _ _ _ _, d4⟩
          · rw [gI_ne _ (by omega), gI_ne _ (by omega)]
          · rw [gI_ne _ (by omega), gI_ne _ (by omega)]; exact d1
          · rw [gI_ne _ (by omega), gI_same]; rfl
        · rw [if_neg (by simp (disch := omega) only [z_0, z_1, z_2, z_3, z_4, z_5, z_6, z_7, z_8, z_9, z_10, z_12, z_13, z_16, z_20, z_24, z_30, z_31, z_32, z_38, z_42, z_44, z_45, z_47, z_48, z_49, z_50, z_57, z_58, z_59, z_60, z_61, z_91, z_97, z_98, z_100, z_108, z_114, z_120, z_122, z_126, z_127, z_128, z_200, z_255, z_961, z_990, z_992, z_998, z_999, z_1000, z_1092, z_1114, z_7798, z_10000, z_1000000, zI_neg, zI_add, zI_sub, zI_mul, zI_lt, zI_le, zI_eq, if_pos, if_neg, if_true, if_false, Option.bind_some, bnd, ldI_is, ldJ_is, Int.toNat_natCast,  Int.not_le]; omega), if_pos (c := re (mgr M) (rn (mgr M) - 1) < e) (by omega)]
          have D1 : MM (sI w 934 z (zI (mgc M + 1 : Nat))) z (mgr M, mgs M, mgc M + 1, mgd M) := ⟨by rw [gI_ne _ (by omega)]; exact d1, gI_same _ _ _ _, by rw [gI_ne _ (by omega)]; exact d3, d4⟩
          obtain ⟨w8, r1, r2, r3, r4⟩ := g_put (N := N) (M := (mgr M, mgs M, mgc M + 1, mgd M)) (f := re (mgr M) (rn (mgr M) - 1)) (e := e) (l := l) A1 D1 hn hx (d := 0) (gI_same _ _ _ _)
          rw [r1]
          exact ⟨w8, rfl, s1.trans r2, r3.trans (gI_ne _ (by omega)), r4⟩
    · rw [if_neg (by simp (disch := omega) only [z_0, z_1, z_2, z_3, z_4, z_5, z_6, z_7, z_8, z_9, z_10, z_12, z_13, z_16, z_20, z_24, z_30, z_31, z_32, z_38, z_42, z_44, z_45, z_47, z_48, z_49, z_50, z_57, z_58, z_59, z_60, z_61, z_91, z_97, z_98, z_100, z_108, z_114, z_120, z_122, z_126, z_127, z_128, z_200, z_255, z_961, z_990, z_992, z_998, z_999, z_1000, z_1092, z_1114, z_7798, z_10000, z_1000000, zI_neg, zI_add, zI_sub, zI_mul, zI_lt, zI_le, zI_eq, if_pos, if_neg, if_true, if_false, Option.bind_some, bnd, ldI_is, ldJ_is, Int.toNat_natCast, ]; exact q1), if_neg (c := 0 < rn (mgr M) ∧ f < re (mgr M) (rn (mgr M) - 1)) (fun y => q1 y.2)]
      exact ⟨w9, rfl, p2, p3, p4⟩
  · rw [if_pos (by simp (disch := omega) only [z_0, z_1, z_2, z_3, z_4, z_5, z_6, z_7, z_8, z_9, z_10, z_12, z_13, z_16, z_20, z_24, z_30, z_31, z_32, z_38, z_42, z_44, z_45, z_47, z_48, z_49, z_50, z_57, z_58, z_59, z_60, z_61, z_91, z_97, z_98, z_100, z_108, z_114, z_120, z_122, z_126, z_127, z_128, z_200, z_255, z_961, z_990, z_992, z_998, z_999, z_1000, z_1092, z_1114, z_7798, z_10000, z_1000000, zI_neg, zI_add, zI_sub, zI_mul, zI_lt, zI_le, zI_eq, if_pos, if_neg, if_true, if_false, Option.bind_some, bnd, ldI_is, ldJ_is, Int.toNat_natCast, ]; omega), if_neg (c := 0 < rn (mgr M) ∧ f < re (mgr M) (rn (mgr M) - 1)) (fun y => n0 y.1)]
    exact ⟨w9, rfl, p2, p3, p4⟩
theorem g_33 {t : Nat} (ht : t < bn k) (S0 : SRow (brw k 0 t)) (S1 : SRow (brw k 1 t)) : ∀ (m n i j : Nat) (w : Wd) (M : Mg), MS F w z k → MM w z M → GMg M (i + j) → i ≤ rn (brw k 0 t) → j ≤ rn (brw k 1 t) → i + j + n = rn (brw k 0 t) + rn (brw k 1 t) → n < m →
    ∃ w', fX9_mergeTier_33 F N m w z (zI (mo 0 t : Nat)) (zI (mo 1 t : Nat)) (zI (i : Nat)) (zI (j : Nat)) = some w' ∧ Sc z w w' ∧ gI w' 906 z = gI w 906 z ∧ MM w' z (mrg (brw k 0 t) (brw k 1 t) n i j M) ∧ GMg (mrg (brw k 0 t) (brw k 1 t) n i j M) 60 := by
  intro m
  induction m with
  | zero => intro n i j w M _ _ _ _ _ _ h; omega
  | succ m ih =>
    intro n i j w M B D Gm hi hj hn hm
    have l0 := B.lim (show 0 < 2 by omega) ht
    have l1 := B.lim (show 1 < 2 by omega) ht
    have g0 := B.grow (show 0 < 2 by omega) ht
    have g1 := B.grow (show 1 < 2 by omega) ht
    have q0 := B.cnt (show 0 < 2 by omega) ht
    have q1 := B.cnt (show 1 < 2 by omega) ht
    have lt0 := lg_lt (x := (i : Int)) (y := (rn (brw k 0 t) : Int)) (by omega) (by omega) (by omega) (by omega)
    have ge0 := lg_ge (x := (i : Int)) (y := (rn (brw k 0 t) : Int)) (by omega) (by omega) (by omega) (by omega)
    have ge1 := lg_ge (x := (j : Int)) (y := (rn (brw k 1 t) : Int)) (by omega) (by omega) (by omega) (by omega)
    have eq1 := lg_eq (x := (j : Int)) (y := (rn (brw k 1 t) : Int)) (by omega) (by omega) (by omega) (by omega)
    rw [fX9_mergeTier_33, B.r]
    simp only [Option.bind_some]
    rw [q0]
    simp only [Option.bind_some]
    rw [zI_64 (by omega) (by omega), zI_64 (a := (j : Int)) (by omega) (by omega), q1]
    simp only [Option.bind_some]
    cases n with
    | zero =>
      rw [if_neg (by rw [lt0]; omega), if_pos (by rw [ge1]; omega)]
      refine ⟨w, rfl, Sc.refl _ _, rfl, D, ?_⟩
      show GMg M 60
      exact ⟨by have := Gm.1; omega, by have := Gm.2.1; omega, by have := Gm.2.2.1; omega, Gm.2.2.2⟩
    | succ n =>
      have go : ∃ w', fX9_mergeTier_59 F N (fX9_mergeTier_33 F N m) w z (zI (mo 0 t : Nat)) (zI (mo 1 t : Nat)) (zI (i : Nat)) (zI (j : Nat)) = some w' ∧ Sc z w w' ∧ gI w' 906 z = gI w 906 z ∧ MM w' z (mrg (brw k 0 t) (brw k 1 t) (n + 1) i j M) ∧ GMg (mrg (brw k 0 t) (brw k 1 t) (n + 1) i j M) 60 := by
        have ys : i < rn (brw k 0 t) → isB (brw k 0 t) (brw k 1 t) i j = true → ∃ w', fX9_mergeTier_163 F N (fX9_mergeTier_33 F N m) w z (zI (mo 0 t : Nat)) (zI (mo 1 t : Nat)) (zI (i : Nat)) (zI (j : Nat)) (zI (mo 0 t + 1 + 3 * i : Nat)) (zI (mo 1 t + 1 + 3 * j : Nat)) = some w' ∧ Sc z w w' ∧ gI w' 906 z = gI w 906 z ∧ MM w' z (mrg (brw k 0 t) (brw k 1 t) (n + 1) i j M) ∧ GMg (mrg (brw k 0 t) (brw k 1 t) (n + 1) i j M) 60 := by
          intro h1 h2
          have b := g0.2 i h1
          obtain ⟨a1, a2, a3⟩ := B.at (show 0 < 2 by omega) ht h1
          obtain ⟨w1, r1, r2, r3, r4⟩ := g_in (N := N) (f := rf (brw k 0 t) i) (e := re (brw k 0 t) i) (l := rl (brw k 0 t) i) (x := 0) B.1 D Gm (by omega) (by omega) (by omega) (by omega) b.2.2.2.2
          obtain ⟨w2, t1, t2, t3, t4⟩ := ih n (i + 1) j w1 (mput M (rs (brw k 0 t) i) 1) ⟨B.1.sc r2.1, r2.2.2.1.1 ▸ B.2.1, B.g, B.2.2.2⟩ r4 (by
            have := Gm.put (s := rs (brw k 0 t) i) (x := 1) (by show 0 ≤ rf _ i ∧ rf _ i ≤ 1000; omega) (by show 0 ≤ re _ i ∧ re _ i ≤ 1000; omega) b.2.2.2.2 (by omega)
            rw [show i + 1 + j = i + j + 1 from by omega]; exact this) (by omega) hj (by omega) (by omega)
          have em : mrg (brw k 0 t) (brw k 1 t) (n + 1) i j M = mrg (brw k 0 t) (brw k 1 t) n (i + 1) j (mput M (rs (brw k 0 t) i) 1) := by
            show (if isB (brw k 0 t) (brw k 1 t) i j = true then _ else _) = _
            rw [if_pos h2]
          rw [em]
          refine ⟨w2, ?_, r2.trans t2, t3.trans r3, t4⟩
          unfold fX9_mergeTier_163 fX9_mergeTier_168 fX9_mergeTier_182 fX9_mergeTier_222 fX9_mergeTier_237 fX9_mergeTier_252
          rw [if_neg (by decide), B.r]
          simp only [Option.bind_some]
          rw [a1, z_1, zI_add, show ((mo 0 t + 1 + 3 * i : Nat) : Int) + 1 = ((mo 0 t + 2 + 3 * i : Nat) : Int) from by omega, a2, z_2, zI_add, show ((mo 0 t + 1 + 3 * i : Nat) : Int) + 2 = ((mo 0 t + 3 + 3 * i : Nat) : Int) from by omega, a3]
          simp only [Option.bind_some]
          rw [if_neg (by decide), zJ_32, zJ_32, show fX9_mergeIn F N w z (zI (rf (brw k 0 t) i)) (zI (re (brw k 0 t) i)) (mL (rl (brw k 0 t) i)) 0 = _ from r1]
          simp only [Option.bind_some, bnd]
          rw [if_neg (by decide), if_neg (by decide), zI_add, show (i : Int) + 1 = ((i + 1 : Nat) : Int) from by omega, show zI (j : Nat) + 0 = zI (j : Nat) from by rw [z_0, zI_add, Int.add_zero]]
          exact t1
        have no : j < rn (brw k 1 t) → isB (brw k 0 t) (brw k 1 t) i j = false → ∃ w', fX9_mergeTier_167 F N (fX9_mergeTier_33 F N m) w z (zI (mo 0 t : Nat)) (zI (mo 1 t : Nat)) (zI (i : Nat)) (zI (j : Nat)) (zI (mo 0 t + 1 + 3 * i : Nat)) (zI (mo 1 t + 1 + 3 * j : Nat)) = some w' ∧ Sc z w w' ∧ gI w' 906 z = gI w 906 z ∧ MM w' z (mrg (brw k 0 t) (brw k 1 t) (n + 1) i j M) ∧ GMg (mrg (brw k 0 t) (brw k 1 t) (n + 1) i j M) 60 := by
          intro h1 h2
          have b := g1.2 j h1
          obtain ⟨a1, a2, a3⟩ := B.at (show 1 < 2 by omega) ht h1
          obtain ⟨w1, r1, r2, r3, r4⟩ := g_in (N := N) (f := rf (brw k 1 t) j) (e := re (brw k 1 t) j) (l := rl (brw k 1 t) j) (x := 1) B.1 D Gm (by omega) (by omega) (by omega) (by omega) b.2.2.2.2
          obtain ⟨w2, t1, t2, t3, t4⟩ := ih n i (j + 1) w1 (mput M (rs (brw k 1 t) j) 2) ⟨B.1.sc r2.1, r2.2.2.1.1 ▸ B.2.1, B.g, B.2.2.2⟩ r4 (by
            have := Gm.put (s := rs (brw k 1 t) j) (x := 2) (by show 0 ≤ rf _ j ∧ rf _ j ≤ 1000; omega) (by show 0 ≤ re _ j ∧ re _ j ≤ 1000; omega) b.2.2.2.2 (by omega)
            rw [show i + (j + 1) = i + j + 1 from by omega]; exact this) hi (by omega) (by omega) (by omega)
          have em : mrg (brw k 0 t) (brw k 1 t) (n + 1) i j M = mrg (brw k 0 t) (brw k 1 t) n i (j + 1) (mput M (rs (brw k 1 t) j) 2) := by
            show (if isB (brw k 0 t) (brw k 1 t) i j = true then _ else _) = _
            rw [h2, if_neg (by decide)]
          rw [em]
          refine ⟨w2, ?_, r2.trans t2, t3.trans r3, t4⟩
          unfold fX9_mergeTier_167 fX9_mergeTier_168 fX9_mergeTier_182 fX9_mergeTier_222 fX9_mergeTier_237 fX9_mergeTier_252
          rw [if_pos rfl, B.r]
          simp only [Option.bind_some]
          rw [a1, z_1, zI_add, show ((mo 1 t + 1 + 3 * j : Nat) : Int) + 1 = ((mo 1 t + 2 + 3 * j : Nat) : Int) from by omega, a2, z_2, zI_add, show ((mo 1 t + 1 + 3 * j : Nat) : Int) + 2 = ((mo 1 t + 3 + 3 * j : Nat) : Int) from by omega, a3]
          simp only [Option.bind_some]
          rw [if_pos (by first | rfl | trivial), zJ_32, zJ_32, show fX9_mergeIn F N w z (zI (rf (brw k 1 t) j)) (zI (re (brw k 1 t) j)) (mL (rl (brw k 1 t) j)) (zI 1) = _ from r1]
          simp only [Option.bind_some, bnd]
          rw [if_pos (by first | rfl | trivial), if_pos (by first | rfl | trivial), zI_add, show (j : Int) + 1 = ((j + 1 : Nat) : Int) from by omega, show zI (i : Nat) + 0 = zI (i : Nat) from by rw [z_0, zI_add, Int.add_zero]]
          exact t1
        unfold fX9_mergeTier_59
        simp only [bnd]
        rw [B.r]
        simp only [Option.bind_some]
        rw [q1, q0]
        simp only [Option.bind_some]
        simp only [z_1, z_3, zI_add, zI_mul]
        rw [show ((mo 0 t : Nat) : Int) + 1 + 3 * (i : Int) = ((mo 0 t + 1 + 3 * i : Nat) : Int) from by omega, show ((mo 1 t : Nat) : Int) + 1 + 3 * (j : Int) = ((mo 1 t + 1 + 3 * j : Nat) : Int) from by omega]
        rw [zI_64 (by omega) (by omega), zI_64 (a := (i : Int)) (by omega) (by omega)]
        by_cases c1 : j = rn (brw k 1 t)
        · rw [if_pos (by rw [eq1]; omega)]
          refine ys (by omega) ?_
          unfold isB
          rw [if_pos (by omega)]
          exact decide_eq_true (by omega)
        · rw [if_neg (by rw [eq1]; omega)]
          by_cases c2 : rn (brw k 0 t) ≤ i
          · rw [if_pos (by rw [ge0]; omega)]
            refine no (by omega) ?_
            unfold isB
            rw [if_pos (by omega)]
            exact decide_eq_false (by omega)
          · rw [if_neg (by rw [ge0]; omega)]
            have hi2 : i < rn (brw k 0 t) := by omega
            have hj2 : j < rn (brw k 1 t) := by omega
            obtain ⟨a1, a2, a3⟩ := B.at (show 0 < 2 by omega) ht hi2
            obtain ⟨b1, b2, b3⟩ := B.at (show 1 < 2 by omega) ht hj2
            have u := g0.2 i hi2
            have v := g1.2 j hj2
            rw [a1, b1]
            simp only [Option.bind_some]
            have k1 := lg_lt (x := rf (brw k 0 t) i) (y := rf (brw k 1 t) j) (by omega) (by omega) (by omega) (by omega)
            have k2 := lg_eq (x := rf (brw k 0 t) i) (y := rf (brw k 1 t) j) (by omega) (by omega) (by omega) (by omega)
            have k3 := lg_gt (x := re (brw k 0 t) i) (y := re (brw k 1 t) j) (by omega) (by omega) (by omega) (by omega)
            have ib : isB (brw k 0 t) (brw k 1 t) i j = if rf (brw k 0 t) i = rf (brw k 1 t) j then decide (re (brw k 0 t) i ≤ re (brw k 1 t) j) else decide (rf (brw k 0 t) i < rf (brw k 1 t) j) := by
              unfold isB
              rw [if_neg (by omega)]
            by_cases x1 : rf (brw k 0 t) i < rf (brw k 1 t) j
            · rw [if_pos (by rw [k1]; exact x1)]
              exact ys hi2 (by rw [ib, if_neg (by omega)]; exact decide_eq_true x1)
            · rw [if_neg (by rw [k1]; exact x1)]
              by_cases x2 : rf (brw k 0 t) i = rf (brw k 1 t) j
              · rw [if_pos (by rw [k2]; exact x2)]
                rw [show ((mo 0 t + 1 + 3 * i : Nat) : Int) + 1 = ((mo 0 t + 2 + 3 * i : Nat) : Int) from by omega, show ((mo 1 t + 1 + 3 * j : Nat) : Int) + 1 = ((mo 1 t + 2 + 3 * j : Nat) : Int) from by omega, a2, b2]
                simp only [Option.bind_some]
                by_cases x3 : re (brw k 1 t) j < re (brw k 0 t) i
                · rw [if_pos (by rw [k3]; exact x3)]
                  exact no hj2 (by rw [ib, if_pos x2]; exact decide_eq_false (by omega))
                · rw [if_neg (by rw [k3]; exact x3)]
                  exact ys hi2 (by rw [ib, if_pos x2]; exact decide_eq_true (by omega))
              · rw [if_neg (by rw [k2]; exact x2)]
                exact no hj2 (by rw [ib, if_neg x2]; exact decide_eq_false x1)
      by_cases c1 : i < rn (brw k 0 t)
      · rw [if_pos (by rw [lt0]; omega)]; exact go
      · rw [if_neg (by rw [lt0]; omega), if_neg (by rw [ge1]; omega)]; exact go
end MRG
