/-! the reference joins and splits -/
section CHG
variable {F : Fr} {N : Nat} {w : Wd} {z : Nat} {s : St} {k : Bk}
theorem MBook.setE {g : Nat → Int64} (M : MBook g k) (G : GBook k) (h30 : H30 k) {t i : Nat} (ht : t < bn k) (hi : i < rn (brw k (ban k) t)) (e : Int) : MBook (vp_updL g (mo (ban k) t + 2 + 3 * i) (zJ e)) (bset k (ban k) t (setR (brw k (ban k) t) i (rf (brw k (ban k) t) i) e)) := by
  have h9 := h30 _ _ G.2.1 ht
  exact M.put G.1 h30 G.2.1 ht (fun j hj => by rw [updL_is, if_neg (by omega)]) (setE_row (M.2.1 _ _ G.2.1 ht) hi e)
theorem m_join (h : MSt F w z s) (V : VSt s) (hN : 40 ≤ N) {t i : Int} (ht : I32 t) (hi : I32 i) : Ev (fX9_join F N w z (zI t) (zI i)) (MO F z w (spJoin s t i)) := by
  have B := h.ms V
  unfold fX9_join spJoin
  refine ev_eq (m_isSpan B ht hi) ?_
  by_cases c : 0 ≤ t ∧ t < bn (snw s) ∧ 0 ≤ i ∧ i < rn (brw (snw s) (ban (snw s)) t.toNat)
  · rw [if_pos c, if_pos c]
    refine ev_neg (by decide) ?_
    obtain ⟨t', rfl⟩ := Int.eq_ofNat_of_zero_le c.1
    obtain ⟨i', rfl⟩ := Int.eq_ofNat_of_zero_le c.2.2.1
    have hb : t' < bn (snw s) := by omega
    have hi' : i' < rn (brw (snw s) (ban (snw s)) t') := by have := c.2.2.2; rw [Int.toNat_natCast] at this; omega
    have hn := B.g.1
    have hx := B.g.2.1
    have h30 := B.lim hx hb
    have b1 := (B.grow hx hb).2 i' hi'
    rw [Int.toNat_natCast, Int.toNat_natCast]
    unfold fX9_join_15
    have B1 : MS F (sI w 906 z 0) z (snw s) := B
    have h1 := h.thr 0
    refine ev_bnd (ev_pos (by rw [gI_same]; decide) (ev_eq (m_first B1 hb hi') (ev_eq (m_many B1 hb) ?_)))
    have er : ∀ q : Int, 0 < q ∧ q ≤ 5 → ∀ x : Int32, Ev (fX9_join_96 F N (sI w 906 z 0) z (zI t') (zI i') x (zI q)) (MO F z w (2, 0, setrf s q 0)) := by
      intro q hq x
      unfold fX9_join_96 fX9_join_114
      refine ev_eq (m_refp (b := 0) hq) (ev_neg (show ¬ (1 : Int32) = 0 by decide) (ev_bnd (ev_neg (by rw [gI_same]; decide) (ev_some ⟨gI_same _ _ _ _, fun x => absurd x (show ¬ (2 : Int) = 0 by decide), (h1.fref).thr _, ((kp_thr _ _ _).trans (kp_rfw _ _ _ _)).trans (kp_thr _ _ _)⟩))))
    rw [zI_sb1]
    unfold fX9_join_50 fX9_join_69
    by_cases d : i' + 1 = rn (brw (snw s) (ban (snw s)) t')
    · rw [if_pos d]
      exact ev_pos (by rw [← d]; congr 1; omega) (ev_neg (by decide) (ev_neg (by decide) (er 1 (by omega) 0)))
    · have hi2 : i' + 1 < rn (brw (snw s) (ban (snw s)) t') := by omega
      have b2 := (B.grow hx hb).2 (i' + 1) hi2
      rw [if_neg d]
      refine ev_neg (by simp (disch := omega) only [z_0, z_1, z_2, z_3, z_4, z_5, z_6, z_7, z_8, z_9, z_10, z_12, z_13, z_16, z_20, z_24, z_30, z_31, z_32, z_38, z_42, z_44, z_45, z_47, z_48, z_49, z_50, z_57, z_58, z_59, z_60, z_61, z_91, z_97, z_98, z_100, z_108, z_114, z_120, z_122, z_126, z_127, z_128, z_200, z_255, z_961, z_990, z_992, z_998, z_999, z_1000, z_1092, z_1114, z_7798, z_10000, z_1000000, zI_neg, zI_add, zI_sub, zI_mul, zI_lt, zI_le, zI_eq, if_pos, if_neg, if_true, if_false, Option.bind_some, bnd, ldI_is, ldJ_is, Int.toNat_natCast, ]; omega) (ev_pos rfl ?_)
      rw [zI_succ]
      refine ev_eq (m_end B1 hb hi2) (ev_pos rfl (ev_eq (m_lacksHost B1 hN hb (by omega) (by omega)) ?_))
      by_cases l : lack (snw s) (ban (snw s)) t' (rf (brw (snw s) (ban (snw s)) t') i') (re (brw (snw s) (ban (snw s)) t') (i' + 1)) = true
      · rw [if_pos l, if_pos l]
        exact ev_neg (by decide) (er 3 (by omega) _)
      · rw [if_neg l, if_neg l]
        refine ev_pos (by rfl) ?_
        have l0 : lack (snw s) (ban (snw s)) t' (rf (brw (snw s) (ban (snw s)) t') i') (re (brw (snw s) (ban (snw s)) t') (i' + 1)) = false := by simpa using l
        have R := uniR_ok V.1 hb hi2 (lack_iff.mp l0)
        unfold fX9_join_96 fX9_join_114
        refine ev_eq (m_ref0 0) (ev_pos rfl (ev_bnd (ev_pos (by rw [gI_same]; decide) ?_)))
        have h2 : MSt F (sI (sI w 906 z 0) 906 z 0) z s := h1.thr 0
        obtain ⟨g2, k1, k2, k3, k4⟩ := h2.keepS (N := N) V
        refine ev_eq k1 ?_
        have B2 : MS F (sAJ (sI (sI w 906 z 0) 906 z 0) (z + 2) g2) z (snw s) := ⟨k2.1, k2.2.1, V.1.1, V.1.2.1⟩
        rw [zI_succ]
        obtain ⟨g3, a1, a2⟩ := m_takeOut (N := N) B2 hb hi2
        refine ev_eq a1 (ev_eq (o_r B2.1) ?_)
        have k5 := k2.setnow a2
        have R1 := (V.1.row hb).del hi2
        have e30 : rn (delR (brw (snw s) (ban (snw s)) t') (i' + 1)) = rn (brw (snw s) (ban (snw s)) t') - 1 := rfl
        have es := brw_same (snw s) (ban (snw s)) t' (delR (brw (snw s) (ban (snw s)) t') (i' + 1))
        have B3 : MS F (sAJ (sAJ (sI (sI w 906 z 0) 906 z 0) (z + 2) g2) (z + 1) g3) z (bset (snw s) (ban (snw s)) t' (delR (brw (snw s) (ban (snw s)) t') (i' + 1))) := ⟨k5.1, k5.2.1, V.1.1.set R1.1, V.1.2.1.set (by omega)⟩
        refine ev_eq (m_at B3 t' i') ?_
        have hm := mo_lim hx (show t' < 6 by omega)
        rw [show ban (bset (snw s) (ban (snw s)) t' (delR (brw (snw s) (ban (snw s)) t') (i' + 1))) = ban (snw s) from rfl, z_1, zI_add, show ((mo (ban (snw s)) t' + 1 + 3 * i' : Nat) : Int) + 1 = ((mo (ban (snw s)) t' + 2 + 3 * i' : Nat) : Int) from by omega, zI_64 (by omega) (by omega)]
        refine ev_eq (o_st B2.1 (by omega) (by omega) _) ?_
        rw [Int.toNat_natCast]
        have M5 := MBook.setE (t := t') (i := i') a2 (V.1.1.set R1.1) (V.1.2.1.set (by omega)) hb (by
          show i' < rn (brw (bset (snw s) (ban (snw s)) t' (delR (brw (snw s) (ban (snw s)) t') (i' + 1))) (ban (snw s)) t')
          rw [es]; omega) (re (brw (snw s) (ban (snw s)) t') (i' + 1))
        rw [show brw (bset (snw s) (ban (snw s)) t' (delR (brw (snw s) (ban (snw s)) t') (i' + 1))) (ban (bset (snw s) (ban (snw s)) t' (delR (brw (snw s) (ban (snw s)) t') (i' + 1)))) t' = delR (brw (snw s) (ban (snw s)) t') (i' + 1) from es] at M5
        rw [show rf (delR (brw (snw s) (ban (snw s)) t') (i' + 1)) i' = rf (brw (snw s) (ban (snw s)) t') i' from if_pos (by omega), delset] at M5
        rw [show bset (bset (snw s) (ban (snw s)) t' (delR (brw (snw s) (ban (snw s)) t') (i' + 1))) (ban (bset (snw s) (ban (snw s)) t' (delR (brw (snw s) (ban (snw s)) t') (i' + 1)))) t' (delR (setR (brw (snw s) (ban (snw s)) t') i' (rf (brw (snw s) (ban (snw s)) t') i') (re (brw (snw s) (ban (snw s)) t') (i' + 1))) (i' + 1)) = bset (snw s) (ban (snw s)) t' (uniR (brw (snw s) (ban (snw s)) t') i') from bset_bset _ _ _ _ _] at M5
        have k6 := k2.setnow M5
        have M : MBook (aJ (sAJ (sAJ (sI (sI w 906 z 0) 906 z 0) (z + 2) g2) (z + 1) (vp_updL g3 (mo (ban (snw s)) t' + 2 + 3 * i') (zJ (re (brw (snw s) (ban (snw s)) t') (i' + 1))))) (z + 2)) (snw s) := by
          rw [q_aJ_sAJ, if_neg (by omega)]; exact k3
        obtain ⟨s1, s2⟩ := m_stays k6 V.1 hb rfl R (by show rn (brw (snw s) (ban (snw s)) t') - 1 ≤ 30; omega) M hN
        have kk : Kp (Rg z 26) w (sAJ (sAJ (sI (sI w 906 z 0) 906 z 0) (z + 2) g2) (z + 1) (vp_updL g3 (mo (ban (snw s)) t' + 2 + 3 * i') (zJ (re (brw (snw s) (ban (snw s)) t') (i' + 1))))) := (((kp_thr _ _ _).trans (kp_thr _ _ _)).trans k4).trans (kp_now _ _ _)
        by_cases q : ber (bset (snw s) (ban (snw s)) t' (uniR (brw (snw s) (ban (snw s)) t') i')) t' = -1
        · rw [if_pos q]
          refine ev_eq (s1 q) (ev_neg (show ¬ (1 : Int32) = 0 by decide) ?_)
          obtain ⟨w4, c1, c2, c3, c4⟩ := k6.change (N := N) M V.1.1 V.1.2.1 V.past V.2.2.2.1
          have OK1 := V.1.set hb R.1 (by show rn (brw (snw s) (ban (snw s)) t') - 1 ≤ 30; omega) R.2.1 R.2.2 q
          have B4 : MS F w4 z (bset (snw s) (ban (snw s)) t' (uniR (brw (snw s) (ban (snw s)) t') i')) := ⟨c2.1, c2.2.1, OK1.1, OK1.2.1⟩
          refine ev_eq c1 (ev_eq (m_many B4 (t := t') hb) (ev_some ⟨c4.trans (gI_same _ _ _ _), fun _ => ?_, c2, kk.trans c3⟩))
          show zI (rn (brw (bset (snw s) (ban (snw s)) t' (uniR (brw (snw s) (ban (snw s)) t') i')) (ban (snw s)) t') : Nat) = _
          rw [brw_same]
          rfl
        · rw [if_neg q]
          obtain ⟨w4, c1, c2, c3, c4⟩ := s2 q
          exact ev_eq c1 (ev_pos rfl (ev_some ⟨c4, fun x => absurd x (show ¬ (2 : Int) = 0 by decide), c2, kk.trans c3⟩))
  · rw [if_neg c, if_neg c]
    refine ev_pos (by rfl) ?_
    unfold fX9_join_15
    exact ev_bnd (ev_neg (by rw [gI_same]; decide) (ev_some (mo_err h (by omega) rfl)))
end CHG
