/-! the reference changes books -/
theorem z_999b : (999 : Int32) = zI 999 := rfl
def rfw (w : Wd) (z : Nat) (a b : Int) : Wd := sI (sI w 912 z (zI a)) 913 z (zI b)
def spAddSpan (s : St) (t f e : Int) : Rs :=
  if 0 ≤ t ∧ t < bn (snw s) then
    (if labK (stx s) (bkd (snw s) t.toNat) 0 ≠ [] ∧ tn (stx s) ≤ (labK (stx s) (bkd (snw s) t.toNat) 0).length then
      (if (rsn (snw s) t.toNat f e).1 = 0 then (0, zI (insP (brw (snw s) (ban (snw s)) t.toNat) f : Nat), psh (settx s (emT (stx s))) (insK (snw s) t.toNat f e (labK (stx s) (bkd (snw s) t.toNat) 0)))
      else (3, 0, setrf (settx s (emT (stx s))) (rsn (snw s) t.toNat f e).1 (rsn (snw s) t.toNat f e).2))
    else (2, 0, setbd (settx s (emT (stx s))) (labK (stx s) (bkd (snw s) t.toNat) 0).length))
  else (1, 0, s)
def spRename (s : St) (t i : Int) : Rs :=
  if 0 ≤ t ∧ t < bn (snw s) ∧ 0 ≤ i ∧ i < rn (brw (snw s) (ban (snw s)) t.toNat) then
    (if labK (stx s) (bkd (snw s) t.toNat) 0 ≠ [] ∧ tn (stx s) ≤ (labK (stx s) (bkd (snw s) t.toNat) 0).length then
      (0, (if rl (brw (snw s) (ban (snw s)) t.toNat) i.toNat = labK (stx s) (bkd (snw s) t.toNat) 0 then 0 else 1), psh (settx s (emT (stx s))) (bset (snw s) (ban (snw s)) t.toNat (setL (brw (snw s) (ban (snw s)) t.toNat) i.toNat (labK (stx s) (bkd (snw s) t.toNat) 0))))
    else (2, 0, setbd (settx s (emT (stx s))) (labK (stx s) (bkd (snw s) t.toNat) 0).length))
  else (1, 0, s)
def mvR (r : Rw) (i : Nat) (f e : Int) : Rw := insR (delR r i) (insP (delR r i) f) (f, e, rl r i)
def spMove (s : St) (t i f e : Int) : Rs :=
  if 0 ≤ t ∧ t < bn (snw s) ∧ 0 ≤ i ∧ i < rn (brw (snw s) (ban (snw s)) t.toNat) then
    (if (tryR (snw s) t.toNat i f e).1 = 0 then
      (if ber (bset (snw s) (ban (snw s)) t.toNat (mvR (brw (snw s) (ban (snw s)) t.toNat) i.toNat f e)) t.toNat = -1 then
        (0, zI (insP (delR (brw (snw s) (ban (snw s)) t.toNat) i.toNat) f : Nat), psh s (bset (snw s) (ban (snw s)) t.toNat (mvR (brw (snw s) (ban (snw s)) t.toNat) i.toNat f e)))
      else (2, 0, setrf s 4 (ber (bset (snw s) (ban (snw s)) t.toNat (mvR (brw (snw s) (ban (snw s)) t.toNat) i.toNat f e)) t.toNat)))
    else (2, 0, setrf s (tryR (snw s) t.toNat i f e).1 (tryR (snw s) t.toNat i f e).2))
  else (1, 0, s)
section CHG
variable {F : Fr} {N : Nat} {w : Wd} {z : Nat} {s : St} {k : Bk}
theorem m_ref0 (b : Int32) : fX9_isRefused F N w z 0 b = some (0, w) := by
  unfold fX9_isRefused fX9_isRefused_14
  rw [if_pos (by decide), if_pos (by decide)]
theorem m_refp {a b : Int} (ha : 0 < a ∧ a ≤ 5) : fX9_isRefused F N w z (zI a) (zI b) = some (1, rfw w z a b) := by
  have e : ¬ zI a ≤ 0 := by simp (disch := omega) only [z_0, z_1, z_2, z_3, z_4, z_5, z_6, z_7, z_8, z_9, z_10, z_12, z_13, z_16, z_20, z_24, z_30, z_31, z_32, z_38, z_42, z_44, z_45, z_47, z_48, z_49, z_50, z_57, z_58, z_59, z_60, z_61, z_91, z_97, z_98, z_100, z_108, z_114, z_120, z_122, z_126, z_127, z_128, z_200, z_255, z_961, z_990, z_992, z_998, z_999, z_1000, z_1092, z_1114, z_7798, z_10000, z_1000000, zI_neg, zI_add, zI_sub, zI_mul, zI_lt, zI_le, zI_eq, if_pos, if_neg, if_true, if_false, Option.bind_some, bnd, ldI_is, ldJ_is, Int.toNat_natCast,  Int.not_le]; omega
  unfold fX9_isRefused fX9_isRefused_14
  rw [if_neg e]
  simp only [bnd]
  rw [if_neg e]
  rfl
theorem m_areFrames {f e : Int} (hf : I32 f) (he : I32 e) : fX9_areFrames F N w (zI f) (zI e) = some (if f < 0 ∨ 1000 < e ∨ e ≤ f then 0 else 1) := by
  unfold fX9_areFrames
  rw [z_0, z_1, z_999b, z_1000, m_in hf (by omega) (by omega), m_in he (by omega) (by omega)]
  simp only [Option.bind_some]
  by_cases c : f < 0 ∨ 1000 < e ∨ e ≤ f
  · rw [if_pos c]
    by_cases c1 : 0 ≤ f ∧ f ≤ 999
    · rw [if_pos c1, if_neg (by decide)]
      by_cases c2 : 1 ≤ e ∧ e ≤ 1000
      · rw [if_pos c2, if_neg (by decide), if_pos (by simp (disch := omega) only [z_0, z_1, z_2, z_3, z_4, z_5, z_6, z_7, z_8, z_9, z_10, z_12, z_13, z_16, z_20, z_24, z_30, z_31, z_32, z_38, z_42, z_44, z_45, z_47, z_48, z_49, z_50, z_57, z_58, z_59, z_60, z_61, z_91, z_97, z_98, z_100, z_108, z_114, z_120, z_122, z_126, z_127, z_128, z_200, z_255, z_961, z_990, z_992, z_998, z_999, z_1000, z_1092, z_1114, z_7798, z_10000, z_1000000, zI_neg, zI_add, zI_sub, zI_mul, zI_lt, zI_le, zI_eq, if_pos, if_neg, if_true, if_false, Option.bind_some, bnd, ldI_is, ldJ_is, Int.toNat_natCast, ]; omega)]
      · rw [if_neg c2, if_pos (by rfl)]
    · rw [if_neg c1, if_pos (by rfl)]
  · rw [if_neg c, if_pos (c := 0 ≤ f ∧ f ≤ 999) (by omega), if_neg (by decide), if_pos (c := 1 ≤ e ∧ e ≤ 1000) (by omega), if_neg (by decide), if_neg (by simp (disch := omega) only [z_0, z_1, z_2, z_3, z_4, z_5, z_6, z_7, z_8, z_9, z_10, z_12, z_13, z_16, z_20, z_24, z_30, z_31, z_32, z_38, z_42, z_44, z_45, z_47, z_48, z_49, z_50, z_57, z_58, z_59, z_60, z_61, z_91, z_97, z_98, z_100, z_108, z_114, z_120, z_122, z_126, z_127, z_128, z_200, z_255, z_961, z_990, z_992, z_998, z_999, z_1000, z_1092, z_1114, z_7798, z_10000, z_1000000, zI_neg, zI_add, zI_sub, zI_mul, zI_lt, zI_le, zI_eq, if_pos, if_neg, if_true, if_false, Option.bind_some, bnd, ldI_is, ldJ_is, Int.toNat_natCast,  Int.not_le]; omega)]
theorem m_areRefused (B : MS F w z k) (hN : 40 ≤ N) {t : Nat} (ht : t < bn k) {x f e : Int} (hx : -1 ≤ x ∧ x ≤ 100) (hf : I32 f) (he : I32 e) :
    fX9_areRefused F N w z (zI t) (zI x) (zI f) (zI e) = some (if (tryR k t x f e).1 = 0 then (0, w) else (1, rfw w z (tryR k t x f e).1 (tryR k t x f e).2)) := by
  have hl := fnd_lim (metP (brw k (ban k) t) f e x) (rn (brw k (ban k) t)) 0
  have h30 := B.lim B.g.2.1 ht
  unfold fX9_areRefused fX9_areRefused_59 tryR
  rw [m_areFrames hf he]
  simp only [Option.bind_some]
  by_cases c : f < 0 ∨ 1000 < e ∨ e ≤ f
  · rw [if_pos c, if_pos c, if_pos (by rfl)]
    rw [show fX9_isRefused F N w z 1 0 = _ from m_refp (a := 1) (b := 0) (by omega)]
    simp only [Option.bind_some]
    rw [ckZ1]
    rfl
  · rw [if_neg c, if_neg c, if_neg (by decide), m_inTheWay B hN ht (by omega) (by omega) hx]
    simp only [Option.bind_some]
    by_cases c2 : fnd (metP (brw k (ban k) t) f e x) (rn (brw k (ban k) t)) 0 < 0
    · rw [if_pos c2, if_pos (by simp (disch := omega) only [z_0, z_1, z_2, z_3, z_4, z_5, z_6, z_7, z_8, z_9, z_10, z_12, z_13, z_16, z_20, z_24, z_30, z_31, z_32, z_38, z_42, z_44, z_45, z_47, z_48, z_49, z_50, z_57, z_58, z_59, z_60, z_61, z_91, z_97, z_98, z_100, z_108, z_114, z_120, z_122, z_126, z_127, z_128, z_200, z_255, z_961, z_990, z_992, z_998, z_999, z_1000, z_1092, z_1114, z_7798, z_10000, z_1000000, zI_neg, zI_add, zI_sub, zI_mul, zI_lt, zI_le, zI_eq, if_pos, if_neg, if_true, if_false, Option.bind_some, bnd, ldI_is, ldJ_is, Int.toNat_natCast, ]; omega), m_lacksHost B hN ht (by omega) (by omega)]
      simp only [Option.bind_some]
      by_cases c3 : lack k (ban k) t f e = true
      · rw [if_pos c3, if_pos c3, if_neg (by decide)]
        rw [show fX9_isRefused F N w z 3 0 = _ from m_refp (a := 3) (b := 0) (by omega)]
        simp only [Option.bind_some]
        rw [ckZ1]
        rfl
      · rw [if_neg c3, if_neg c3, if_pos (by rfl)]
        rw [m_ref0]
        simp only [Option.bind_some]
        rw [ckZ0]
        rfl
    · rw [if_neg c2, if_neg (by simp (disch := omega) only [z_0, z_1, z_2, z_3, z_4, z_5, z_6, z_7, z_8, z_9, z_10, z_12, z_13, z_16, z_20, z_24, z_30, z_31, z_32, z_38, z_42, z_44, z_45, z_47, z_48, z_49, z_50, z_57, z_58, z_59, z_60, z_61, z_91, z_97, z_98, z_100, z_108, z_114, z_120, z_122, z_126, z_127, z_128, z_200, z_255, z_961, z_990, z_992, z_998, z_999, z_1000, z_1092, z_1114, z_7798, z_10000, z_1000000, zI_neg, zI_add, zI_sub, zI_mul, zI_lt, zI_le, zI_eq, if_pos, if_neg, if_true, if_false, Option.bind_some, bnd, ldI_is, ldJ_is, Int.toNat_natCast,  Int.not_lt]; omega)]
      rw [show (2 : Int32) = zI 2 from rfl, m_refp (by omega)]
      simp only [Option.bind_some]
      rw [ckZ1]
      rfl
theorem m_add_no (B : MS F w z k) (K : OKB k) (hN : 40 ≤ N) {t : Nat} (ht : t < bn k) {f e : Int} (hf : I32 f) (he : I32 e) {l : Int64} (hr : ¬ (rsn k t f e).1 = 0) :
    fX9_add F N w z (zI t) (zI f) (zI e) l = some (zI (-1), rfw w z (rsn k t f e).1 (rsn k t f e).2) := by
  have h30 := B.lim B.g.2.1 ht
  unfold fX9_add fX9_add_27
  rw [show (-1 : Int32) = zI (-1) from rfl, m_areRefused B hN ht (by omega) hf he]
  simp only [Option.bind_some]
  by_cases c : (tryR k t (-1) f e).1 = 0
  · by_cases d : rn (brw k (ban k) t) = 30
    · have er : rsn k t f e = (5, 0) := by unfold rsn; rw [if_pos c, if_pos d]
      rw [er, if_pos c, if_pos (by rfl), m_many B ht]
      simp only [Option.bind_some]
      rw [if_pos (by rw [d]; rfl), show fX9_isRefused F N w z 5 0 = _ from m_refp (a := 5) (b := 0) (by omega)]
      simp only [Option.bind_some]
      rw [if_neg (by decide)]
    · have er : rsn k t f e = (0, 0) := by unfold rsn; rw [if_pos c, if_neg d]
      rw [er] at hr; exact absurd rfl hr
  · have er : rsn k t f e = tryR k t (-1) f e := by unfold rsn; rw [if_neg c]
    rw [er, if_neg c, if_neg (show ¬ (1 : Int32) = 0 by decide)]
theorem m_add_ok (B : MS F w z k) (K : OKB k) (hN : 40 ≤ N) {t : Nat} (ht : t < bn k) {f e : Int} (hf : I32 f) (he : I32 e) (l : List Nat) (hr : (rsn k t f e).1 = 0) :
    ∃ g, fX9_add F N w z (zI t) (zI f) (zI e) (mL l) = some (zI (insP (brw k (ban k) t) f : Nat), sAJ w (z + 1) g) ∧ MBook g (insK k t f e l) := by
  have h30 := B.lim B.g.2.1 ht
  have hs := K.2.2.1 _ _ B.g.2.1 ht
  obtain ⟨c, d⟩ := rsn_ok hr
  obtain ⟨h3, h4, h5⟩ := tryR_ok c
  unfold fX9_add fX9_add_27
  rw [show (-1 : Int32) = zI (-1) from rfl, m_areRefused B hN ht (by omega) hf he]
  simp only [Option.bind_some]
  rw [if_pos c, if_pos (by rfl), m_many B ht]
  simp only [Option.bind_some]
  rw [if_neg (by simp (disch := omega) only [z_0, z_1, z_2, z_3, z_4, z_5, z_6, z_7, z_8, z_9, z_10, z_12, z_13, z_16, z_20, z_24, z_30, z_31, z_32, z_38, z_42, z_44, z_45, z_47, z_48, z_49, z_50, z_57, z_58, z_59, z_60, z_61, z_91, z_97, z_98, z_100, z_108, z_114, z_120, z_122, z_126, z_127, z_128, z_200, z_255, z_961, z_990, z_992, z_998, z_999, z_1000, z_1092, z_1114, z_7798, z_10000, z_1000000, zI_neg, zI_add, zI_sub, zI_mul, zI_lt, zI_le, zI_eq, if_pos, if_neg, if_true, if_false, Option.bind_some, bnd, ldI_is, ldJ_is, Int.toNat_natCast, ]; omega), m_ref0]
  simp only [Option.bind_some]
  rw [if_pos (by trivial)]
  obtain ⟨p, g, e1, e2, e3⟩ := m_putIn B hN ht (by omega) (f := f) (e := e) (by omega) (by omega) l (fun j hj => by
    have a := met_iff.mp (h4 j hj)
    have b := hs.1 j hj
    omega) (fun i j hi hj => by have := hs.mono hi hj; omega)
  have ep : p = insP (brw k (ban k) t) f := e2.uniq (insP_is hs f)
  subst ep
  rw [e1]
  exact ⟨g, rfl, e3⟩
theorem kp_rfw (w : Wd) (z : Nat) (a b : Int) : Kp (Rg z 26) w (rfw w z a b) := (kp_f _ _ _ _).trans (kp_f _ _ _ _)
theorem rfw_ne (w : Wd) (z : Nat) (a b : Int) {f : Nat} (h1 : ¬ f = 912) (h2 : ¬ f = 913) : gI (rfw w z a b) f z = gI w f z := by unfold rfw; rw [gI_ne _ h2, gI_ne _ h1]
theorem endS_bad {p : Nat} {b : Bool} (h : b = true ∨ p < tn (stx s)) : endS s p b = setbd (settx s (emT (stx s))) p := if_pos h
theorem endS_ok {p : Nat} {b : Bool} (h : ¬ (b = true ∨ p < tn (stx s))) : endS s p b = settx s (emT (stx s)) := if_neg h
theorem m_addSpan (h : MSt F w z s) (V : VSt s) (hN : 40 ≤ N) {t f e : Int} (ht : I32 t) (hf : I32 f) (he : I32 e) : Ev (fX9_addSpan F N w z (zI t) (zI f) (zI e)) (MO F z w (spAddSpan s t f e)) := by
  have B := h.ms V
  unfold fX9_addSpan spAddSpan
  refine ev_eq (m_isTier B ht) ?_
  by_cases c : 0 ≤ t ∧ t < bn (snw s)
  · rw [if_pos c, if_pos c]
    refine ev_neg (by decide) ?_
    obtain ⟨t', rfl⟩ := Int.eq_ofNat_of_zero_le c.1
    have hb : t' < bn (snw s) := by omega
    have hk := (B.g.2.2.2.2 t' hb).1
    rw [Int.toNat_natCast]
    unfold fX9_addSpan_14
    refine ev_bnd (ev_pos (by rw [gI_same]; decide) (ev_eq r_begin ?_))
    have h1 := h.thr 0
    have T := V.2.2.2.2.1
    have B1 : MS F (rdw (sI w 906 z 0) z 0 false) z (snw s) := B
    refine ev_eq (m_kind B1 hb) (ev_eq (r_label h1 T hN (Nat.zero_le _) hk) ?_)
    have hlim := labK_lim (kd := bkd (snw s) t') T (Nat.zero_le (tn (stx s)))
    obtain ⟨w2, e1, e2, e3, e4, -⟩ := r_end (N := N) (b := decide (labK (stx s) (bkd (snw s) t') 0 = [])) h1 T hlim.1
    refine ev_eq e1 ?_
    rw [Nat.zero_add] at *
    by_cases d : labK (stx s) (bkd (snw s) t') 0 ≠ [] ∧ tn (stx s) ≤ (labK (stx s) (bkd (snw s) t') 0).length
    · have nd : ¬ (decide (labK (stx s) (bkd (snw s) t') 0 = []) = true ∨ (labK (stx s) (bkd (snw s) t') 0).length < tn (stx s)) := by
        rw [decide_eq_true_eq]
        intro x
        rcases x with x | x
        · exact d.1 x
        · omega
      rw [if_pos d, if_neg nd]
      refine ev_pos (by rfl) ?_
      rw [endS_ok nd] at e2
      have V2 : VSt (settx s (emT (stx s))) := ⟨V.1, V.2.1, V.2.2.1, V.2.2.2.1, ⟨Nat.zero_le _, fun i hi => absurd hi (Nat.not_lt_zero _)⟩, V.2.2.2.2.2⟩
      obtain ⟨g2, k1, k2, k3, k4⟩ := e2.keepS (N := N) V2
      refine ev_eq k1 ?_
      have hv := hlim.2 d.1
      have B2 : MS F (sAJ w2 (z + 2) g2) z (snw s) := ⟨k2.1, k2.2.1, V.1.1, V.1.2.1⟩
      by_cases r0 : (rsn (snw s) t' f e).1 = 0
      · rw [if_pos r0]
        obtain ⟨g3, a1, a2⟩ := m_add_ok B2 V.1 hN hb hf he (labK (stx s) (bkd (snw s) t') 0) r0
        have hip := insP_is (V.1.2.2.1 _ _ B.g.2.1 hb) f
        have h30 := B.lim B.g.2.1 hb
        have hip1 := hip.1
        refine ev_eq a1 (ev_pos (by simp (disch := omega) only [z_0, z_1, z_2, z_3, z_4, z_5, z_6, z_7, z_8, z_9, z_10, z_12, z_13, z_16, z_20, z_24, z_30, z_31, z_32, z_38, z_42, z_44, z_45, z_47, z_48, z_49, z_50, z_57, z_58, z_59, z_60, z_61, z_91, z_97, z_98, z_100, z_108, z_114, z_120, z_122, z_126, z_127, z_128, z_200, z_255, z_961, z_990, z_992, z_998, z_999, z_1000, z_1092, z_1114, z_7798, z_10000, z_1000000, zI_neg, zI_add, zI_sub, zI_mul, zI_lt, zI_le, zI_eq, if_pos, if_neg, if_true, if_false, Option.bind_some, bnd, ldI_is, ldJ_is, Int.toNat_natCast, ]; omega) ?_)
        have m3 := k2.setnow a2
        have m4 : MBook (aJ (sAJ (sAJ w2 (z + 2) g2) (z + 1) g3) (z + 2)) (snw s) := by
          rw [q_aJ_sAJ, if_neg (by omega)]; exact k3
        obtain ⟨w4, c1, c2, c3, c4⟩ := m3.change (N := N) m4 V.1.1 V.1.2.1 V.past V.2.2.2.1
        refine ev_eq c1 (ev_some ⟨c4.trans (e4.trans (gI_same _ _ _ _)), fun _ => rfl, c2, ((((kp_thr _ _ _).trans e3).trans k4).trans (kp_now _ _ _)).trans c3⟩)
      · rw [if_neg r0]
        refine ev_eq (m_add_no B2 V.1 hN hb hf he r0) (ev_neg (show ¬ (0 : Int32) ≤ zI (-1) by decide) (ev_bnd (ev_some ⟨gI_same _ _ _ _, fun x => absurd x (show ¬ (3 : Int) = 0 by decide), (k2.fref).thr _, (((kp_thr _ _ _).trans e3).trans k4).trans ((kp_rfw _ _ _ _).trans (kp_thr _ _ _))⟩)))
    · have nd : (decide (labK (stx s) (bkd (snw s) t') 0 = []) = true ∨ (labK (stx s) (bkd (snw s) t') 0).length < tn (stx s)) := by
        rw [decide_eq_true_eq]
        by_cases x : labK (stx s) (bkd (snw s) t') 0 = []
        · exact Or.inl x
        · refine Or.inr ?_
          by_cases y : tn (stx s) ≤ (labK (stx s) (bkd (snw s) t') 0).length
          · exact absurd ⟨x, y⟩ d
          · omega
      rw [if_neg d, if_pos nd]
      rw [endS_bad nd] at e2
      exact ev_neg (show ¬ (1 : Int32) = 0 by decide) (ev_bnd (ev_some ⟨gI_same _ _ _ _, fun x => absurd x (show ¬ (2 : Int) = 0 by decide), e2.thr _, ((kp_thr _ _ _).trans e3).trans (kp_thr _ _ _)⟩))
  · rw [if_neg c, if_neg c]
    refine ev_pos (by rfl) ?_
    unfold fX9_addSpan_14
    exact ev_bnd (ev_neg (by rw [gI_same]; decide) (ev_some (mo_err h (by omega) rfl)))
theorem setL_row {g : Nat → Int64} {o : Nat} {r : Rw} (h : MRow g o r) {i : Nat} (hi : i < rn r) (l : List Nat) : MRow (vp_updL g (o + 3 + 3 * i) (mL l)) o (setL r i l) := by
  refine MRow.of ?_ fun j hj => ?_
  · rw [updL_is, if_neg (by omega)]; exact h.1
  · have hj : j < rn r := hj
    rw [rs_setL]
    have := h.raw hj
    unfold mraw menc rs at this
    simp only [Prod.mk.injEq] at this
    obtain ⟨a1, a2, a3⟩ := this
    unfold mraw menc
    rw [updL_is, updL_is, updL_is, if_neg (by omega), if_neg (by omega), a1, a2]
    by_cases c : j = i
    · rw [if_pos (by omega), if_pos c]
    · rw [if_neg (by omega), if_neg c, a3]
      rfl
theorem setE_row {g : Nat → Int64} {o : Nat} {r : Rw} (h : MRow g o r) {i : Nat} (hi : i < rn r) (e : Int) : MRow (vp_updL g (o + 2 + 3 * i) (zJ e)) o (setR r i (rf r i) e) := by
  refine MRow.of ?_ fun j hj => ?_
  · rw [updL_is, if_neg (by omega)]; exact h.1
  · have hj : j < rn r := hj
    rw [rs_setR]
    have := h.raw hj
    unfold mraw menc rs at this
    simp only [Prod.mk.injEq] at this
    obtain ⟨a1, a2, a3⟩ := this
    unfold mraw menc
    rw [updL_is, updL_is, updL_is, if_neg (c := o + 1 + 3 * j = o + 2 + 3 * i) (by omega), if_neg (c := o + 3 + 3 * j = o + 2 + 3 * i) (by omega), a1, a3]
    by_cases c : j = i
    · rw [if_pos (by omega), if_pos c, c]
    · rw [if_neg (by omega), if_neg c, a2]
      rfl
theorem m_rename (h : MSt F w z s) (V : VSt s) (hN : 40 ≤ N) {t i : Int} (ht : I32 t) (hi : I32 i) : Ev (fX9_rename F N w z (zI t) (zI i)) (MO F z w (spRename s t i)) := by
  have B := h.ms V
  unfold fX9_rename spRename
  refine ev_eq (m_isSpan B ht hi) ?_
  by_cases c : 0 ≤ t ∧ t < bn (snw s) ∧ 0 ≤ i ∧ i < rn (brw (snw s) (ban (snw s)) t.toNat)
  · rw [if_pos c, if_pos c]
    refine ev_neg (by decide) ?_
    obtain ⟨t', rfl⟩ := Int.eq_ofNat_of_zero_le c.1
    obtain ⟨i', rfl⟩ := Int.eq_ofNat_of_zero_le c.2.2.1
    have hb : t' < bn (snw s) := by omega
    have hi' : i' < rn (brw (snw s) (ban (snw s)) t') := by have := c.2.2.2; rw [Int.toNat_natCast] at this; omega
    have hk := (B.g.2.2.2.2 t' hb).1
    have hn := B.g.1
    have hx := B.g.2.1
    have h30 := B.lim hx hb
    rw [Int.toNat_natCast, Int.toNat_natCast]
    unfold fX9_rename_15
    refine ev_bnd (ev_pos (by rw [gI_same]; decide) (ev_eq r_begin ?_))
    have h1 := h.thr 0
    have T := V.2.2.2.2.1
    have B1 : MS F (rdw (sI w 906 z 0) z 0 false) z (snw s) := B
    refine ev_eq (m_kind B1 hb) (ev_eq (r_label h1 T hN (Nat.zero_le _) hk) ?_)
    have hlim := labK_lim (kd := bkd (snw s) t') T (Nat.zero_le (tn (stx s)))
    obtain ⟨w2, e1, e2, e3, e4, -⟩ := r_end (N := N) (b := decide (labK (stx s) (bkd (snw s) t') 0 = [])) h1 T hlim.1
    refine ev_eq e1 ?_
    rw [Nat.zero_add] at *
    by_cases d : labK (stx s) (bkd (snw s) t') 0 ≠ [] ∧ tn (stx s) ≤ (labK (stx s) (bkd (snw s) t') 0).length
    · have nd : ¬ (decide (labK (stx s) (bkd (snw s) t') 0 = []) = true ∨ (labK (stx s) (bkd (snw s) t') 0).length < tn (stx s)) := by
        rw [decide_eq_true_eq]
        intro x
        rcases x with x | x
        · exact d.1 x
        · omega
      rw [if_pos d, if_neg nd]
      refine ev_pos (by rfl) ?_
      rw [endS_ok nd] at e2
      have V2 : VSt (settx s (emT (stx s))) := ⟨V.1, V.2.1, V.2.2.1, V.2.2.2.1, ⟨Nat.zero_le _, fun i hi => absurd hi (Nat.not_lt_zero _)⟩, V.2.2.2.2.2⟩
      obtain ⟨w4, c1, c2, c3, c4⟩ := m_changes (N := N) e2 V2
      have hv := hlim.2 d.1
      have hvi := ((B.grow hx hb).2 i' hi').2.2.2.2
      have B2 : MS F w4 z (snw s) := ⟨c2.1, c2.2.1, V.1.1, V.1.2.1⟩
      have hm := mo_lim hx (show t' < 6 by omega)
      refine ev_eq c1 (ev_eq (m_label B2 hb hi') ?_)
      have go : ∀ x : Int32, Ev (fX9_rename_75 F N w4 z (zI t') (zI i') (mL (labK (stx s) (bkd (snw s) t') 0)) x) fun y => (y.1 = if x = 0 then 0 else 1) ∧ MSt F y.2 z (psh (settx s (emT (stx s))) (bset (snw s) (ban (snw s)) t' (setL (brw (snw s) (ban (snw s)) t') i' (labK (stx s) (bkd (snw s) t') 0)))) ∧ Kp (Rg z 26) w4 y.2 ∧ gI y.2 906 z = gI w4 906 z := by
        intro x
        unfold fX9_rename_75
        refine ev_eq B2.r (ev_eq (m_at B2 t' i') ?_)
        rw [z_2, zI_add, show ((mo (ban (snw s)) t' + 1 + 3 * i' : Nat) : Int) + 2 = ((mo (ban (snw s)) t' + 3 + 3 * i' : Nat) : Int) from by omega]
        refine ev_eq (c2.stj (by omega) (by omega)) ?_
        have m3 := c2.setnow (B2.2.1.put hn V.1.2.1 hx hb (g' := vp_updL (aJ w4 (z + 1)) (mo (ban (snw s)) t' + 3 + 3 * i') (mL (labK (stx s) (bkd (snw s) t') 0))) (fun j hj => by rw [updL_is, if_neg (by omega)]) (setL_row (B2.row hx hb) hi' (labK (stx s) (bkd (snw s) t') 0)))
        rw [Int.toNat_natCast]
        by_cases x0 : x = 0
        · exact ev_pos x0 (ev_some ⟨by rw [if_pos x0], m3, kp_now _ _ _, rfl⟩)
        · exact ev_neg x0 (ev_some ⟨by rw [if_neg x0], m3, kp_now _ _ _, rfl⟩)
      by_cases x : rl (brw (snw s) (ban (snw s)) t') i' = labK (stx s) (bkd (snw s) t') 0
      · refine ev_pos (by rw [lg_cmp_eq, x]) (ev_mono (go 0) fun y ⟨y1, y2, y3, y4⟩ => ⟨y4.trans (c4.trans (e4.trans (gI_same _ _ _ _))), fun _ => ?_, y2, (((kp_thr _ _ _).trans e3).trans c3).trans y3⟩)
        rw [y1, if_pos rfl, if_pos x]
      · refine ev_neg (by rw [lg_cmp_eq, mL_inj hvi hv]; exact x) (ev_mono (go 1) fun y ⟨y1, y2, y3, y4⟩ => ⟨y4.trans (c4.trans (e4.trans (gI_same _ _ _ _))), fun _ => ?_, y2, (((kp_thr _ _ _).trans e3).trans c3).trans y3⟩)
        rw [y1, if_neg (by decide), if_neg x]
    · have nd : (decide (labK (stx s) (bkd (snw s) t') 0 = []) = true ∨ (labK (stx s) (bkd (snw s) t') 0).length < tn (stx s)) := by
        rw [decide_eq_true_eq]
        by_cases x : labK (stx s) (bkd (snw s) t') 0 = []
        · exact Or.inl x
        · refine Or.inr ?_
          by_cases y : tn (stx s) ≤ (labK (stx s) (bkd (snw s) t') 0).length
          · exact absurd ⟨x, y⟩ d
          · omega
      rw [if_neg d, if_pos nd]
      rw [endS_bad nd] at e2
      exact ev_neg (show ¬ (1 : Int32) = 0 by decide) (ev_bnd (ev_some ⟨gI_same _ _ _ _, fun x => absurd x (show ¬ (2 : Int) = 0 by decide), e2.thr _, ((kp_thr _ _ _).trans e3).trans (kp_thr _ _ _)⟩))
  · rw [if_neg c, if_neg c]
    refine ev_pos (by rfl) ?_
    unfold fX9_rename_15
    exact ev_bnd (ev_neg (by rw [gI_same]; decide) (ev_some (mo_err h (by omega) rfl)))
end CHG
