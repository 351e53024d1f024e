/-! the reference reads a pattern -/
def RT (w : Wd) (z j : Nat) (e : Nat × List Nat) : Prop := aI w (z + 12) j = zI (e.1 : Nat) ∧ aJ w (z + 13) j = mL e.2
def Wp (z m : Nat) (w w' : Wd) : Prop := Sc z w w' ∧ gI w' 906 z = gI w 906 z ∧ (∀ j, ¬ j = m → aI w' (z + 12) j = aI w (z + 12) j) ∧ (∀ j, ¬ j = m → aJ w' (z + 13) j = aJ w (z + 13) j) ∧ aI w' (z + 14) = aI w (z + 14)
theorem Wp.refl (z m : Nat) (w : Wd) : Wp z m w w := ⟨Sc.refl _ _, rfl, fun _ _ => rfl, fun _ _ => rfl, rfl⟩
theorem Wp.trans {z m : Nat} {u v w : Wd} (h : Wp z m u v) (k : Wp z m v w) : Wp z m u w := by
  obtain ⟨h1, h2, h3, h4, h5⟩ := h
  obtain ⟨k1, k2, k3, k4, k5⟩ := k
  exact ⟨h1.trans k1, k2.trans h2, fun j hj => (k3 j hj).trans (h3 j hj), fun j hj => (k4 j hj).trans (h4 j hj), k5.trans h5⟩
theorem Wp.s12 {z m : Nat} (w : Wd) (v : Int32) : Wp z m w (sAI w (z + 12) (upd (aI w (z + 12)) m v)) := by
  refine ⟨Sc.sAI _ _ ⟨by omega, by omega⟩ (by omega) (by omega) (by omega) (by omega), rfl, fun j hj => ?_, fun j _ => rfl, ?_⟩
  · rw [q_aI_sAI, if_pos rfl, upd_is, if_neg hj]
  · rw [q_aI_sAI, if_neg (by omega)]
theorem Wp.s13 {z m : Nat} (w : Wd) (v : Int64) : Wp z m w (sAJ w (z + 13) (vp_updL (aJ w (z + 13)) m v)) := by
  refine ⟨Sc.sAJ _ _ ⟨by omega, by omega⟩ (by omega) (by omega) (by omega) (by omega), rfl, fun j _ => rfl, fun j hj => ?_, rfl⟩
  rw [q_aJ_sAJ, if_pos rfl, updL_is, if_neg hj]
theorem Wp.s924 {z m : Nat} (w : Wd) (v : Int32) : Wp z m w (sI w 924 z v) := ⟨Sc.sI _ _ (by unfold KF; omega), gI_ne _ (by omega), fun j _ => rfl, fun j _ => rfl, rfl⟩
theorem rdw_924 (w : Wd) (z p : Nat) (b : Bool) (v : Int32) : sI (rdw w z p b) 924 z v = rdw (sI w 924 z v) z p b := by
  unfold rdw
  rw [sI_swap _ _ _ _ (by decide), sI_swap w _ _ _ (by decide)]
def mtI (m : Bool) : Int32 := if m = true then 0 else 1
section PATR
variable {F : Fr} {N : Nat} {w : Wd} {z : Nat} {s : St} {k : Bk} {p m : Nat} {b : Bool}
def PP (z m : Nat) (w : Wd) (x : Option Wd) (r : Option (Nat × List Nat) × Nat) : Prop := ∃ w', x = some (rdw w' z r.2 (decide (r.1 = none))) ∧ Wp z m w w' ∧ gI w' 924 z = zI (m + 1 : Nat) ∧ ∀ i, r.1 = some i → RT w' z m i
theorem PP.mono {w0 : Wd} {x : Option Wd} {r : Option (Nat × List Nat) × Nat} (h : PP z m w x r) (k : Wp z m w0 w) : PP z m w0 x r := by
  obtain ⟨w', h1, h2, h3⟩ := h
  exact ⟨w', h1, k.trans h2, h3⟩
theorem p_st13 (h : MSt F w z s) (hm : m < 4) (h4 : gI w 924 z = zI (m : Nat)) (q : Nat) (c : Bool) (v : Int64) : ((stJ F (rdw w z q c) (z + 13) (zI (m : Nat)) v).bind fun w5 => fX9_readPart_89 F N w5 z) = some (rdw (sI (sAJ w (z + 13) (vp_updL (aJ w (z + 13)) m v)) 924 z (zI (m + 1 : Nat))) z q c) := by
  rw [stJ_is (by omega) (by rw [h.1.p922.2.2]; omega) (by omega), Int.toNat_natCast]
  simp only [Option.bind_some]
  unfold fX9_readPart_89
  simp only [bnd]
  rw [show sAJ (rdw w z q c) (z + 13) (vp_updL (aJ (rdw w z q c) (z + 13)) m v) = rdw (sAJ w (z + 13) (vp_updL (aJ w (z + 13)) m v)) z q c from rfl, rdw_ne (by omega) (by omega), rdw_924, show gI (sAJ w (z + 13) (vp_updL (aJ w (z + 13)) m v)) 924 z = gI w 924 z from rfl, h4, zI_succ]
theorem p_60W (h : MSt F w z s) (hN : 40 ≤ N) (hm : m < 4) (h4 : gI w 924 z = zI (m : Nat)) (q : Nat) (x : Int32) : PP z m w (fX9_readPart_60 F N (rdw w z q true) z x) (none, q) := by
  refine ⟨sI (sAJ w (z + 13) (vp_updL (aJ w (z + 13)) m 0)) 924 z (zI (m + 1 : Nat)), ?_, (Wp.s13 w 0).trans (Wp.s924 _ _), gI_same _ _ _ _, fun i hi => by cases hi⟩
  unfold fX9_readPart_60 fX9_readPart_85
  rw [rdR_is (w := rdw w z q true) h.1.p922.1 h.1.p922.2.1]
  simp only [Option.bind_some]
  rw [rdw_910, if_neg (by decide), rdw_ne (by omega) (by omega), h4, show fX9_readLabel F N (rdw w z q true) z 0 = _ from r_labelW hN (kd := 0) (by omega)]
  simp only [Option.bind_some]
  exact p_st13 h hm h4 q true 0
theorem p_60 (h : MSt F w z s) (V : VSt s) (hN : 40 ≤ N) (hm : m < 4) (h4 : gI w 924 z = zI (m : Nat)) (hp : p ≤ tn (stx s)) {t : Nat} (ht : t < bn (snw s)) (e1 : aI w (z + 12) m = zI (t : Nat)) :
    PP z m w (fX9_readPart_60 F N (rdw w z p false) z (zI (t : Nat))) (if labK (stx s) (bkd (snw s) t) p = [] then (none, p) else (some (t, labK (stx s) (bkd (snw s) t) p), p + (labK (stx s) (bkd (snw s) t) p).length)) := by
  have T := V.2.2.2.2.1
  have B : MS F (rdw w z p false) z (snw s) := (h.rd).ms V
  have hk := (B.g.2.2.2.2 t ht).1
  have el := r_label (N := N) (p := p) h T hN hp hk
  have e9 : fX9_readPart_60 F N (rdw w z p false) z (zI (t : Nat)) = some (rdw (sI (sAJ w (z + 13) (vp_updL (aJ w (z + 13)) m (mL (labK (stx s) (bkd (snw s) t) p)))) 924 z (zI (m + 1 : Nat))) z (p + (labK (stx s) (bkd (snw s) t) p).length) (decide (labK (stx s) (bkd (snw s) t) p = []))) := by
    unfold fX9_readPart_60 fX9_readPart_85
    rw [rdR_is (w := rdw w z p false) h.1.p922.1 h.1.p922.2.1]
    simp only [Option.bind_some]
    rw [rdw_910, if_pos (by rfl), m_kind B ht]
    simp only [Option.bind_some]
    rw [el]
    simp only [Option.bind_some]
    rw [rdw_ne (by omega) (by omega), h4]
    exact p_st13 h hm h4 _ _ _
  rw [e9]
  by_cases c : labK (stx s) (bkd (snw s) t) p = []
  · rw [if_pos c, c]
    exact ⟨sI (sAJ w (z + 13) (vp_updL (aJ w (z + 13)) m (mL []))) 924 z (zI (m + 1 : Nat)), rfl, (Wp.s13 w _).trans (Wp.s924 _ _), gI_same _ _ _ _, fun i hi => by cases hi⟩
  · rw [if_neg c, decide_eq_false c]
    refine ⟨sI (sAJ w (z + 13) (vp_updL (aJ w (z + 13)) m (mL (labK (stx s) (bkd (snw s) t) p)))) 924 z (zI (m + 1 : Nat)), rfl, (Wp.s13 w _).trans (Wp.s924 _ _), gI_same _ _ _ _, fun i hi => ?_⟩
    have hi := Option.some.inj hi
    rw [← hi]
    refine ⟨e1, ?_⟩
    rw [q_aJ_sI, aJ_same, updL_is, if_pos rfl]
theorem p_part (h : MSt F w z s) (V : VSt s) (hN : 40 ≤ N) (hm : m < 4) (h4 : gI w 924 z = zI (m : Nat)) (hp : p ≤ tn (stx s)) : PP z m w (fX9_readPart F N (rdw w z p false) z) (prtP (bn (snw s)) (bkd (snw s)) (stx s) p) := by
  have T := V.2.2.2.2.1
  have hT := T.1
  have hn := V.1.1.1
  have st12 : ∀ (v : Int32) (q : Nat) (c : Bool), stI F (rdw w z q c) (z + 12) (zI (m : Nat)) v = some (rdw (sAI w (z + 12) (upd (aI w (z + 12)) m v)) z q c) := by
    intro v q c
    rw [stI_is (by omega) (by rw [h.1.p921.2.2]; omega) (by omega), Int.toNat_natCast]
    rfl
  unfold fX9_readPart prtP
  rw [r_tier h V hp]
  simp only [Option.bind_some]
  by_cases c : 48 ≤ pk (stx s) p ∧ pk (stx s) p < 48 + bn (snw s)
  · have hpk := (pk_lim T p).2.2 (by omega)
    rw [if_pos c, if_pos c, z_61, r_sign h T (by omega) (by omega)]
    simp only [Option.bind_some]
    have k := Wp.s12 (z := z) (m := m) w (zI ((pk (stx s) p - 48).toNat : Nat))
    have h' := h.sc k.1
    have e1 : aI (sAI w (z + 12) (upd (aI w (z + 12)) m (zI ((pk (stx s) p - 48).toNat : Nat)))) (z + 12) m = zI ((pk (stx s) p - 48).toNat : Nat) := sI_aI w z 12 m _
    by_cases d : pk (stx s) (p + 1) = 61
    · have hpk2 := (pk_lim T (p + 1)).2.2 (by omega)
      rw [if_pos d, if_pos d, rdR_is (w := rdw w z (p + 1 + 1) false) h.1.p921.1 h.1.p921.2.1]
      simp only [Option.bind_some]
      rw [rdw_ne (by omega) (by omega), h4, st12]
      simp only [Option.bind_some]
      rw [rdw_910, if_pos (by rfl), r_here h' (by show p + 1 + 1 ≤ 100; omega) T]
      simp only [Option.bind_some]
      have hl := pk_lim T (p + 1 + 1)
      by_cases d2 : pk (stx s) (p + 1 + 1) = 42
      · have hpk3 := (pk_lim T (p + 1 + 1)).2.2 (by omega)
        rw [if_pos d2, if_pos (by rw [d2]; rfl)]
        simp only [bnd]
        rw [rdw_909, zI_succ, rdw_pl, rdR_is (w := rdw (sAI w (z + 12) (upd (aI w (z + 12)) m (zI ((pk (stx s) p - 48).toNat : Nat)))) z (p + 1 + 1 + 1) false) h'.1.p922.1 h'.1.p922.2.1]
        simp only [Option.bind_some]
        rw [rdw_ne (by omega) (by omega), show gI (sAI w (z + 12) (upd (aI w (z + 12)) m (zI ((pk (stx s) p - 48).toNat : Nat)))) 924 z = gI w 924 z from rfl, h4]
        refine PP.mono ⟨sI (sAJ (sAI w (z + 12) (upd (aI w (z + 12)) m (zI ((pk (stx s) p - 48).toNat : Nat)))) (z + 13) (vp_updL (aJ (sAI w (z + 12) (upd (aI w (z + 12)) m (zI ((pk (stx s) p - 48).toNat : Nat)))) (z + 13)) m 0)) 924 z (zI (m + 1 : Nat)), p_st13 h' hm h4 _ _ _, (Wp.s13 _ _).trans (Wp.s924 _ _), gI_same _ _ _ _, fun i hi => ?_⟩ k
        have hi := Option.some.inj hi
        rw [← hi]
        refine ⟨e1, ?_⟩
        rw [q_aJ_sI, aJ_same, updL_is, if_pos rfl]
        rfl
      · rw [if_neg d2, if_neg (by simp (disch := omega) only [z_0, z_1, z_2, z_3, z_4, z_5, z_6, z_7, z_8, z_9, z_10, z_12, z_13, z_16, z_20, z_24, z_30, z_31, z_32, z_38, z_42, z_44, z_45, z_47, z_48, z_49, z_50, z_57, z_58, z_59, z_60, z_61, z_91, z_97, z_98, z_100, z_108, z_114, z_120, z_122, z_126, z_127, z_128, z_200, z_255, z_961, z_990, z_992, z_998, z_999, z_1000, z_1092, z_1114, z_7798, z_10000, z_1000000, zI_neg, zI_add, zI_sub, zI_mul, zI_lt, zI_le, zI_eq, if_pos, if_neg, if_true, if_false, Option.bind_some, bnd, ldI_is, ldJ_is, Int.toNat_natCast, ]; exact d2)]
        exact (p_60 h' V hN hm h4 (by show p + 1 + 1 ≤ tn (stx s); omega) (by omega) e1).mono k
    · rw [if_neg d, if_neg d, rdR_is (w := rdw w z (p + 1) true) h.1.p921.1 h.1.p921.2.1]
      simp only [Option.bind_some]
      rw [rdw_ne (by omega) (by omega), h4, st12]
      simp only [Option.bind_some]
      rw [rdw_910, if_neg (by decide)]
      exact (p_60W h' hN hm h4 (p + 1) _).mono k
  · rw [if_neg c, if_neg c, r_signW]
    simp only [Option.bind_some]
    have k := Wp.s12 (z := z) (m := m) w 0
    rw [rdR_is (w := rdw w z p true) h.1.p921.1 h.1.p921.2.1]
    simp only [Option.bind_some]
    rw [rdw_ne (by omega) (by omega), h4, st12]
    simp only [Option.bind_some]
    rw [rdw_910, if_neg (by decide)]
    exact (p_60W (h.sc k.1) hN hm h4 p _).mono k
/-- parts read so far -/
def RTs (w : Wd) (z : Nat) (kd : Nat → Int) (l : List Pe) : Prop := ∀ j e, l[j]? = some e → RT w z j (e.1, e.2.2.1) ∧ e.2.1 = kd e.1 ∧ (0 < j → aI w (z + 14) j = mtI e.2.2.2)
theorem RTs.snoc {w w' : Wd} {kd : Nat → Int} {l : List Pe} {e : Pe} (h : RTs w z kd l) (k : Wp z l.length w w') (hi : RT w' z l.length (e.1, e.2.2.1)) (hk : e.2.1 = kd e.1) (hm : 0 < l.length → aI w (z + 14) l.length = mtI e.2.2.2) : RTs w' z kd (l ++ [e]) := by
  intro j i' hj
  by_cases c : j < l.length
  · rw [List.getElem?_append_left c] at hj
    obtain ⟨⟨a1, a2⟩, a3, a4⟩ := h j i' hj
    exact ⟨⟨(k.2.2.1 j (by omega)).trans a1, (k.2.2.2.1 j (by omega)).trans a2⟩, a3, fun x => by rw [k.2.2.2.2]; exact a4 x⟩
  · have ej : j = l.length := by
      obtain ⟨hlt, -⟩ := List.getElem?_eq_some_iff.mp hj
      rw [List.length_append, List.length_singleton] at hlt
      omega
    subst ej
    rw [List.getElem?_append_right (Nat.le_refl _), Nat.sub_self] at hj
    have : e = i' := by simpa using hj
    rw [← this]
    exact ⟨hi, hk, fun x => by rw [k.2.2.2.2]; exact hm x⟩
def Fin86 (F : Fr) (N : Nat) (z : Nat) (s : St) (w : Wd) (x : Option (Int32 × Wd)) (acc : List Pe) (r : Option (List Pe) × Nat) : Prop :=
  ∃ w' b, x = fX9_isPatternWrong_86 F N (rdw w' z r.2 b) z ∧ MSt F w' z s ∧ Kp (Rg z 26) w w' ∧ r.2 ≤ tn (stx s) ∧ match r.1 with
    | none => b = true ∨ r.2 < tn (stx s)
    | some l => b = false ∧ tn (stx s) ≤ r.2 ∧ RTs w' z (bkd (snw s)) (acc ++ l) ∧ gI w' 924 z = zI ((acc ++ l).length : Nat) ∧ (acc ++ l).length ≤ 4
theorem Fin86.mono {w0 w : Wd} {x : Option (Int32 × Wd)} {acc : List Pe} {r : Option (List Pe) × Nat} (h : Fin86 F N z s w x acc r) (k : Kp (Rg z 26) w0 w) : Fin86 F N z s w0 x acc r := by
  obtain ⟨w', b, h1, h2, h3, h5⟩ := h
  exact ⟨w', b, h1, h2, k.trans h3, h5⟩
theorem p_13 (V : VSt s) (hN : 40 ≤ N) : ∀ (f : Nat) (acc : List Pe) (e : Pe) (q mm : Nat) (w : Wd), MSt F w z s → q ≤ tn (stx s) → acc.length + 1 + f = 4 → f + 1 < mm → RTs w z (bkd (snw s)) (acc ++ [e]) → gI w 924 z = zI (acc.length + 1 : Nat) →
    Fin86 F N z s w (fX9_isPatternWrong_13 F N mm (rdw w z q false) z) acc (if tn (stx s) ≤ q then (some [e], q)
      else if f = 0 then (none, q)
      else if pk (stx s) q = 38 then (match patP (bn (snw s)) (bkd (snw s)) (stx s) f true (q + 1) with
        | (none, r) => (none, r)
        | (some l, r) => (some (e :: l), r))
      else if pk (stx s) q = 44 then (match patP (bn (snw s)) (bkd (snw s)) (stx s) f false (q + 1) with
        | (none, r) => (none, r)
        | (some l, r) => (some (e :: l), r))
      else (none, q)) := by
  intro f
  induction f with
  | zero =>
    intro acc e q mm w h hq hf hm hI h5
    obtain ⟨mm', rfl⟩ : ∃ mm', mm = mm' + 1 := ⟨mm - 1, by omega⟩
    have e4 : fX9_isPatternWrong_13 F N (mm' + 1) (rdw w z q false) z = fX9_isPatternWrong_86 F N (rdw w z q false) z := by
      rw [fX9_isPatternWrong_13, rdw_910, if_pos (by rfl), rdw_ne (by omega) (by omega), h5, if_pos (by simp (disch := omega) only [z_0, z_1, z_2, z_3, z_4, z_5, z_6, z_7, z_8, z_9, z_10, z_12, z_13, z_16, z_20, z_24, z_30, z_31, z_32, z_38, z_42, z_44, z_45, z_47, z_48, z_49, z_50, z_57, z_58, z_59, z_60, z_61, z_91, z_97, z_98, z_100, z_108, z_114, z_120, z_122, z_126, z_127, z_128, z_200, z_255, z_961, z_990, z_992, z_998, z_999, z_1000, z_1092, z_1114, z_7798, z_10000, z_1000000, zI_neg, zI_add, zI_sub, zI_mul, zI_lt, zI_le, zI_eq, if_pos, if_neg, if_true, if_false, Option.bind_some, bnd, ldI_is, ldJ_is, Int.toNat_natCast, ]; omega)]
    by_cases c : tn (stx s) ≤ q
    · rw [if_pos c]
      exact ⟨w, false, e4, h, Kp.refl _, hq, rfl, c, hI, by rw [List.length_append, List.length_singleton]; exact h5, by rw [List.length_append, List.length_singleton]; omega⟩
    · rw [if_neg c, if_pos rfl]
      exact ⟨w, false, e4, h, Kp.refl _, hq, Or.inr (by show q < tn (stx s); omega)⟩
  | succ f ih =>
    intro acc e q mm w h hq hf hm hI h5
    have T := V.2.2.2.2.1
    have hT := T.1
    have hpk := pk_lim T q
    obtain ⟨mm', rfl⟩ : ∃ mm', mm = mm' + 1 := ⟨mm - 1, by omega⟩
    have go : ∀ mt : Bool, pk (stx s) q = (if mt = true then 38 else 44) → Fin86 F N z s w (fX9_isPatternWrong_46 F N (fX9_isPatternWrong_13 F N mm') (rdw w z q false) z) acc (match patP (bn (snw s)) (bkd (snw s)) (stx s) (f + 1) mt (q + 1) with
        | (none, r) => (none, r)
        | (some l, r) => (some (e :: l), r)) := by
      intro mt hmt
      have hqt : q < tn (stx s) := hpk.2.2 (by rw [hmt]; split <;> decide)
      have e1 : fX9_isPatternWrong_46 F N (fX9_isPatternWrong_13 F N mm') (rdw w z q false) z = (fX9_readPart F N (rdw (sAI w (z + 14) (upd (aI w (z + 14)) (acc.length + 1) (mtI mt))) z (q + 1) false) z).bind fun p12 => fX9_isPatternWrong_13 F N mm' p12 z := by
        unfold fX9_isPatternWrong_46 fX9_isPatternWrong_68
        rw [rdR_is (w := rdw w z q false) h.1.p923.1 h.1.p923.2.1]
        simp only [Option.bind_some]
        rw [r_here h (by omega) T]
        simp only [Option.bind_some]
        rw [rdw_ne (by omega) (by omega), h5, hmt]
        cases mt
        · rw [if_pos (by rfl), stI_is (by omega) (by rw [h.1.p923.2.2]; omega) (by omega), Int.toNat_natCast]
          simp only [Option.bind_some, bnd]
          rw [show sAI (rdw w z q false) (z + 14) (upd (aI (rdw w z q false) (z + 14)) (acc.length + 1) (vp_nar .boolean 1)) = rdw (sAI w (z + 14) (upd (aI w (z + 14)) (acc.length + 1) (mtI false))) z q false from rfl, rdw_909, zI_succ, rdw_pl]
        · rw [if_neg (by decide), stI_is (by omega) (by rw [h.1.p923.2.2]; omega) (by omega), Int.toNat_natCast]
          simp only [Option.bind_some, bnd]
          rw [show sAI (rdw w z q false) (z + 14) (upd (aI (rdw w z q false) (z + 14)) (acc.length + 1) (vp_nar .boolean 0)) = rdw (sAI w (z + 14) (upd (aI w (z + 14)) (acc.length + 1) (mtI true))) z q false from rfl, rdw_909, zI_succ, rdw_pl]
      rw [e1]
      generalize hw1 : sAI w (z + 14) (upd (aI w (z + 14)) (acc.length + 1) (mtI mt)) = w1
      have s1 : Sc z w w1 := hw1 ▸ Sc.sAI _ _ ⟨by omega, by omega⟩ (by omega) (by omega) (by omega) (by omega)
      have h1 := h.sc s1
      have i14 : ∀ j, aI w1 (z + 14) j = if j = acc.length + 1 then mtI mt else aI w (z + 14) j := fun j => by rw [← hw1, q_aI_sAI, if_pos rfl, upd_is]
      have hI1 : RTs w1 z (bkd (snw s)) (acc ++ [e]) := by
        intro j e' hj
        obtain ⟨⟨a1, a2⟩, a3, a4⟩ := hI j e' hj
        obtain ⟨hlt, -⟩ := List.getElem?_eq_some_iff.mp hj
        rw [List.length_append, List.length_singleton] at hlt
        refine ⟨⟨?_, ?_⟩, a3, fun x => ?_⟩
        · rw [← hw1, q_aI_sAI, if_neg (by omega)]; exact a1
        · rw [← hw1]; exact a2
        · rw [i14, if_neg (by omega)]; exact a4 x
      have h51 : gI w1 924 z = zI (acc.length + 1 : Nat) := by rw [← hw1]; exact h5
      obtain ⟨w', b1, b2, b3, b4⟩ := p_part (N := N) (m := acc.length + 1) (p := q + 1) h1 V hN (by omega) h51 (by omega)
      rw [b1]
      simp only [Option.bind_some]
      have lim := prtP_lim (kd := bkd (snw s)) T V.1.1.1 (show q + 1 ≤ tn (stx s) by omega)
      have h' := h1.sc b2.1
      have kk : Kp (Rg z 26) w w' := s1.2.2.2.2.trans b2.1.2.2.2.2
      unfold patP
      generalize prtP (bn (snw s)) (bkd (snw s)) (stx s) (q + 1) = pr at b4 lim ⊢
      obtain ⟨o, q2⟩ := pr
      obtain ⟨mm'', rfl⟩ : ∃ mm'', mm' = mm'' + 1 := ⟨mm' - 1, by omega⟩
      cases o with
      | none =>
        refine ⟨w', true, ?_, h', kk, lim.1, Or.inl rfl⟩
        show fX9_isPatternWrong_13 F N (mm'' + 1) (rdw w' z q2 true) z = fX9_isPatternWrong_86 F N (rdw w' z q2 true) z
        rw [fX9_isPatternWrong_13, rdw_910, if_neg (by decide)]
      | some e2 =>
        have hI2 : RTs w' z (bkd (snw s)) ((acc ++ [e]) ++ [(e2.1, bkd (snw s) e2.1, e2.2, mt)]) := hI1.snoc (by rw [List.length_append, List.length_singleton]; exact b2) (by rw [List.length_append, List.length_singleton]; exact b4 e2 rfl) rfl (fun _ => by rw [List.length_append, List.length_singleton, i14, if_pos rfl])
        have r := ih (acc ++ [e]) (e2.1, bkd (snw s) e2.1, e2.2, mt) q2 (mm'' + 1) w' h' lim.1 (by rw [List.length_append, List.length_singleton]; omega) (by omega) hI2 (by rw [List.length_append, List.length_singleton]; exact b3)
        have r := r.mono kk
        show Fin86 F N z s w (fX9_isPatternWrong_13 F N (mm'' + 1) (rdw w' z q2 false) z) acc _
        revert r
        have key : ∀ R : Option (List Pe) × Nat, Fin86 F N z s w (fX9_isPatternWrong_13 F N (mm'' + 1) (rdw w' z q2 false) z) (acc ++ [e]) R → Fin86 F N z s w (fX9_isPatternWrong_13 F N (mm'' + 1) (rdw w' z q2 false) z) acc (match R with | (none, r) => (none, r) | (some l, r) => (some (e :: l), r)) := by
          rintro ⟨o, q3⟩ ⟨w9, b9, a1, a2, a3, a5, a6⟩
          cases o with
          | none => exact ⟨w9, b9, a1, a2, a3, a5, a6⟩
          | some l =>
            obtain ⟨c1, c2, c3, c4, c5⟩ := a6
            rw [List.append_assoc] at c3 c4 c5
            exact ⟨w9, b9, a1, a2, a3, a5, c1, c2, c3, c4, c5⟩
        exact key _
    have e0 : ∀ X, (if pk (stx s) q = 44 then fX9_isPatternWrong_46 F N (fX9_isPatternWrong_13 F N mm') (rdw w z q false) z else if pk (stx s) q = 38 then fX9_isPatternWrong_46 F N (fX9_isPatternWrong_13 F N mm') (rdw w z q false) z else fX9_isPatternWrong_86 F N (rdw w z q false) z) = X → fX9_isPatternWrong_13 F N (mm' + 1) (rdw w z q false) z = X := by
      intro X hX
      rw [fX9_isPatternWrong_13, rdw_910, if_pos (by rfl), rdw_ne (by omega) (by omega), h5, if_neg (by simp (disch := omega) only [z_0, z_1, z_2, z_3, z_4, z_5, z_6, z_7, z_8, z_9, z_10, z_12, z_13, z_16, z_20, z_24, z_30, z_31, z_32, z_38, z_42, z_44, z_45, z_47, z_48, z_49, z_50, z_57, z_58, z_59, z_60, z_61, z_91, z_97, z_98, z_100, z_108, z_114, z_120, z_122, z_126, z_127, z_128, z_200, z_255, z_961, z_990, z_992, z_998, z_999, z_1000, z_1092, z_1114, z_7798, z_10000, z_1000000, zI_neg, zI_add, zI_sub, zI_mul, zI_lt, zI_le, zI_eq, if_pos, if_neg, if_true, if_false, Option.bind_some, bnd, ldI_is, ldJ_is, Int.toNat_natCast,  Int.not_le]; omega), r_here h (by omega) T]
      simp only [Option.bind_some]
      rw [← hX]
      by_cases c4 : pk (stx s) q = 44
      · rw [if_pos c4, if_pos (by rw [c4]; rfl)]
      · rw [if_neg c4, if_neg (by simp (disch := omega) only [z_0, z_1, z_2, z_3, z_4, z_5, z_6, z_7, z_8, z_9, z_10, z_12, z_13, z_16, z_20, z_24, z_30, z_31, z_32, z_38, z_42, z_44, z_45, z_47, z_48, z_49, z_50, z_57, z_58, z_59, z_60, z_61, z_91, z_97, z_98, z_100, z_108, z_114, z_120, z_122, z_126, z_127, z_128, z_200, z_255, z_961, z_990, z_992, z_998, z_999, z_1000, z_1092, z_1114, z_7798, z_10000, z_1000000, zI_neg, zI_add, zI_sub, zI_mul, zI_lt, zI_le, zI_eq, if_pos, if_neg, if_true, if_false, Option.bind_some, bnd, ldI_is, ldJ_is, Int.toNat_natCast, ]; exact c4)]
        by_cases c3 : pk (stx s) q = 38
        · rw [if_pos c3, if_pos (by rw [c3]; rfl)]
        · rw [if_neg c3, if_neg (by simp (disch := omega) only [z_0, z_1, z_2, z_3, z_4, z_5, z_6, z_7, z_8, z_9, z_10, z_12, z_13, z_16, z_20, z_24, z_30, z_31, z_32, z_38, z_42, z_44, z_45, z_47, z_48, z_49, z_50, z_57, z_58, z_59, z_60, z_61, z_91, z_97, z_98, z_100, z_108, z_114, z_120, z_122, z_126, z_127, z_128, z_200, z_255, z_961, z_990, z_992, z_998, z_999, z_1000, z_1092, z_1114, z_7798, z_10000, z_1000000, zI_neg, zI_add, zI_sub, zI_mul, zI_lt, zI_le, zI_eq, if_pos, if_neg, if_true, if_false, Option.bind_some, bnd, ldI_is, ldJ_is, Int.toNat_natCast, ]; exact c3)]
    by_cases c : tn (stx s) ≤ q
    · have e9 : pk (stx s) q = 0 := by unfold pk; rw [if_neg (by omega)]
      rw [if_pos c]
      refine ⟨w, false, e0 _ ?_, h, Kp.refl _, hq, rfl, c, hI, by rw [List.length_append, List.length_singleton]; exact h5, by rw [List.length_append, List.length_singleton]; omega⟩
      rw [if_neg (by rw [e9]; decide), if_neg (by rw [e9]; decide)]
    · rw [if_neg c, if_neg (by omega)]
      by_cases c3 : pk (stx s) q = 38
      · rw [if_pos c3, e0 _ (by rw [if_neg (by rw [c3]; decide), if_pos c3])]
        exact go true c3
      · rw [if_neg c3]
        by_cases c4 : pk (stx s) q = 44
        · rw [if_pos c4, e0 _ (by rw [if_pos c4])]
          exact go false c4
        · rw [if_neg c4]
          exact ⟨w, false, e0 _ (by rw [if_neg c4, if_neg c3]), h, Kp.refl _, hq, Or.inr (by show q < tn (stx s); omega)⟩
theorem p_wrong (h : MSt F w z s) (V : VSt s) (hN : 40 ≤ N) : Fin86 F N z s w (fX9_isPatternWrong F N w z) [] (patP (bn (snw s)) (bkd (snw s)) (stx s) 4 false 0) := by
  have T := V.2.2.2.2.1
  unfold fX9_isPatternWrong
  rw [r_begin]
  simp only [Option.bind_some, bnd]
  rw [rdw_924]
  have h0 : MSt F (sI w 924 z 0) z s := h.sc (Sc.sI _ _ (by unfold KF; omega))
  obtain ⟨w', b1, b2, b3, b4⟩ := p_part (N := N) (m := 0) (p := 0) h0 V hN (by omega) (gI_same _ _ _ _) (Nat.zero_le _)
  rw [b1]
  simp only [Option.bind_some]
  have lim := prtP_lim (kd := bkd (snw s)) T V.1.1.1 (Nat.zero_le (tn (stx s)))
  have h' := h0.sc b2.1
  have kk : Kp (Rg z 26) w w' := (kp_f w z 924 0).trans b2.1.2.2.2.2
  unfold patP
  generalize prtP (bn (snw s)) (bkd (snw s)) (stx s) 0 = pr at b4 lim ⊢
  obtain ⟨o, q2⟩ := pr
  cases o with
  | none =>
    obtain ⟨N', rfl⟩ : ∃ N', N = N' + 1 := ⟨N - 1, by omega⟩
    refine ⟨w', true, ?_, h', kk, lim.1, Or.inl rfl⟩
    show fX9_isPatternWrong_13 F (N' + 1) (N' + 1) (rdw w' z q2 true) z = fX9_isPatternWrong_86 F (N' + 1) (rdw w' z q2 true) z
    rw [fX9_isPatternWrong_13, rdw_910, if_neg (by decide)]
  | some e2 =>
    have hI2 : RTs w' z (bkd (snw s)) ([] ++ [(e2.1, bkd (snw s) e2.1, e2.2, false)]) := RTs.snoc (w := w') (fun j i hj => by simp at hj) (Wp.refl _ _ _) (b4 e2 rfl) rfl (fun x => absurd x (Nat.lt_irrefl _))
    exact (p_13 (N := N) V hN 3 [] (e2.1, bkd (snw s) e2.1, e2.2, false) q2 N w' h' lim.1 rfl (by omega) hI2 b3).mono kk
end PATR
