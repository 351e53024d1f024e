/-! what calls come to: the code of the exception (0: none), the answer, the state afterwards; and the reference's questions -/
abbrev Rs : Type := Int × Int32 × St
def MO (F : Fr) (z : Nat) (w : Wd) (r : Rs) (x : Int32 × Wd) : Prop := gI x.2 906 z = zI r.1 ∧ (r.1 = 0 → x.1 = r.2.1) ∧ MSt F x.2 z r.2.2 ∧ Kp (Rg z 26) w x.2
theorem gI_same (w : Wd) (f a : Nat) (v : Int32) : gI (sI w f a v) f a = v := if_pos ⟨rfl, rfl⟩
theorem nKF906 : ¬ KF 906 := by unfold KF; omega
theorem MSt.thr {F : Fr} {w : Wd} {z : Nat} {s : St} (h : MSt F w z s) (v : Int32) : MSt F (sI w 906 z v) z s := h.sc (Sc.sI _ _ nKF906)
theorem kp_thr (w : Wd) (z : Nat) (v : Int32) : Kp (Rg z 26) w (sI w 906 z v) := kp_sI _ _ ⟨Nat.le_refl _, by omega⟩
theorem mo_err {F : Fr} {w : Wd} {z : Nat} {s : St} (h : MSt F w z s) {c : Int} {v u y : Int32} (hc : 0 < c) (hv : v = zI c) : MO F z w (c, u, s) (y, sI w 906 z v) :=
  ⟨by rw [gI_same, hv], fun e => by have e9 : c = 0 := e; omega, h.thr _, kp_thr _ _ _⟩
theorem mo_ok {F : Fr} {w : Wd} {z : Nat} {s : St} (h : MSt F w z s) {v u : Int32} (hv : v = u) : MO F z w (0, u, s) (v, sI w 906 z 0) :=
  ⟨by rw [gI_same]; rfl, fun _ => hv, h.thr _, kp_thr _ _ _⟩
abbrev I32 (a : Int) : Prop := -2147483648 ≤ a ∧ a < 2147483648
def spTier (s : St) (t q : Int) : Rs :=
  if 0 ≤ t ∧ t < bn (snw s) then
    (if 0 ≤ q ∧ q ≤ 7 then
      (0, (if q = 3 then zI (rn (brw (snw s) (ban (snw s)) t.toNat) : Nat) else if q = 4 then zI (fsum (brw (snw s) (ban (snw s)) t.toNat)) else if q = 5 then zI (rn (brw (snw s) (1 - ban (snw s)) t.toNat) : Nat) else if q = 6 then mskN (snw s) t (bn (snw s)) else if q = 7 then zI (lcnt (brw (snw s) (ban (snw s)) t.toNat)) else if q = 0 then zI (bkd (snw s) t.toNat) else if q = 1 then zI (brl (snw s) t.toNat) else zI (bpr (snw s) t.toNat)), s)
    else (2, 0, s))
  else (1, 0, s)
def spBook (s : St) (q : Int) : Rs :=
  if 0 ≤ q ∧ q ≤ 7 then (0, (if q = 4 then zI (spc (snw s)) else if q = 5 then zI (tn (stx s) : Nat) else if q = 6 then zI ((sps s).length : Nat) else if q = 7 then zI ((spt s).length : Nat) else if q = 0 then zI (bn (snw s) : Nat) else if q = 1 then zI (ban (snw s) : Nat) else if q = 2 then zI (bwi (snw s)) else zI (bga (snw s))), s) else (1, 0, s)
def isSp (k : Bk) (t i : Int) : Prop := 0 ≤ t ∧ t < bn k ∧ 0 ≤ i ∧ i < rn (brw k (ban k) t.toNat)
def spSpan (s : St) (t i q : Int) : Rs :=
  if 0 ≤ t ∧ t < bn (snw s) ∧ 0 ≤ i ∧ i < rn (brw (snw s) (ban (snw s)) t.toNat) then
    (if 0 ≤ q ∧ q ≤ 4 then
      (0, (if q = 0 then zI (rf (brw (snw s) (ban (snw s)) t.toNat) i.toNat) else if q = 1 then zI (re (brw (snw s) (ban (snw s)) t.toNat) i.toNat) else if q = 2 then zI ((rl (brw (snw s) (ban (snw s)) t.toNat) i.toNat).length : Nat) else if q = 3 then zI (hostB (snw s) (ban (snw s)) t.toNat (rf (brw (snw s) (ban (snw s)) t.toNat) i.toNat) (re (brw (snw s) (ban (snw s)) t.toNat) i.toNat)) else zI (sumN (gstS (snw s) t.toNat i) (bn (snw s)))), s)
    else (2, 0, s))
  else (1, 0, s)
def spLetter (s : St) (t i q : Int) : Rs :=
  if 0 ≤ t ∧ t < bn (snw s) ∧ 0 ≤ i ∧ i < rn (brw (snw s) (ban (snw s)) t.toNat) then
    (if 0 ≤ q ∧ q < (rl (brw (snw s) (ban (snw s)) t.toNat) i.toNat).length then (0, zI (((rl (brw (snw s) (ban (snw s)) t.toNat) i.toNat).getD q.toNat 0 : Nat) : Int), s) else (2, 0, s))
  else (1, 0, s)
def spSpanAt (s : St) (t f : Int) : Rs :=
  if 0 ≤ t ∧ t < bn (snw s) then (0, zI (fnd (fun j => decide (rf (brw (snw s) (ban (snw s)) t.toNat) j ≤ f ∧ f < re (brw (snw s) (ban (snw s)) t.toNat) j)) (rn (brw (snw s) (ban (snw s)) t.toNat)) 0), s) else (1, 0, s)
def spRefusal (s : St) (b : Bool) : Rs := if (srf s).1 = 0 then (1, 0, s) else (0, (if b = true then zI (srf s).1 else zI (srf s).2), s)
def spErr (s : St) : Rs := if sbd s = -1 then (1, 0, s) else (0, zI (sbd s), s)
def spItem (s : St) : Rs := if sri s = -1 then (1, 0, s) else (0, zI (sri s), s)
section MASK
variable {F : Fr} {N : Nat} {w : Wd} {z : Nat} {s : St} {k : Bk}
theorem m_mask (B : MS F w z k) {t : Nat} (ht : t < bn k) : ∀ (m n c : Nat), c + n = bn k → n < m →
    fX9_tier_114 F N m w z (zI t) (mskN k t c) (zI c) = some (mskN k t (bn k), w) := by
  intro m
  induction m with
  | zero => intro n c _ h; omega
  | succ m ih =>
    intro n c hc hm
    have hn := B.g.1
    unfold fX9_tier_114 fX9_tier_142
    rw [m_tiers B]
    simp only [Option.bind_some, bnd]
    cases n with
    | zero =>
      have e9 : c = bn k := by omega
      rw [if_pos (by simp (disch := omega) only [z_0, z_1, z_2, z_3, z_4, z_5, z_6, z_7, z_8, z_9, z_10, z_12, z_13, z_16, z_20, z_24, z_30, z_31, z_32, z_38, z_42, z_44, z_45, z_47, z_48, z_49, z_50, z_57, z_58, z_59, z_60, z_61, z_91, z_97, z_98, z_100, z_108, z_114, z_120, z_122, z_126, z_127, z_128, z_200, z_255, z_961, z_990, z_992, z_998, z_999, z_1000, z_1092, z_1114, z_7798, z_10000, z_1000000, zI_neg, zI_add, zI_sub, zI_mul, zI_lt, zI_le, zI_eq, if_pos, if_neg, if_true, if_false, Option.bind_some, bnd, ldI_is, ldJ_is, Int.toNat_natCast, ]; omega), e9]
    | succ n =>
      have hc2 : c < bn k := by omega
      have g := B.g.2.2.2.2 c hc2
      rw [if_neg (by simp (disch := omega) only [z_0, z_1, z_2, z_3, z_4, z_5, z_6, z_7, z_8, z_9, z_10, z_12, z_13, z_16, z_20, z_24, z_30, z_31, z_32, z_38, z_42, z_44, z_45, z_47, z_48, z_49, z_50, z_57, z_58, z_59, z_60, z_61, z_91, z_97, z_98, z_100, z_108, z_114, z_120, z_122, z_126, z_127, z_128, z_200, z_255, z_961, z_990, z_992, z_998, z_999, z_1000, z_1092, z_1114, z_7798, z_10000, z_1000000, zI_neg, zI_add, zI_sub, zI_mul, zI_lt, zI_le, zI_eq, if_pos, if_neg, if_true, if_false, Option.bind_some, bnd, ldI_is, ldJ_is, Int.toNat_natCast,  Int.not_le]; omega), m_parent B hc2]
      simp only [Option.bind_some]
      have ih := ih n (c + 1) (by omega) (by omega)
      have e9 : mskN k t (c + 1) = mskN k t c ||| (if bpr k c = t then 1 <<< (zI c &&& 31) else 0) := rfl
      rw [e9] at ih
      by_cases c1 : bpr k c = t
      · rw [if_pos c1] at ih
        rw [if_pos (by rw [c1]), zI_succ]
        exact ih
      · rw [if_neg c1] at ih
        rw [if_neg (by simp (disch := omega) only [z_0, z_1, z_2, z_3, z_4, z_5, z_6, z_7, z_8, z_9, z_10, z_12, z_13, z_16, z_20, z_24, z_30, z_31, z_32, z_38, z_42, z_44, z_45, z_47, z_48, z_49, z_50, z_57, z_58, z_59, z_60, z_61, z_91, z_97, z_98, z_100, z_108, z_114, z_120, z_122, z_126, z_127, z_128, z_200, z_255, z_961, z_990, z_992, z_998, z_999, z_1000, z_1092, z_1114, z_7798, z_10000, z_1000000, zI_neg, zI_add, zI_sub, zI_mul, zI_lt, zI_le, zI_eq, if_pos, if_neg, if_true, if_false, Option.bind_some, bnd, ldI_is, ldJ_is, Int.toNat_natCast,  c1, not_false_eq_true]), zI_succ]
        exact ih
theorem MS.thr (B : MS F w z k) (v : Int32) : MS F (sI w 906 z v) z k := B
theorem other_is {x : Nat} (hx : x < 2) : (1 : Int) - (x : Int) = ((1 - x : Nat) : Int) := by omega
theorem m_tier (h : MSt F w z s) (V : VSt s) (hN : 40 ≤ N) {t q : Int} (ht : I32 t) (hq : I32 q) : Ev (fX9_tier F N w z (zI t) (zI q)) (MO F z w (spTier s t q)) := by
  have B := h.ms V
  unfold fX9_tier spTier
  refine ev_eq (m_isTier B ht) ?_
  by_cases c : 0 ≤ t ∧ t < bn (snw s)
  · rw [if_pos c, if_pos c]
    refine ev_neg (by decide) ?_
    rw [z_0, z_7, m_in hq (by omega) (by omega)]
    simp only [Option.bind_some]
    by_cases c2 : 0 ≤ q ∧ q ≤ 7
    · rw [if_pos c2, if_pos c2]
      refine ev_neg (by decide) ?_
      obtain ⟨t', rfl⟩ := Int.eq_ofNat_of_zero_le c.1
      have hb : t' < bn (snw s) := by omega
      have hn := B.g.1
      have hx := B.g.2.1
      have g := B.g.2.2.2.2 t' hb
      unfold fX9_tier_28
      refine ev_bnd (ev_pos (by rw [gI_same]; decide) ?_)
      have B1 : MS F (sI w 906 z (zI 0)) z (snw s) := B
      rw [Int.toNat_natCast]
      by_cases q3 : q = 3
      · subst q3
        refine ev_pos (by rfl) (ev_eq (m_many B1 hb) (ev_some (mo_ok h (by rw [if_pos rfl]))))
      refine ev_neg (by simp (disch := omega) only [z_0, z_1, z_2, z_3, z_4, z_5, z_6, z_7, z_8, z_9, z_10, z_12, z_13, z_16, z_20, z_24, z_30, z_31, z_32, z_38, z_42, z_44, z_45, z_47, z_48, z_49, z_50, z_57, z_58, z_59, z_60, z_61, z_91, z_97, z_98, z_100, z_108, z_114, z_120, z_122, z_126, z_127, z_128, z_200, z_255, z_961, z_990, z_992, z_998, z_999, z_1000, z_1092, z_1114, z_7798, z_10000, z_1000000, zI_neg, zI_add, zI_sub, zI_mul, zI_lt, zI_le, zI_eq, if_pos, if_neg, if_true, if_false, Option.bind_some, bnd, ldI_is, ldJ_is, Int.toNat_natCast, ]; exact q3) ?_
      rw [if_neg q3]
      by_cases q4 : q = 4
      · subst q4
        refine ev_pos (by rfl) (ev_eq (m_annotator B1) (ev_eq (m_framesOf B1 hN hx hb) (ev_some (mo_ok h (by rw [if_pos rfl])))))
      refine ev_neg (by simp (disch := omega) only [z_0, z_1, z_2, z_3, z_4, z_5, z_6, z_7, z_8, z_9, z_10, z_12, z_13, z_16, z_20, z_24, z_30, z_31, z_32, z_38, z_42, z_44, z_45, z_47, z_48, z_49, z_50, z_57, z_58, z_59, z_60, z_61, z_91, z_97, z_98, z_100, z_108, z_114, z_120, z_122, z_126, z_127, z_128, z_200, z_255, z_961, z_990, z_992, z_998, z_999, z_1000, z_1092, z_1114, z_7798, z_10000, z_1000000, zI_neg, zI_add, zI_sub, zI_mul, zI_lt, zI_le, zI_eq, if_pos, if_neg, if_true, if_false, Option.bind_some, bnd, ldI_is, ldJ_is, Int.toNat_natCast, ]; exact q4) ?_
      rw [if_neg q4]
      by_cases q5 : q = 5
      · subst q5
        refine ev_pos (by rfl) (ev_eq B1.r (ev_eq (m_annotator B1) ?_))
        rw [z_1, zI_sub, other_is hx, m_row]
        refine ev_eq rfl (ev_eq (B1.cnt (by omega) hb) (ev_some (mo_ok h (by rw [if_pos rfl, zJ_32]))))
      refine ev_neg (by simp (disch := omega) only [z_0, z_1, z_2, z_3, z_4, z_5, z_6, z_7, z_8, z_9, z_10, z_12, z_13, z_16, z_20, z_24, z_30, z_31, z_32, z_38, z_42, z_44, z_45, z_47, z_48, z_49, z_50, z_57, z_58, z_59, z_60, z_61, z_91, z_97, z_98, z_100, z_108, z_114, z_120, z_122, z_126, z_127, z_128, z_200, z_255, z_961, z_990, z_992, z_998, z_999, z_1000, z_1092, z_1114, z_7798, z_10000, z_1000000, zI_neg, zI_add, zI_sub, zI_mul, zI_lt, zI_le, zI_eq, if_pos, if_neg, if_true, if_false, Option.bind_some, bnd, ldI_is, ldJ_is, Int.toNat_natCast, ]; exact q5) ?_
      rw [if_neg q5]
      by_cases q6 : q = 6
      · subst q6
        refine ev_pos (by rfl) ?_
        rw [if_pos rfl]
        have e := m_mask (N := N) B1 hb N (bn (snw s)) 0 (by omega) (by omega)
        exact ⟨_, e, mo_ok h rfl⟩
      refine ev_neg (by simp (disch := omega) only [z_0, z_1, z_2, z_3, z_4, z_5, z_6, z_7, z_8, z_9, z_10, z_12, z_13, z_16, z_20, z_24, z_30, z_31, z_32, z_38, z_42, z_44, z_45, z_47, z_48, z_49, z_50, z_57, z_58, z_59, z_60, z_61, z_91, z_97, z_98, z_100, z_108, z_114, z_120, z_122, z_126, z_127, z_128, z_200, z_255, z_961, z_990, z_992, z_998, z_999, z_1000, z_1092, z_1114, z_7798, z_10000, z_1000000, zI_neg, zI_add, zI_sub, zI_mul, zI_lt, zI_le, zI_eq, if_pos, if_neg, if_true, if_false, Option.bind_some, bnd, ldI_is, ldJ_is, Int.toNat_natCast, ]; exact q6) ?_
      rw [if_neg q6]
      by_cases q7 : q = 7
      · subst q7
        refine ev_pos (by rfl) (ev_eq (m_differentLabels B1 hN hb) (ev_some (mo_ok h (by rw [if_pos rfl]))))
      refine ev_neg (by simp (disch := omega) only [z_0, z_1, z_2, z_3, z_4, z_5, z_6, z_7, z_8, z_9, z_10, z_12, z_13, z_16, z_20, z_24, z_30, z_31, z_32, z_38, z_42, z_44, z_45, z_47, z_48, z_49, z_50, z_57, z_58, z_59, z_60, z_61, z_91, z_97, z_98, z_100, z_108, z_114, z_120, z_122, z_126, z_127, z_128, z_200, z_255, z_961, z_990, z_992, z_998, z_999, z_1000, z_1092, z_1114, z_7798, z_10000, z_1000000, zI_neg, zI_add, zI_sub, zI_mul, zI_lt, zI_le, zI_eq, if_pos, if_neg, if_true, if_false, Option.bind_some, bnd, ldI_is, ldJ_is, Int.toNat_natCast, ]; exact q7) (ev_eq B1.r ?_)
      rw [if_neg q7]
      simp only [z_3, z_4, zI_mul, zI_add]
      rw [B1.get (by omega) (by omega)]
      simp only [Option.bind_some]
      have T := B1.2.1.1.2.2.2.2 t' hb
      refine ev_some (mo_ok h ?_)
      by_cases q0 : q = 0
      · rw [if_pos q0, show (4 + 3 * (t' : Int) + q).toNat = 4 + 3 * t' from by omega, T.1, zJ_32]
      rw [if_neg q0]
      by_cases q1 : q = 1
      · rw [if_pos q1, show (4 + 3 * (t' : Int) + q).toNat = 5 + 3 * t' from by omega, T.2.1, zJ_32]
      rw [if_neg q1, show (4 + 3 * (t' : Int) + q).toNat = 6 + 3 * t' from by omega, T.2.2, zJ_32]
    · rw [if_neg c2, if_neg c2]
      refine ev_pos (by rfl) ?_
      unfold fX9_tier_28
      exact ev_bnd (ev_neg (by rw [gI_same]; decide) (ev_some (mo_err h (by omega) rfl)))
  · rw [if_neg c, if_neg c]
    refine ev_pos (by rfl) ?_
    unfold fX9_tier_28
    exact ev_bnd (ev_neg (by rw [gI_same]; decide) (ev_some (mo_err h (by omega) rfl)))
theorem m_spc (B : MS F w z k) : ∀ (m n c : Nat), c + n = 6 → n < m →
    fX9_book_64 F N m w z (zI (sumN (fun t => if t < bn k then (rn (brw k 0 t) : Int) + rn (brw k 1 t) else 0) c)) (zI c) = some (zI (sumN (fun t => if t < bn k then (rn (brw k 0 t) : Int) + rn (brw k 1 t) else 0) 6), w) := by
  intro m
  induction m with
  | zero => intro n c _ h; omega
  | succ m ih =>
    intro n c hc hm
    have hn := B.g.1
    unfold fX9_book_64
    cases n with
    | zero =>
      have e9 : c = 6 := by omega
      rw [if_pos (by simp (disch := omega) only [z_0, z_1, z_2, z_3, z_4, z_5, z_6, z_7, z_8, z_9, z_10, z_12, z_13, z_16, z_20, z_24, z_30, z_31, z_32, z_38, z_42, z_44, z_45, z_47, z_48, z_49, z_50, z_57, z_58, z_59, z_60, z_61, z_91, z_97, z_98, z_100, z_108, z_114, z_120, z_122, z_126, z_127, z_128, z_200, z_255, z_961, z_990, z_992, z_998, z_999, z_1000, z_1092, z_1114, z_7798, z_10000, z_1000000, zI_neg, zI_add, zI_sub, zI_mul, zI_lt, zI_le, zI_eq, if_pos, if_neg, if_true, if_false, Option.bind_some, bnd, ldI_is, ldJ_is, Int.toNat_natCast, ]; omega), e9]
    | succ n =>
      have rd : ∀ x, x < 2 → ldJ F w (z + 1) (zI (mo x c : Nat)) = some (zJ (if c < bn k then (rn (brw k x c) : Int) else 0)) := by
        intro x hx
        have := mo_lim hx (show c < 6 by omega)
        rw [B.get (by omega) (by omega), Int.toNat_natCast]
        by_cases c1 : c < bn k
        · rw [if_pos c1, (B.row hx c1).1]
        · rw [if_neg c1, B.2.1.2.2 x c hx (by omega) (by omega)]
      rw [if_neg (by simp (disch := omega) only [z_0, z_1, z_2, z_3, z_4, z_5, z_6, z_7, z_8, z_9, z_10, z_12, z_13, z_16, z_20, z_24, z_30, z_31, z_32, z_38, z_42, z_44, z_45, z_47, z_48, z_49, z_50, z_57, z_58, z_59, z_60, z_61, z_91, z_97, z_98, z_100, z_108, z_114, z_120, z_122, z_126, z_127, z_128, z_200, z_255, z_961, z_990, z_992, z_998, z_999, z_1000, z_1092, z_1114, z_7798, z_10000, z_1000000, zI_neg, zI_add, zI_sub, zI_mul, zI_lt, zI_le, zI_eq, if_pos, if_neg, if_true, if_false, Option.bind_some, bnd, ldI_is, ldJ_is, Int.toNat_natCast,  Int.not_le]; omega), B.r]
      simp only [Option.bind_some, bnd]
      rw [show (0 : Int32) = zI ((0 : Nat) : Int) from rfl, show (1 : Int32) = zI ((1 : Nat) : Int) from rfl, m_row, m_row]
      simp only [Option.bind_some]
      rw [rd 0 (by omega), rd 1 (by omega)]
      simp only [Option.bind_some, zJ_add, zJ_32, zI_add]
      have ih := ih n (c + 1) (by omega) (by omega)
      rw [← sumN_succ] at ih
      have e8 : ((if c < bn k then (rn (brw k 0 c) : Int) else 0) + if c < bn k then (rn (brw k 1 c) : Int) else 0) = (if c < bn k then (rn (brw k 0 c) : Int) + rn (brw k 1 c) else 0) := by split <;> omega
      rw [e8]
      rw [show ((c : Int) + ((1 : Nat) : Int)) = ((c + 1 : Nat) : Int) from by omega]
      exact ih
theorem spc_6 (hn : bn k ≤ 6) : sumN (fun t => if t < bn k then (rn (brw k 0 t) : Int) + rn (brw k 1 t) else 0) 6 = spc k := by
  have k2 : ∀ n, sumN (fun t => if t < bn k then (rn (brw k 0 t) : Int) + rn (brw k 1 t) else 0) (bn k + n) = spc k := by
    intro n
    induction n with
    | zero =>
      unfold spc
      rw [Nat.add_zero]
      exact sumN_congr _ fun j hj => if_pos hj
    | succ n ih =>
      rw [← Nat.add_assoc]
      rw [← sumN_succ, ih, if_neg (by omega), Int.add_zero]
  have := k2 (6 - bn k)
  rwa [show bn k + (6 - bn k) = 6 from by omega] at this
theorem m_book (h : MSt F w z s) (V : VSt s) (hN : 40 ≤ N) {q : Int} (hq : I32 q) : Ev (fX9_book F N w z (zI q)) (MO F z w (spBook s q)) := by
  have B := h.ms V
  unfold fX9_book spBook
  rw [z_0, z_7, m_in hq (by omega) (by omega)]
  simp only [Option.bind_some]
  by_cases c2 : 0 ≤ q ∧ q ≤ 7
  · rw [if_pos c2, if_pos c2]
    refine ev_neg (by decide) ?_
    have hn := B.g.1
    have hx := B.g.2.1
    unfold fX9_book_16
    refine ev_bnd (ev_pos (by rw [gI_same]; decide) ?_)
    have B1 : MS F (sI w 906 z (zI 0)) z (snw s) := B
    by_cases q4 : q = 4
    · subst q4
      refine ev_pos (by rfl) ?_
      rw [if_pos rfl]
      have e := m_spc (N := N) B1 N 6 0 (by omega) (by omega)
      rw [spc_6 hn] at e
      exact ⟨_, e, mo_ok h rfl⟩
    refine ev_neg (by simp (disch := omega) only [z_0, z_1, z_2, z_3, z_4, z_5, z_6, z_7, z_8, z_9, z_10, z_12, z_13, z_16, z_20, z_24, z_30, z_31, z_32, z_38, z_42, z_44, z_45, z_47, z_48, z_49, z_50, z_57, z_58, z_59, z_60, z_61, z_91, z_97, z_98, z_100, z_108, z_114, z_120, z_122, z_126, z_127, z_128, z_200, z_255, z_961, z_990, z_992, z_998, z_999, z_1000, z_1092, z_1114, z_7798, z_10000, z_1000000, zI_neg, zI_add, zI_sub, zI_mul, zI_lt, zI_le, zI_eq, if_pos, if_neg, if_true, if_false, Option.bind_some, bnd, ldI_is, ldJ_is, Int.toNat_natCast, ]; exact q4) ?_
    rw [if_neg q4]
    by_cases q5 : q = 5
    · subst q5
      refine ev_pos (by rfl) (ev_some (mo_ok h ?_))
      rw [if_pos rfl]
      exact h.2.2.2.2.1.1
    refine ev_neg (by simp (disch := omega) only [z_0, z_1, z_2, z_3, z_4, z_5, z_6, z_7, z_8, z_9, z_10, z_12, z_13, z_16, z_20, z_24, z_30, z_31, z_32, z_38, z_42, z_44, z_45, z_47, z_48, z_49, z_50, z_57, z_58, z_59, z_60, z_61, z_91, z_97, z_98, z_100, z_108, z_114, z_120, z_122, z_126, z_127, z_128, z_200, z_255, z_961, z_990, z_992, z_998, z_999, z_1000, z_1092, z_1114, z_7798, z_10000, z_1000000, zI_neg, zI_add, zI_sub, zI_mul, zI_lt, zI_le, zI_eq, if_pos, if_neg, if_true, if_false, Option.bind_some, bnd, ldI_is, ldJ_is, Int.toNat_natCast, ]; exact q5) ?_
    rw [if_neg q5]
    by_cases q6 : q = 6
    · subst q6
      refine ev_pos (by rfl) (ev_some (mo_ok h ?_))
      rw [if_pos rfl]
      exact h.2.2.2.1.1
    refine ev_neg (by simp (disch := omega) only [z_0, z_1, z_2, z_3, z_4, z_5, z_6, z_7, z_8, z_9, z_10, z_12, z_13, z_16, z_20, z_24, z_30, z_31, z_32, z_38, z_42, z_44, z_45, z_47, z_48, z_49, z_50, z_57, z_58, z_59, z_60, z_61, z_91, z_97, z_98, z_100, z_108, z_114, z_120, z_122, z_126, z_127, z_128, z_200, z_255, z_961, z_990, z_992, z_998, z_999, z_1000, z_1092, z_1114, z_7798, z_10000, z_1000000, zI_neg, zI_add, zI_sub, zI_mul, zI_lt, zI_le, zI_eq, if_pos, if_neg, if_true, if_false, Option.bind_some, bnd, ldI_is, ldJ_is, Int.toNat_natCast, ]; exact q6) ?_
    rw [if_neg q6]
    by_cases q7 : q = 7
    · subst q7
      refine ev_pos (by rfl) (ev_some (mo_ok h ?_))
      rw [if_pos rfl]
      exact h.2.2.2.2.2.1.1
    refine ev_neg (by simp (disch := omega) only [z_0, z_1, z_2, z_3, z_4, z_5, z_6, z_7, z_8, z_9, z_10, z_12, z_13, z_16, z_20, z_24, z_30, z_31, z_32, z_38, z_42, z_44, z_45, z_47, z_48, z_49, z_50, z_57, z_58, z_59, z_60, z_61, z_91, z_97, z_98, z_100, z_108, z_114, z_120, z_122, z_126, z_127, z_128, z_200, z_255, z_961, z_990, z_992, z_998, z_999, z_1000, z_1092, z_1114, z_7798, z_10000, z_1000000, zI_neg, zI_add, zI_sub, zI_mul, zI_lt, zI_le, zI_eq, if_pos, if_neg, if_true, if_false, Option.bind_some, bnd, ldI_is, ldJ_is, Int.toNat_natCast, ]; exact q7) (ev_eq B1.r ?_)
    rw [if_neg q7, B1.get (by omega) (by omega)]
    simp only [Option.bind_some]
    have T := B1.2.1.1
    refine ev_some (mo_ok h ?_)
    by_cases q0 : q = 0
    · rw [if_pos q0, show q.toNat = 0 from by omega, T.1, zJ_32]
    rw [if_neg q0]
    by_cases q1 : q = 1
    · rw [if_pos q1, show q.toNat = 1 from by omega, T.2.1, zJ_32]
    rw [if_neg q1]
    by_cases q2 : q = 2
    · rw [if_pos q2, show q.toNat = 2 from by omega, T.2.2.1, zJ_32]
    rw [if_neg q2, show q.toNat = 3 from by omega, T.2.2.2.1, zJ_32]
  · rw [if_neg c2, if_neg c2]
    refine ev_pos (by rfl) ?_
    unfold fX9_book_16
    exact ev_bnd (ev_neg (by rw [gI_same]; decide) (ev_some (mo_err h (by omega) rfl)))
theorem m_hosted_17 (B : MS F w z k) (hN : 40 ≤ N) {t i c : Nat} (hi : i < 100) (hc : c < bn k) (hp : bpr k c = t) {A : Int} {k5 : Nat → Int32 → Int32 → Int32 → Int32 → Option Int32} : ∀ (m n j : Nat), j + n = rn (brw k (ban k) c) → n < m →
    fX9_hosted_17 F N w k5 m z (zI t) (zI i) (zI (A + sumN (gstI k i c) j)) (zI c) (zI j) = k5 z (zI t) (zI i) (zI (A + sumN (gstI k i c) (rn (brw k (ban k) c)))) (zI c + 1) := by
  intro m
  induction m with
  | zero => intro n j _ h; omega
  | succ m ih =>
    intro n j hj hm
    have hl := B.lim B.g.2.1 hc
    unfold fX9_hosted_17 fX9_hosted_78 fX9_hosted_70
    rw [m_many B hc]
    simp only [Option.bind_some, bnd]
    cases n with
    | zero =>
      have e9 : j = rn (brw k (ban k) c) := by omega
      rw [if_pos (by simp (disch := omega) only [z_0, z_1, z_2, z_3, z_4, z_5, z_6, z_7, z_8, z_9, z_10, z_12, z_13, z_16, z_20, z_24, z_30, z_31, z_32, z_38, z_42, z_44, z_45, z_47, z_48, z_49, z_50, z_57, z_58, z_59, z_60, z_61, z_91, z_97, z_98, z_100, z_108, z_114, z_120, z_122, z_126, z_127, z_128, z_200, z_255, z_961, z_990, z_992, z_998, z_999, z_1000, z_1092, z_1114, z_7798, z_10000, z_1000000, zI_neg, zI_add, zI_sub, zI_mul, zI_lt, zI_le, zI_eq, if_pos, if_neg, if_true, if_false, Option.bind_some, bnd, ldI_is, ldJ_is, Int.toNat_natCast, ]; omega), e9]
    | succ n =>
      have hj2 : j < rn (brw k (ban k) c) := by omega
      have b := (B.grow B.g.2.1 hc).2 j hj2
      have hh := hostB_lim B.g B.g.2.1 hc (rf (brw k (ban k) c) j) (re (brw k (ban k) c) j)
      rw [if_neg (by simp (disch := omega) only [z_0, z_1, z_2, z_3, z_4, z_5, z_6, z_7, z_8, z_9, z_10, z_12, z_13, z_16, z_20, z_24, z_30, z_31, z_32, z_38, z_42, z_44, z_45, z_47, z_48, z_49, z_50, z_57, z_58, z_59, z_60, z_61, z_91, z_97, z_98, z_100, z_108, z_114, z_120, z_122, z_126, z_127, z_128, z_200, z_255, z_961, z_990, z_992, z_998, z_999, z_1000, z_1092, z_1114, z_7798, z_10000, z_1000000, zI_neg, zI_add, zI_sub, zI_mul, zI_lt, zI_le, zI_eq, if_pos, if_neg, if_true, if_false, Option.bind_some, bnd, ldI_is, ldJ_is, Int.toNat_natCast,  Int.not_le]; omega), m_parent B hc, hp]
      simp only [Option.bind_some]
      rw [if_pos trivial, m_first B hc hj2, m_end B hc hj2]
      simp only [Option.bind_some]
      rw [m_hostOf B hN hc (by omega) (by omega)]
      simp only [Option.bind_some]
      have ih := ih n (j + 1) (by omega) (by omega)
      rw [← sumN_succ] at ih
      have e9 : gstI k i c j = if hostB k (ban k) c (rf (brw k (ban k) c) j) (re (brw k (ban k) c) j) = (i : Int) then 1 else 0 := rfl
      rw [e9] at ih
      by_cases c1 : hostB k (ban k) c (rf (brw k (ban k) c) j) (re (brw k (ban k) c) j) = (i : Int)
      · rw [if_pos c1] at ih
        rw [if_pos (by rw [c1]), z_1, zI_add, zI_add, Int.add_assoc, show (j : Int) + 1 = ((j + 1 : Nat) : Int) from by omega]
        exact ih
      · rw [if_neg c1] at ih
        rw [if_neg (by simp (disch := omega) only [z_0, z_1, z_2, z_3, z_4, z_5, z_6, z_7, z_8, z_9, z_10, z_12, z_13, z_16, z_20, z_24, z_30, z_31, z_32, z_38, z_42, z_44, z_45, z_47, z_48, z_49, z_50, z_57, z_58, z_59, z_60, z_61, z_91, z_97, z_98, z_100, z_108, z_114, z_120, z_122, z_126, z_127, z_128, z_200, z_255, z_961, z_990, z_992, z_998, z_999, z_1000, z_1092, z_1114, z_7798, z_10000, z_1000000, zI_neg, zI_add, zI_sub, zI_mul, zI_lt, zI_le, zI_eq, if_pos, if_neg, if_true, if_false, Option.bind_some, bnd, ldI_is, ldJ_is, Int.toNat_natCast,  c1, not_false_eq_true]), z_0, z_1, zI_add, zI_add, Int.add_assoc, show (j : Int) + 1 = ((j + 1 : Nat) : Int) from by omega]
        exact ih
theorem m_hosted_5 (B : MS F w z k) (hN : 40 ≤ N) {t i : Nat} (hi : i < 100) (ht : t < bn k) : ∀ (m n c : Nat), c + n = bn k → n < m →
    fX9_hosted_5 F N w m z (zI t) (zI i) (zI (sumN (gstS k t i) c)) (zI c) = some (zI (sumN (gstS k t i) (bn k))) := by
  intro m
  induction m with
  | zero => intro n c _ h; omega
  | succ m ih =>
    intro n c hc hm
    have hn := B.g.1
    unfold fX9_hosted_5
    rw [m_tiers B]
    simp only [Option.bind_some]
    cases n with
    | zero =>
      have e9 : c = bn k := by omega
      rw [if_pos (by simp (disch := omega) only [z_0, z_1, z_2, z_3, z_4, z_5, z_6, z_7, z_8, z_9, z_10, z_12, z_13, z_16, z_20, z_24, z_30, z_31, z_32, z_38, z_42, z_44, z_45, z_47, z_48, z_49, z_50, z_57, z_58, z_59, z_60, z_61, z_91, z_97, z_98, z_100, z_108, z_114, z_120, z_122, z_126, z_127, z_128, z_200, z_255, z_961, z_990, z_992, z_998, z_999, z_1000, z_1092, z_1114, z_7798, z_10000, z_1000000, zI_neg, zI_add, zI_sub, zI_mul, zI_lt, zI_le, zI_eq, if_pos, if_neg, if_true, if_false, Option.bind_some, bnd, ldI_is, ldJ_is, Int.toNat_natCast, ]; omega), e9]
    | succ n =>
      have hc2 : c < bn k := by omega
      have hl := B.lim B.g.2.1 hc2
      have g := B.g.2.2.2.2 c hc2
      rw [if_neg (by simp (disch := omega) only [z_0, z_1, z_2, z_3, z_4, z_5, z_6, z_7, z_8, z_9, z_10, z_12, z_13, z_16, z_20, z_24, z_30, z_31, z_32, z_38, z_42, z_44, z_45, z_47, z_48, z_49, z_50, z_57, z_58, z_59, z_60, z_61, z_91, z_97, z_98, z_100, z_108, z_114, z_120, z_122, z_126, z_127, z_128, z_200, z_255, z_961, z_990, z_992, z_998, z_999, z_1000, z_1092, z_1114, z_7798, z_10000, z_1000000, zI_neg, zI_add, zI_sub, zI_mul, zI_lt, zI_le, zI_eq, if_pos, if_neg, if_true, if_false, Option.bind_some, bnd, ldI_is, ldJ_is, Int.toNat_natCast,  Int.not_le]; omega)]
      have ih := ih n (c + 1) (by omega) (by omega)
      rw [← sumN_succ] at ih
      have e9 : gstS k t i c = if bpr k c = (t : Int) then sumN (gstI k i c) (rn (brw k (ban k) c)) else 0 := rfl
      rw [e9] at ih
      by_cases c1 : bpr k c = (t : Int)
      · rw [if_pos c1] at ih
        have e := m_hosted_17 (N := N) (A := sumN (gstS k t i) c) (k5 := fX9_hosted_5 F N w m) B hN hi hc2 c1 N (rn (brw k (ban k) c)) 0 (by omega) (by omega)
        rw [show sumN (gstI k i c) 0 = 0 from rfl, Int.add_zero, zI_succ] at e
        exact e.trans ih
      · rw [if_neg c1, Int.add_zero] at ih
        obtain ⟨N', rfl⟩ : ∃ N', N = N' + 1 := ⟨N - 1, by omega⟩
        unfold fX9_hosted_17 fX9_hosted_78
        rw [m_many B hc2]
        simp only [Option.bind_some]
        by_cases c2 : rn (brw k (ban k) c) = 0
        · rw [if_pos (by simp (disch := omega) only [z_0, z_1, z_2, z_3, z_4, z_5, z_6, z_7, z_8, z_9, z_10, z_12, z_13, z_16, z_20, z_24, z_30, z_31, z_32, z_38, z_42, z_44, z_45, z_47, z_48, z_49, z_50, z_57, z_58, z_59, z_60, z_61, z_91, z_97, z_98, z_100, z_108, z_114, z_120, z_122, z_126, z_127, z_128, z_200, z_255, z_961, z_990, z_992, z_998, z_999, z_1000, z_1092, z_1114, z_7798, z_10000, z_1000000, zI_neg, zI_add, zI_sub, zI_mul, zI_lt, zI_le, zI_eq, if_pos, if_neg, if_true, if_false, Option.bind_some, bnd, ldI_is, ldJ_is, Int.toNat_natCast, ]; omega), zI_succ]
          exact ih
        · rw [if_neg (by simp (disch := omega) only [z_0, z_1, z_2, z_3, z_4, z_5, z_6, z_7, z_8, z_9, z_10, z_12, z_13, z_16, z_20, z_24, z_30, z_31, z_32, z_38, z_42, z_44, z_45, z_47, z_48, z_49, z_50, z_57, z_58, z_59, z_60, z_61, z_91, z_97, z_98, z_100, z_108, z_114, z_120, z_122, z_126, z_127, z_128, z_200, z_255, z_961, z_990, z_992, z_998, z_999, z_1000, z_1092, z_1114, z_7798, z_10000, z_1000000, zI_neg, zI_add, zI_sub, zI_mul, zI_lt, zI_le, zI_eq, if_pos, if_neg, if_true, if_false, Option.bind_some, bnd, ldI_is, ldJ_is, Int.toNat_natCast,  Int.not_le]; omega), m_parent B hc2]
          simp only [Option.bind_some]
          rw [if_neg (by simp (disch := omega) only [z_0, z_1, z_2, z_3, z_4, z_5, z_6, z_7, z_8, z_9, z_10, z_12, z_13, z_16, z_20, z_24, z_30, z_31, z_32, z_38, z_42, z_44, z_45, z_47, z_48, z_49, z_50, z_57, z_58, z_59, z_60, z_61, z_91, z_97, z_98, z_100, z_108, z_114, z_120, z_122, z_126, z_127, z_128, z_200, z_255, z_961, z_990, z_992, z_998, z_999, z_1000, z_1092, z_1114, z_7798, z_10000, z_1000000, zI_neg, zI_add, zI_sub, zI_mul, zI_lt, zI_le, zI_eq, if_pos, if_neg, if_true, if_false, Option.bind_some, bnd, ldI_is, ldJ_is, Int.toNat_natCast,  c1, not_false_eq_true]), zI_succ]
          exact ih
theorem m_hosted (B : MS F w z k) (hN : 40 ≤ N) {t i : Nat} (hi : i < 100) (ht : t < bn k) : fX9_hosted F N w z (zI t) (zI i) = some (zI (sumN (gstS k t i) (bn k))) := by
  have hn := B.g.1
  exact m_hosted_5 B hN hi ht N (bn k) 0 (by omega) (by omega)
theorem m_span (h : MSt F w z s) (V : VSt s) (hN : 40 ≤ N) {t i q : Int} (ht : I32 t) (hi : I32 i) (hq : I32 q) : Ev (fX9_span F N w z (zI t) (zI i) (zI q)) (MO F z w (spSpan s t i q)) := by
  have B := h.ms V
  unfold fX9_span spSpan
  refine ev_eq (m_isSpan B ht hi) ?_
  by_cases c : 0 ≤ t ∧ t < bn (snw s) ∧ 0 ≤ i ∧ i < rn (brw (snw s) (ban (snw s)) t.toNat)
  · rw [if_pos c, if_pos c]
    refine ev_neg (by decide) ?_
    rw [z_0, z_4, m_in hq (by omega) (by omega)]
    simp only [Option.bind_some]
    by_cases c2 : 0 ≤ q ∧ q ≤ 4
    · rw [if_pos c2, if_pos c2]
      refine ev_neg (by decide) ?_
      obtain ⟨t', rfl⟩ := Int.eq_ofNat_of_zero_le c.1
      obtain ⟨i', rfl⟩ := Int.eq_ofNat_of_zero_le c.2.2.1
      have hb : t' < bn (snw s) := by omega
      have hi' : i' < rn (brw (snw s) (ban (snw s)) t') := by have := c.2.2.2; rw [Int.toNat_natCast] at this; omega
      have hn := B.g.1
      have hx := B.g.2.1
      have hl := B.lim hx hb
      have b := (B.grow hx hb).2 i' hi'
      unfold fX9_span_28
      refine ev_bnd (ev_pos (by rw [gI_same]; decide) ?_)
      have B1 : MS F (sI w 906 z (zI 0)) z (snw s) := B
      rw [Int.toNat_natCast, Int.toNat_natCast]
      by_cases q0 : q = 0
      · subst q0
        refine ev_pos (by rfl) (ev_eq (m_first B1 hb hi') (ev_some (mo_ok h (by rw [if_pos rfl]))))
      refine ev_neg (by simp (disch := omega) only [z_0, z_1, z_2, z_3, z_4, z_5, z_6, z_7, z_8, z_9, z_10, z_12, z_13, z_16, z_20, z_24, z_30, z_31, z_32, z_38, z_42, z_44, z_45, z_47, z_48, z_49, z_50, z_57, z_58, z_59, z_60, z_61, z_91, z_97, z_98, z_100, z_108, z_114, z_120, z_122, z_126, z_127, z_128, z_200, z_255, z_961, z_990, z_992, z_998, z_999, z_1000, z_1092, z_1114, z_7798, z_10000, z_1000000, zI_neg, zI_add, zI_sub, zI_mul, zI_lt, zI_le, zI_eq, if_pos, if_neg, if_true, if_false, Option.bind_some, bnd, ldI_is, ldJ_is, Int.toNat_natCast, ]; exact q0) ?_
      rw [if_neg q0]
      by_cases q1 : q = 1
      · subst q1
        refine ev_pos (by rfl) (ev_eq (m_end B1 hb hi') (ev_some (mo_ok h (by rw [if_pos rfl]))))
      refine ev_neg (by simp (disch := omega) only [z_0, z_1, z_2, z_3, z_4, z_5, z_6, z_7, z_8, z_9, z_10, z_12, z_13, z_16, z_20, z_24, z_30, z_31, z_32, z_38, z_42, z_44, z_45, z_47, z_48, z_49, z_50, z_57, z_58, z_59, z_60, z_61, z_91, z_97, z_98, z_100, z_108, z_114, z_120, z_122, z_126, z_127, z_128, z_200, z_255, z_961, z_990, z_992, z_998, z_999, z_1000, z_1092, z_1114, z_7798, z_10000, z_1000000, zI_neg, zI_add, zI_sub, zI_mul, zI_lt, zI_le, zI_eq, if_pos, if_neg, if_true, if_false, Option.bind_some, bnd, ldI_is, ldJ_is, Int.toNat_natCast, ]; exact q1) ?_
      rw [if_neg q1]
      by_cases q2 : q = 2
      · subst q2
        refine ev_pos (by rfl) (ev_eq (m_label B1 hb hi') (ev_eq (m_lengthOf b.2.2.2.2 hN) (ev_some (mo_ok h (by rw [if_pos rfl])))))
      refine ev_neg (by simp (disch := omega) only [z_0, z_1, z_2, z_3, z_4, z_5, z_6, z_7, z_8, z_9, z_10, z_12, z_13, z_16, z_20, z_24, z_30, z_31, z_32, z_38, z_42, z_44, z_45, z_47, z_48, z_49, z_50, z_57, z_58, z_59, z_60, z_61, z_91, z_97, z_98, z_100, z_108, z_114, z_120, z_122, z_126, z_127, z_128, z_200, z_255, z_961, z_990, z_992, z_998, z_999, z_1000, z_1092, z_1114, z_7798, z_10000, z_1000000, zI_neg, zI_add, zI_sub, zI_mul, zI_lt, zI_le, zI_eq, if_pos, if_neg, if_true, if_false, Option.bind_some, bnd, ldI_is, ldJ_is, Int.toNat_natCast, ]; exact q2) ?_
      rw [if_neg q2]
      by_cases q3 : q = 3
      · subst q3
        refine ev_pos (by rfl) (ev_eq (m_first B1 hb hi') (ev_eq (m_end B1 hb hi') (ev_eq (m_hostOf B1 hN hb (by omega) (by omega)) (ev_some (mo_ok h (by rw [if_pos rfl]))))))
      refine ev_neg (by simp (disch := omega) only [z_0, z_1, z_2, z_3, z_4, z_5, z_6, z_7, z_8, z_9, z_10, z_12, z_13, z_16, z_20, z_24, z_30, z_31, z_32, z_38, z_42, z_44, z_45, z_47, z_48, z_49, z_50, z_57, z_58, z_59, z_60, z_61, z_91, z_97, z_98, z_100, z_108, z_114, z_120, z_122, z_126, z_127, z_128, z_200, z_255, z_961, z_990, z_992, z_998, z_999, z_1000, z_1092, z_1114, z_7798, z_10000, z_1000000, zI_neg, zI_add, zI_sub, zI_mul, zI_lt, zI_le, zI_eq, if_pos, if_neg, if_true, if_false, Option.bind_some, bnd, ldI_is, ldJ_is, Int.toNat_natCast, ]; exact q3) ?_
      rw [if_neg q3]
      exact ev_eq (m_hosted B1 hN (by omega) hb) (ev_some (mo_ok h rfl))
    · rw [if_neg c2, if_neg c2]
      refine ev_pos (by rfl) ?_
      unfold fX9_span_28
      exact ev_bnd (ev_neg (by rw [gI_same]; decide) (ev_some (mo_err h (by omega) rfl)))
  · rw [if_neg c, if_neg c]
    refine ev_pos (by rfl) ?_
    unfold fX9_span_28
    exact ev_bnd (ev_neg (by rw [gI_same]; decide) (ev_some (mo_err h (by omega) rfl)))
theorem m_letterC (h : MSt F w z s) (V : VSt s) (hN : 40 ≤ N) {t i q : Int} (ht : I32 t) (hi : I32 i) (hq : I32 q) : Ev (fX9_letter F N w z (zI t) (zI i) (zI q)) (MO F z w (spLetter s t i q)) := by
  have B := h.ms V
  unfold fX9_letter spLetter
  refine ev_eq (m_isSpan B ht hi) ?_
  by_cases c : 0 ≤ t ∧ t < bn (snw s) ∧ 0 ≤ i ∧ i < rn (brw (snw s) (ban (snw s)) t.toNat)
  · rw [if_pos c, if_pos c]
    refine ev_neg (by decide) ?_
    obtain ⟨t', rfl⟩ := Int.eq_ofNat_of_zero_le c.1
    obtain ⟨i', rfl⟩ := Int.eq_ofNat_of_zero_le c.2.2.1
    have hb : t' < bn (snw s) := by omega
    have hi' : i' < rn (brw (snw s) (ban (snw s)) t') := by have := c.2.2.2; rw [Int.toNat_natCast] at this; omega
    have hn := B.g.1
    have hx := B.g.2.1
    have hl := B.lim hx hb
    have b := (B.grow hx hb).2 i' hi'
    rw [Int.toNat_natCast, Int.toNat_natCast]
    have v := b.2.2.2.2
    have vl := v.2.1
    refine ev_eq (m_label B hb hi') (ev_eq (m_lengthOf v hN) ?_)
    rw [zI_sb1, z_0, m_in hq (by omega) (by omega)]
    simp only [Option.bind_some]
    have B1 : MS F (sI w 906 z (zI 0)) z (snw s) := B
    by_cases c2 : 0 ≤ q ∧ q < (rl (brw (snw s) (ban (snw s)) t') i').length
    · rw [if_pos (c := 0 ≤ q ∧ q ≤ ((rl (brw (snw s) (ban (snw s)) t') i').length : Int) - 1) (by omega), if_pos c2]
      refine ev_neg (by decide) ?_
      obtain ⟨q', rfl⟩ := Int.eq_ofNat_of_zero_le c2.1
      have hl9 := getD_lt v q'
      unfold fX9_letter_38
      refine ev_bnd (ev_pos (by rw [gI_same]; decide) (ev_eq (m_label B1 hb hi') (ev_eq (m_lengthOf v hN) ?_)))
      rw [m_letter v (by omega), z16c (by omega)]
      exact ev_some (mo_ok h rfl)
    · rw [if_neg (c := 0 ≤ q ∧ q ≤ ((rl (brw (snw s) (ban (snw s)) t') i').length : Int) - 1) (by omega), if_neg c2]
      refine ev_pos (by rfl) ?_
      unfold fX9_letter_38
      exact ev_bnd (ev_neg (by rw [gI_same]; decide) (ev_some (mo_err h (by omega) rfl)))
  · rw [if_neg c, if_neg c]
    refine ev_pos (by rfl) ?_
    unfold fX9_letter_38
    exact ev_bnd (ev_neg (by rw [gI_same]; decide) (ev_some (mo_err h (by omega) rfl)))
end MASK
