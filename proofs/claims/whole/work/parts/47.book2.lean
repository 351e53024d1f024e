/-! more of what is read of the class's books; a refusal -/
def rfs (w : Wd) (z : Nat) (x y : Int) : Wd := sI (sI w 600 z (zI x)) 601 z (zI y)
def mskN (k : Bk) (t : Int) : Nat → Int32
  | 0 => 0
  | c + 1 => mskN k t c ||| (if bpr k c = t then 1 <<< (zI c &&& 31) else 0)
def spc (k : Bk) : Int := sumN (fun t => (rn (brw k 0 t) : Int) + rn (brw k 1 t)) (bn k)
def gstI (k : Bk) (s : Int) (c i : Nat) : Int := if hostB k (ban k) c (rf (brw k (ban k) c) i) (re (brw k (ban k) c) i) = s then 1 else 0
def gstS (k : Bk) (t s : Int) (c : Nat) : Int := if bpr k c = t then sumN (gstI k s c) (rn (brw k (ban k) c)) else 0
def orpP (k : Bk) (x t : Nat) (i : Nat) : Bool := lack k x t (rf (brw k x t) i) (re (brw k x t) i)
def orp (k : Bk) (x t : Nat) : Bool := decide (¬ fnd (orpP k x t) (rn (brw k x t)) 0 = -1)
def berP (k : Bk) (t : Int) (c : Nat) : Bool := decide (bpr k c = t) && orp k (ban k) c
def ber (k : Bk) (t : Nat) : Int := fnd (berP k t) (bn k - (t + 1)) (t + 1)
def metP (r : Rw) (f e x : Int) (j : Nat) : Bool := decide (¬ (j : Int) = x ∧ rf r j < e ∧ f < re r j)
def tryR (k : Bk) (t : Nat) (s f e : Int) : Int × Int :=
  if f < 0 ∨ 1000 < e ∨ e ≤ f then (1, 0)
  else if fnd (metP (brw k (ban k) t) f e s) (rn (brw k (ban k) t)) 0 < 0 then (if lack k (ban k) t f e = true then (3, 0) else (0, 0))
  else (2, fnd (metP (brw k (ban k) t) f e s) (rn (brw k (ban k) t)) 0)
section CBOOK
variable {F : Fr} {N : Nat} {w : Wd} {a b : Nat} {r q : Rw} {k : Bk}
theorem c_refuse (z : Nat) (x y : Int) : fX6_refuse F N w z (zI x) (zI y) = some (zI (-1), rfs w z x y) := rfl
theorem kp_rfs {S : Nat → Prop} (z : Nat) (x y : Int) (h : S z) : Kp S w (rfs w z x y) := (kp_sI _ _ h).trans (kp_sI _ _ h)
theorem msk_low (h : GBook k) {t : Nat} (ht : t < bn k) : ∀ c, c ≤ t + 1 → mskN k t c = 0 := by
  intro c
  induction c with
  | zero => intro _; rfl
  | succ c ih =>
    intro hc
    unfold mskN
    have := (h.2.2.2.2 c (by omega)).2.2.1
    rw [ih (by omega), if_neg (by omega)]
    rfl
theorem c_childMask_6 (h : CBook F w b k) {t : Nat} (ht : t < bn k) : ∀ (m n c : Nat), c + n = bn k → n < m →
    fX1_childMask_6 F N w m b (zI t) (mskN k t c) (zI c) = some (mskN k t (bn k)) := by
  have hn := h.g.1
  intro m
  induction m with
  | zero => intro n c _ hk; omega
  | succ m ih =>
    intro n c hik hkm
    unfold fX1_childMask_6
    rw [c_bn h]
    cases n with
    | zero =>
      have e : c = bn k := by omega
      subst e
      simp (disch := omega) only [z_0, z_1, z_2, z_3, z_4, z_5, z_6, z_7, z_8, z_9, z_10, z_12, z_13, z_16, z_20, z_24, z_30, z_31, z_32, z_38, z_42, z_44, z_45, z_47, z_48, z_49, z_50, z_57, z_58, z_59, z_60, z_61, z_91, z_97, z_98, z_100, z_108, z_114, z_120, z_122, z_126, z_127, z_128, z_200, z_255, z_961, z_990, z_992, z_998, z_999, z_1000, z_1092, z_1114, z_7798, z_10000, z_1000000, zI_neg, zI_add, zI_sub, zI_mul, zI_lt, zI_le, zI_eq, if_pos, if_neg, if_true, if_false, Option.bind_some, bnd, ldI_is, ldJ_is, Int.toNat_natCast, ]
    | succ n =>
      have hc : c < bn k := by omega
      have hp := (h.g.2.2.2.2 c hc).2.2.1
      have ih := ih n (c + 1) (by omega) (by omega)
      unfold fX1_childMask_31
      rw [c_parentOf h hc, zI_succ, if_neg (by simp (disch := omega) only [z_0, z_1, z_2, z_3, z_4, z_5, z_6, z_7, z_8, z_9, z_10, z_12, z_13, z_16, z_20, z_24, z_30, z_31, z_32, z_38, z_42, z_44, z_45, z_47, z_48, z_49, z_50, z_57, z_58, z_59, z_60, z_61, z_91, z_97, z_98, z_100, z_108, z_114, z_120, z_122, z_126, z_127, z_128, z_200, z_255, z_961, z_990, z_992, z_998, z_999, z_1000, z_1092, z_1114, z_7798, z_10000, z_1000000, zI_neg, zI_add, zI_sub, zI_mul, zI_lt, zI_le, zI_eq, if_pos, if_neg, if_true, if_false, Option.bind_some, bnd, ldI_is, ldJ_is, Int.toNat_natCast,  Int.not_le]; omega)]
      simp only [Option.bind_some, bnd]
      rw [show mskN k t (c + 1) = mskN k t c ||| (if bpr k c = t then 1 <<< (zI c &&& 31) else 0) from rfl] at ih
      by_cases d : bpr k c = t
      · rw [if_pos (by rw [d])]
        rw [if_pos d] at ih
        exact ih
      · rw [if_neg (by simp (disch := omega) only [z_0, z_1, z_2, z_3, z_4, z_5, z_6, z_7, z_8, z_9, z_10, z_12, z_13, z_16, z_20, z_24, z_30, z_31, z_32, z_38, z_42, z_44, z_45, z_47, z_48, z_49, z_50, z_57, z_58, z_59, z_60, z_61, z_91, z_97, z_98, z_100, z_108, z_114, z_120, z_122, z_126, z_127, z_128, z_200, z_255, z_961, z_990, z_992, z_998, z_999, z_1000, z_1092, z_1114, z_7798, z_10000, z_1000000, zI_neg, zI_add, zI_sub, zI_mul, zI_lt, zI_le, zI_eq, if_pos, if_neg, if_true, if_false, Option.bind_some, bnd, ldI_is, ldJ_is, Int.toNat_natCast,  d, not_false_eq_true])]
        rw [if_neg d] at ih
        exact ih
theorem c_childMask (h : CBook F w b k) (hN : 40 ≤ N) {t : Nat} (ht : t < bn k) : fX1_childMask F N w b (zI t) = some (mskN k t (bn k)) := by
  have hn := h.g.1
  unfold fX1_childMask
  have h9 := c_childMask_6 (N := N) h ht N (bn k - (t + 1)) (t + 1) (by omega) (by omega)
  rw [msk_low h.g ht (t + 1) (by omega)] at h9
  rw [zI_succ]
  exact h9
theorem c_spanCount_4 (h : CBook F w b k) : ∀ (m n c : Nat), c + n = bn k → n < m →
    fX1_spanCount_4 F N w m b (zI (sumN (fun t => (rn (brw k 0 t) : Int) + rn (brw k 1 t)) c)) (zI c) = some (zI (spc k)) := by
  have hn := h.g.1
  intro m
  induction m with
  | zero => intro n c _ hk; omega
  | succ m ih =>
    intro n c hik hkm
    unfold fX1_spanCount_4
    rw [c_bn h]
    cases n with
    | zero =>
      have e : c = bn k := by omega
      subst e
      simp (disch := omega) only [z_0, z_1, z_2, z_3, z_4, z_5, z_6, z_7, z_8, z_9, z_10, z_12, z_13, z_16, z_20, z_24, z_30, z_31, z_32, z_38, z_42, z_44, z_45, z_47, z_48, z_49, z_50, z_57, z_58, z_59, z_60, z_61, z_91, z_97, z_98, z_100, z_108, z_114, z_120, z_122, z_126, z_127, z_128, z_200, z_255, z_961, z_990, z_992, z_998, z_999, z_1000, z_1092, z_1114, z_7798, z_10000, z_1000000, zI_neg, zI_add, zI_sub, zI_mul, zI_lt, zI_le, zI_eq, if_pos, if_neg, if_true, if_false, Option.bind_some, bnd, ldI_is, ldJ_is, Int.toNat_natCast,  spc]
    | succ n =>
      have hc : c < bn k := by omega
      have ih := ih n (c + 1) (by omega) (by omega)
      rw [if_neg (by simp (disch := omega) only [z_0, z_1, z_2, z_3, z_4, z_5, z_6, z_7, z_8, z_9, z_10, z_12, z_13, z_16, z_20, z_24, z_30, z_31, z_32, z_38, z_42, z_44, z_45, z_47, z_48, z_49, z_50, z_57, z_58, z_59, z_60, z_61, z_91, z_97, z_98, z_100, z_108, z_114, z_120, z_122, z_126, z_127, z_128, z_200, z_255, z_961, z_990, z_992, z_998, z_999, z_1000, z_1092, z_1114, z_7798, z_10000, z_1000000, zI_neg, zI_add, zI_sub, zI_mul, zI_lt, zI_le, zI_eq, if_pos, if_neg, if_true, if_false, Option.bind_some, bnd, ldI_is, ldJ_is, Int.toNat_natCast,  Int.not_le]; omega)]
      rw [show (0 : Int32) = zI ((0 : Nat) : Int) from rfl, c_row h (by omega) hc]
      simp only [Option.bind_some]
      rw [show (1 : Int32) = zI ((1 : Nat) : Int) from rfl, c_row h (by omega) hc]
      simp only [Option.bind_some, h.ckRow (show 0 < 2 by omega) hc, h.ckRow (show 1 < 2 by omega) hc, c_many (h.row (show 0 < 2 by omega) hc), c_many (h.row (show 1 < 2 by omega) hc), bnd, zI_add]
      exact ih
theorem c_spanCount (h : CBook F w b k) (hN : 40 ≤ N) : fX1_spanCount F N w b = some (zI (spc k)) := by
  have hn := h.g.1
  unfold fX1_spanCount
  exact c_spanCount_4 h N (bn k) 0 (by omega) (by omega)
theorem c_guestCount_27 (h : CBook F w b k) (hN : 40 ≤ N) {t : Nat} {s A : Int} (hs : 0 ≤ s ∧ s < 2147483648) {c : Nat} (hc : c < bn k) {k7 : Nat → Int32 → Int32 → Int32 → Int32 → Option Int32} (hd : bpr k c = t) : ∀ (m n i : Nat), i + n = rn (brw k (ban k) c) → n < m →
    fX1_guestCount_27 F N w k7 m b (zI t) (zI s) (zI (A + sumN (gstI k s c) i)) (zI c) (ra b (ban k) c) (zI i) = k7 b (zI t) (zI s) (zI (A + sumN (gstI k s c) (rn (brw k (ban k) c)))) (zI c + 1) := by
  have hn := h.g.1
  have hx := h.g.2.1
  have hr := h.row hx hc
  have hl := hr.lim
  intro m
  induction m with
  | zero => intro n i _ hk; omega
  | succ m ih =>
    intro n i hik hkm
    unfold fX1_guestCount_27
    rw [c_many hr]
    cases n with
    | zero =>
      have e : i = rn (brw k (ban k) c) := by omega
      subst e
      unfold fX1_guestCount_89
      simp (disch := omega) only [z_0, z_1, z_2, z_3, z_4, z_5, z_6, z_7, z_8, z_9, z_10, z_12, z_13, z_16, z_20, z_24, z_30, z_31, z_32, z_38, z_42, z_44, z_45, z_47, z_48, z_49, z_50, z_57, z_58, z_59, z_60, z_61, z_91, z_97, z_98, z_100, z_108, z_114, z_120, z_122, z_126, z_127, z_128, z_200, z_255, z_961, z_990, z_992, z_998, z_999, z_1000, z_1092, z_1114, z_7798, z_10000, z_1000000, zI_neg, zI_add, zI_sub, zI_mul, zI_lt, zI_le, zI_eq, if_pos, if_neg, if_true, if_false, Option.bind_some, bnd, ldI_is, ldJ_is, Int.toNat_natCast, ]
    | succ n =>
      have hi : i < rn (brw k (ban k) c) := by omega
      have ih := ih n (i + 1) (by omega) (by omega)
      rw [show zI (c : Int) + 1 = zI ((c : Int) + 1) from zI_add c 1] at ih
      have hb := hr.at hi
      have hg := h.g.2.2.2.2 c hc
      unfold fX1_guestCount_81
      rw [if_neg (by simp (disch := omega) only [z_0, z_1, z_2, z_3, z_4, z_5, z_6, z_7, z_8, z_9, z_10, z_12, z_13, z_16, z_20, z_24, z_30, z_31, z_32, z_38, z_42, z_44, z_45, z_47, z_48, z_49, z_50, z_57, z_58, z_59, z_60, z_61, z_91, z_97, z_98, z_100, z_108, z_114, z_120, z_122, z_126, z_127, z_128, z_200, z_255, z_961, z_990, z_992, z_998, z_999, z_1000, z_1092, z_1114, z_7798, z_10000, z_1000000, zI_neg, zI_add, zI_sub, zI_mul, zI_lt, zI_le, zI_eq, if_pos, if_neg, if_true, if_false, Option.bind_some, bnd, ldI_is, ldJ_is, Int.toNat_natCast,  Int.not_le]; omega), c_parentOf h hc, c_ban h, c_first hr hi, c_end hr hi, hd]
      simp only [Option.bind_some, if_true]
      rw [c_hostOf h hN hx hc ⟨hb.1, hb.2.1⟩ ⟨hb.2.2.1, hb.2.2.2.1⟩, zI_succ i]
      have hq : -1 ≤ hostB k (ban k) c (rf (brw k (ban k) c) i) (re (brw k (ban k) c) i) ∧ hostB k (ban k) c (rf (brw k (ban k) c) i) (re (brw k (ban k) c) i) ≤ 100 := by
        unfold hostB
        by_cases c0 : brl k c = 0
        · rw [if_pos c0]; omega
        · rw [if_neg c0]
          have h8 := hst_lim (brl k c) (brw k (ban k) (bpr k c).toNat) (rf (brw k (ban k) c) i) (re (brw k (ban k) c) i)
          have h7 := (h.row hx (t := (bpr k c).toNat) (by have := hg.2.2.2.2.1 c0; omega)).lim
          omega
      rw [← sumN_succ, ← Int.add_assoc] at ih
      simp only [Option.bind_some, bnd]
      unfold gstI at ih ⊢
      by_cases d : hostB k (ban k) c (rf (brw k (ban k) c) i) (re (brw k (ban k) c) i) = s
      · rw [if_pos (by rw [d])]
        simp only [if_pos d] at ih
        simp (disch := omega) only [z_0, z_1, z_2, z_3, z_4, z_5, z_6, z_7, z_8, z_9, z_10, z_12, z_13, z_16, z_20, z_24, z_30, z_31, z_32, z_38, z_42, z_44, z_45, z_47, z_48, z_49, z_50, z_57, z_58, z_59, z_60, z_61, z_91, z_97, z_98, z_100, z_108, z_114, z_120, z_122, z_126, z_127, z_128, z_200, z_255, z_961, z_990, z_992, z_998, z_999, z_1000, z_1092, z_1114, z_7798, z_10000, z_1000000, zI_neg, zI_add, zI_sub, zI_mul, zI_lt, zI_le, zI_eq, if_pos, if_neg, if_true, if_false, Option.bind_some, bnd, ldI_is, ldJ_is, Int.toNat_natCast, ]
        exact ih
      · rw [if_neg (by simp (disch := omega) only [z_0, z_1, z_2, z_3, z_4, z_5, z_6, z_7, z_8, z_9, z_10, z_12, z_13, z_16, z_20, z_24, z_30, z_31, z_32, z_38, z_42, z_44, z_45, z_47, z_48, z_49, z_50, z_57, z_58, z_59, z_60, z_61, z_91, z_97, z_98, z_100, z_108, z_114, z_120, z_122, z_126, z_127, z_128, z_200, z_255, z_961, z_990, z_992, z_998, z_999, z_1000, z_1092, z_1114, z_7798, z_10000, z_1000000, zI_neg, zI_add, zI_sub, zI_mul, zI_lt, zI_le, zI_eq, if_pos, if_neg, if_true, if_false, Option.bind_some, bnd, ldI_is, ldJ_is, Int.toNat_natCast,  d, not_false_eq_true])]
        simp only [if_neg d] at ih
        simp (disch := omega) only [z_0, z_1, z_2, z_3, z_4, z_5, z_6, z_7, z_8, z_9, z_10, z_12, z_13, z_16, z_20, z_24, z_30, z_31, z_32, z_38, z_42, z_44, z_45, z_47, z_48, z_49, z_50, z_57, z_58, z_59, z_60, z_61, z_91, z_97, z_98, z_100, z_108, z_114, z_120, z_122, z_126, z_127, z_128, z_200, z_255, z_961, z_990, z_992, z_998, z_999, z_1000, z_1092, z_1114, z_7798, z_10000, z_1000000, zI_neg, zI_add, zI_sub, zI_mul, zI_lt, zI_le, zI_eq, if_pos, if_neg, if_true, if_false, Option.bind_some, bnd, ldI_is, ldJ_is, Int.toNat_natCast, ]
        exact ih
theorem c_guestCount_7 (h : CBook F w b k) (hN : 40 ≤ N) {t : Nat} (ht : t < bn k) {s : Int} (hs : 0 ≤ s ∧ s < 2147483648) : ∀ (m n c : Nat), c + n = bn k → n < m →
    fX1_guestCount_7 F N w m b (zI t) (zI s) (zI (sumN (gstS k t s) c)) (zI c) = some (zI (sumN (gstS k t s) (bn k))) := by
  have hn := h.g.1
  have hx := h.g.2.1
  intro m
  induction m with
  | zero => intro n c _ hk; omega
  | succ m ih =>
    intro n c hik hkm
    unfold fX1_guestCount_7
    rw [c_bn h]
    cases n with
    | zero =>
      have e : c = bn k := by omega
      subst e
      simp (disch := omega) only [z_0, z_1, z_2, z_3, z_4, z_5, z_6, z_7, z_8, z_9, z_10, z_12, z_13, z_16, z_20, z_24, z_30, z_31, z_32, z_38, z_42, z_44, z_45, z_47, z_48, z_49, z_50, z_57, z_58, z_59, z_60, z_61, z_91, z_97, z_98, z_100, z_108, z_114, z_120, z_122, z_126, z_127, z_128, z_200, z_255, z_961, z_990, z_992, z_998, z_999, z_1000, z_1092, z_1114, z_7798, z_10000, z_1000000, zI_neg, zI_add, zI_sub, zI_mul, zI_lt, zI_le, zI_eq, if_pos, if_neg, if_true, if_false, Option.bind_some, bnd, ldI_is, ldJ_is, Int.toNat_natCast, ]
    | succ n =>
      have hc : c < bn k := by omega
      have ih := ih n (c + 1) (by omega) (by omega)
      have hp := (h.g.2.2.2.2 c hc).2.2.1
      rw [if_neg (by simp (disch := omega) only [z_0, z_1, z_2, z_3, z_4, z_5, z_6, z_7, z_8, z_9, z_10, z_12, z_13, z_16, z_20, z_24, z_30, z_31, z_32, z_38, z_42, z_44, z_45, z_47, z_48, z_49, z_50, z_57, z_58, z_59, z_60, z_61, z_91, z_97, z_98, z_100, z_108, z_114, z_120, z_122, z_126, z_127, z_128, z_200, z_255, z_961, z_990, z_992, z_998, z_999, z_1000, z_1092, z_1114, z_7798, z_10000, z_1000000, zI_neg, zI_add, zI_sub, zI_mul, zI_lt, zI_le, zI_eq, if_pos, if_neg, if_true, if_false, Option.bind_some, bnd, ldI_is, ldJ_is, Int.toNat_natCast,  Int.not_le]; omega), c_present h hc]
      simp only [Option.bind_some, h.ckRow hx hc]
      rw [← sumN_succ] at ih
      by_cases d : bpr k c = t
      · have h9 := c_guestCount_27 (N := N) (k7 := fX1_guestCount_7 F N w m) (A := sumN (gstS k t s) c) h hN hs hc d N (rn (brw k (ban k) c)) 0 (by omega) (by have := (h.row hx hc).lim; omega)
        rw [show sumN (gstI k s c) 0 = 0 from rfl, Int.add_zero, zI_succ] at h9
        have e9 : gstS k t s c = sumN (gstI k s c) (rn (brw k (ban k) c)) := by unfold gstS; rw [if_pos d]
        rw [e9] at ih
        exact h9.trans ih
      · have e9 : gstS k t s c = 0 := by unfold gstS; rw [if_neg d]
        rw [e9, Int.add_zero] at ih
        obtain ⟨N', rfl⟩ : ∃ N', N = N' + 1 := ⟨N - 1, by omega⟩
        unfold fX1_guestCount_27 fX1_guestCount_89
        rw [c_parentOf h hc, c_many (h.row hx hc), zI_succ]
        simp only [Option.bind_some]
        rw [if_neg (c := zI (bpr k c) = zI t) (by simp (disch := omega) only [z_0, z_1, z_2, z_3, z_4, z_5, z_6, z_7, z_8, z_9, z_10, z_12, z_13, z_16, z_20, z_24, z_30, z_31, z_32, z_38, z_42, z_44, z_45, z_47, z_48, z_49, z_50, z_57, z_58, z_59, z_60, z_61, z_91, z_97, z_98, z_100, z_108, z_114, z_120, z_122, z_126, z_127, z_128, z_200, z_255, z_961, z_990, z_992, z_998, z_999, z_1000, z_1092, z_1114, z_7798, z_10000, z_1000000, zI_neg, zI_add, zI_sub, zI_mul, zI_lt, zI_le, zI_eq, if_pos, if_neg, if_true, if_false, Option.bind_some, bnd, ldI_is, ldJ_is, Int.toNat_natCast,  d, not_false_eq_true])]
        split <;> exact ih
theorem gst_low (h : GBook k) {t : Nat} {s : Int} (ht : t < bn k) : ∀ c, c ≤ t + 1 → sumN (gstS k t s) c = 0 := by
  intro c
  induction c with
  | zero => intro _; rfl
  | succ c ih =>
    intro hc
    have := (h.2.2.2.2 c (by omega)).2.2.1
    have e9 : gstS k t s c = 0 := by unfold gstS; rw [if_neg (by omega)]
    unfold sumN
    rw [ih (by omega), e9]
    rfl
theorem c_guestCount (h : CBook F w b k) (hN : 40 ≤ N) {t : Nat} (ht : t < bn k) {s : Int} (hs : 0 ≤ s ∧ s < 2147483648) : fX1_guestCount F N w b (zI t) (zI s) = some (zI (sumN (gstS k t s) (bn k))) := by
  have hn := h.g.1
  unfold fX1_guestCount
  have h9 := c_guestCount_7 (N := N) h hN ht hs N (bn k - (t + 1)) (t + 1) (by omega) (by omega)
  rw [gst_low h.g ht (t + 1) (by omega)] at h9
  rw [zI_succ]
  exact h9
theorem c_hasOrphan_10 (h : CBook F w b k) (hN : 40 ≤ N) {x t : Nat} (hx : x < 2) (ht : t < bn k) : ∀ (m n i : Nat), i + n = rn (brw k x t) → n < m →
    fX1_hasOrphan_10 F N w m b (zI x) (zI t) (ra b x t) (zI i) = some (if fnd (orpP k x t) n i = -1 then 0 else 1) := by
  have hr := h.row hx ht
  have hl := hr.lim
  intro m
  induction m with
  | zero => intro n i _ hk; omega
  | succ m ih =>
    intro n i hik hkm
    unfold fX1_hasOrphan_10
    rw [c_many hr]
    cases n with
    | zero => simp (disch := omega) only [z_0, z_1, z_2, z_3, z_4, z_5, z_6, z_7, z_8, z_9, z_10, z_12, z_13, z_16, z_20, z_24, z_30, z_31, z_32, z_38, z_42, z_44, z_45, z_47, z_48, z_49, z_50, z_57, z_58, z_59, z_60, z_61, z_91, z_97, z_98, z_100, z_108, z_114, z_120, z_122, z_126, z_127, z_128, z_200, z_255, z_961, z_990, z_992, z_998, z_999, z_1000, z_1092, z_1114, z_7798, z_10000, z_1000000, zI_neg, zI_add, zI_sub, zI_mul, zI_lt, zI_le, zI_eq, if_pos, if_neg, if_true, if_false, Option.bind_some, bnd, ldI_is, ldJ_is, Int.toNat_natCast,  fnd]
    | succ n =>
      have hi : i < rn (brw k x t) := by omega
      have ih := ih n (i + 1) (by omega) (by omega)
      have hb := hr.at hi
      rw [if_neg (by simp (disch := omega) only [z_0, z_1, z_2, z_3, z_4, z_5, z_6, z_7, z_8, z_9, z_10, z_12, z_13, z_16, z_20, z_24, z_30, z_31, z_32, z_38, z_42, z_44, z_45, z_47, z_48, z_49, z_50, z_57, z_58, z_59, z_60, z_61, z_91, z_97, z_98, z_100, z_108, z_114, z_120, z_122, z_126, z_127, z_128, z_200, z_255, z_961, z_990, z_992, z_998, z_999, z_1000, z_1092, z_1114, z_7798, z_10000, z_1000000, zI_neg, zI_add, zI_sub, zI_mul, zI_lt, zI_le, zI_eq, if_pos, if_neg, if_true, if_false, Option.bind_some, bnd, ldI_is, ldJ_is, Int.toNat_natCast,  Int.not_le]; omega), c_first hr hi, c_end hr hi]
      simp only [Option.bind_some]
      rw [c_lacksHost h hN hx ht ⟨hb.1, hb.2.1⟩ ⟨hb.2.2.1, hb.2.2.2.1⟩, zI_succ i, ih, fnd_succ]
      simp only [Option.bind_some]
      by_cases d : lack k x t (rf (brw k x t) i) (re (brw k x t) i) = true
      · have d2 : orpP k x t i = true := d
        rw [if_pos d, if_pos d2, if_neg (by decide), if_neg (by omega)]
      · have d2 : ¬ orpP k x t i = true := d
        rw [if_neg d, if_neg d2, if_pos (by decide)]
theorem c_hasOrphan (h : CBook F w b k) (hN : 40 ≤ N) {x t : Nat} (hx : x < 2) (ht : t < bn k) : fX1_hasOrphan F N w b (zI x) (zI t) = some (if orp k x t = true then 1 else 0) := by
  have hr := h.row hx ht
  have hl := hr.lim
  unfold fX1_hasOrphan
  rw [c_row h hx ht]
  simp only [Option.bind_some, h.ckRow hx ht]
  have h9 := c_hasOrphan_10 (N := N) h hN hx ht N (rn (brw k x t)) 0 (by omega) (by omega)
  refine h9.trans ?_
  by_cases d : fnd (orpP k x t) (rn (brw k x t)) 0 = -1 <;> simp [orp, d]
theorem c_lowestBereft_4 (h : CBook F w b k) (hN : 40 ≤ N) {t : Nat} (ht : t < bn k) : ∀ (m n c : Nat), c + n = bn k → n < m →
    fX1_lowestBereft_4 F N w m b (zI t) (zI c) = some (zI (fnd (berP k t) n c)) := by
  have hn := h.g.1
  have hx := h.g.2.1
  intro m
  induction m with
  | zero => intro n c _ hk; omega
  | succ m ih =>
    intro n c hik hkm
    unfold fX1_lowestBereft_4
    rw [c_bn h]
    cases n with
    | zero => simp (disch := omega) only [z_0, z_1, z_2, z_3, z_4, z_5, z_6, z_7, z_8, z_9, z_10, z_12, z_13, z_16, z_20, z_24, z_30, z_31, z_32, z_38, z_42, z_44, z_45, z_47, z_48, z_49, z_50, z_57, z_58, z_59, z_60, z_61, z_91, z_97, z_98, z_100, z_108, z_114, z_120, z_122, z_126, z_127, z_128, z_200, z_255, z_961, z_990, z_992, z_998, z_999, z_1000, z_1092, z_1114, z_7798, z_10000, z_1000000, zI_neg, zI_add, zI_sub, zI_mul, zI_lt, zI_le, zI_eq, if_pos, if_neg, if_true, if_false, Option.bind_some, bnd, ldI_is, ldJ_is, Int.toNat_natCast,  fnd]
    | succ n =>
      have hc : c < bn k := by omega
      have ih := ih n (c + 1) (by omega) (by omega)
      have hp := (h.g.2.2.2.2 c hc).2.2.1
      unfold fX1_lowestBereft_35
      rw [if_neg (by simp (disch := omega) only [z_0, z_1, z_2, z_3, z_4, z_5, z_6, z_7, z_8, z_9, z_10, z_12, z_13, z_16, z_20, z_24, z_30, z_31, z_32, z_38, z_42, z_44, z_45, z_47, z_48, z_49, z_50, z_57, z_58, z_59, z_60, z_61, z_91, z_97, z_98, z_100, z_108, z_114, z_120, z_122, z_126, z_127, z_128, z_200, z_255, z_961, z_990, z_992, z_998, z_999, z_1000, z_1092, z_1114, z_7798, z_10000, z_1000000, zI_neg, zI_add, zI_sub, zI_mul, zI_lt, zI_le, zI_eq, if_pos, if_neg, if_true, if_false, Option.bind_some, bnd, ldI_is, ldJ_is, Int.toNat_natCast,  Int.not_le]; omega), c_parentOf h hc, c_ban h, c_hasOrphan h hN hx hc, zI_succ, ih, fnd_succ]
      simp only [Option.bind_some]
      by_cases d : bpr k c = t
      · rw [if_pos (by rw [d])]
        by_cases e : orp k (ban k) c = true
        · rw [if_pos (c := berP k t c = true) (by simp [berP, d, e]), if_pos e, if_neg (by decide)]
        · rw [if_neg (c := berP k t c = true) (by simp [berP, d, e]), if_neg e, if_pos (by decide)]
      · rw [if_neg (by simp (disch := omega) only [z_0, z_1, z_2, z_3, z_4, z_5, z_6, z_7, z_8, z_9, z_10, z_12, z_13, z_16, z_20, z_24, z_30, z_31, z_32, z_38, z_42, z_44, z_45, z_47, z_48, z_49, z_50, z_57, z_58, z_59, z_60, z_61, z_91, z_97, z_98, z_100, z_108, z_114, z_120, z_122, z_126, z_127, z_128, z_200, z_255, z_961, z_990, z_992, z_998, z_999, z_1000, z_1092, z_1114, z_7798, z_10000, z_1000000, zI_neg, zI_add, zI_sub, zI_mul, zI_lt, zI_le, zI_eq, if_pos, if_neg, if_true, if_false, Option.bind_some, bnd, ldI_is, ldJ_is, Int.toNat_natCast,  d, not_false_eq_true]), if_neg (c := berP k t c = true) (by simp [berP, d])]
theorem c_lowestBereft (h : CBook F w b k) (hN : 40 ≤ N) {t : Nat} (ht : t < bn k) : fX1_lowestBereft F N w b (zI t) = some (zI (ber k t)) := by
  have hn := h.g.1
  unfold fX1_lowestBereft
  rw [zI_succ]
  exact c_lowestBereft_4 h hN ht N (bn k - (t + 1)) (t + 1) (by omega) (by omega)
theorem c_tryFrames (h : CBook F w b k) (hN : 40 ≤ N) {t : Nat} (ht : t < bn k) {s f e : Int} (hs : -1 ≤ s ∧ s ≤ 100) (hf : -2147483648 ≤ f ∧ f < 2147483648) (he : -2147483648 ≤ e ∧ e < 2147483648) {z : Nat} :
    fX1_tryFrames F N w b (zI t) (zI s) (zI f) (zI e) z = some (if (tryR k t s f e).1 = 0 then (zI 0, w) else (zI (-1), rfs w z (tryR k t s f e).1 (tryR k t s f e).2)) := by
  have hx := h.g.2.1
  have hr := h.row hx ht
  have hl := hr.lim
  unfold fX1_tryFrames fX1_tryFrames_18
  have e1 : fX6_refuse F N w z 1 0 = some (zI (-1), rfs w z 1 0) := rfl
  have e3 : fX6_refuse F N w z 3 0 = some (zI (-1), rfs w z 3 0) := rfl
  rw [e1]
  simp only [Option.bind_some]
  by_cases c : f < 0 ∨ 1000 < e ∨ e ≤ f
  · have et : tryR k t s f e = (1, 0) := by unfold tryR; rw [if_pos c]
    have e9 : (if (tryR k t s f e).1 = 0 then (zI 0, w) else (zI (-1), rfs w z (tryR k t s f e).1 (tryR k t s f e).2)) = (zI (-1), rfs w z 1 0) := by
      rw [et]
      exact if_neg (by decide)
    rw [e9]
    by_cases c1 : f < 0
    · rw [if_pos (by simp (disch := omega) only [z_0, z_1, z_2, z_3, z_4, z_5, z_6, z_7, z_8, z_9, z_10, z_12, z_13, z_16, z_20, z_24, z_30, z_31, z_32, z_38, z_42, z_44, z_45, z_47, z_48, z_49, z_50, z_57, z_58, z_59, z_60, z_61, z_91, z_97, z_98, z_100, z_108, z_114, z_120, z_122, z_126, z_127, z_128, z_200, z_255, z_961, z_990, z_992, z_998, z_999, z_1000, z_1092, z_1114, z_7798, z_10000, z_1000000, zI_neg, zI_add, zI_sub, zI_mul, zI_lt, zI_le, zI_eq, if_pos, if_neg, if_true, if_false, Option.bind_some, bnd, ldI_is, ldJ_is, Int.toNat_natCast, ]; exact c1)]
    · by_cases c2 : 1000 < e
      · rw [if_neg (by simp (disch := omega) only [z_0, z_1, z_2, z_3, z_4, z_5, z_6, z_7, z_8, z_9, z_10, z_12, z_13, z_16, z_20, z_24, z_30, z_31, z_32, z_38, z_42, z_44, z_45, z_47, z_48, z_49, z_50, z_57, z_58, z_59, z_60, z_61, z_91, z_97, z_98, z_100, z_108, z_114, z_120, z_122, z_126, z_127, z_128, z_200, z_255, z_961, z_990, z_992, z_998, z_999, z_1000, z_1092, z_1114, z_7798, z_10000, z_1000000, zI_neg, zI_add, zI_sub, zI_mul, zI_lt, zI_le, zI_eq, if_pos, if_neg, if_true, if_false, Option.bind_some, bnd, ldI_is, ldJ_is, Int.toNat_natCast,  Int.not_lt]; omega), if_pos (by simp (disch := omega) only [z_0, z_1, z_2, z_3, z_4, z_5, z_6, z_7, z_8, z_9, z_10, z_12, z_13, z_16, z_20, z_24, z_30, z_31, z_32, z_38, z_42, z_44, z_45, z_47, z_48, z_49, z_50, z_57, z_58, z_59, z_60, z_61, z_91, z_97, z_98, z_100, z_108, z_114, z_120, z_122, z_126, z_127, z_128, z_200, z_255, z_961, z_990, z_992, z_998, z_999, z_1000, z_1092, z_1114, z_7798, z_10000, z_1000000, zI_neg, zI_add, zI_sub, zI_mul, zI_lt, zI_le, zI_eq, if_pos, if_neg, if_true, if_false, Option.bind_some, bnd, ldI_is, ldJ_is, Int.toNat_natCast, ]; exact c2)]
      · rw [if_neg (by simp (disch := omega) only [z_0, z_1, z_2, z_3, z_4, z_5, z_6, z_7, z_8, z_9, z_10, z_12, z_13, z_16, z_20, z_24, z_30, z_31, z_32, z_38, z_42, z_44, z_45, z_47, z_48, z_49, z_50, z_57, z_58, z_59, z_60, z_61, z_91, z_97, z_98, z_100, z_108, z_114, z_120, z_122, z_126, z_127, z_128, z_200, z_255, z_961, z_990, z_992, z_998, z_999, z_1000, z_1092, z_1114, z_7798, z_10000, z_1000000, zI_neg, zI_add, zI_sub, zI_mul, zI_lt, zI_le, zI_eq, if_pos, if_neg, if_true, if_false, Option.bind_some, bnd, ldI_is, ldJ_is, Int.toNat_natCast,  Int.not_lt]; omega), if_neg (by simp (disch := omega) only [z_0, z_1, z_2, z_3, z_4, z_5, z_6, z_7, z_8, z_9, z_10, z_12, z_13, z_16, z_20, z_24, z_30, z_31, z_32, z_38, z_42, z_44, z_45, z_47, z_48, z_49, z_50, z_57, z_58, z_59, z_60, z_61, z_91, z_97, z_98, z_100, z_108, z_114, z_120, z_122, z_126, z_127, z_128, z_200, z_255, z_961, z_990, z_992, z_998, z_999, z_1000, z_1092, z_1114, z_7798, z_10000, z_1000000, zI_neg, zI_add, zI_sub, zI_mul, zI_lt, zI_le, zI_eq, if_pos, if_neg, if_true, if_false, Option.bind_some, bnd, ldI_is, ldJ_is, Int.toNat_natCast,  Int.not_lt]; omega), if_neg (by simp (disch := omega) only [z_0, z_1, z_2, z_3, z_4, z_5, z_6, z_7, z_8, z_9, z_10, z_12, z_13, z_16, z_20, z_24, z_30, z_31, z_32, z_38, z_42, z_44, z_45, z_47, z_48, z_49, z_50, z_57, z_58, z_59, z_60, z_61, z_91, z_97, z_98, z_100, z_108, z_114, z_120, z_122, z_126, z_127, z_128, z_200, z_255, z_961, z_990, z_992, z_998, z_999, z_1000, z_1092, z_1114, z_7798, z_10000, z_1000000, zI_neg, zI_add, zI_sub, zI_mul, zI_lt, zI_le, zI_eq, if_pos, if_neg, if_true, if_false, Option.bind_some, bnd, ldI_is, ldJ_is, Int.toNat_natCast,  Int.not_lt]; omega)]
  · rw [if_neg (by simp (disch := omega) only [z_0, z_1, z_2, z_3, z_4, z_5, z_6, z_7, z_8, z_9, z_10, z_12, z_13, z_16, z_20, z_24, z_30, z_31, z_32, z_38, z_42, z_44, z_45, z_47, z_48, z_49, z_50, z_57, z_58, z_59, z_60, z_61, z_91, z_97, z_98, z_100, z_108, z_114, z_120, z_122, z_126, z_127, z_128, z_200, z_255, z_961, z_990, z_992, z_998, z_999, z_1000, z_1092, z_1114, z_7798, z_10000, z_1000000, zI_neg, zI_add, zI_sub, zI_mul, zI_lt, zI_le, zI_eq, if_pos, if_neg, if_true, if_false, Option.bind_some, bnd, ldI_is, ldJ_is, Int.toNat_natCast,  Int.not_lt]; omega), if_neg (by simp (disch := omega) only [z_0, z_1, z_2, z_3, z_4, z_5, z_6, z_7, z_8, z_9, z_10, z_12, z_13, z_16, z_20, z_24, z_30, z_31, z_32, z_38, z_42, z_44, z_45, z_47, z_48, z_49, z_50, z_57, z_58, z_59, z_60, z_61, z_91, z_97, z_98, z_100, z_108, z_114, z_120, z_122, z_126, z_127, z_128, z_200, z_255, z_961, z_990, z_992, z_998, z_999, z_1000, z_1092, z_1114, z_7798, z_10000, z_1000000, zI_neg, zI_add, zI_sub, zI_mul, zI_lt, zI_le, zI_eq, if_pos, if_neg, if_true, if_false, Option.bind_some, bnd, ldI_is, ldJ_is, Int.toNat_natCast,  Int.not_lt]; omega), if_pos (by simp (disch := omega) only [z_0, z_1, z_2, z_3, z_4, z_5, z_6, z_7, z_8, z_9, z_10, z_12, z_13, z_16, z_20, z_24, z_30, z_31, z_32, z_38, z_42, z_44, z_45, z_47, z_48, z_49, z_50, z_57, z_58, z_59, z_60, z_61, z_91, z_97, z_98, z_100, z_108, z_114, z_120, z_122, z_126, z_127, z_128, z_200, z_255, z_961, z_990, z_992, z_998, z_999, z_1000, z_1092, z_1114, z_7798, z_10000, z_1000000, zI_neg, zI_add, zI_sub, zI_mul, zI_lt, zI_le, zI_eq, if_pos, if_neg, if_true, if_false, Option.bind_some, bnd, ldI_is, ldJ_is, Int.toNat_natCast, ]; omega), c_present h ht]
    simp only [Option.bind_some, h.ckRow hx ht, c_ban h, c_meeting hr hN (f := f) (e := e) (x := s) (by omega) (by omega) hs, c_lacksHost h hN hx ht (f := f) (e := e) (by omega) (by omega)]
    show (if zI (fnd (metP (brw k (ban k) t) f e s) (rn (brw k (ban k) t)) 0) < 0 then _ else _) = _
    rcases fnd_cases (metP (brw k (ban k) t) f e s) (rn (brw k (ban k) t)) 0 with ⟨d, -⟩ | ⟨j, d, d2, d3, -⟩
    · rw [d, if_pos (by decide)]
      by_cases g : lack k (ban k) t f e = true
      · have et : tryR k t s f e = (3, 0) := by unfold tryR; rw [if_neg c, d, if_pos (by decide), if_pos g]
        rw [if_pos g, if_neg (by decide), e3, et]
        rfl
      · have et : tryR k t s f e = (0, 0) := by unfold tryR; rw [if_neg c, d, if_pos (by decide), if_neg g]
        rw [if_neg g, if_pos (by decide), et]
        rfl
    · have et : tryR k t s f e = (2, (j : Int)) := by unfold tryR; rw [if_neg c, d, if_neg (by omega)]
      have d9 : fnd (fun j => decide (¬ (j : Int) = s ∧ rf (brw k (ban k) t) j < e ∧ f < re (brw k (ban k) t) j)) (rn (brw k (ban k) t)) 0 = (j : Int) := d
      rw [d, if_neg (by simp (disch := omega) only [z_0, z_1, z_2, z_3, z_4, z_5, z_6, z_7, z_8, z_9, z_10, z_12, z_13, z_16, z_20, z_24, z_30, z_31, z_32, z_38, z_42, z_44, z_45, z_47, z_48, z_49, z_50, z_57, z_58, z_59, z_60, z_61, z_91, z_97, z_98, z_100, z_108, z_114, z_120, z_122, z_126, z_127, z_128, z_200, z_255, z_961, z_990, z_992, z_998, z_999, z_1000, z_1092, z_1114, z_7798, z_10000, z_1000000, zI_neg, zI_add, zI_sub, zI_mul, zI_lt, zI_le, zI_eq, if_pos, if_neg, if_true, if_false, Option.bind_some, bnd, ldI_is, ldJ_is, Int.toNat_natCast,  Int.not_lt]; omega), et, d9]
      rfl
end CBOOK
