/-! the class's input: a text, and where the reader stands -/
theorem z3_m1 : (-1 : Int32) = zI (-1) := rfl
abbrev Tx : Type := Nat × (Nat → Int)
def tn (T : Tx) : Nat := T.1
def tc (T : Tx) : Nat → Int := T.2
def GT (T : Tx) : Prop := tn T ≤ 100 ∧ ∀ i, i < tn T → 32 ≤ tc T i ∧ tc T i ≤ 126
def pk (T : Tx) (p : Nat) : Int := if p < tn T then tc T p else 0
/-- the buffer holds a text -/
def CIn0 (F : Fr) (w : Wd) (a : Nat) (T : Tx) : Prop := okF F a 3 ∧ okF F (a + 1) 10 ∧ F.2.1 (a + 1) = 100 ∧ gR w 300 a = some (a + 1) ∧ gI w 301 a = zI (tn T) ∧ (∀ i, i < tn T → aI w (a + 1) i = zI (tc T i)) ∧ GT T
/-- .. and the reader stands at a place of it -/
def CInp (F : Fr) (w : Wd) (a : Nat) (T : Tx) (p : Nat) : Prop := CIn0 F w a T ∧ gI w 302 a = zI p ∧ p ≤ tn T
/-- the reader moved -/
def ps (w : Wd) (a p : Nat) : Wd := sI w 302 a (zI p)
theorem pk_lim {T : Tx} (h : GT T) (p : Nat) : 0 ≤ pk T p ∧ pk T p ≤ 126 ∧ (¬ pk T p = 0 → p < tn T) := by
  unfold pk
  by_cases c : p < tn T
  · have := h.2 p c
    rw [if_pos c]; omega
  · rw [if_neg c]; omega
def isDg (x : Int) : Bool := decide (48 ≤ x ∧ x ≤ 57)
def numL (T : Tx) : Nat → Nat → Int → Int × Nat
  | 0, p, A => (A, p)
  | k + 1, p, A => if isDg (pk T p) = true then numL T k (p + 1) (A * 10 + pk T p - 48) else (A, p)
def numP (T : Tx) (p : Nat) : Int × Nat := if isDg (pk T p) = true then (if pk T p = 48 then (0, p + 1) else numL T 4 p 0) else (-1, p)
def ofK (kd x : Int) : Bool := if kd = 1 then decide (x = 108 ∨ x = 114 ∨ x = 98) else if kd = 2 then isDg x else decide (97 ≤ x ∧ x ≤ 122)
def mstK (kd : Int) : Nat := if kd = 0 ∨ kd = 3 then 8 else 1
def labR (T : Tx) (kd : Int) : Nat → Nat → List Nat
  | 0, _ => []
  | k + 1, p => if ofK kd (pk T p) = true then (pk T p).toNat :: labR T kd k (p + 1) else []
def labK (T : Tx) (kd : Int) (p : Nat) : List Nat := labR T kd (mstK kd) p
abbrev Itm : Type := Nat × Int × Int × List Nat
def it4 (kd : Int) (T : Tx) (t : Nat) (f e : Int) (p : Nat) : Option Itm × Nat := if pk T p = 61 then (if labK T kd (p + 1) = [] then (none, p + 1) else (some (t, f, e, labK T kd (p + 1)), p + 1 + (labK T kd (p + 1)).length)) else (none, p)
def it3 (kd : Int) (T : Tx) (t : Nat) (f : Int) (p : Nat) : Option Itm × Nat := if (numP T p).1 < 0 then (none, (numP T p).2) else it4 kd T t f (numP T p).1 (numP T p).2
def it2 (kd : Int) (T : Tx) (t : Nat) (f : Int) (p : Nat) : Option Itm × Nat := if pk T p = 45 then it3 kd T t f (p + 1) else (none, p)
def it1 (kd : Int) (T : Tx) (t : Nat) (p : Nat) : Option Itm × Nat := if (numP T p).1 < 0 then (none, (numP T p).2) else it2 kd T t (numP T p).1 (numP T p).2
def it0 (kd : Int) (T : Tx) (t : Nat) (p : Nat) : Option Itm × Nat := if pk T p = 58 then it1 kd T t (p + 1) else (none, p)
def itmP (n : Nat) (kd : Nat → Int) (T : Tx) (p : Nat) : Option Itm × Nat := if 48 ≤ pk T p ∧ pk T p < 48 + n then it0 (kd (pk T p - 48).toNat) T (pk T p - 48).toNat (p + 1) else (none, p)
def itmsP (n : Nat) (kd : Nat → Int) (T : Tx) : Nat → Nat → Option (List Itm) × Nat
  | 0, p => (none, p)
  | f + 1, p => match itmP n kd T p with
    | (none, q) => (none, q)
    | (some i, q) => if tn T ≤ q then (some [i], q) else if pk T q = 59 then (match itmsP n kd T f (q + 1) with
        | (none, r) => (none, r)
        | (some l, r) => (some (i :: l), r)) else (none, q)
theorem sI_sI (w : Wd) (f a : Nat) (u v : Int32) : sI (sI w f a u) f a v = sI w f a v := by
  unfold sI up2
  congr 1
  funext j b
  by_cases c : j = f ∧ b = a
  · rw [if_pos c, if_pos c]
  · rw [if_neg c, if_neg c]
    exact if_neg c
theorem p10 : ∀ k : Nat, (1 : Int) ≤ 10 ^ k := by
  intro k
  induction k with
  | zero => decide
  | succ k ih => rw [Int.pow_succ]; omega
theorem sI_self {w : Wd} {f a : Nat} {v : Int32} (h : gI w f a = v) : sI w f a v = w := by
  unfold sI up2
  have e : (fun j b => if j = f ∧ b = a then v else w.1 j b) = w.1 := by
    funext j b
    by_cases c : j = f ∧ b = a
    · rw [if_pos c, c.1, c.2]; exact h.symm
    · rw [if_neg c]
  rw [e]
theorem ps_ps (w : Wd) (a p q : Nat) : ps (ps w a p) a q = ps w a q := sI_sI _ _ _ _ _
section TX
variable {T : Tx} {kd : Int}
theorem isDg_is {x : Int} : isDg x = true ↔ 48 ≤ x ∧ x ≤ 57 := by unfold isDg; rw [decide_eq_true_eq]
theorem ofK_lim {x : Int} (h : ofK kd x = true) : 48 ≤ x ∧ x ≤ 122 := by
  unfold ofK isDg at h
  by_cases c : kd = 1
  · rw [if_pos c, decide_eq_true_eq] at h; omega
  · rw [if_neg c] at h
    by_cases d : kd = 2
    · rw [if_pos d, decide_eq_true_eq] at h; omega
    · rw [if_neg d, decide_eq_true_eq] at h; omega
theorem labR_lim (hg : GT T) : ∀ (k p : Nat), p ≤ tn T → (labR T kd k p).length ≤ k ∧ p + (labR T kd k p).length ≤ tn T ∧ ∀ c ∈ labR T kd k p, 48 ≤ c ∧ c ≤ 122 := by
  intro k
  induction k with
  | zero => intro p hp; exact ⟨Nat.le_refl _, hp, fun c hc => by cases hc⟩
  | succ k ih =>
    intro p hp
    unfold labR
    by_cases c : ofK kd (pk T p) = true
    · have h1 := ofK_lim c
      have h2 := (pk_lim hg p).2.2 (by omega)
      obtain ⟨h3, h4, h5⟩ := ih (p + 1) (by omega)
      rw [if_pos c]
      refine ⟨by rw [List.length_cons]; omega, by rw [List.length_cons]; omega, fun d hd => ?_⟩
      rcases List.mem_cons.mp hd with e | e
      · omega
      · exact h5 d e
    · rw [if_neg c]
      exact ⟨Nat.zero_le _, hp, fun c hc => by cases hc⟩
theorem labK_lim (hg : GT T) {p : Nat} (hp : p ≤ tn T) : p + (labK T kd p).length ≤ tn T ∧ (labK T kd p ≠ [] → VL (labK T kd p)) := by
  obtain ⟨h1, h2, h3⟩ := labR_lim (kd := kd) hg (mstK kd) p hp
  refine ⟨h2, fun h => ⟨?_, ?_, h3⟩⟩
  · rcases e : labK T kd p with _ | ⟨c, l⟩
    · exact absurd e h
    · rw [List.length_cons]; omega
  · have : mstK kd ≤ 8 := by unfold mstK; split <;> omega
    show (labR T kd (mstK kd) p).length ≤ 8
    omega
theorem numL_lim (hg : GT T) : ∀ (k p : Nat) (A : Int), p ≤ tn T → 0 ≤ A → (numL T k p A).2 ≤ tn T ∧ p ≤ (numL T k p A).2 ∧ 0 ≤ (numL T k p A).1 ∧ (numL T k p A).1 < (A + 1) * 10 ^ k := by
  intro k
  induction k with
  | zero => intro p A hp hA; unfold numL; simp; omega
  | succ k ih =>
    intro p A hp hA
    unfold numL
    have hpow : (1 : Int) ≤ 10 ^ k := p10 _
    by_cases c : isDg (pk T p) = true
    · have h1 := isDg_is.mp c
      have h2 := (pk_lim hg p).2.2 (by omega)
      obtain ⟨h3, h4, h5, h6⟩ := ih (p + 1) (A * 10 + pk T p - 48) (by omega) (by omega)
      rw [if_pos c]
      refine ⟨h3, by omega, h5, ?_⟩
      have h7 : (A * 10 + pk T p - 48 + 1) * 10 ^ k ≤ ((A + 1) * 10) * 10 ^ k := Int.mul_le_mul_of_nonneg_right (by omega) (by omega)
      rw [Int.pow_succ, Int.mul_comm (10 ^ k) 10, ← Int.mul_assoc]
      omega
    · rw [if_neg c]
      refine ⟨hp, Nat.le_refl _, hA, ?_⟩
      have h7 : (A + 1) * 1 ≤ (A + 1) * 10 ^ (k + 1) := Int.mul_le_mul_of_nonneg_left (p10 _) (by omega)
      show A < _
      omega
theorem numP_lim (hg : GT T) {p : Nat} (hp : p ≤ tn T) : (numP T p).2 ≤ tn T ∧ p ≤ (numP T p).2 ∧ -1 ≤ (numP T p).1 ∧ (numP T p).1 < 10000 := by
  unfold numP
  by_cases c : isDg (pk T p) = true
  · have h1 := isDg_is.mp c
    have h2 := (pk_lim hg p).2.2 (by omega)
    rw [if_pos c]
    by_cases d : pk T p = 48
    · rw [if_pos d]; simp; omega
    · rw [if_neg d]
      obtain ⟨h3, h4, h5, h6⟩ := numL_lim hg 4 p 0 hp (by omega)
      omega
  · rw [if_neg c]; simp; omega
theorem it4_lim (hg : GT T) {t : Nat} {f e : Int} {p : Nat} (hp : p ≤ tn T) : (it4 kd T t f e p).2 ≤ tn T ∧ p ≤ (it4 kd T t f e p).2 ∧ ((it4 kd T t f e p).1 ≠ none → p < (it4 kd T t f e p).2) := by
  unfold it4
  by_cases c : pk T p = 61
  · have h2 := (pk_lim hg p).2.2 (by omega)
    have h3 := (labK_lim (kd := kd) hg (p := p + 1) (by omega)).1
    rw [if_pos c]
    by_cases d : labK T kd (p + 1) = []
    · rw [if_pos d]; exact ⟨by show p + 1 ≤ tn T; omega, by show p ≤ p + 1; omega, fun h => absurd rfl h⟩
    · rw [if_neg d]
      exact ⟨h3, by show p ≤ p + 1 + _; omega, fun _ => by show p < p + 1 + _; omega⟩
  · rw [if_neg c]; exact ⟨hp, Nat.le_refl _, fun h => absurd rfl h⟩
theorem it3_lim (hg : GT T) {t : Nat} {f : Int} {p : Nat} (hp : p ≤ tn T) : (it3 kd T t f p).2 ≤ tn T ∧ p ≤ (it3 kd T t f p).2 ∧ ((it3 kd T t f p).1 ≠ none → p < (it3 kd T t f p).2) := by
  unfold it3
  obtain ⟨h1, h2, h3, h4⟩ := numP_lim hg hp
  by_cases c : (numP T p).1 < 0
  · rw [if_pos c]; exact ⟨h1, h2, fun h => absurd rfl h⟩
  · rw [if_neg c]
    obtain ⟨h5, h6, h7⟩ := it4_lim (kd := kd) (t := t) (f := f) (e := (numP T p).1) hg h1
    exact ⟨h5, by omega, fun h => by have := h7 h; omega⟩
theorem it2_lim (hg : GT T) {t : Nat} {f : Int} {p : Nat} (hp : p ≤ tn T) : (it2 kd T t f p).2 ≤ tn T ∧ p ≤ (it2 kd T t f p).2 ∧ ((it2 kd T t f p).1 ≠ none → p < (it2 kd T t f p).2) := by
  unfold it2
  by_cases c : pk T p = 45
  · have h2 := (pk_lim hg p).2.2 (by omega)
    rw [if_pos c]
    obtain ⟨h5, h6, h7⟩ := it3_lim (kd := kd) (t := t) (f := f) (p := p + 1) hg (by omega)
    exact ⟨h5, by omega, fun h => by have := h7 h; omega⟩
  · rw [if_neg c]; exact ⟨hp, Nat.le_refl _, fun h => absurd rfl h⟩
theorem it1_lim (hg : GT T) {t : Nat} {p : Nat} (hp : p ≤ tn T) : (it1 kd T t p).2 ≤ tn T ∧ p ≤ (it1 kd T t p).2 ∧ ((it1 kd T t p).1 ≠ none → p < (it1 kd T t p).2) := by
  unfold it1
  obtain ⟨h1, h2, h3, h4⟩ := numP_lim hg hp
  by_cases c : (numP T p).1 < 0
  · rw [if_pos c]; exact ⟨h1, h2, fun h => absurd rfl h⟩
  · rw [if_neg c]
    obtain ⟨h5, h6, h7⟩ := it2_lim (kd := kd) (t := t) (f := (numP T p).1) hg h1
    exact ⟨h5, by omega, fun h => by have := h7 h; omega⟩
theorem it0_lim (hg : GT T) {t : Nat} {p : Nat} (hp : p ≤ tn T) : (it0 kd T t p).2 ≤ tn T ∧ p ≤ (it0 kd T t p).2 ∧ ((it0 kd T t p).1 ≠ none → p < (it0 kd T t p).2) := by
  unfold it0
  by_cases c : pk T p = 58
  · have h2 := (pk_lim hg p).2.2 (by omega)
    rw [if_pos c]
    obtain ⟨h5, h6, h7⟩ := it1_lim (kd := kd) (t := t) (p := p + 1) hg (by omega)
    exact ⟨h5, by omega, fun h => by have := h7 h; omega⟩
  · rw [if_neg c]; exact ⟨hp, Nat.le_refl _, fun h => absurd rfl h⟩
theorem itmP_lim (hg : GT T) {n : Nat} {ks : Nat → Int} {p : Nat} (hp : p ≤ tn T) : (itmP n ks T p).2 ≤ tn T ∧ p ≤ (itmP n ks T p).2 ∧ ((itmP n ks T p).1 ≠ none → p + 1 < (itmP n ks T p).2) := by
  unfold itmP
  by_cases c : 48 ≤ pk T p ∧ pk T p < 48 + n
  · have h2 := (pk_lim hg p).2.2 (by omega)
    rw [if_pos c]
    obtain ⟨h5, h6, h7⟩ := it0_lim (kd := ks (pk T p - 48).toNat) (t := (pk T p - 48).toNat) (p := p + 1) hg (by omega)
    exact ⟨h5, by omega, fun h => by have := h7 h; omega⟩
  · rw [if_neg c]; exact ⟨hp, Nat.le_refl _, fun h => absurd rfl h⟩
end TX
section CINP
variable {F : Fr} {N : Nat} {w : Wd} {a b : Nat} {T : Tx} {p : Nat} {k : Bk}
theorem CIn0.gt (h : CIn0 F w a T) : GT T := h.2.2.2.2.2.2
theorem CInp.gt (h : CInp F w a T p) : GT T := h.1.gt
theorem CInp.lim (h : CInp F w a T p) : p ≤ 100 := Nat.le_trans h.2.2 h.gt.1
theorem CIn0.keep {S : Nat → Prop} {w' : Wd} (h : CIn0 F w a T) (k : Kp S w w') (h0 : ¬ S a) (h1 : ¬ S (a + 1)) : CIn0 F w' a T := by
  obtain ⟨g1, g2, g3, g4, g5, g6, g7⟩ := h
  refine ⟨g1, g2, g3, ?_, ?_, ?_, g7⟩
  · rw [k.gR h0]; exact g4
  · rw [k.gI h0]; exact g5
  · rw [k.aI h1]; exact g6
theorem CInp.keep {S : Nat → Prop} {w' : Wd} (h : CInp F w a T p) (k : Kp S w w') (h0 : ¬ S a) (h1 : ¬ S (a + 1)) : CInp F w' a T p :=
  ⟨h.1.keep k h0 h1, by rw [k.gI h0]; exact h.2.1, h.2.2⟩
theorem CIn0.at0 (h : CIn0 F w a T) : CInp F (sI w 302 a (zI ((0 : Nat) : Int))) a T 0 := by
  obtain ⟨g1, g2, g3, g4, g5, g6, g7⟩ := h
  exact ⟨⟨g1, g2, g3, g4, g5, g6, g7⟩, by rw [q_gI_sI, if_pos ⟨rfl, rfl⟩], Nat.zero_le _⟩
theorem CInp.mv (h : CInp F w a T p) {q : Nat} (hq : q ≤ tn T) : CInp F (ps w a q) a T q := by
  obtain ⟨⟨g1, g2, g3, g4, g5, g6, g7⟩, h6, h7⟩ := h
  exact ⟨⟨g1, g2, g3, g4, g5, g6, g7⟩, by unfold ps; rw [q_gI_sI, if_pos ⟨rfl, rfl⟩], hq⟩
theorem CInp.fld (h : CInp F w a T p) {f : Nat} {v : Int32} (hf : 303 ≤ f) : CInp F (sI w f a v) a T p := by
  obtain ⟨⟨g1, g2, g3, g4, g5, g6, g7⟩, h6, h7⟩ := h
  exact ⟨⟨g1, g2, g3, g4, by rw [q_gI_sI, if_neg (by omega)]; exact g5, g6, g7⟩, by rw [q_gI_sI, if_neg (by omega)]; exact h6, h7⟩
theorem CInp.fldJ (h : CInp F w a T p) {f : Nat} {v : Int64} : CInp F (sJ w f a v) a T p := h
theorem CInp.here (h : CInp F w a T p) : ps w a p = w := sI_self h.2.1
theorem c_pos (h : CInp F w a T p) : gI w 302 a = zI p := h.2.1
theorem c_len (h : CInp F w a T p) : gI w 301 a = zI (tn T) := h.1.2.2.2.2.1
theorem c_peek (h : CInp F w a T p) : fX3_peek F N w a = some (zI (pk T p)) := by
  have hg := h.gt
  have hl := h.lim
  have hp := pk_lim hg p
  obtain ⟨⟨h1, h2, h3, h4, h5, h7, h8⟩, h6, h9⟩ := h
  unfold fX3_peek
  rw [h5, h6]
  by_cases c : p < tn T
  · have e : pk T p = tc T p := if_pos c
    have := hg.1
    have hc := hg.2 p c
    rw [if_neg (by simp (disch := omega) only [z_0, z_1, z_2, z_3, z_4, z_5, z_6, z_7, z_8, z_9, z_10, z_12, z_13, z_16, z_20, z_24, z_30, z_31, z_32, z_38, z_42, z_44, z_45, z_47, z_48, z_49, z_50, z_57, z_58, z_59, z_60, z_61, z_91, z_97, z_98, z_100, z_108, z_114, z_120, z_122, z_126, z_127, z_128, z_200, z_255, z_961, z_990, z_992, z_998, z_999, z_1000, z_1092, z_1114, z_7798, z_10000, z_1000000, zI_neg, zI_add, zI_sub, zI_mul, zI_lt, zI_le, zI_eq, if_pos, if_neg, if_true, if_false, Option.bind_some, bnd, ldI_is, ldJ_is, Int.toNat_natCast,  Int.not_lt]; omega), if_neg (by simp (disch := omega) only [z_0, z_1, z_2, z_3, z_4, z_5, z_6, z_7, z_8, z_9, z_10, z_12, z_13, z_16, z_20, z_24, z_30, z_31, z_32, z_38, z_42, z_44, z_45, z_47, z_48, z_49, z_50, z_57, z_58, z_59, z_60, z_61, z_91, z_97, z_98, z_100, z_108, z_114, z_120, z_122, z_126, z_127, z_128, z_200, z_255, z_961, z_990, z_992, z_998, z_999, z_1000, z_1092, z_1114, z_7798, z_10000, z_1000000, zI_neg, zI_add, zI_sub, zI_mul, zI_lt, zI_le, zI_eq, if_pos, if_neg, if_true, if_false, Option.bind_some, bnd, ldI_is, ldJ_is, Int.toNat_natCast,  Int.not_le]; omega), if_neg (by simp (disch := omega) only [z_0, z_1, z_2, z_3, z_4, z_5, z_6, z_7, z_8, z_9, z_10, z_12, z_13, z_16, z_20, z_24, z_30, z_31, z_32, z_38, z_42, z_44, z_45, z_47, z_48, z_49, z_50, z_57, z_58, z_59, z_60, z_61, z_91, z_97, z_98, z_100, z_108, z_114, z_120, z_122, z_126, z_127, z_128, z_200, z_255, z_961, z_990, z_992, z_998, z_999, z_1000, z_1092, z_1114, z_7798, z_10000, z_1000000, zI_neg, zI_add, zI_sub, zI_mul, zI_lt, zI_le, zI_eq, if_pos, if_neg, if_true, if_false, Option.bind_some, bnd, ldI_is, ldJ_is, Int.toNat_natCast,  Int.not_le]; omega), rdR_is h4 h2]
    simp only [Option.bind_some]
    rw [ldI_is (by omega) (by omega) (by omega)]
    simp only [Option.bind_some, Int.toNat_natCast, h7 p c]
    obtain ⟨v, hv⟩ : ∃ v : Nat, tc T p = v := ⟨(tc T p).toNat, by omega⟩
    rw [e, hv, z16c (by omega)]
    rfl
  · have e : pk T p = 0 := if_neg c
    rw [if_neg (by simp (disch := omega) only [z_0, z_1, z_2, z_3, z_4, z_5, z_6, z_7, z_8, z_9, z_10, z_12, z_13, z_16, z_20, z_24, z_30, z_31, z_32, z_38, z_42, z_44, z_45, z_47, z_48, z_49, z_50, z_57, z_58, z_59, z_60, z_61, z_91, z_97, z_98, z_100, z_108, z_114, z_120, z_122, z_126, z_127, z_128, z_200, z_255, z_961, z_990, z_992, z_998, z_999, z_1000, z_1092, z_1114, z_7798, z_10000, z_1000000, zI_neg, zI_add, zI_sub, zI_mul, zI_lt, zI_le, zI_eq, if_pos, if_neg, if_true, if_false, Option.bind_some, bnd, ldI_is, ldJ_is, Int.toNat_natCast,  Int.not_lt]; omega), if_pos (by simp (disch := omega) only [z_0, z_1, z_2, z_3, z_4, z_5, z_6, z_7, z_8, z_9, z_10, z_12, z_13, z_16, z_20, z_24, z_30, z_31, z_32, z_38, z_42, z_44, z_45, z_47, z_48, z_49, z_50, z_57, z_58, z_59, z_60, z_61, z_91, z_97, z_98, z_100, z_108, z_114, z_120, z_122, z_126, z_127, z_128, z_200, z_255, z_961, z_990, z_992, z_998, z_999, z_1000, z_1092, z_1114, z_7798, z_10000, z_1000000, zI_neg, zI_add, zI_sub, zI_mul, zI_lt, zI_le, zI_eq, if_pos, if_neg, if_true, if_false, Option.bind_some, bnd, ldI_is, ldJ_is, Int.toNat_natCast, ]; omega), e]
    rfl
theorem c_take (h : CInp F w a T p) {x : Int} (hx : 0 ≤ x ∧ x ≤ 1000) : fX3_take F N w a (zI x) = some (if pk T p = x then (zI 1, ps w a (p + 1)) else (zI 0, w)) := by
  have hp := pk_lim h.gt p
  unfold fX3_take
  rw [c_peek h]
  simp only [Option.bind_some, c_pos h, zI_succ, bnd]
  by_cases c : pk T p = x
  · rw [if_pos (by rw [c]), if_pos c]; rfl
  · rw [if_neg (by simp (disch := omega) only [z_0, z_1, z_2, z_3, z_4, z_5, z_6, z_7, z_8, z_9, z_10, z_12, z_13, z_16, z_20, z_24, z_30, z_31, z_32, z_38, z_42, z_44, z_45, z_47, z_48, z_49, z_50, z_57, z_58, z_59, z_60, z_61, z_91, z_97, z_98, z_100, z_108, z_114, z_120, z_122, z_126, z_127, z_128, z_200, z_255, z_961, z_990, z_992, z_998, z_999, z_1000, z_1092, z_1114, z_7798, z_10000, z_1000000, zI_neg, zI_add, zI_sub, zI_mul, zI_lt, zI_le, zI_eq, if_pos, if_neg, if_true, if_false, Option.bind_some, bnd, ldI_is, ldJ_is, Int.toNat_natCast,  c, not_false_eq_true]), if_neg c]; rfl
theorem c_isDigit (h : CInp F w a T p) : fX3_isDigit F N w a = some (if isDg (pk T p) = true then 1 else 0) := by
  have hp := pk_lim h.gt p
  unfold fX3_isDigit
  rw [c_peek h]
  simp only [Option.bind_some, isDg_is]
  by_cases c : pk T p < 48
  · rw [if_pos (by simp (disch := omega) only [z_0, z_1, z_2, z_3, z_4, z_5, z_6, z_7, z_8, z_9, z_10, z_12, z_13, z_16, z_20, z_24, z_30, z_31, z_32, z_38, z_42, z_44, z_45, z_47, z_48, z_49, z_50, z_57, z_58, z_59, z_60, z_61, z_91, z_97, z_98, z_100, z_108, z_114, z_120, z_122, z_126, z_127, z_128, z_200, z_255, z_961, z_990, z_992, z_998, z_999, z_1000, z_1092, z_1114, z_7798, z_10000, z_1000000, zI_neg, zI_add, zI_sub, zI_mul, zI_lt, zI_le, zI_eq, if_pos, if_neg, if_true, if_false, Option.bind_some, bnd, ldI_is, ldJ_is, Int.toNat_natCast, ]; exact c), if_neg (by omega)]
  · rw [if_neg (by simp (disch := omega) only [z_0, z_1, z_2, z_3, z_4, z_5, z_6, z_7, z_8, z_9, z_10, z_12, z_13, z_16, z_20, z_24, z_30, z_31, z_32, z_38, z_42, z_44, z_45, z_47, z_48, z_49, z_50, z_57, z_58, z_59, z_60, z_61, z_91, z_97, z_98, z_100, z_108, z_114, z_120, z_122, z_126, z_127, z_128, z_200, z_255, z_961, z_990, z_992, z_998, z_999, z_1000, z_1092, z_1114, z_7798, z_10000, z_1000000, zI_neg, zI_add, zI_sub, zI_mul, zI_lt, zI_le, zI_eq, if_pos, if_neg, if_true, if_false, Option.bind_some, bnd, ldI_is, ldJ_is, Int.toNat_natCast,  Int.not_lt]; omega)]
    by_cases d : 57 < pk T p
    · rw [if_pos (by simp (disch := omega) only [z_0, z_1, z_2, z_3, z_4, z_5, z_6, z_7, z_8, z_9, z_10, z_12, z_13, z_16, z_20, z_24, z_30, z_31, z_32, z_38, z_42, z_44, z_45, z_47, z_48, z_49, z_50, z_57, z_58, z_59, z_60, z_61, z_91, z_97, z_98, z_100, z_108, z_114, z_120, z_122, z_126, z_127, z_128, z_200, z_255, z_961, z_990, z_992, z_998, z_999, z_1000, z_1092, z_1114, z_7798, z_10000, z_1000000, zI_neg, zI_add, zI_sub, zI_mul, zI_lt, zI_le, zI_eq, if_pos, if_neg, if_true, if_false, Option.bind_some, bnd, ldI_is, ldJ_is, Int.toNat_natCast, ]; exact d), if_neg (by omega)]
    · rw [if_neg (by simp (disch := omega) only [z_0, z_1, z_2, z_3, z_4, z_5, z_6, z_7, z_8, z_9, z_10, z_12, z_13, z_16, z_20, z_24, z_30, z_31, z_32, z_38, z_42, z_44, z_45, z_47, z_48, z_49, z_50, z_57, z_58, z_59, z_60, z_61, z_91, z_97, z_98, z_100, z_108, z_114, z_120, z_122, z_126, z_127, z_128, z_200, z_255, z_961, z_990, z_992, z_998, z_999, z_1000, z_1092, z_1114, z_7798, z_10000, z_1000000, zI_neg, zI_add, zI_sub, zI_mul, zI_lt, zI_le, zI_eq, if_pos, if_neg, if_true, if_false, Option.bind_some, bnd, ldI_is, ldJ_is, Int.toNat_natCast,  Int.not_lt]; omega), if_pos (by omega)]
theorem c_isAtEnd (h : CInp F w a T p) : fX3_isAtEnd F N w a = some (if tn T ≤ p then 1 else 0) := by
  have hg := h.gt.1
  have hl := h.lim
  unfold fX3_isAtEnd
  rw [c_pos h, c_len h]
  by_cases c : tn T ≤ p
  · rw [if_neg (by simp (disch := omega) only [z_0, z_1, z_2, z_3, z_4, z_5, z_6, z_7, z_8, z_9, z_10, z_12, z_13, z_16, z_20, z_24, z_30, z_31, z_32, z_38, z_42, z_44, z_45, z_47, z_48, z_49, z_50, z_57, z_58, z_59, z_60, z_61, z_91, z_97, z_98, z_100, z_108, z_114, z_120, z_122, z_126, z_127, z_128, z_200, z_255, z_961, z_990, z_992, z_998, z_999, z_1000, z_1092, z_1114, z_7798, z_10000, z_1000000, zI_neg, zI_add, zI_sub, zI_mul, zI_lt, zI_le, zI_eq, if_pos, if_neg, if_true, if_false, Option.bind_some, bnd, ldI_is, ldJ_is, Int.toNat_natCast,  Int.not_lt]; omega), if_pos c]
  · rw [if_pos (by simp (disch := omega) only [z_0, z_1, z_2, z_3, z_4, z_5, z_6, z_7, z_8, z_9, z_10, z_12, z_13, z_16, z_20, z_24, z_30, z_31, z_32, z_38, z_42, z_44, z_45, z_47, z_48, z_49, z_50, z_57, z_58, z_59, z_60, z_61, z_91, z_97, z_98, z_100, z_108, z_114, z_120, z_122, z_126, z_127, z_128, z_200, z_255, z_961, z_990, z_992, z_998, z_999, z_1000, z_1092, z_1114, z_7798, z_10000, z_1000000, zI_neg, zI_add, zI_sub, zI_mul, zI_lt, zI_le, zI_eq, if_pos, if_neg, if_true, if_false, Option.bind_some, bnd, ldI_is, ldJ_is, Int.toNat_natCast, ]; omega), if_neg c]
theorem c_readTier (h : CInp F w a T p) {n : Nat} (hn : n ≤ 6) : fX3_readTier F N w a (zI n) = some (if 48 ≤ pk T p ∧ pk T p < 48 + n then (zI ((pk T p - 48).toNat : Int), ps w a (p + 1)) else (zI (-1), w)) := by
  have hp := pk_lim h.gt p
  unfold fX3_readTier
  rw [c_peek h]
  simp only [Option.bind_some, bnd, c_pos h, zI_succ, z_48, zI_sub, z3_m1]
  by_cases c : pk T p - 48 < 0
  · rw [if_pos (by simp (disch := omega) only [z_0, z_1, z_2, z_3, z_4, z_5, z_6, z_7, z_8, z_9, z_10, z_12, z_13, z_16, z_20, z_24, z_30, z_31, z_32, z_38, z_42, z_44, z_45, z_47, z_48, z_49, z_50, z_57, z_58, z_59, z_60, z_61, z_91, z_97, z_98, z_100, z_108, z_114, z_120, z_122, z_126, z_127, z_128, z_200, z_255, z_961, z_990, z_992, z_998, z_999, z_1000, z_1092, z_1114, z_7798, z_10000, z_1000000, zI_neg, zI_add, zI_sub, zI_mul, zI_lt, zI_le, zI_eq, if_pos, if_neg, if_true, if_false, Option.bind_some, bnd, ldI_is, ldJ_is, Int.toNat_natCast, ]; exact c), if_neg (by omega)]
  · rw [if_neg (by simp (disch := omega) only [z_0, z_1, z_2, z_3, z_4, z_5, z_6, z_7, z_8, z_9, z_10, z_12, z_13, z_16, z_20, z_24, z_30, z_31, z_32, z_38, z_42, z_44, z_45, z_47, z_48, z_49, z_50, z_57, z_58, z_59, z_60, z_61, z_91, z_97, z_98, z_100, z_108, z_114, z_120, z_122, z_126, z_127, z_128, z_200, z_255, z_961, z_990, z_992, z_998, z_999, z_1000, z_1092, z_1114, z_7798, z_10000, z_1000000, zI_neg, zI_add, zI_sub, zI_mul, zI_lt, zI_le, zI_eq, if_pos, if_neg, if_true, if_false, Option.bind_some, bnd, ldI_is, ldJ_is, Int.toNat_natCast,  Int.not_lt]; omega)]
    by_cases d : pk T p - 48 < n
    · rw [if_pos (by simp (disch := omega) only [z_0, z_1, z_2, z_3, z_4, z_5, z_6, z_7, z_8, z_9, z_10, z_12, z_13, z_16, z_20, z_24, z_30, z_31, z_32, z_38, z_42, z_44, z_45, z_47, z_48, z_49, z_50, z_57, z_58, z_59, z_60, z_61, z_91, z_97, z_98, z_100, z_108, z_114, z_120, z_122, z_126, z_127, z_128, z_200, z_255, z_961, z_990, z_992, z_998, z_999, z_1000, z_1092, z_1114, z_7798, z_10000, z_1000000, zI_neg, zI_add, zI_sub, zI_mul, zI_lt, zI_le, zI_eq, if_pos, if_neg, if_true, if_false, Option.bind_some, bnd, ldI_is, ldJ_is, Int.toNat_natCast, ]; exact d), if_pos (by omega)]
      rw [show ((pk T p - 48).toNat : Int) = pk T p - 48 from by omega]
      rfl
    · rw [if_neg (by simp (disch := omega) only [z_0, z_1, z_2, z_3, z_4, z_5, z_6, z_7, z_8, z_9, z_10, z_12, z_13, z_16, z_20, z_24, z_30, z_31, z_32, z_38, z_42, z_44, z_45, z_47, z_48, z_49, z_50, z_57, z_58, z_59, z_60, z_61, z_91, z_97, z_98, z_100, z_108, z_114, z_120, z_122, z_126, z_127, z_128, z_200, z_255, z_961, z_990, z_992, z_998, z_999, z_1000, z_1092, z_1114, z_7798, z_10000, z_1000000, zI_neg, zI_add, zI_sub, zI_mul, zI_lt, zI_le, zI_eq, if_pos, if_neg, if_true, if_false, Option.bind_some, bnd, ldI_is, ldJ_is, Int.toNat_natCast,  Int.not_lt]; omega), if_neg (by omega)]
theorem c_readNumber_24 : ∀ (m k j p : Nat) (w : Wd) (A : Int), CInp F w a T p → j + k = 4 → k < m → 0 ≤ A → A < 10 ^ j → fX3_readNumber_24 F N m w a (zI A) (zI j) = some (zI (numL T k p A).1, ps w a (numL T k p A).2) := by
  intro m
  induction m with
  | zero => intro k j p w A _ _ h; omega
  | succ m ih =>
    intro k j p w A h hj hm hA hB
    unfold fX3_readNumber_24 numL
    cases k with
    | zero =>
      rw [if_pos (by simp (disch := omega) only [z_0, z_1, z_2, z_3, z_4, z_5, z_6, z_7, z_8, z_9, z_10, z_12, z_13, z_16, z_20, z_24, z_30, z_31, z_32, z_38, z_42, z_44, z_45, z_47, z_48, z_49, z_50, z_57, z_58, z_59, z_60, z_61, z_91, z_97, z_98, z_100, z_108, z_114, z_120, z_122, z_126, z_127, z_128, z_200, z_255, z_961, z_990, z_992, z_998, z_999, z_1000, z_1092, z_1114, z_7798, z_10000, z_1000000, zI_neg, zI_add, zI_sub, zI_mul, zI_lt, zI_le, zI_eq, if_pos, if_neg, if_true, if_false, Option.bind_some, bnd, ldI_is, ldJ_is, Int.toNat_natCast, ]; omega), h.here]
    | succ k =>
      rw [if_neg (by simp (disch := omega) only [z_0, z_1, z_2, z_3, z_4, z_5, z_6, z_7, z_8, z_9, z_10, z_12, z_13, z_16, z_20, z_24, z_30, z_31, z_32, z_38, z_42, z_44, z_45, z_47, z_48, z_49, z_50, z_57, z_58, z_59, z_60, z_61, z_91, z_97, z_98, z_100, z_108, z_114, z_120, z_122, z_126, z_127, z_128, z_200, z_255, z_961, z_990, z_992, z_998, z_999, z_1000, z_1092, z_1114, z_7798, z_10000, z_1000000, zI_neg, zI_add, zI_sub, zI_mul, zI_lt, zI_le, zI_eq, if_pos, if_neg, if_true, if_false, Option.bind_some, bnd, ldI_is, ldJ_is, Int.toNat_natCast,  Int.not_le]; omega), c_isDigit h]
      simp only [Option.bind_some]
      by_cases c : isDg (pk T p) = true
      · have h1 := isDg_is.mp c
        have h2 := (pk_lim h.gt p).2.2 (by omega)
        have hj4 : (10 : Int) ^ j ≤ 1000 := by
          have hj9 : j = 0 ∨ j = 1 ∨ j = 2 ∨ j = 3 := by omega
          rcases hj9 with rfl | rfl | rfl | rfl <;> decide
        rw [if_pos c, if_neg (by decide), if_pos c, c_peek h]
        simp only [Option.bind_some, bnd, c_pos h, zI_succ]
        have e : ((zI A) * 10 + zI (pk T p)) - 48 = zI (A * 10 + pk T p - 48) := by
          rw [z_10, z_48, zI_mul, zI_add, zI_sub]
        rw [e]
        have e2 : sI w 302 a (zI ((p + 1 : Nat) : Int)) = ps w a (p + 1) := rfl
        rw [e2, ih k (j + 1) (p + 1) (ps w a (p + 1)) (A * 10 + pk T p - 48) (h.mv (by omega)) (by omega) (by omega) (by omega) (by rw [Int.pow_succ]; omega), ps_ps]
      · rw [if_neg c, if_pos (by rfl), if_neg c, h.here]
theorem c_readNumber (h : CInp F w a T p) (hN : 40 ≤ N) : fX3_readNumber F N w a = some (zI (numP T p).1, ps w a (numP T p).2) := by
  unfold fX3_readNumber numP
  rw [c_isDigit h]
  simp only [Option.bind_some]
  by_cases c : isDg (pk T p) = true
  · have h1 := isDg_is.mp c
    have h2 := (pk_lim h.gt p).2.2 (by omega)
    rw [if_pos c, if_neg (by decide), if_pos c, z_48, c_take h (by omega)]
    simp only [Option.bind_some]
    by_cases d : pk T p = 48
    · simp only [if_pos d]
      rw [if_neg (by decide)]
      rfl
    · simp only [if_neg d]
      rw [if_pos (by decide), z_0]
      exact c_readNumber_24 N 4 0 p w 0 h (by omega) (by omega) (by omega) (by decide)
  · rw [if_neg c, if_pos (by rfl), if_neg c, h.here]
    rfl
theorem c_isLetterOf (h : CInp F w a T p) {kd : Int} (hk : 0 ≤ kd ∧ kd ≤ 3) : fX3_isLetterOf F N w a (zI kd) = some (if ofK kd (pk T p) = true then 1 else 0) := by
  have hp := pk_lim h.gt p
  unfold fX3_isLetterOf fX3_isLetterOf_50 ofK
  rw [c_peek h, c_isDigit h]
  simp only [Option.bind_some]
  by_cases c : kd = 1
  · rw [if_pos (by rw [c]; rfl)]
    simp only [if_pos c, decide_eq_true_eq]
    by_cases d1 : pk T p = 108
    · rw [if_pos (by rw [d1]; rfl), if_pos (by omega)]
    · rw [if_neg (by simp (disch := omega) only [z_0, z_1, z_2, z_3, z_4, z_5, z_6, z_7, z_8, z_9, z_10, z_12, z_13, z_16, z_20, z_24, z_30, z_31, z_32, z_38, z_42, z_44, z_45, z_47, z_48, z_49, z_50, z_57, z_58, z_59, z_60, z_61, z_91, z_97, z_98, z_100, z_108, z_114, z_120, z_122, z_126, z_127, z_128, z_200, z_255, z_961, z_990, z_992, z_998, z_999, z_1000, z_1092, z_1114, z_7798, z_10000, z_1000000, zI_neg, zI_add, zI_sub, zI_mul, zI_lt, zI_le, zI_eq, if_pos, if_neg, if_true, if_false, Option.bind_some, bnd, ldI_is, ldJ_is, Int.toNat_natCast,  d1, not_false_eq_true])]
      by_cases d2 : pk T p = 114
      · rw [if_pos (by rw [d2]; rfl), if_pos (by omega)]
      · rw [if_neg (by simp (disch := omega) only [z_0, z_1, z_2, z_3, z_4, z_5, z_6, z_7, z_8, z_9, z_10, z_12, z_13, z_16, z_20, z_24, z_30, z_31, z_32, z_38, z_42, z_44, z_45, z_47, z_48, z_49, z_50, z_57, z_58, z_59, z_60, z_61, z_91, z_97, z_98, z_100, z_108, z_114, z_120, z_122, z_126, z_127, z_128, z_200, z_255, z_961, z_990, z_992, z_998, z_999, z_1000, z_1092, z_1114, z_7798, z_10000, z_1000000, zI_neg, zI_add, zI_sub, zI_mul, zI_lt, zI_le, zI_eq, if_pos, if_neg, if_true, if_false, Option.bind_some, bnd, ldI_is, ldJ_is, Int.toNat_natCast,  d2, not_false_eq_true])]
        by_cases d3 : pk T p = 98
        · rw [if_pos (by rw [d3]; rfl), if_pos (by omega)]
        · rw [if_neg (by simp (disch := omega) only [z_0, z_1, z_2, z_3, z_4, z_5, z_6, z_7, z_8, z_9, z_10, z_12, z_13, z_16, z_20, z_24, z_30, z_31, z_32, z_38, z_42, z_44, z_45, z_47, z_48, z_49, z_50, z_57, z_58, z_59, z_60, z_61, z_91, z_97, z_98, z_100, z_108, z_114, z_120, z_122, z_126, z_127, z_128, z_200, z_255, z_961, z_990, z_992, z_998, z_999, z_1000, z_1092, z_1114, z_7798, z_10000, z_1000000, zI_neg, zI_add, zI_sub, zI_mul, zI_lt, zI_le, zI_eq, if_pos, if_neg, if_true, if_false, Option.bind_some, bnd, ldI_is, ldJ_is, Int.toNat_natCast,  d3, not_false_eq_true]), if_neg (by omega)]
  · rw [if_neg (by simp (disch := omega) only [z_0, z_1, z_2, z_3, z_4, z_5, z_6, z_7, z_8, z_9, z_10, z_12, z_13, z_16, z_20, z_24, z_30, z_31, z_32, z_38, z_42, z_44, z_45, z_47, z_48, z_49, z_50, z_57, z_58, z_59, z_60, z_61, z_91, z_97, z_98, z_100, z_108, z_114, z_120, z_122, z_126, z_127, z_128, z_200, z_255, z_961, z_990, z_992, z_998, z_999, z_1000, z_1092, z_1114, z_7798, z_10000, z_1000000, zI_neg, zI_add, zI_sub, zI_mul, zI_lt, zI_le, zI_eq, if_pos, if_neg, if_true, if_false, Option.bind_some, bnd, ldI_is, ldJ_is, Int.toNat_natCast,  c, not_false_eq_true])]
    simp only [if_neg c]
    by_cases d : kd = 2
    · rw [if_pos (by rw [d]; rfl)]
      simp only [if_pos d]
      by_cases e : isDg (pk T p) = true
      · rw [if_pos e]; rfl
      · rw [if_neg e]; rfl
    · rw [if_neg (by simp (disch := omega) only [z_0, z_1, z_2, z_3, z_4, z_5, z_6, z_7, z_8, z_9, z_10, z_12, z_13, z_16, z_20, z_24, z_30, z_31, z_32, z_38, z_42, z_44, z_45, z_47, z_48, z_49, z_50, z_57, z_58, z_59, z_60, z_61, z_91, z_97, z_98, z_100, z_108, z_114, z_120, z_122, z_126, z_127, z_128, z_200, z_255, z_961, z_990, z_992, z_998, z_999, z_1000, z_1092, z_1114, z_7798, z_10000, z_1000000, zI_neg, zI_add, zI_sub, zI_mul, zI_lt, zI_le, zI_eq, if_pos, if_neg, if_true, if_false, Option.bind_some, bnd, ldI_is, ldJ_is, Int.toNat_natCast,  d, not_false_eq_true])]
      simp only [if_neg d, decide_eq_true_eq]
      by_cases e1 : pk T p < 97
      · rw [if_pos (by simp (disch := omega) only [z_0, z_1, z_2, z_3, z_4, z_5, z_6, z_7, z_8, z_9, z_10, z_12, z_13, z_16, z_20, z_24, z_30, z_31, z_32, z_38, z_42, z_44, z_45, z_47, z_48, z_49, z_50, z_57, z_58, z_59, z_60, z_61, z_91, z_97, z_98, z_100, z_108, z_114, z_120, z_122, z_126, z_127, z_128, z_200, z_255, z_961, z_990, z_992, z_998, z_999, z_1000, z_1092, z_1114, z_7798, z_10000, z_1000000, zI_neg, zI_add, zI_sub, zI_mul, zI_lt, zI_le, zI_eq, if_pos, if_neg, if_true, if_false, Option.bind_some, bnd, ldI_is, ldJ_is, Int.toNat_natCast, ]; exact e1), if_neg (by omega)]
      · rw [if_neg (by simp (disch := omega) only [z_0, z_1, z_2, z_3, z_4, z_5, z_6, z_7, z_8, z_9, z_10, z_12, z_13, z_16, z_20, z_24, z_30, z_31, z_32, z_38, z_42, z_44, z_45, z_47, z_48, z_49, z_50, z_57, z_58, z_59, z_60, z_61, z_91, z_97, z_98, z_100, z_108, z_114, z_120, z_122, z_126, z_127, z_128, z_200, z_255, z_961, z_990, z_992, z_998, z_999, z_1000, z_1092, z_1114, z_7798, z_10000, z_1000000, zI_neg, zI_add, zI_sub, zI_mul, zI_lt, zI_le, zI_eq, if_pos, if_neg, if_true, if_false, Option.bind_some, bnd, ldI_is, ldJ_is, Int.toNat_natCast,  Int.not_lt]; omega)]
        by_cases e2 : 122 < pk T p
        · rw [if_pos (by simp (disch := omega) only [z_0, z_1, z_2, z_3, z_4, z_5, z_6, z_7, z_8, z_9, z_10, z_12, z_13, z_16, z_20, z_24, z_30, z_31, z_32, z_38, z_42, z_44, z_45, z_47, z_48, z_49, z_50, z_57, z_58, z_59, z_60, z_61, z_91, z_97, z_98, z_100, z_108, z_114, z_120, z_122, z_126, z_127, z_128, z_200, z_255, z_961, z_990, z_992, z_998, z_999, z_1000, z_1092, z_1114, z_7798, z_10000, z_1000000, zI_neg, zI_add, zI_sub, zI_mul, zI_lt, zI_le, zI_eq, if_pos, if_neg, if_true, if_false, Option.bind_some, bnd, ldI_is, ldJ_is, Int.toNat_natCast, ]; exact e2), if_neg (by omega)]
        · rw [if_neg (by simp (disch := omega) only [z_0, z_1, z_2, z_3, z_4, z_5, z_6, z_7, z_8, z_9, z_10, z_12, z_13, z_16, z_20, z_24, z_30, z_31, z_32, z_38, z_42, z_44, z_45, z_47, z_48, z_49, z_50, z_57, z_58, z_59, z_60, z_61, z_91, z_97, z_98, z_100, z_108, z_114, z_120, z_122, z_126, z_127, z_128, z_200, z_255, z_961, z_990, z_992, z_998, z_999, z_1000, z_1092, z_1114, z_7798, z_10000, z_1000000, zI_neg, zI_add, zI_sub, zI_mul, zI_lt, zI_le, zI_eq, if_pos, if_neg, if_true, if_false, Option.bind_some, bnd, ldI_is, ldJ_is, Int.toNat_natCast,  Int.not_lt]; omega), if_pos (by omega)]
theorem c_readLabel_21 {kd : Int} (hk : 0 ≤ kd ∧ kd ≤ 3) {M : Nat} (hM : M ≤ 8) : ∀ (m k p : Nat) (w : Wd) (l : List Nat), CInp F w a T p → l.length + k = M → k < m → (∀ d ∈ l, d < 128) →
    fX3_readLabel_21 F N m w a (zI kd) (zI M) (cL l) (zI l.length) = some (cL (l ++ labR T kd k p), ps w a (p + (labR T kd k p).length)) := by
  intro m
  induction m with
  | zero => intro k p w l _ _ h; omega
  | succ m ih =>
    intro k p w l h hl hm hv
    unfold fX3_readLabel_21 labR
    cases k with
    | zero =>
      rw [if_pos (by simp (disch := omega) only [z_0, z_1, z_2, z_3, z_4, z_5, z_6, z_7, z_8, z_9, z_10, z_12, z_13, z_16, z_20, z_24, z_30, z_31, z_32, z_38, z_42, z_44, z_45, z_47, z_48, z_49, z_50, z_57, z_58, z_59, z_60, z_61, z_91, z_97, z_98, z_100, z_108, z_114, z_120, z_122, z_126, z_127, z_128, z_200, z_255, z_961, z_990, z_992, z_998, z_999, z_1000, z_1092, z_1114, z_7798, z_10000, z_1000000, zI_neg, zI_add, zI_sub, zI_mul, zI_lt, zI_le, zI_eq, if_pos, if_neg, if_true, if_false, Option.bind_some, bnd, ldI_is, ldJ_is, Int.toNat_natCast, ]; omega)]
      show _ = some (cL (l ++ []), ps w a (p + 0))
      rw [List.append_nil, Nat.add_zero, h.here]
    | succ k =>
      rw [if_neg (by simp (disch := omega) only [z_0, z_1, z_2, z_3, z_4, z_5, z_6, z_7, z_8, z_9, z_10, z_12, z_13, z_16, z_20, z_24, z_30, z_31, z_32, z_38, z_42, z_44, z_45, z_47, z_48, z_49, z_50, z_57, z_58, z_59, z_60, z_61, z_91, z_97, z_98, z_100, z_108, z_114, z_120, z_122, z_126, z_127, z_128, z_200, z_255, z_961, z_990, z_992, z_998, z_999, z_1000, z_1092, z_1114, z_7798, z_10000, z_1000000, zI_neg, zI_add, zI_sub, zI_mul, zI_lt, zI_le, zI_eq, if_pos, if_neg, if_true, if_false, Option.bind_some, bnd, ldI_is, ldJ_is, Int.toNat_natCast,  Int.not_le]; omega), c_isLetterOf h hk]
      simp only [Option.bind_some]
      by_cases c : ofK kd (pk T p) = true
      · have h1 := ofK_lim c
        have h2 := (pk_lim h.gt p).2.2 (by omega)
        rw [if_pos c, if_neg (by decide), if_pos c, c_peek h]
        simp only [Option.bind_some, bnd, c_pos h, zI_succ]
        unfold fX8_withLetter
        obtain ⟨v, hv2⟩ : ∃ v : Nat, pk T p = v := ⟨(pk T p).toNat, by omega⟩
        rw [hv2, put_letter (by omega) hv (by omega)]
        simp only [Option.bind_some, Int.toNat_natCast]
        have e2 : sI w 302 a (zI ((p + 1 : Nat) : Int)) = ps w a (p + 1) := rfl
        have e3 : ((l.length + 1 : Nat) : Int) = ((l ++ [v]).length : Int) := by simp
        rw [e2, e3, ih k (p + 1) (ps w a (p + 1)) (l ++ [v]) (h.mv (by omega)) (by simp; omega) (by omega) (fun d hd => by
          rcases List.mem_append.mp hd with h9 | h9
          · exact hv d h9
          · have : d = v := by simpa using h9
            omega), ps_ps, List.append_assoc, List.length_cons]
        rw [show p + 1 + (labR T kd k (p + 1)).length = p + ((labR T kd k (p + 1)).length + 1) from by omega]
        rfl
      · rw [if_neg c, if_pos (by rfl), if_neg c]
        show _ = some (cL (l ++ []), ps w a (p + 0))
        rw [List.append_nil, Nat.add_zero, h.here]
theorem c_readLabel (h : CInp F w a T p) (hN : 40 ≤ N) {kd : Int} (hk : 0 ≤ kd ∧ kd ≤ 3) : fX3_readLabel F N w a (zI kd) = some (cL (labK T kd p), ps w a (p + (labK T kd p).length)) := by
  unfold fX3_readLabel fX3_readLabel_9 fX3_readLabel_15 labK mstK
  have e8 := c_readLabel_21 (N := N) (a := a) (T := T) (F := F) hk (M := 8) (by omega) N 8 p w [] h (by simp) (by omega) (fun d hd => by cases hd)
  have e1 := c_readLabel_21 (N := N) (a := a) (T := T) (F := F) hk (M := 1) (by omega) N 1 p w [] h (by simp) (by omega) (fun d hd => by cases hd)
  rw [List.nil_append] at e8 e1
  by_cases c : kd = 0
  · rw [if_pos (by rw [c]; rfl), if_pos (Or.inl c)]
    exact e8
  · rw [if_neg (by simp (disch := omega) only [z_0, z_1, z_2, z_3, z_4, z_5, z_6, z_7, z_8, z_9, z_10, z_12, z_13, z_16, z_20, z_24, z_30, z_31, z_32, z_38, z_42, z_44, z_45, z_47, z_48, z_49, z_50, z_57, z_58, z_59, z_60, z_61, z_91, z_97, z_98, z_100, z_108, z_114, z_120, z_122, z_126, z_127, z_128, z_200, z_255, z_961, z_990, z_992, z_998, z_999, z_1000, z_1092, z_1114, z_7798, z_10000, z_1000000, zI_neg, zI_add, zI_sub, zI_mul, zI_lt, zI_le, zI_eq, if_pos, if_neg, if_true, if_false, Option.bind_some, bnd, ldI_is, ldJ_is, Int.toNat_natCast,  c, not_false_eq_true])]
    by_cases d : kd = 3
    · rw [if_pos (by rw [d]; rfl), if_pos (Or.inr d)]
      exact e8
    · rw [if_neg (by simp (disch := omega) only [z_0, z_1, z_2, z_3, z_4, z_5, z_6, z_7, z_8, z_9, z_10, z_12, z_13, z_16, z_20, z_24, z_30, z_31, z_32, z_38, z_42, z_44, z_45, z_47, z_48, z_49, z_50, z_57, z_58, z_59, z_60, z_61, z_91, z_97, z_98, z_100, z_108, z_114, z_120, z_122, z_126, z_127, z_128, z_200, z_255, z_961, z_990, z_992, z_998, z_999, z_1000, z_1092, z_1114, z_7798, z_10000, z_1000000, zI_neg, zI_add, zI_sub, zI_mul, zI_lt, zI_le, zI_eq, if_pos, if_neg, if_true, if_false, Option.bind_some, bnd, ldI_is, ldJ_is, Int.toNat_natCast,  d, not_false_eq_true]), if_neg (by omega)]
      exact e1
end CINP
