/-! the class reads a pattern -/
abbrev Pe : Type := Nat × Int × List Nat × Bool
def prtP (n : Nat) (kd : Nat → Int) (T : Tx) (p : Nat) : Option (Nat × List Nat) × Nat :=
  if 48 ≤ pk T p ∧ pk T p < 48 + n then
    (if pk T (p + 1) = 61 then
      (if pk T (p + 1 + 1) = 42 then (some ((pk T p - 48).toNat, []), p + 1 + 1 + 1)
      else if labK T (kd (pk T p - 48).toNat) (p + 1 + 1) = [] then (none, p + 1 + 1) else (some ((pk T p - 48).toNat, labK T (kd (pk T p - 48).toNat) (p + 1 + 1)), p + 1 + 1 + (labK T (kd (pk T p - 48).toNat) (p + 1 + 1)).length))
    else (none, p + 1))
  else (none, p)
def patP (n : Nat) (kd : Nat → Int) (T : Tx) : Nat → Bool → Nat → Option (List Pe) × Nat
  | 0, _, p => (none, p)
  | f + 1, m, p => match prtP n kd T p with
    | (none, q) => (none, q)
    | (some e, q) => if tn T ≤ q then (some [(e.1, kd e.1, e.2, m)], q)
      else if f = 0 then (none, q)
      else if pk T q = 38 then (match patP n kd T f true (q + 1) with
        | (none, r) => (none, r)
        | (some l, r) => (some ((e.1, kd e.1, e.2, m) :: l), r))
      else if pk T q = 44 then (match patP n kd T f false (q + 1) with
        | (none, r) => (none, r)
        | (some l, r) => (some ((e.1, kd e.1, e.2, m) :: l), r))
      else (none, q)
def GPe (e : Pe) : Prop := e.1 < 6 ∧ (0 ≤ e.2.1 ∧ e.2.1 ≤ 3) ∧ (e.2.2.1 = [] ∨ VL e.2.2.1)
theorem prtP_lim {T : Tx} (hg : GT T) {n : Nat} (hn : n ≤ 6) {kd : Nat → Int} {p : Nat} (hp : p ≤ tn T) : (prtP n kd T p).2 ≤ tn T ∧ ∀ e, (prtP n kd T p).1 = some e → e.1 < n ∧ (e.2 = [] ∨ VL e.2) ∧ p + 2 < (prtP n kd T p).2 := by
  unfold prtP
  by_cases c : 48 ≤ pk T p ∧ pk T p < 48 + n
  · have h0 := (pk_lim hg p).2.2 (by omega)
    rw [if_pos c]
    by_cases c1 : pk T (p + 1) = 61
    · have h1 := (pk_lim hg (p + 1)).2.2 (by omega)
      rw [if_pos c1]
      by_cases c2 : pk T (p + 1 + 1) = 42
      · have h2 := (pk_lim hg (p + 1 + 1)).2.2 (by omega)
        rw [if_pos c2]
        refine ⟨h2, fun e he => ?_⟩
        cases he
        exact ⟨by show (pk T p - 48).toNat < n; omega, Or.inl rfl, by show p + 2 < p + 1 + 1 + 1; omega⟩
      · rw [if_neg c2]
        obtain ⟨l1, l2⟩ := labK_lim (kd := kd (pk T p - 48).toNat) hg (p := p + 1 + 1) (by omega)
        by_cases c3 : labK T (kd (pk T p - 48).toNat) (p + 1 + 1) = []
        · rw [if_pos c3]
          exact ⟨by show p + 1 + 1 ≤ tn T; omega, fun e he => by cases he⟩
        · rw [if_neg c3]
          have hv := l2 c3
          have hl := hv.1
          refine ⟨l1, fun e he => ?_⟩
          cases he
          exact ⟨by show (pk T p - 48).toNat < n; omega, Or.inr hv, by show p + 2 < p + 1 + 1 + _; omega⟩
    · rw [if_neg c1]
      exact ⟨by show p + 1 ≤ tn T; omega, fun e he => by cases he⟩
  · rw [if_neg c]
    exact ⟨hp, fun e he => by cases he⟩
def CPat (F : Fr) (w : Wd) (z : Nat) : Prop := (okF F z 5 ∧ okF F (z + 1) 11 ∧ okF F (z + 2) 11 ∧ okF F (z + 3) 12 ∧ okF F (z + 4) 13 ∧ okF F (z + 5) 11) ∧ (F.2.1 (z + 1) = 4 ∧ F.2.1 (z + 2) = 4 ∧ F.2.1 (z + 3) = 4 ∧ F.2.1 (z + 4) = 4 ∧ F.2.1 (z + 5) = 120) ∧ (gR w 500 z = some (z + 1) ∧ gR w 501 z = some (z + 2) ∧ gR w 502 z = some (z + 3) ∧ gR w 503 z = some (z + 4) ∧ gR w 504 z = some (z + 5) ∧ gR w 505 z = some (z + 6)) ∧ CRow F w (z + 6) emR
def DPe (w : Wd) (z i : Nat) (e : Pe) : Prop := aI w (z + 1) i = zI e.1 ∧ aI w (z + 2) i = zI e.2.1 ∧ aJ w (z + 3) i = cL e.2.2.1 ∧ (0 < i → aI w (z + 4) i = zI (if e.2.2.2 = true then 1 else 0))
def DPat (w : Wd) (z : Nat) (p : List Pe) : Prop := gI w 506 z = zI (p.length : Nat) ∧ ∀ i e, p[i]? = some e → DPe w z i e
theorem CPat.keep {F : Fr} {S : Nat → Prop} {w w' : Wd} {z : Nat} (h : CPat F w z) (k : Kp S w w') (hs : ¬ S z) (hr : ∀ x, z + 6 ≤ x → x < z + 10 → ¬ S x) : CPat F w' z := by
  obtain ⟨h1, h2, ⟨g1, g2, g3, g4, g5, g6⟩, h4⟩ := h
  exact ⟨h1, h2, ⟨by rw [k.gR hs]; exact g1, by rw [k.gR hs]; exact g2, by rw [k.gR hs]; exact g3, by rw [k.gR hs]; exact g4, by rw [k.gR hs]; exact g5, by rw [k.gR hs]; exact g6⟩, h4.keep k fun y y1 y2 => hr y y1 (by omega)⟩
theorem DPe.keep {S : Nat → Prop} {w w' : Wd} {z i : Nat} {e : Pe} (h : DPe w z i e) (k : Kp S w w') (h1 : ¬ S (z + 1)) (h2 : ¬ S (z + 2)) (h3 : ¬ S (z + 3)) (h4 : ¬ S (z + 4)) : DPe w' z i e := by
  unfold DPe
  rw [k.aI h1, k.aI h2, k.aJ h3, k.aI h4]
  exact h
theorem DPat.keep {S : Nat → Prop} {w w' : Wd} {z : Nat} {p : List Pe} (h : DPat w z p) (k : Kp S w w') (h0 : ¬ S z) (h1 : ¬ S (z + 1)) (h2 : ¬ S (z + 2)) (h3 : ¬ S (z + 3)) (h4 : ¬ S (z + 4)) : DPat w' z p :=
  ⟨by rw [k.gI h0]; exact h.1, fun i e he => (h.2 i e he).keep k h1 h2 h3 h4⟩
section PAT
variable {F : Fr} {N : Nat} {w : Wd} {z a b : Nat} {T : Tx} {k : Bk} {p : Nat}
theorem c_readPart_53 (A : CPat F w z) (B : CBook F w b k) (db : z + 6 ≤ b ∨ b + 57 ≤ z) {i t : Nat} (hi : i < 4) (ht : t < bn k) {l : List Nat} {y : Int32} {acc : List Pe} (hl : acc.length = i) (D : ∀ j e, acc[j]? = some e → DPe w z j e) {m : Bool} (hm : 0 < i → aI w (z + 4) i = zI (if m = true then 1 else 0)) :
    Ev (fX5_readPart_53 F N w z b (zI i) (zI t) y (cL l)) fun x => CPat F x.2 z ∧ CBook F x.2 b k ∧ Kp (fun q => q = z + 1 ∨ q = z + 2 ∨ q = z + 3) w x.2 ∧ (∀ j e, (acc ++ [(t, bkd k t, l, m)])[j]? = some e → DPe x.2 z j e) ∧ x.1 = if y = 0 ∧ cL l = 0 then 0 else 1 := by
  obtain ⟨⟨o0, o1, o2, o3, o4, o5⟩, ⟨n1, n2, n3, n4, n5⟩, ⟨g1, g2, g3, g4, g5, g6⟩, h4⟩ := id A
  unfold fX5_readPart_53
  refine ev_neg (by simp (disch := omega) only [z_0, z_1, z_2, z_3, z_4, z_5, z_6, z_7, z_8, z_9, z_10, z_12, z_13, z_16, z_20, z_24, z_30, z_31, z_32, z_38, z_42, z_44, z_45, z_47, z_48, z_49, z_50, z_57, z_58, z_59, z_60, z_61, z_91, z_97, z_98, z_100, z_108, z_114, z_120, z_122, z_126, z_127, z_128, z_200, z_255, z_961, z_990, z_992, z_998, z_999, z_1000, z_1092, z_1114, z_7798, z_10000, z_1000000, zI_neg, zI_add, zI_sub, zI_mul, zI_lt, zI_le, zI_eq, if_pos, if_neg, if_true, if_false, Option.bind_some, bnd, ldI_is, ldJ_is, Int.toNat_natCast,  Int.not_lt]; omega) (ev_neg (by simp (disch := omega) only [z_0, z_1, z_2, z_3, z_4, z_5, z_6, z_7, z_8, z_9, z_10, z_12, z_13, z_16, z_20, z_24, z_30, z_31, z_32, z_38, z_42, z_44, z_45, z_47, z_48, z_49, z_50, z_57, z_58, z_59, z_60, z_61, z_91, z_97, z_98, z_100, z_108, z_114, z_120, z_122, z_126, z_127, z_128, z_200, z_255, z_961, z_990, z_992, z_998, z_999, z_1000, z_1092, z_1114, z_7798, z_10000, z_1000000, zI_neg, zI_add, zI_sub, zI_mul, zI_lt, zI_le, zI_eq, if_pos, if_neg, if_true, if_false, Option.bind_some, bnd, ldI_is, ldJ_is, Int.toNat_natCast,  Int.not_le]; omega) (ev_rdR g1 o1 (ev_eq (stI_is (by omega) (by omega) (by omega)) ?_)))
  simp only [Int.toNat_natCast]
  generalize hw1 : sAI w (z + 1) (upd (aI w (z + 1)) i (zI (t : Int))) = w1
  have k1 : Kp (fun q => q = z + 1) w w1 := hw1 ▸ kp_sAI (S := fun q => q = z + 1) _ _ rfl
  have B1 := B.keep k1 fun y y1 y2 => by omega
  have A1 := A.keep k1 (by omega) fun y y1 y2 => by omega
  refine ev_rdR A1.2.2.1.2.1 o2 ?_
  rw [c_kindOf B1 ht]
  simp only [Option.bind_some]
  refine ev_eq (stI_is (by omega) (by omega) (by omega)) ?_
  simp only [Int.toNat_natCast]
  generalize hw2 : sAI w1 (z + 2) (upd (aI w1 (z + 2)) i (zI (bkd k t))) = w2
  have k2 : Kp (fun q => q = z + 2) w1 w2 := hw2 ▸ kp_sAI (S := fun q => q = z + 2) _ _ rfl
  have B2 := B1.keep k2 fun y y1 y2 => by omega
  have A2 := A1.keep k2 (by omega) fun y y1 y2 => by omega
  refine ev_rdR A2.2.2.1.2.2.1 o3 (ev_eq (stJ_is (by omega) (by omega) (by omega)) ?_)
  simp only [Int.toNat_natCast]
  generalize hw3 : sAJ w2 (z + 3) (vp_updL (aJ w2 (z + 3)) i (cL l)) = w3
  have k3 : Kp (fun q => q = z + 3) w2 w3 := hw3 ▸ kp_sAJ (S := fun q => q = z + 3) _ _ rfl
  have B3 := B2.keep k3 fun y y1 y2 => by omega
  have A3 := A2.keep k3 (by omega) fun y y1 y2 => by omega
  have K : Kp (fun q => q = z + 1 ∨ q = z + 2 ∨ q = z + 3) w w3 := ((k1.mono fun q hq => Or.inl hq).trans (k2.mono fun q hq => Or.inr (Or.inl hq))).trans (k3.mono fun q hq => Or.inr (Or.inr hq))
  have D3 : ∀ j e, (acc ++ [(t, bkd k t, l, m)])[j]? = some e → DPe w3 z j e := by
    intro j e he
    have e1 : aI w3 (z + 1) j = if j = i then zI t else aI w (z + 1) j := by
      rw [k3.aI (a := z + 1) (by omega), k2.aI (a := z + 1) (by omega), ← hw1, q_aI_sAI, if_pos rfl, upd_is]
    have e2 : aI w3 (z + 2) j = if j = i then zI (bkd k t) else aI w (z + 2) j := by
      rw [k3.aI (a := z + 2) (by omega), ← hw2, q_aI_sAI, if_pos rfl, upd_is, k1.aI (a := z + 2) (by omega)]
    have e3 : aJ w3 (z + 3) j = if j = i then cL l else aJ w (z + 3) j := by
      rw [← hw3, q_aJ_sAJ, if_pos rfl, updL_is, k2.aJ (a := z + 3) (by omega), k1.aJ (a := z + 3) (by omega)]
    have e4 : aI w3 (z + 4) j = aI w (z + 4) j := by
      rw [k3.aI (a := z + 4) (by omega), k2.aI (a := z + 4) (by omega), k1.aI (a := z + 4) (by omega)]
    unfold DPe
    rw [e1, e2, e3, e4]
    rw [List.getElem?_append] at he
    by_cases c : j < acc.length
    · rw [if_pos c] at he
      have d := D j e he
      rw [if_neg (c := j = i) (by omega), if_neg (c := j = i) (by omega), if_neg (c := j = i) (by omega)]
      exact d
    · rw [if_neg c] at he
      have ej : j = i := by
        rcases Nat.lt_or_ge (j - acc.length) 1 with c9 | c9
        · omega
        · rw [List.getElem?_eq_none (by simpa using c9)] at he; cases he
      subst ej
      rw [hl, Nat.sub_self] at he
      have ee : e = (t, bkd k t, l, m) := by simpa using he.symm
      subst ee
      rw [if_pos rfl, if_pos rfl, if_pos rfl]
      exact ⟨rfl, rfl, rfl, hm⟩
  unfold fX5_readPart_92 fX5_readPart_104
  by_cases c1 : y = 0
  · refine ev_pos c1 ?_
    by_cases c2 : cL l = 0
    · exact ev_pos (by rw [lg_cmp_eq]; exact c2) (ev_some ⟨A3, B3, K, D3, by rw [if_pos ⟨c1, c2⟩]⟩)
    · exact ev_neg (by rw [lg_cmp_eq]; exact c2) (ev_some ⟨A3, B3, K, D3, by rw [if_neg (fun h => c2 h.2)]⟩)
  · exact ev_neg c1 (ev_some ⟨A3, B3, K, D3, by rw [if_neg (fun h => c1 h.1)]⟩)
def RdS (a z : Nat) : Nat → Prop := fun q => q = a ∨ q = z ∨ q = z + 1 ∨ q = z + 2 ∨ q = z + 3 ∨ q = z + 4
theorem c_readPart (h : CInp F w a T p) (A : CPat F w z) (B : CBook F w b k) (db : z + 6 ≤ b ∨ b + 57 ≤ z) (dab : a < b ∨ b + 57 ≤ a) (daz : a + 1 < z ∨ z + 10 ≤ a) (hN : 40 ≤ N) {i : Nat} (hi : i < 4) {acc : List Pe} (hl : acc.length = i) (D : ∀ j e, acc[j]? = some e → DPe w z j e) {m : Bool} (hm : 0 < i → aI w (z + 4) i = zI (if m = true then 1 else 0)) :
    Ev (fX5_readPart F N w z a b (zI i)) fun x => CInp F x.2 a T (prtP (bn k) (bkd k) T p).2 ∧ CPat F x.2 z ∧ CBook F x.2 b k ∧ Kp (RdS a z) w x.2 ∧ (((prtP (bn k) (bkd k) T p).1 = none ∧ x.1 = 0) ∨ ∃ e, (prtP (bn k) (bkd k) T p).1 = some e ∧ x.1 = 1 ∧ ∀ j e', (acc ++ [(e.1, bkd k e.1, e.2, m)])[j]? = some e' → DPe x.2 z j e') := by
  have hg := h.gt
  have hn := B.g.1
  have ka : ∀ {w1 : Wd}, Kp (fun q => q = a) w w1 → Kp (RdS a z) w w1 := fun k => k.mono fun q hq => Or.inl hq
  unfold fX5_readPart prtP
  rw [c_bn B, c_readTier h hn]
  simp only [Option.bind_some]
  by_cases c : 48 ≤ pk T p ∧ pk T p < 48 + bn k
  · have h0 := (pk_lim hg p).2.2 (by omega)
    simp only [if_pos c]
    refine ev_neg (by simp (disch := omega) only [z_0, z_1, z_2, z_3, z_4, z_5, z_6, z_7, z_8, z_9, z_10, z_12, z_13, z_16, z_20, z_24, z_30, z_31, z_32, z_38, z_42, z_44, z_45, z_47, z_48, z_49, z_50, z_57, z_58, z_59, z_60, z_61, z_91, z_97, z_98, z_100, z_108, z_114, z_120, z_122, z_126, z_127, z_128, z_200, z_255, z_961, z_990, z_992, z_998, z_999, z_1000, z_1092, z_1114, z_7798, z_10000, z_1000000, zI_neg, zI_add, zI_sub, zI_mul, zI_lt, zI_le, zI_eq, if_pos, if_neg, if_true, if_false, Option.bind_some, bnd, ldI_is, ldJ_is, Int.toNat_natCast,  Int.not_lt]; omega) ?_
    have H1 := h.mv (q := p + 1) (by omega)
    rw [z_61, c_take H1 (by omega)]
    simp only [Option.bind_some]
    by_cases c1 : pk T (p + 1) = 61
    · have h1 := (pk_lim hg (p + 1)).2.2 (by omega)
      simp only [if_pos c1]
      refine ev_neg (by decide) ?_
      have H2 := H1.mv (q := p + 1 + 1) (by omega)
      rw [ps_ps] at H2 ⊢
      rw [z_42, c_take H2 (by omega)]
      simp only [Option.bind_some]
      have ht : (pk T p - 48).toNat < bn k := by omega
      generalize (pk T p - 48).toNat = t at ht ⊢
      have K2 : Kp (fun q => q = a) w (ps w a (p + 1 + 1)) := kp_sI (S := fun q => q = a) _ _ rfl
      by_cases c2 : pk T (p + 1 + 1) = 42
      · have h2 := (pk_lim hg (p + 1 + 1)).2.2 (by omega)
        simp only [if_pos c2]
        refine ev_neg (by decide) ?_
        rw [ps_ps]
        have K3 : Kp (fun q => q = a) w (ps w a (p + 1 + 1 + 1)) := kp_sI (S := fun q => q = a) _ _ rfl
        have A3 := A.keep K3 (by omega) fun y y1 y2 => by omega
        have B3 := B.keep K3 fun y y1 y2 => by omega
        have e0 : (0 : Int64) = cL [] := rfl
        rw [e0]
        refine ev_mono (c_readPart_53 (y := zI 1) (l := []) (m := m) A3 B3 db hi ht hl (fun j e he => (D j e he).keep K3 (by omega) (by omega) (by omega) (by omega)) (fun h9 => by rw [K3.aI (by omega)]; exact hm h9)) fun x ⟨x1, x2, x3, x4, x5⟩ => ⟨?_, x1, x2, (ka K3).trans (x3.mono fun q hq => by unfold RdS; omega), Or.inr ⟨(t, []), rfl, ?_, x4⟩⟩
        · exact (h.mv (by omega)).keep x3 (by omega) (by omega)
        · rw [x5, if_neg (fun h9 => absurd h9.1 (by decide))]
      · simp only [if_neg c2]
        refine ev_pos (by decide) ?_
        have B2 := B.keep K2 fun y y1 y2 => by omega
        rw [c_kindOf B2 ht]
        simp only [Option.bind_some]
        have hkd := (B.g.2.2.2.2 t ht).1
        rw [c_readLabel H2 hN hkd]
        simp only [Option.bind_some, ps_ps]
        obtain ⟨l1, l2⟩ := labK_lim (kd := bkd k t) hg (p := p + 1 + 1) (by omega)
        have K3 : Kp (fun q => q = a) w (ps w a (p + 1 + 1 + (labK T (bkd k t) (p + 1 + 1)).length)) := kp_sI (S := fun q => q = a) _ _ rfl
        have A3 := A.keep K3 (by omega) fun y y1 y2 => by omega
        have B3 := B.keep K3 fun y y1 y2 => by omega
        refine ev_mono (c_readPart_53 (y := zI 0) (l := labK T (bkd k t) (p + 1 + 1)) (m := m) A3 B3 db hi ht hl (fun j e he => (D j e he).keep K3 (by omega) (by omega) (by omega) (by omega)) (fun h9 => by rw [K3.aI (by omega)]; exact hm h9)) fun x ⟨x1, x2, x3, x4, x5⟩ => ?_
        have hx := (h.mv (q := p + 1 + 1 + (labK T (bkd k t) (p + 1 + 1)).length) l1).keep x3 (by omega) (by omega)
        have hK := (ka K3).trans (x3.mono fun q hq => by unfold RdS; omega)
        by_cases c3 : labK T (bkd k t) (p + 1 + 1) = []
        · simp only [if_pos c3]
          rw [c3] at hx x5
          exact ⟨hx, x1, x2, hK, Or.inl ⟨trivial, by rw [x5]; rfl⟩⟩
        · simp only [if_neg c3]
          refine ⟨hx, x1, x2, hK, Or.inr ⟨_, rfl, ?_, x4⟩⟩
          rw [x5, if_neg (fun h9 => cL_ne (l2 c3) h9.2)]
    · simp only [if_neg c1]
      refine ev_pos (by decide) ?_
      have K1 : Kp (fun q => q = a) w (ps w a (p + 1)) := kp_sI (S := fun q => q = a) _ _ rfl
      exact ev_some ⟨H1, A.keep K1 (by omega) fun y y1 y2 => by omega, B.keep K1 fun y y1 y2 => by omega, ka K1, Or.inl ⟨trivial, rfl⟩⟩
  · simp only [if_neg c]
    refine ev_pos (by decide) ?_
    exact ev_some ⟨h, A, B, Kp.refl _, Or.inl ⟨trivial, rfl⟩⟩
theorem c_readFrom_11 (db : z + 6 ≤ b ∨ b + 57 ≤ z) (dab : a < b ∨ b + 57 ≤ a) (daz : a + 1 < z ∨ z + 10 ≤ a) (hN : 40 ≤ N) : ∀ (n f i p : Nat) (m : Bool) (acc : List Pe) (w : Wd), CInp F w a T p → CPat F w z → CBook F w b k → i + f = 4 → f < n → acc.length = i → (∀ j e, acc[j]? = some e → DPe w z j e) → (0 < i → aI w (z + 4) i = zI (if m = true then 1 else 0)) →
    Ev (fX5_readFrom_11 F N n w z a b (zI i)) fun x => CInp F x.2 a T (patP (bn k) (bkd k) T f m p).2 ∧ CPat F x.2 z ∧ CBook F x.2 b k ∧ Kp (RdS a z) w x.2 ∧ (((patP (bn k) (bkd k) T f m p).1 = none ∧ x.1 = 0) ∨ ∃ l, (patP (bn k) (bkd k) T f m p).1 = some l ∧ x.1 = 1 ∧ DPat x.2 z (acc ++ l) ∧ 1 ≤ l.length ∧ l.length ≤ f ∧ ∀ e ∈ l, GPe e) := by
  intro n
  induction n with
  | zero => intro f i p m acc w _ _ _ _ h; omega
  | succ n ih =>
    intro f i p m acc w h A B hif hf hl D hm
    have hg := h.gt
    have hn := B.g.1
    unfold fX5_readFrom_11
    cases f with
    | zero =>
      exact ev_pos (by simp (disch := omega) only [z_0, z_1, z_2, z_3, z_4, z_5, z_6, z_7, z_8, z_9, z_10, z_12, z_13, z_16, z_20, z_24, z_30, z_31, z_32, z_38, z_42, z_44, z_45, z_47, z_48, z_49, z_50, z_57, z_58, z_59, z_60, z_61, z_91, z_97, z_98, z_100, z_108, z_114, z_120, z_122, z_126, z_127, z_128, z_200, z_255, z_961, z_990, z_992, z_998, z_999, z_1000, z_1092, z_1114, z_7798, z_10000, z_1000000, zI_neg, zI_add, zI_sub, zI_mul, zI_lt, zI_le, zI_eq, if_pos, if_neg, if_true, if_false, Option.bind_some, bnd, ldI_is, ldJ_is, Int.toNat_natCast, ]; omega) (ev_some ⟨h, A, B, Kp.refl _, Or.inl ⟨rfl, rfl⟩⟩)
    | succ f =>
      refine ev_neg (by simp (disch := omega) only [z_0, z_1, z_2, z_3, z_4, z_5, z_6, z_7, z_8, z_9, z_10, z_12, z_13, z_16, z_20, z_24, z_30, z_31, z_32, z_38, z_42, z_44, z_45, z_47, z_48, z_49, z_50, z_57, z_58, z_59, z_60, z_61, z_91, z_97, z_98, z_100, z_108, z_114, z_120, z_122, z_126, z_127, z_128, z_200, z_255, z_961, z_990, z_992, z_998, z_999, z_1000, z_1092, z_1114, z_7798, z_10000, z_1000000, zI_neg, zI_add, zI_sub, zI_mul, zI_lt, zI_le, zI_eq, if_pos, if_neg, if_true, if_false, Option.bind_some, bnd, ldI_is, ldJ_is, Int.toNat_natCast,  Int.not_le]; omega) ?_
      refine ev_then (c_readPart h A B db dab daz hN (by omega) hl D hm) fun x ⟨x1, x2, x3, x4, x5⟩ => ?_
      have hlim := prtP_lim hg hn (kd := bkd k) h.2.2
      unfold patP
      rcases e : prtP (bn k) (bkd k) T p with ⟨o, q⟩
      rw [e] at x1 x5 hlim
      dsimp only at x1 x5 hlim
      rcases x5 with ⟨rfl, y2⟩ | ⟨i9, rfl, y2, y3⟩
      · exact ev_pos y2 (ev_some ⟨x1, x2, x3, x4, Or.inl ⟨rfl, rfl⟩⟩)
      · refine ev_neg (by rw [y2]; decide) ?_
        obtain ⟨q1, q2⟩ := hlim
        obtain ⟨q3, q4, q5⟩ := q2 i9 rfl
        rw [zI_succ]
        have K4 : Kp (fun y => y = z) x.2 (sI x.2 506 z (zI ((i + 1 : Nat) : Int))) := kp_sI (S := fun y => y = z) _ _ rfl
        have e506 : gI (sI x.2 506 z (zI ((i + 1 : Nat) : Int))) 506 z = zI ((i + 1 : Nat) : Int) := by rw [q_gI_sI, if_pos ⟨rfl, rfl⟩]
        have A4 : CPat F (sI x.2 506 z (zI ((i + 1 : Nat) : Int))) z := x2
        refine ev_bnd ?_
        generalize sI x.2 506 z (zI ((i + 1 : Nat) : Int)) = w4 at K4 e506 A4 ⊢
        have B4 := x3.keep K4 fun y y1 y2 => by omega
        have H4 := x1.keep K4 (by omega) (by omega)
        have KK : Kp (RdS a z) w w4 := x4.trans (K4.mono fun y hy => by unfold RdS; omega)
        have D4 : ∀ j e', (acc ++ [(i9.1, bkd k i9.1, i9.2, m)])[j]? = some e' → DPe w4 z j e' := fun j e' he => (y3 j e' he).keep K4 (by omega) (by omega) (by omega) (by omega)
        have hge : GPe (i9.1, bkd k i9.1, i9.2, m) := ⟨by show i9.1 < 6; omega, (B.g.2.2.2.2 i9.1 q3).1, q4⟩
        rw [c_isAtEnd H4]
        simp only [Option.bind_some]
        by_cases c1 : tn T ≤ q
        · simp only [if_pos c1]
          refine ev_neg (by decide) (ev_some ⟨H4, A4, B4, KK, Or.inr ⟨_, rfl, rfl, ⟨?_, D4⟩, Nat.le_refl _, by simp, fun e' he' => ?_⟩⟩)
          · rw [e506]; congr 2; simp; omega
          · have : e' = (i9.1, bkd k i9.1, i9.2, m) := by simpa using he'
            rw [this]; exact hge
        · simp only [if_neg c1]
          refine ev_pos (by decide) ?_
          unfold fX5_readLink fX5_readLink_41
          refine ev_bind ?_
          by_cases c2 : f = 0
          · simp only [if_pos c2]
            refine ev_neg (by simp (disch := omega) only [z_0, z_1, z_2, z_3, z_4, z_5, z_6, z_7, z_8, z_9, z_10, z_12, z_13, z_16, z_20, z_24, z_30, z_31, z_32, z_38, z_42, z_44, z_45, z_47, z_48, z_49, z_50, z_57, z_58, z_59, z_60, z_61, z_91, z_97, z_98, z_100, z_108, z_114, z_120, z_122, z_126, z_127, z_128, z_200, z_255, z_961, z_990, z_992, z_998, z_999, z_1000, z_1092, z_1114, z_7798, z_10000, z_1000000, zI_neg, zI_add, zI_sub, zI_mul, zI_lt, zI_le, zI_eq, if_pos, if_neg, if_true, if_false, Option.bind_some, bnd, ldI_is, ldJ_is, Int.toNat_natCast,  Int.not_lt]; omega) (ev_neg (by simp (disch := omega) only [z_0, z_1, z_2, z_3, z_4, z_5, z_6, z_7, z_8, z_9, z_10, z_12, z_13, z_16, z_20, z_24, z_30, z_31, z_32, z_38, z_42, z_44, z_45, z_47, z_48, z_49, z_50, z_57, z_58, z_59, z_60, z_61, z_91, z_97, z_98, z_100, z_108, z_114, z_120, z_122, z_126, z_127, z_128, z_200, z_255, z_961, z_990, z_992, z_998, z_999, z_1000, z_1092, z_1114, z_7798, z_10000, z_1000000, zI_neg, zI_add, zI_sub, zI_mul, zI_lt, zI_le, zI_eq, if_pos, if_neg, if_true, if_false, Option.bind_some, bnd, ldI_is, ldJ_is, Int.toNat_natCast,  Int.not_lt]; omega) (ev_some (ev_pos rfl (ev_some ⟨H4, A4, B4, KK, Or.inl ⟨trivial, rfl⟩⟩))))
          · simp only [if_neg c2]
            refine ev_neg (by simp (disch := omega) only [z_0, z_1, z_2, z_3, z_4, z_5, z_6, z_7, z_8, z_9, z_10, z_12, z_13, z_16, z_20, z_24, z_30, z_31, z_32, z_38, z_42, z_44, z_45, z_47, z_48, z_49, z_50, z_57, z_58, z_59, z_60, z_61, z_91, z_97, z_98, z_100, z_108, z_114, z_120, z_122, z_126, z_127, z_128, z_200, z_255, z_961, z_990, z_992, z_998, z_999, z_1000, z_1092, z_1114, z_7798, z_10000, z_1000000, zI_neg, zI_add, zI_sub, zI_mul, zI_lt, zI_le, zI_eq, if_pos, if_neg, if_true, if_false, Option.bind_some, bnd, ldI_is, ldJ_is, Int.toNat_natCast,  Int.not_lt]; omega) (ev_pos (by simp (disch := omega) only [z_0, z_1, z_2, z_3, z_4, z_5, z_6, z_7, z_8, z_9, z_10, z_12, z_13, z_16, z_20, z_24, z_30, z_31, z_32, z_38, z_42, z_44, z_45, z_47, z_48, z_49, z_50, z_57, z_58, z_59, z_60, z_61, z_91, z_97, z_98, z_100, z_108, z_114, z_120, z_122, z_126, z_127, z_128, z_200, z_255, z_961, z_990, z_992, z_998, z_999, z_1000, z_1092, z_1114, z_7798, z_10000, z_1000000, zI_neg, zI_add, zI_sub, zI_mul, zI_lt, zI_le, zI_eq, if_pos, if_neg, if_true, if_false, Option.bind_some, bnd, ldI_is, ldJ_is, Int.toNat_natCast, ]; omega) ?_)
            obtain ⟨⟨o0, o1, o2, o3, o4, o5⟩, ⟨n1, n2, n3, n4, n5⟩, ⟨g1, g2, g3, g4, g5, g6⟩, -⟩ := id A4
            refine ev_rdR g4 o4 ?_
            rw [z_38, c_take H4 (by omega)]
            simp only [Option.bind_some]
            -- what follows behind a link
            have go : ∀ (m' : Bool) (w6 : Wd), CInp F w6 a T (q + 1) → CPat F w6 z → CBook F w6 b k → Kp (RdS a z) w w6 → (∀ j e', (acc ++ [(i9.1, bkd k i9.1, i9.2, m)])[j]? = some e' → DPe w6 z j e') → aI w6 (z + 4) (i + 1) = zI (if m' = true then 1 else 0) →
                Ev (fX5_readFrom_11 F N n w6 z a b (zI ((i + 1 : Nat) : Int))) fun x => CInp F x.2 a T (match patP (bn k) (bkd k) T f m' (q + 1) with
                  | (none, r) => ((none : Option (List Pe)), r)
                  | (some l, r) => (some ((i9.1, bkd k i9.1, i9.2, m) :: l), r)).2 ∧ CPat F x.2 z ∧ CBook F x.2 b k ∧ Kp (RdS a z) w x.2 ∧ (((match patP (bn k) (bkd k) T f m' (q + 1) with
                  | (none, r) => ((none : Option (List Pe)), r)
                  | (some l, r) => (some ((i9.1, bkd k i9.1, i9.2, m) :: l), r)).1 = none ∧ x.1 = 0) ∨ ∃ l, (match patP (bn k) (bkd k) T f m' (q + 1) with
                  | (none, r) => ((none : Option (List Pe)), r)
                  | (some l, r) => (some ((i9.1, bkd k i9.1, i9.2, m) :: l), r)).1 = some l ∧ x.1 = 1 ∧ DPat x.2 z (acc ++ l) ∧ 1 ≤ l.length ∧ l.length ≤ f + 1 ∧ ∀ e ∈ l, GPe e) := by
              intro m' w6 H6 A6 B6 K6 D6 M6
              refine ev_mono (ih f (i + 1) (q + 1) m' (acc ++ [(i9.1, bkd k i9.1, i9.2, m)]) w6 H6 A6 B6 (by omega) (by omega) (by simp; omega) D6 (fun _ => M6)) fun y ⟨z1, z2, z3, z4, z5⟩ => ?_
              rcases e9 : patP (bn k) (bkd k) T f m' (q + 1) with ⟨o9, r⟩
              rw [e9] at z1 z5
              dsimp only at z1 z5
              rcases z5 with ⟨rfl, y9⟩ | ⟨l, rfl, y5, y6, y7, y8, y9⟩
              · exact ⟨z1, z2, z3, K6.trans z4, Or.inl ⟨rfl, y9⟩⟩
              · refine ⟨z1, z2, z3, K6.trans z4, Or.inr ⟨_, rfl, y5, ?_, by rw [List.length_cons]; omega, by rw [List.length_cons]; omega, fun e' he' => ?_⟩⟩
                · rw [List.append_assoc] at y6; exact y6
                · rcases List.mem_cons.mp he' with h9 | h9
                  · rw [h9]; exact hge
                  · exact y9 e' h9
            by_cases c3 : pk T q = 38
            · have hq := (pk_lim hg q).2.2 (by omega)
              simp only [if_pos c3]
              rw [show vp_nar .boolean (zI 1) = zI 1 from rfl]
              refine ev_eq (stI_is (by omega) (by omega) (by omega)) ?_
              simp only [Int.toNat_natCast]
              generalize hw5 : sAI (ps w4 a (q + 1)) (z + 4) (upd (aI (ps w4 a (q + 1)) (z + 4)) (i + 1) (zI 1)) = w5
              have k5 : Kp (fun y => y = a ∨ y = z + 4) w4 w5 := hw5 ▸ (kp_sI (S := fun y => y = a ∨ y = z + 4) _ _ (Or.inl rfl)).trans (kp_sAI _ _ (Or.inr rfl))
              have e5 : aI w5 (z + 4) (i + 1) = zI 1 := by rw [← hw5, q_aI_sAI, if_pos rfl, upd_is, if_pos rfl]
              refine ev_rdR (by rw [k5.gR (by omega)]; exact g4) o4 (ev_eq (ldI_is (by omega) (by omega) (by omega)) ?_)
              simp only [Int.toNat_natCast]
              refine ev_neg (by rw [e5]; decide) (ev_some ?_)
              refine ev_neg (show ¬ (1 : Int32) = 0 by decide) ?_
              refine go true w5 ?_ (A4.keep k5 (by omega) fun y y1 y2 => by omega) (B4.keep k5 fun y y1 y2 => by omega) (KK.trans (k5.mono fun y hy => by unfold RdS; omega)) (fun j e' he => ?_) e5
              · have hz : Kp (fun y => y = z + 4) (ps w4 a (q + 1)) w5 := hw5 ▸ kp_sAI (S := fun y => y = z + 4) _ _ rfl
                exact (H4.mv (by omega)).keep hz (by omega) (by omega)
              · have d := D4 j e' he
                have hj : j < i + 1 := by
                  rcases Nat.lt_or_ge j (i + 1) with c9 | c9
                  · exact c9
                  · rw [List.getElem?_eq_none (by simp; omega)] at he; cases he
                unfold DPe at d ⊢
                rw [k5.aI (by omega), k5.aI (by omega), k5.aJ (by omega)]
                refine ⟨d.1, d.2.1, d.2.2.1, fun h9 => ?_⟩
                rw [← hw5, q_aI_sAI, if_pos rfl, upd_is, if_neg (by omega)]
                exact d.2.2.2 h9
            · simp only [if_neg c3]
              rw [show vp_nar .boolean (zI 0) = zI 0 from rfl]
              refine ev_eq (stI_is (by omega) (by omega) (by omega)) ?_
              simp only [Int.toNat_natCast]
              generalize hw5 : sAI w4 (z + 4) (upd (aI w4 (z + 4)) (i + 1) (zI 0)) = w5
              have k5 : Kp (fun y => y = z + 4) w4 w5 := hw5 ▸ kp_sAI (S := fun y => y = z + 4) _ _ rfl
              have e5 : aI w5 (z + 4) (i + 1) = zI 0 := by rw [← hw5, q_aI_sAI, if_pos rfl, upd_is, if_pos rfl]
              have H5 := H4.keep k5 (by omega) (by omega)
              have A5 := A4.keep k5 (by omega) fun y y1 y2 => by omega
              have B5 := B4.keep k5 fun y y1 y2 => by omega
              have K5 : Kp (RdS a z) w w5 := KK.trans (k5.mono fun y hy => by unfold RdS; omega)
              have D5 : ∀ j e', (acc ++ [(i9.1, bkd k i9.1, i9.2, m)])[j]? = some e' → DPe w5 z j e' := by
                intro j e' he
                have d := D4 j e' he
                have hj : j < i + 1 := by
                  rcases Nat.lt_or_ge j (i + 1) with c9 | c9
                  · exact c9
                  · rw [List.getElem?_eq_none (by simp; omega)] at he; cases he
                unfold DPe at d ⊢
                rw [k5.aI (by omega), k5.aI (by omega), k5.aJ (by omega)]
                refine ⟨d.1, d.2.1, d.2.2.1, fun h9 => ?_⟩
                rw [← hw5, q_aI_sAI, if_pos rfl, upd_is, if_neg (by omega)]
                exact d.2.2.2 h9
              refine ev_rdR (by rw [k5.gR (by omega)]; exact g4) o4 (ev_eq (ldI_is (by omega) (by omega) (by omega)) ?_)
              simp only [Int.toNat_natCast]
              refine ev_pos (by rw [e5]; decide) ?_
              rw [z_44, c_take H5 (by omega)]
              simp only [Option.bind_some]
              by_cases c4 : pk T q = 44
              · have hq := (pk_lim hg q).2.2 (by omega)
                simp only [if_pos c4]
                refine ev_neg (by decide) (ev_some (ev_neg (show ¬ (1 : Int32) = 0 by decide) ?_))
                have k6 : Kp (fun y => y = a) w5 (ps w5 a (q + 1)) := kp_sI (S := fun y => y = a) _ _ rfl
                refine go false (ps w5 a (q + 1)) (H5.mv (by omega)) (A5.keep k6 (by omega) fun y y1 y2 => by omega) (B5.keep k6 fun y y1 y2 => by omega) (K5.trans (k6.mono fun y hy => by unfold RdS; omega)) (fun j e' he => (D5 j e' he).keep k6 (by omega) (by omega) (by omega) (by omega)) ?_
                rw [k6.aI (by omega)]; exact e5
              · simp only [if_neg c4]
                refine ev_pos (by decide) (ev_some (ev_pos rfl ?_))
                exact ev_some ⟨H5, A5, B5, K5, Or.inl ⟨trivial, rfl⟩⟩
theorem c_readFrom (h : CIn0 F w a T) (A : CPat F w z) (B : CBook F w b k) (db : z + 6 ≤ b ∨ b + 57 ≤ z) (dab : a < b ∨ b + 57 ≤ a) (daz : a + 1 < z ∨ z + 10 ≤ a) (hN : 40 ≤ N) :
    Ev (fX5_readFrom F N w z a b) fun x => CInp F x.2 a T (patP (bn k) (bkd k) T 4 false 0).2 ∧ CPat F x.2 z ∧ CBook F x.2 b k ∧ Kp (RdS a z) w x.2 ∧ (((patP (bn k) (bkd k) T 4 false 0).1 = none ∧ x.1 = 0) ∨ ∃ l, (patP (bn k) (bkd k) T 4 false 0).1 = some l ∧ x.1 = 1 ∧ DPat x.2 z l ∧ 1 ≤ l.length ∧ l.length ≤ 4 ∧ ∀ e ∈ l, GPe e) := by
  unfold fX5_readFrom
  refine ev_then (c_restart h) fun w1 ⟨h1, k1⟩ => ?_
  have K2 : Kp (fun y => y = z) w1 (sI w1 506 z 0) := kp_sI (S := fun y => y = z) _ _ rfl
  have A1 := A.keep k1 (by omega) fun y y1 y2 => by omega
  have A2 : CPat F (sI w1 506 z 0) z := A1
  refine ev_bnd ?_
  refine ev_mono (c_readFrom_11 db dab daz hN N 4 0 0 false [] (sI w1 506 z 0) (h1.keep K2 (by omega) (by omega)) A2 ((B.keep k1 fun y y1 y2 => by omega).keep K2 fun y y1 y2 => by omega) (by omega) (by omega) rfl (fun j e he => by cases he) (fun h9 => by omega)) fun x ⟨x1, x2, x3, x4, x5⟩ => ⟨x1, x2, x3, ((k1.mono fun y hy => Or.inl hy).trans (K2.mono fun y hy => Or.inr (Or.inl hy))).trans x4, x5⟩
end PAT
