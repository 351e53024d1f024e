/-! the reference reads a text of spans -/
def qL (F : Fr) (N : Nat) (w : Wd) (z : Nat) : Option Wd := (rdR F w 944 z 12).bind fun r16 => if (gI w 910 z) = 0 then (rdR F w 941 z 11).bind fun r18 => (ldI F w r18 (gI w 945 z)).bind fun x19 => (fX9_kind F N w z x19).bind fun x20 => fX9_readItem_90 F N w z r16 (gI w 945 z) z x20 else fX9_readItem_90 F N w z r16 (gI w 945 z) z 0
def qE (F : Fr) (N : Nat) (w : Wd) (z : Nat) : Option Wd := (rdR F w 943 z 11).bind fun r12 => (fX9_number F N w z).bind fun p13 => (stI F p13.2 r12 (gI w 945 z) p13.1).bind fun w14 => (fX9_sign F N w14 z 61).bind fun p15 => qL F N p15 z
def qF (F : Fr) (N : Nat) (w : Wd) (z : Nat) : Option Wd := (rdR F w 942 z 11).bind fun r8 => (fX9_number F N w z).bind fun p9 => (stI F p9.2 r8 (gI w 945 z) p9.1).bind fun w10 => (fX9_sign F N w10 z 45).bind fun p11 => qE F N p11 z
theorem q_item (F : Fr) (N : Nat) (w : Wd) (z : Nat) : fX9_readItem F N w z = (rdR F w 941 z 11).bind fun r4 => (fX9_readTierNumber F N w z).bind fun p5 => (stI F p5.2 r4 (gI w 945 z) p5.1).bind fun w6 => (fX9_sign F N w6 z 58).bind fun p7 => qF F N p7 z := rfl
def IT (w : Wd) (z j : Nat) (i : Itm) : Prop := aI w (z + 22) j = zI (i.1 : Nat) ∧ aI w (z + 23) j = zI i.2.1 ∧ aI w (z + 24) j = zI i.2.2.1 ∧ aJ w (z + 25) j = mL i.2.2.2
/-- only place m of the items was written -/
def Wr (z m : Nat) (w w' : Wd) : Prop := Sc z w w' ∧ gI w' 906 z = gI w 906 z ∧ (∀ j, ¬ j = m → aI w' (z + 22) j = aI w (z + 22) j) ∧ (∀ j, ¬ j = m → aI w' (z + 23) j = aI w (z + 23) j) ∧ (∀ j, ¬ j = m → aI w' (z + 24) j = aI w (z + 24) j) ∧ ∀ j, ¬ j = m → aJ w' (z + 25) j = aJ w (z + 25) j
theorem Wr.refl (z m : Nat) (w : Wd) : Wr z m w w := ⟨Sc.refl _ _, rfl, fun _ _ => rfl, fun _ _ => rfl, fun _ _ => rfl, fun _ _ => rfl⟩
theorem Wr.trans {z m : Nat} {u v w : Wd} (h : Wr z m u v) (k : Wr z m v w) : Wr z m u w := by
  obtain ⟨h1, h2, h3, h4, h5, h6⟩ := h
  obtain ⟨k1, k2, k3, k4, k5, k6⟩ := k
  exact ⟨h1.trans k1, k2.trans h2, fun j hj => (k3 j hj).trans (h3 j hj), fun j hj => (k4 j hj).trans (h4 j hj), fun j hj => (k5 j hj).trans (h5 j hj), fun j hj => (k6 j hj).trans (h6 j hj)⟩
theorem Wr.it {z m : Nat} {w w' : Wd} (h : Wr z m w w') {j : Nat} (hj : ¬ j = m) {i : Itm} (k : IT w z j i) : IT w' z j i :=
  ⟨(h.2.2.1 j hj).trans k.1, (h.2.2.2.1 j hj).trans k.2.1, (h.2.2.2.2.1 j hj).trans k.2.2.1, (h.2.2.2.2.2 j hj).trans k.2.2.2⟩
theorem Wr.sAI {z m : Nat} (w : Wd) {o : Nat} (v : Int32) (ho : o = 22 ∨ o = 23 ∨ o = 24) : Wr z m w (sAI w (z + o) (upd (aI w (z + o)) m v)) := by
  have e : ∀ o', (∀ j, ¬ j = m → aI (Jvm.Pilot.CLessonTiersLaw_law_r6582_a11baa.sAI w (z + o) (upd (aI w (z + o)) m v)) (z + o') j = aI w (z + o') j) := by
    intro o' j hj
    rw [q_aI_sAI]
    by_cases c : z + o' = z + o
    · rw [if_pos c, upd_is, if_neg hj, c]
    · rw [if_neg c]
  exact ⟨Sc.sAI _ _ ⟨by omega, by omega⟩ (by omega) (by omega) (by omega) (by omega), rfl, e 22, e 23, e 24, fun j _ => rfl⟩
theorem Wr.sAJ {z m : Nat} (w : Wd) (v : Int64) : Wr z m w (sAJ w (z + 25) (vp_updL (aJ w (z + 25)) m v)) := by
  refine ⟨Sc.sAJ _ _ ⟨by omega, by omega⟩ (by omega) (by omega) (by omega) (by omega), rfl, fun j _ => rfl, fun j _ => rfl, fun j _ => rfl, fun j hj => ?_⟩
  rw [q_aJ_sAJ, if_pos rfl, updL_is, if_neg hj]
theorem Wr.s945 {z m : Nat} (w : Wd) (v : Int32) : Wr z m w (sI w 945 z v) := ⟨Sc.sI _ _ (by unfold KF; omega), gI_ne _ (by omega), fun j _ => rfl, fun j _ => rfl, fun j _ => rfl, fun j _ => rfl⟩
theorem rdw_945 (w : Wd) (z p : Nat) (b : Bool) (v : Int32) : sI (rdw w z p b) 945 z v = rdw (sI w 945 z v) z p b := by
  unfold rdw
  rw [sI_swap _ _ _ _ (by decide), sI_swap w _ _ _ (by decide)]
def addL (k : Bk) : List Itm → Nat → Bk × Option (Nat × Int × Int)
  | [], _ => (k, none)
  | i :: l, j => if (rsn k i.1 i.2.1 i.2.2.1).1 = 0 then addL (insK k i.1 i.2.1 i.2.2.1 i.2.2.2) l (j + 1) else (k, some (j, rsn k i.1 i.2.1 i.2.2.1))
def spRead (s : St) : Rs := match itmsP (bn (snw s)) (bkd (snw s)) (stx s) 100 0 with
  | (none, q) => (1, 0, setbd (settx s (emT (stx s))) q)
  | (some l, _) => match addL (snw s) l 0 with
    | (k, none) => (0, zI (l.length : Nat), psh (settx s (emT (stx s))) k)
    | (_, some (j, r)) => (2, 0, setri (setrf (settx s (emT (stx s))) r.1 r.2) j)
section ITEMS
variable {F : Fr} {N : Nat} {w : Wd} {z : Nat} {s : St} {k : Bk} {p m : Nat} {b : Bool}
/-- what reading an item, or the rest of one, comes to -/
def QP (z m : Nat) (w : Wd) (x : Option Wd) (r : Option Itm × Nat) : Prop := ∃ w', x = some (rdw w' z r.2 (decide (r.1 = none))) ∧ Wr z m w w' ∧ gI w' 945 z = zI (m + 1 : Nat) ∧ ∀ i, r.1 = some i → IT w' z m i
theorem QP.mono {w0 : Wd} {x : Option Wd} {r : Option Itm × Nat} (h : QP z m w x r) (k : Wr z m w0 w) : QP z m w0 x r := by
  obtain ⟨w', h1, h2, h3⟩ := h
  exact ⟨w', h1, k.trans h2, h3⟩
theorem q_90 (h : MSt F w z s) (hm : m < 100) (h5 : gI w 945 z = zI (m : Nat)) {c : Bool} {q : Nat} {v : Int64} {kd : Int32} (e : fX9_readLabel F N (rdw w z p b) z kd = some (v, rdw w z q c)) : fX9_readItem_90 F N (rdw w z p b) z (z + 25) (zI (m : Nat)) z kd = some (rdw (sI (sAJ w (z + 25) (vp_updL (aJ w (z + 25)) m v)) 945 z (zI (m + 1 : Nat))) z q c) := by
  unfold fX9_readItem_90
  rw [e]
  simp only [Option.bind_some]
  rw [stJ_is (by omega) (by rw [h.1.p944.2.2]; omega) (by omega), Int.toNat_natCast]
  simp only [Option.bind_some, bnd]
  rw [show sAJ (rdw w z q c) (z + 25) (vp_updL (aJ (rdw w z q c) (z + 25)) m v) = rdw (sAJ w (z + 25) (vp_updL (aJ w (z + 25)) m v)) z q c from rfl, rdw_ne (by omega) (by omega), rdw_945, show gI (sAJ w (z + 25) (vp_updL (aJ w (z + 25)) m v)) 945 z = gI w 945 z from rfl, h5, zI_succ]
theorem qL_W (h : MSt F w z s) (hN : 40 ≤ N) (hm : m < 100) (h5 : gI w 945 z = zI (m : Nat)) (q : Nat) : QP z m w (qL F N (rdw w z q true) z) (none, q) := by
  refine ⟨sI (sAJ w (z + 25) (vp_updL (aJ w (z + 25)) m 0)) 945 z (zI (m + 1 : Nat)), ?_, (Wr.sAJ w 0).trans (Wr.s945 _ _), gI_same _ _ _ _, fun i hi => by cases hi⟩
  unfold qL
  rw [rdR_is (w := rdw w z q true) h.1.p944.1 h.1.p944.2.1]
  simp only [Option.bind_some]
  rw [rdw_910, if_neg (by decide), rdw_ne (by omega) (by omega), h5]
  exact q_90 h hm h5 (r_labelW hN (kd := 0) (by omega))
theorem qL_is (h : MSt F w z s) (V : VSt s) (hN : 40 ≤ N) (hm : m < 100) (h5 : gI w 945 z = zI (m : Nat)) (hp : p ≤ tn (stx s)) {t : Nat} (ht : t < bn (snw s)) {f e : Int} (e1 : aI w (z + 22) m = zI (t : Nat)) (e2 : aI w (z + 23) m = zI f) (e3 : aI w (z + 24) m = zI e) :
    QP z m w (qL F N (rdw w z p false) z) (if labK (stx s) (bkd (snw s) t) p = [] then (none, p) else (some (t, f, e, labK (stx s) (bkd (snw s) t) p), p + (labK (stx s) (bkd (snw s) t) p).length)) := by
  have T := V.2.2.2.2.1
  have B : MS F (rdw w z p false) z (snw s) := (h.rd).ms V
  have hk := (B.g.2.2.2.2 t ht).1
  have el := r_label (N := N) (p := p) h T hN hp hk
  have e9 : qL F N (rdw w z p false) z = some (rdw (sI (sAJ w (z + 25) (vp_updL (aJ w (z + 25)) m (mL (labK (stx s) (bkd (snw s) t) p)))) 945 z (zI (m + 1 : Nat))) z (p + (labK (stx s) (bkd (snw s) t) p).length) (decide (labK (stx s) (bkd (snw s) t) p = []))) := by
    unfold qL
    rw [rdR_is (w := rdw w z p false) h.1.p944.1 h.1.p944.2.1]
    simp only [Option.bind_some]
    rw [rdw_910, if_pos (by rfl), rdR_is (w := rdw w z p false) h.1.p941.1 h.1.p941.2.1]
    simp only [Option.bind_some]
    rw [rdw_ne (by omega) (by omega), h5, ldI_is (by omega) (by rw [h.1.p941.2.2]; omega) (by omega), Int.toNat_natCast]
    simp only [Option.bind_some]
    rw [show aI (rdw w z p false) (z + 22) = aI w (z + 22) from rfl, e1, m_kind B ht]
    simp only [Option.bind_some]
    exact q_90 h hm h5 el
  rw [e9]
  by_cases c : labK (stx s) (bkd (snw s) t) p = []
  · rw [if_pos c, c]
    exact ⟨sI (sAJ w (z + 25) (vp_updL (aJ w (z + 25)) m (mL []))) 945 z (zI (m + 1 : Nat)), rfl, (Wr.sAJ w _).trans (Wr.s945 _ _), gI_same _ _ _ _, fun i hi => by cases hi⟩
  · rw [if_neg c, decide_eq_false c]
    refine ⟨sI (sAJ w (z + 25) (vp_updL (aJ w (z + 25)) m (mL (labK (stx s) (bkd (snw s) t) p)))) 945 z (zI (m + 1 : Nat)), rfl, (Wr.sAJ w _).trans (Wr.s945 _ _), gI_same _ _ _ _, fun i hi => ?_⟩
    have hi := Option.some.inj hi
    rw [← hi]
    refine ⟨e1, e2, e3, ?_⟩
    rw [q_aJ_sI, aJ_same, updL_is, if_pos rfl]
theorem stI_rd (h : CMod F w z) (hm : m < 100) {o f c : Nat} (ha : MArr F w z f o c 100) (v : Int32) (q : Nat) (b : Bool) : stI F (rdw w z q b) (z + o) (zI (m : Nat)) v = some (rdw (sAI w (z + o) (upd (aI w (z + o)) m v)) z q b) := by
  rw [stI_is (by omega) (by rw [ha.2.2]; omega) (by omega), Int.toNat_natCast]
  rfl
theorem sI_aI (w : Wd) (z o m : Nat) (v : Int32) : aI (sAI w (z + o) (upd (aI w (z + o)) m v)) (z + o) m = v := by rw [q_aI_sAI, if_pos rfl, upd_is, if_pos rfl]
theorem sI_aIne (w : Wd) (z m : Nat) {o o' : Nat} (h : ¬ o' = o) (g : Nat → Int32) : aI (sAI w (z + o) g) (z + o') = aI w (z + o') := by rw [q_aI_sAI, if_neg (by omega)]
theorem qE_W (h : MSt F w z s) (V : GT (stx s)) (hN : 40 ≤ N) (hm : m < 100) (h5 : gI w 945 z = zI (m : Nat)) {q : Nat} (hq : q ≤ tn (stx s)) : QP z m w (qE F N (rdw w z q true) z) (none, q) := by
  unfold qE
  rw [rdR_is (w := rdw w z q true) h.1.p943.1 h.1.p943.2.1]
  simp only [Option.bind_some]
  rw [r_numberW h V hN hq]
  simp only [Option.bind_some]
  rw [rdw_ne (by omega) (by omega), h5, stI_rd h.1 hm h.1.p943]
  simp only [Option.bind_some]
  rw [r_signW]
  simp only [Option.bind_some]
  have k := Wr.sAI (z := z) (m := m) w (o := 24) 0 (by omega)
  exact (qL_W (h.sc k.1) hN hm h5 q).mono k
theorem qE_is (h : MSt F w z s) (V : VSt s) (hN : 40 ≤ N) (hm : m < 100) (h5 : gI w 945 z = zI (m : Nat)) (hp : p ≤ tn (stx s)) {t : Nat} (ht : t < bn (snw s)) {f : Int} (e1 : aI w (z + 22) m = zI (t : Nat)) (e2 : aI w (z + 23) m = zI f) :
    QP z m w (qE F N (rdw w z p false) z) (it3 (bkd (snw s) t) (stx s) t f p) := by
  have T := V.2.2.2.2.1
  have hl := numP_lim T hp
  unfold qE it3
  rw [rdR_is (w := rdw w z p false) h.1.p943.1 h.1.p943.2.1]
  simp only [Option.bind_some]
  rw [r_number h T hN hp]
  simp only [Option.bind_some]
  rw [rdw_ne (by omega) (by omega), h5]
  by_cases c : (numP (stx s) p).1 < 0
  · have e9 : (numP (stx s) p).2 = p := by
      unfold numP at c ⊢
      by_cases d : isDg (pk (stx s) p) = true
      · rw [if_pos d] at c
        by_cases d0 : pk (stx s) p = 48
        · rw [if_pos d0] at c; exact absurd c (show ¬ (0 : Int) < 0 by decide)
        · rw [if_neg d0] at c
          have := numL_lim T 4 p 0 hp (Int.le_refl _)
          omega
      · rw [if_neg d]
    rw [if_pos c, if_pos c, stI_rd h.1 hm h.1.p943]
    simp only [Option.bind_some]
    rw [r_signW, e9]
    simp only [Option.bind_some]
    have k := Wr.sAI (z := z) (m := m) w (o := 24) 0 (by omega)
    exact (qL_W (h.sc k.1) hN hm h5 p).mono k
  · rw [if_neg c, if_neg c, stI_rd h.1 hm h.1.p943]
    simp only [Option.bind_some]
    have k := Wr.sAI (z := z) (m := m) w (o := 24) (zI (numP (stx s) p).1) (by omega)
    rw [z_61, r_sign (h.sc k.1) T hl.1 (by omega)]
    simp only [Option.bind_some]
    unfold it4
    by_cases d : pk (stx s) (numP (stx s) p).2 = 61
    · have hpk := (pk_lim T (numP (stx s) p).2).2.2 (by omega)
      rw [if_pos d, if_pos d]
      refine (qL_is (h.sc k.1) V hN hm h5 (by omega) ht (f := f) (e := (numP (stx s) p).1) ?_ ?_ ?_).mono k
      · rw [sI_aIne w z m (by omega)]; exact e1
      · rw [sI_aIne w z m (by omega)]; exact e2
      · exact sI_aI w z 24 m _
    · rw [if_neg d, if_neg d]
      exact (qL_W (h.sc k.1) hN hm h5 _).mono k
theorem numP_bad {T : Tx} (hg : GT T) {p : Nat} (hp : p ≤ tn T) (c : (numP T p).1 < 0) : (numP T p).2 = p := by
  unfold numP at c ⊢
  by_cases d : isDg (pk T p) = true
  · rw [if_pos d] at c
    by_cases d0 : pk T p = 48
    · rw [if_pos d0] at c; exact absurd c (show ¬ (0 : Int) < 0 by decide)
    · rw [if_neg d0] at c
      have := numL_lim hg 4 p 0 hp (Int.le_refl _)
      omega
  · rw [if_neg d]
theorem qF_W (h : MSt F w z s) (V : GT (stx s)) (hN : 40 ≤ N) (hm : m < 100) (h5 : gI w 945 z = zI (m : Nat)) {q : Nat} (hq : q ≤ tn (stx s)) : QP z m w (qF F N (rdw w z q true) z) (none, q) := by
  unfold qF
  rw [rdR_is (w := rdw w z q true) h.1.p942.1 h.1.p942.2.1]
  simp only [Option.bind_some]
  rw [r_numberW h V hN hq]
  simp only [Option.bind_some]
  rw [rdw_ne (by omega) (by omega), h5, stI_rd h.1 hm h.1.p942]
  simp only [Option.bind_some]
  rw [r_signW]
  simp only [Option.bind_some]
  have k := Wr.sAI (z := z) (m := m) w (o := 23) 0 (by omega)
  exact (qE_W (h.sc k.1) V hN hm h5 hq).mono k
theorem qF_is (h : MSt F w z s) (V : VSt s) (hN : 40 ≤ N) (hm : m < 100) (h5 : gI w 945 z = zI (m : Nat)) (hp : p ≤ tn (stx s)) {t : Nat} (ht : t < bn (snw s)) (e1 : aI w (z + 22) m = zI (t : Nat)) :
    QP z m w (qF F N (rdw w z p false) z) (it1 (bkd (snw s) t) (stx s) t p) := by
  have T := V.2.2.2.2.1
  have hl := numP_lim T hp
  unfold qF it1
  rw [rdR_is (w := rdw w z p false) h.1.p942.1 h.1.p942.2.1]
  simp only [Option.bind_some]
  rw [r_number h T hN hp]
  simp only [Option.bind_some]
  rw [rdw_ne (by omega) (by omega), h5]
  by_cases c : (numP (stx s) p).1 < 0
  · rw [if_pos c, if_pos c, stI_rd h.1 hm h.1.p942, numP_bad T hp c]
    simp only [Option.bind_some]
    rw [r_signW]
    simp only [Option.bind_some]
    have k := Wr.sAI (z := z) (m := m) w (o := 23) 0 (by omega)
    exact (qE_W (h.sc k.1) T hN hm h5 hp).mono k
  · rw [if_neg c, if_neg c, stI_rd h.1 hm h.1.p942]
    simp only [Option.bind_some]
    have k := Wr.sAI (z := z) (m := m) w (o := 23) (zI (numP (stx s) p).1) (by omega)
    rw [z_45, r_sign (h.sc k.1) T hl.1 (by omega)]
    simp only [Option.bind_some]
    unfold it2
    by_cases d : pk (stx s) (numP (stx s) p).2 = 45
    · have hpk := (pk_lim T (numP (stx s) p).2).2.2 (by omega)
      rw [if_pos d, if_pos d]
      refine (qE_is (h.sc k.1) V hN hm h5 (by omega) ht (f := (numP (stx s) p).1) ?_ ?_).mono k
      · rw [sI_aIne w z m (by omega)]; exact e1
      · exact sI_aI w z 23 m _
    · rw [if_neg d, if_neg d]
      exact (qE_W (h.sc k.1) T hN hm h5 hl.1).mono k
theorem q_itemW (h : MSt F w z s) (V : GT (stx s)) (hN : 40 ≤ N) (hm : m < 100) (h5 : gI w 945 z = zI (m : Nat)) {q : Nat} (hq : q ≤ tn (stx s)) : QP z m w (fX9_readItem F N (rdw w z q true) z) (none, q) := by
  rw [q_item, rdR_is (w := rdw w z q true) h.1.p941.1 h.1.p941.2.1]
  simp only [Option.bind_some]
  rw [r_tierW]
  simp only [Option.bind_some]
  rw [rdw_ne (by omega) (by omega), h5, stI_rd h.1 hm h.1.p941]
  simp only [Option.bind_some]
  rw [r_signW]
  simp only [Option.bind_some]
  have k := Wr.sAI (z := z) (m := m) w (o := 22) 0 (by omega)
  exact (qF_W (h.sc k.1) V hN hm h5 hq).mono k
theorem q_itemP (h : MSt F w z s) (V : VSt s) (hN : 40 ≤ N) (hm : m < 100) (h5 : gI w 945 z = zI (m : Nat)) (hp : p ≤ tn (stx s)) : QP z m w (fX9_readItem F N (rdw w z p false) z) (itmP (bn (snw s)) (bkd (snw s)) (stx s) p) := by
  have T := V.2.2.2.2.1
  have hn := V.1.1.1
  unfold itmP
  rw [q_item, rdR_is (w := rdw w z p false) h.1.p941.1 h.1.p941.2.1]
  simp only [Option.bind_some]
  rw [r_tier h V hp]
  simp only [Option.bind_some]
  rw [rdw_ne (by omega) (by omega), h5]
  by_cases c : 48 ≤ pk (stx s) p ∧ pk (stx s) p < 48 + bn (snw s)
  · have hpk := (pk_lim T p).2.2 (by omega)
    rw [if_pos c, if_pos c, stI_rd h.1 hm h.1.p941]
    simp only [Option.bind_some]
    have k := Wr.sAI (z := z) (m := m) w (o := 22) (zI ((pk (stx s) p - 48).toNat : Nat)) (by omega)
    rw [z_58, r_sign (h.sc k.1) T (by omega) (by omega)]
    simp only [Option.bind_some]
    unfold it0
    by_cases d : pk (stx s) (p + 1) = 58
    · have hpk2 := (pk_lim T (p + 1)).2.2 (by omega)
      rw [if_pos d, if_pos d]
      exact (qF_is (h.sc k.1) V hN hm h5 (by omega) (by omega) (sI_aI w z 22 m _)).mono k
    · rw [if_neg d, if_neg d]
      exact (qF_W (h.sc k.1) T hN hm h5 (by omega)).mono k
  · rw [if_neg c, if_neg c, stI_rd h.1 hm h.1.p941]
    simp only [Option.bind_some]
    rw [r_signW]
    simp only [Option.bind_some]
    have k := Wr.sAI (z := z) (m := m) w (o := 22) 0 (by omega)
    exact (qF_W (h.sc k.1) T hN hm h5 hp).mono k
end ITEMS
