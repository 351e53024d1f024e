/-! the reference: calls that change little -/
def setnw (s : St) (k : Bk) : St := (k, ssv s, sps s, stx s, spt s, srf s, sbd s, sri s)
def setsv (s : St) (o : Option Bk) : St := (snw s, o, sps s, stx s, spt s, srf s, sbd s, sri s)
def settx (s : St) (T : Tx) : St := (snw s, ssv s, sps s, T, spt s, srf s, sbd s, sri s)
def setpt (s : St) (p : List Pe) : St := (snw s, ssv s, sps s, stx s, p, srf s, sbd s, sri s)
def setrf (s : St) (a b : Int) : St := (snw s, ssv s, sps s, stx s, spt s, (a, b), sbd s, sri s)
def setbd (s : St) (a : Int) : St := (snw s, ssv s, sps s, stx s, spt s, srf s, a, sri s)
def setri (s : St) (a : Int) : St := (snw s, ssv s, sps s, stx s, spt s, srf s, sbd s, a)
/-- the state before is kept, the book is another one -/
def psh (s : St) (k : Bk) : St := (k, ssv s, (snw s :: sps s).take 8, stx s, spt s, srf s, sbd s, sri s)
def spClear (s : St) : Rs := (0, zI (bn (snw s) : Nat), setnw (setps (setpt s []) []) (0, bkd (snw s), brl (snw s), bpr (snw s), brw (snw s), 0, 50, 20))
def spAddTier (s : St) (a b c : Int) : Rs :=
  if (0 ≤ a ∧ a ≤ 3) ∧ 0 ≤ b ∧ b ≤ 3 then
    (if b = 0 ∨ (0 ≤ c ∧ c < bn (snw s)) then (if bn (snw s) = 6 then (3, 0, s) else (0, zI (bn (snw s) : Nat), psh s (addT (snw s) a b (if b = 0 then -1 else c)))) else (2, 0, s))
  else (1, 0, s)
def seta (k : Bk) (a : Nat) : Bk := (bn k, bkd k, brl k, bpr k, brw k, a, bwi k, bga k)
def setw (k : Bk) (v : Int) : Bk := (bn k, bkd k, brl k, bpr k, brw k, ban k, v, bga k)
def setg (k : Bk) (v : Int) : Bk := (bn k, bkd k, brl k, bpr k, brw k, ban k, bwi k, v)
def spSelect (s : St) (a : Int) : Rs := if 0 ≤ a ∧ a ≤ 1 then (0, zI (ban (snw s) : Nat), psh s (seta (snw s) a.toNat)) else (1, 0, s)
def spSetting (s : St) (q v : Int) : Rs :=
  if 0 ≤ q ∧ q ≤ 1 then (if 0 ≤ v ∧ v ≤ 200 then (if q = 0 then (0, zI (bwi (snw s)), psh s (setw (snw s) v)) else (0, zI (bga (snw s)), psh s (setg (snw s) v))) else (2, 0, s)) else (1, 0, s)
def spUndo (s : St) : Rs := match sps s with
  | [] => (1, 0, s)
  | k :: P => (0, zI (P.length : Nat), setnw (setps s P) k)
def spSnap (s : St) : Rs := (0, zI (bn (snw s) : Nat), setsv s (some (snw s)))
def spRestore (s : St) : Rs := match ssv s with
  | none => (1, 0, s)
  | some k => (0, zI (bn k : Nat), setnw (setps s []) k)
def bV (p l : Int32) : Int32 := ((p.toUInt32 >>> (Int32.toUInt32 l &&& Int32.toUInt32 31)).toInt32) &&& 255
def bN (p l : Int32) : Nat := (bV p l).toNatClampNeg
theorem bV_is (p l : Int32) : bV p l = zI (bN p l : Nat) ∧ bN p l < 256 := by
  obtain ⟨v, h1, h2⟩ := and255 ((p.toUInt32 >>> (Int32.toUInt32 l &&& Int32.toUInt32 31)).toInt32)
  have e : bV p l = zI (v : Int) := h2
  have e2 : bN p l = v := by unfold bN; rw [e, zI_nat (by omega) (by omega)]; omega
  rw [e2]; exact ⟨e, h1⟩
def byl (p : Int32) : Nat → List Nat
  | 0 => []
  | j + 1 => if bN p (zI (8 * (j : Int))) = 0 then byl p j else bN p (zI (8 * (j : Int))) :: byl p j
def okc (c : Nat) : Bool := decide (32 ≤ c ∧ c ≤ 126)
def putL (T : Tx) (l : List Nat) : Tx := l.foldl (fun (T : Tx) (c : Nat) => putC T (c : Int)) T
def spAppend (s : St) (p : Int32) : Rs :=
  if (byl p 4).all okc = true then (if tn (stx s) + (byl p 4).length ≤ 100 then (0, zI (tn (stx s) + (byl p 4).length : Nat), settx s (putL (stx s) (byl p 4))) else (2, 0, s)) else (1, 0, s)
theorem putL_tn (l : List Nat) : ∀ T, tn (putL T l) = tn T + l.length := by
  induction l with
  | nil => intro T; rfl
  | cons c l ih => intro T; show tn (putL (putC T c) l) = _; rw [ih]; show tn T + 1 + _ = _; rw [List.length_cons]; omega
theorem putL_gt (l : List Nat) : ∀ T, GT T → l.all okc = true → tn T + l.length ≤ 100 → GT (putL T l) := by
  induction l with
  | nil => intro T h _ _; exact h
  | cons c l ih =>
    intro T h ha hl
    rw [List.all_cons, Bool.and_eq_true] at ha
    rw [List.length_cons] at hl
    have hc : 32 ≤ c ∧ c ≤ 126 := of_decide_eq_true ha.1
    refine ih (putC T c) ⟨by show tn T + 1 ≤ 100; omega, fun i hi => ?_⟩ ha.2 (by show tn T + 1 + _ ≤ 100; omega)
    show 32 ≤ (if i = tn T then (c : Int) else tc T i) ∧ (if i = tn T then (c : Int) else tc T i) ≤ 126
    have hi : i < tn T + 1 := hi
    by_cases e : i = tn T
    · rw [if_pos e]; omega
    · rw [if_neg e]; exact h.2 i (by omega)
theorem byl_lim (p : Int32) : ∀ j, (byl p j).length ≤ j := by
  intro j
  induction j with
  | zero => exact Nat.le_refl _
  | succ j ih =>
    unfold byl
    split
    · omega
    · rw [List.length_cons]; omega
section CHANGE
variable {F : Fr} {N : Nat} {w : Wd} {z : Nat} {s : St} {k : Bk}
theorem MSt.keepS (h : MSt F w z s) (V : VSt s) : ∃ g, fX9_keepState F N w z = some (sAJ w (z + 2) g) ∧ MSt F (sAJ w (z + 2) g) z s ∧ MBook (aJ (sAJ w (z + 2) g) (z + 2)) (snw s) ∧ Kp (Rg z 26) w (sAJ w (z + 2) g) := by
  obtain ⟨g, r1, r2⟩ := m_keepState (N := N) h.1 h.2.1 V.1.1 V.1.2.1
  refine ⟨g, r1, h.sc (Sc.sAJ _ _ ⟨by omega, by omega⟩ (by omega) (by omega) (by omega) (by omega)), ?_, kp_sAJ _ _ ⟨by omega, by omega⟩⟩
  rw [aJ_same]; exact r2
theorem VSt.past (V : VSt s) : ∀ k ∈ sps s, GBook k ∧ H30 k := fun k hk => ⟨(V.2.2.1 k hk).1, (V.2.2.1 k hk).2.1⟩
theorem m_changes (h : MSt F w z s) (V : VSt s) : ∃ w', fX9_changes F N w z = some w' ∧ MSt F w' z (setps s ((snw s :: sps s).take 8)) ∧ Kp (Rg z 26) w w' ∧ gI w' 906 z = gI w 906 z := by
  obtain ⟨g, r1, r2, r3, r4⟩ := h.keepS (N := N) V
  obtain ⟨w', e1, e2, e3, e4⟩ := r2.change (N := N) r3 V.1.1 V.1.2.1 V.past V.2.2.2.1
  refine ⟨w', ?_, e2, r4.trans e3, e4⟩
  unfold fX9_changes
  rw [r1]
  simp only [Option.bind_some]
  rw [e1]
  rfl
theorem MSt.stj (h : MSt F w z s) {i : Int} {v : Int64} (h0 : 0 ≤ i) (h1 : i < 1114) : stJ F w (z + 1) (zI i) v = some (sAJ w (z + 1) (vp_updL (aJ w (z + 1)) i.toNat v)) := stJ_is h0 (by rw [h.1.p900.2.2]; omega) (by omega)
theorem kp_now (w : Wd) (z : Nat) (g : Nat → Int64) : Kp (Rg z 26) w (sAJ w (z + 1) g) := kp_sAJ _ _ ⟨by omega, by omega⟩
theorem MSt.r9 (h : MSt F w z s) : rdR F w 900 z 12 = some (z + 1) := rdR_is h.1.p900.1 h.1.p900.2.1
theorem MBook.top {g g' : Nat → Int64} {k k' : Bk} (h : MBook g k) (hb : bn k ≤ 6) (h30 : H30 k) (hg : ∀ j, 22 ≤ j → g' j = g j) (hT : MTop g' k') (e1 : bn k' = bn k) (e2 : brw k' = brw k) : MBook g' k' := by
  refine ⟨hT, fun x t hx ht => ?_, fun x t hx ht ht' => ?_⟩
  · rw [e1] at ht
    rw [e2]
    exact (h.2.1 x t hx ht).congr (h30 x t hx ht) fun j j1 j2 => hg j (by unfold mo at j1; omega)
  · rw [e1] at ht
    exact (hg _ (by unfold mo; omega)).trans (h.2.2 x t hx ht ht')
theorem m_select (h : MSt F w z s) (V : VSt s) {a : Int} (ha : I32 a) : Ev (fX9_select F N w z (zI a)) (MO F z w (spSelect s a)) := by
  unfold fX9_select spSelect
  rw [z_0, z_1, m_in ha (by omega) (by omega)]
  simp only [Option.bind_some]
  have B := h.ms V
  by_cases c : 0 ≤ a ∧ a ≤ 1
  · rw [if_pos c, if_pos c]
    refine ev_neg (by decide) ?_
    unfold fX9_select_15
    refine ev_bnd (ev_pos (by rw [gI_same]; decide) ?_)
    obtain ⟨w', r1, r2, r3, r4⟩ := m_changes (N := N) (h.thr (zI 0)) V
    have B2 : MS F w' z (snw s) := ⟨r2.1, r2.2.1, V.1.1, V.1.2.1⟩
    refine ev_eq r1 (ev_eq (m_annotator B2) (ev_eq r2.r9 ?_))
    rw [zI_64 ha.1 ha.2, z_1]
    refine ev_eq (r2.stj (by omega) (by omega)) (ev_some ⟨?_, fun _ => rfl, ?_, ((kp_thr _ _ _).trans r3).trans (kp_now _ _ _)⟩)
    · exact r4.trans (gI_same _ _ _ _)
    · refine r2.setnow (B2.2.1.top V.1.1.1 V.1.2.1 (fun j hj => by rw [updL_is, if_neg (by omega)]) ?_ rfl rfl)
      obtain ⟨t0, t1, t2, t3, t4⟩ := B2.2.1.1
      have ea : ((seta (snw s) a.toNat).2.2.2.2.2.1 : Int) = a := by show ((a.toNat : Nat) : Int) = a; omega
      refine ⟨?_, ?_, ?_, ?_, fun t ht => ?_⟩
      · rw [updL_is, if_neg (by omega)]; exact t0
      · rw [updL_is, if_pos (by omega)]; exact congrArg zJ ea.symm
      · rw [updL_is, if_neg (by omega)]; exact t2
      · rw [updL_is, if_neg (by omega)]; exact t3
      · rw [updL_is, updL_is, updL_is, if_neg (by omega), if_neg (by omega), if_neg (by omega)]; exact t4 t ht
  · rw [if_neg c, if_neg c]
    refine ev_pos (by rfl) ?_
    unfold fX9_select_15
    exact ev_bnd (ev_neg (by rw [gI_same]; decide) (ev_some (mo_err h (by omega) rfl)))
theorem m_setSetting (h : MSt F w z s) (V : VSt s) {q a : Int} (hq : I32 q) (ha : I32 a) : Ev (fX9_setSetting F N w z (zI q) (zI a)) (MO F z w (spSetting s q a)) := by
  unfold fX9_setSetting spSetting
  rw [z_0, z_1, m_in hq (by omega) (by omega)]
  simp only [Option.bind_some]
  have B := h.ms V
  by_cases c : 0 ≤ q ∧ q ≤ 1
  · rw [if_pos c, if_pos c]
    refine ev_neg (by decide) ?_
    rw [z_200, m_in ha (by omega) (by omega)]
    simp only [Option.bind_some]
    by_cases c2 : 0 ≤ a ∧ a ≤ 200
    · rw [if_pos c2, if_pos c2]
      refine ev_neg (by decide) ?_
      unfold fX9_setSetting_30
      refine ev_bnd (ev_pos (by rw [gI_same]; decide) ?_)
      obtain ⟨w', r1, r2, r3, r4⟩ := m_changes (N := N) (h.thr (zI 0)) V
      have B2 : MS F w' z (snw s) := ⟨r2.1, r2.2.1, V.1.1, V.1.2.1⟩
      refine ev_eq r1 (ev_eq r2.r9 ?_)
      rw [zI_64 ha.1 ha.2, z_2, zI_add]
      refine ev_eq (B2.get (by omega) (by omega)) (ev_eq r2.r9 (ev_eq (r2.stj (by omega) (by omega)) ?_))
      obtain ⟨t0, t1, t2, t3, t4⟩ := B2.2.1.1
      by_cases c0 : q = 0
      · subst c0
        rw [if_pos rfl]
        refine ev_some ⟨r4.trans (gI_same _ _ _ _), fun _ => ?_, ?_, ((kp_thr _ _ _).trans r3).trans (kp_now _ _ _)⟩
        · show (aJ w' (z + 1) 2).toInt32 = _
          rw [t2, zJ_32]
        · refine r2.setnow (B2.2.1.top V.1.1.1 V.1.2.1 (fun j hj => by rw [updL_is, if_neg (by omega)]) ⟨?_, ?_, ?_, ?_, fun t ht => ?_⟩ rfl rfl)
          · rw [updL_is, if_neg (by omega)]; exact t0
          · rw [updL_is, if_neg (by omega)]; exact t1
          · rw [updL_is, if_pos (by omega)]; rfl
          · rw [updL_is, if_neg (by omega)]; exact t3
          · rw [updL_is, updL_is, updL_is, if_neg (by omega), if_neg (by omega), if_neg (by omega)]; exact t4 t ht
      · have c1 : q = 1 := by omega
        subst c1
        rw [if_neg c0]
        refine ev_some ⟨r4.trans (gI_same _ _ _ _), fun _ => ?_, ?_, ((kp_thr _ _ _).trans r3).trans (kp_now _ _ _)⟩
        · show (aJ w' (z + 1) 3).toInt32 = _
          rw [t3, zJ_32]
        · refine r2.setnow (B2.2.1.top V.1.1.1 V.1.2.1 (fun j hj => by rw [updL_is, if_neg (by omega)]) ⟨?_, ?_, ?_, ?_, fun t ht => ?_⟩ rfl rfl)
          · rw [updL_is, if_neg (by omega)]; exact t0
          · rw [updL_is, if_neg (by omega)]; exact t1
          · rw [updL_is, if_neg (by omega)]; exact t2
          · rw [updL_is, if_pos (by omega)]; rfl
          · rw [updL_is, updL_is, updL_is, if_neg (by omega), if_neg (by omega), if_neg (by omega)]; exact t4 t ht
    · rw [if_neg c2, if_neg c2]
      refine ev_pos (by rfl) ?_
      unfold fX9_setSetting_30
      exact ev_bnd (ev_neg (by rw [gI_same]; decide) (ev_some (mo_err h (by omega) rfl)))
  · rw [if_neg c, if_neg c]
    refine ev_pos (by rfl) ?_
    unfold fX9_setSetting_30
    exact ev_bnd (ev_neg (by rw [gI_same]; decide) (ev_some (mo_err h (by omega) rfl)))
theorem m_addTier_127 {w0 : Wd} (h : MSt F w z s) (V : VSt s) (hb : bn (snw s) < 6) {g : Nat → Int64} {a b p : Int} (hg : ∀ j, g j = if j = 5 + 3 * bn (snw s) then zJ b else if j = 4 + 3 * bn (snw s) then zJ a else aJ w (z + 1) j) (x : Int32) :
    Ev (fX9_addTier_127 F N (sAJ w (z + 1) g) z x (z + 1) (zI (4 + 3 * (bn (snw s) : Int) + 2)) (zJ p)) fun y => y.1 = x ∧ MSt F y.2 z (setnw s (addT (snw s) a b p)) ∧ Kp (Rg z 26) w y.2 ∧ gI y.2 906 z = gI w 906 z := by
  have B := h.ms V
  obtain ⟨t0, t1, t2, t3, t4⟩ := B.2.1.1
  have e0 : vp_updL g (4 + 3 * (bn (snw s) : Int) + 2).toNat (zJ p) 0 = zJ (bn (snw s) : Nat) := by
    rw [updL_is, if_neg (by omega), hg, if_neg (by omega), if_neg (by omega)]; exact t0
  unfold fX9_addTier_127
  refine ev_eq (o_st h.1 (by omega) (by omega) _) (ev_eq (o_r h.1) ?_)
  rw [z_0]
  refine ev_eq (o_get h.1 (by omega) (by omega)) ?_
  rw [show (0 : Int).toNat = 0 from rfl, e0, show zJ ((bn (snw s) : Nat) : Int) + 1 = zJ ((bn (snw s) : Int) + 1) from zJ_add _ 1]
  refine ev_eq (o_st h.1 (by omega) (by omega) _) (ev_some ⟨rfl, h.setnow ?_, kp_now _ _ _, rfl⟩)
  have rd : ∀ j, vp_updL (vp_updL g (4 + 3 * (bn (snw s) : Int) + 2).toNat (zJ p)) (0 : Int).toNat (zJ ((bn (snw s) : Int) + 1)) j = if j = 0 then zJ ((bn (snw s) : Int) + 1) else if j = 6 + 3 * bn (snw s) then zJ p else if j = 5 + 3 * bn (snw s) then zJ b else if j = 4 + 3 * bn (snw s) then zJ a else aJ w (z + 1) j := by
    intro j
    rw [updL_is, updL_is, hg]
    rw [show (4 + 3 * (bn (snw s) : Int) + 2).toNat = 6 + 3 * bn (snw s) from by omega, show (0 : Int).toNat = 0 from rfl]
  have hi : ∀ j, 22 ≤ j → vp_updL (vp_updL g (4 + 3 * (bn (snw s) : Int) + 2).toNat (zJ p)) (0 : Int).toNat (zJ ((bn (snw s) : Int) + 1)) j = aJ w (z + 1) j := fun j hj => by
    rw [rd, if_neg (by omega), if_neg (by omega), if_neg (by omega), if_neg (by omega)]
  have eb : bn (addT (snw s) a b p) = bn (snw s) + 1 := rfl
  refine ⟨⟨?_, ?_, ?_, ?_, fun t ht => ?_⟩, fun x t hx ht => ?_, fun x t hx ht ht' => ?_⟩
  · rw [rd, if_pos rfl]; rfl
  · rw [rd, if_neg (by omega), if_neg (by omega), if_neg (by omega), if_neg (by omega)]; exact t1
  · rw [rd, if_neg (by omega), if_neg (by omega), if_neg (by omega), if_neg (by omega)]; exact t2
  · rw [rd, if_neg (by omega), if_neg (by omega), if_neg (by omega), if_neg (by omega)]; exact t3
  · show _ = zJ (if t = bn (snw s) then a else bkd (snw s) t) ∧ _ = zJ (if t = bn (snw s) then b else brl (snw s) t) ∧ _ = zJ (if t = bn (snw s) then p else bpr (snw s) t)
    rw [rd, rd, rd]
    rw [eb] at ht
    by_cases c : t = bn (snw s)
    · rw [if_pos c, if_pos c, if_pos c, c]
      simp (disch := omega) only [if_neg, if_pos]
      exact ⟨rfl, rfl, rfl⟩
    · rw [if_neg c, if_neg c, if_neg c]
      simp (disch := omega) only [if_neg]
      exact t4 t (by omega)
  · rw [eb] at ht
    show MRow _ _ (if t = bn (snw s) then emR else brw (snw s) x t)
    have hm := mo_lim hx (show t < 6 by omega)
    by_cases c : t = bn (snw s)
    · rw [if_pos c]
      refine ⟨(hi _ (by unfold mo; omega)).trans (B.2.1.2.2 x t hx (by omega) (by omega)), fun i hi => ?_⟩
      exact absurd hi (Nat.not_lt_zero _)
    · rw [if_neg c]
      exact (B.row hx (by omega)).congr (B.lim hx (by omega)) fun j j1 j2 => hi j (by unfold mo at j1; omega)
  · rw [eb] at ht
    exact (hi _ (by unfold mo; omega)).trans (B.2.1.2.2 x t hx (by omega) (by omega))
theorem VSt.ps (V : VSt s) : VSt (setps s ((snw s :: sps s).take 8)) := by
  refine ⟨V.1, V.2.1, fun b hb => ?_, ?_, V.2.2.2.2⟩
  · have hb := List.mem_of_mem_take hb
    rcases List.mem_cons.mp hb with h | h
    · rw [h]; exact V.1
    · exact V.2.2.1 b h
  · show ((snw s :: sps s).take 8).length ≤ 8
    rw [List.length_take]; omega
theorem m_addTier_53 (h : MSt F w z s) (V : VSt s) (hb : bn (snw s) < 6) {a b p : Int} (ha : 0 ≤ a ∧ a ≤ 3) (hb2 : 0 ≤ b ∧ b ≤ 3) (hp : I32 p) :
    Ev (fX9_addTier_53 F N w z (zI a) (zI b) (zI p) z 0) (MO F z w (0, zI (bn (snw s) : Nat), psh s (addT (snw s) a b (if b = 0 then -1 else p)))) := by
  unfold fX9_addTier_53
  refine ev_bnd (ev_pos (by rw [gI_same]; decide) ?_)
  obtain ⟨w', r1, r2, r3, r4⟩ := m_changes (N := N) (h.thr 0) V
  have B2 : MS F w' z (snw s) := ⟨r2.1, r2.2.1, V.1.1, V.1.2.1⟩
  refine ev_eq r1 (ev_eq (m_tiers B2) (ev_eq r2.r9 ?_))
  rw [zI_64 (by omega) (by omega), zI_64 (by omega) (by omega), zI_64 hp.1 hp.2]
  simp only [z_3, z_4, z_2, z_1, zI_mul, zI_add]
  refine ev_eq (r2.stj (by omega) (by omega)) ?_
  refine ev_eq (o_r r2.1) (ev_eq (o_st r2.1 (by omega) (by omega) _) (ev_eq (o_r r2.1) ?_))
  have go : ∀ p' : Int, Ev (fX9_addTier_127 F N (sAJ w' (z + 1) (vp_updL (vp_updL (aJ w' (z + 1)) (4 + 3 * (bn (snw s) : Int)).toNat (zJ a)) (4 + 3 * (bn (snw s) : Int) + 1).toNat (zJ b))) z (zI (bn (snw s) : Nat)) (z + 1) (zI (4 + 3 * (bn (snw s) : Int) + 2)) (zJ p')) (MO F z w (0, zI (bn (snw s) : Nat), psh s (addT (snw s) a b p'))) := by
    intro p'
    refine ev_mono (m_addTier_127 (N := N) (w0 := w) (s := setps s ((snw s :: sps s).take 8)) (a := a) (b := b) (p := p') r2 V.ps hb (fun j => ?_) _) fun y ⟨y1, y2, y3, y4⟩ => ⟨y4.trans (r4.trans (gI_same _ _ _ _)), fun _ => y1, y2, ((kp_thr _ _ _).trans r3).trans y3⟩
    have e0 : bn (snw (setps s ((snw s :: sps s).take 8))) = bn (snw s) := rfl
    rw [updL_is, updL_is, e0, show (4 + 3 * (bn (snw s) : Int) + 1).toNat = 5 + 3 * bn (snw s) from by omega, show (4 + 3 * (bn (snw s) : Int)).toNat = 4 + 3 * bn (snw s) from by omega]
  by_cases c : b = 0
  · rw [if_pos c]
    refine ev_pos (by rw [c]; rfl) ?_
    rw [show (-1 : Int64) = zJ (-1) from rfl]
    exact go (-1)
  · rw [if_neg c]
    refine ev_neg (by simp (disch := omega) only [z_0, z_1, z_2, z_3, z_4, z_5, z_6, z_7, z_8, z_9, z_10, z_12, z_13, z_16, z_20, z_24, z_30, z_31, z_32, z_38, z_42, z_44, z_45, z_47, z_48, z_49, z_50, z_57, z_58, z_59, z_60, z_61, z_91, z_97, z_98, z_100, z_108, z_114, z_120, z_122, z_126, z_127, z_128, z_200, z_255, z_961, z_990, z_992, z_998, z_999, z_1000, z_1092, z_1114, z_7798, z_10000, z_1000000, zI_neg, zI_add, zI_sub, zI_mul, zI_lt, zI_le, zI_eq, if_pos, if_neg, if_true, if_false, Option.bind_some, bnd, ldI_is, ldJ_is, Int.toNat_natCast, ]; exact c) (go p)
theorem m_addTier (h : MSt F w z s) (V : VSt s) {a b c : Int} (ha : I32 a) (hb : I32 b) (hc : I32 c) : Ev (fX9_addTier F N w z (zI a) (zI b) (zI c)) (MO F z w (spAddTier s a b c)) := by
  have B := h.ms V
  have hn := B.g.1
  have er : ∀ x y : Int, 0 < x → Ev (fX9_addTier_53 F N w z (zI a) (zI b) (zI c) z (zI x)) (MO F z w (x, 0, s)) ∨ ¬ (x = 1 ∨ x = 2 ∨ x = 3) := by
    intro x y hx
    by_cases hx2 : x = 1 ∨ x = 2 ∨ x = 3
    · left
      unfold fX9_addTier_53
      refine ev_bnd (ev_neg (by rw [gI_same]; simp (disch := omega) only [z_0, z_1, z_2, z_3, z_4, z_5, z_6, z_7, z_8, z_9, z_10, z_12, z_13, z_16, z_20, z_24, z_30, z_31, z_32, z_38, z_42, z_44, z_45, z_47, z_48, z_49, z_50, z_57, z_58, z_59, z_60, z_61, z_91, z_97, z_98, z_100, z_108, z_114, z_120, z_122, z_126, z_127, z_128, z_200, z_255, z_961, z_990, z_992, z_998, z_999, z_1000, z_1092, z_1114, z_7798, z_10000, z_1000000, zI_neg, zI_add, zI_sub, zI_mul, zI_lt, zI_le, zI_eq, if_pos, if_neg, if_true, if_false, Option.bind_some, bnd, ldI_is, ldJ_is, Int.toNat_natCast,  Int.not_le]; omega) (ev_some (mo_err h hx rfl)))
    · exact Or.inr hx2
  have e1 : Ev (fX9_addTier_53 F N w z (zI a) (zI b) (zI c) z 1) (MO F z w (1, 0, s)) := by
    rcases er 1 0 (by omega) with h | h
    · exact h
    · omega
  have e2 : Ev (fX9_addTier_53 F N w z (zI a) (zI b) (zI c) z 2) (MO F z w (2, 0, s)) := by
    rcases er 2 0 (by omega) with h | h
    · exact h
    · omega
  have e3 : Ev (fX9_addTier_53 F N w z (zI a) (zI b) (zI c) z 3) (MO F z w (3, 0, s)) := by
    rcases er 3 0 (by omega) with h | h
    · exact h
    · omega
  have e39 : (0 ≤ a ∧ a ≤ 3) → (0 ≤ b ∧ b ≤ 3) → Ev (fX9_addTier_39 F N w z (zI a) (zI b) (zI c) z) (MO F z w (if bn (snw s) = 6 then (3, 0, s) else (0, zI (bn (snw s) : Nat), psh s (addT (snw s) a b (if b = 0 then -1 else c))))) := by
    intro a1 b1
    unfold fX9_addTier_39
    refine ev_eq (m_tiers B) ?_
    by_cases c6 : bn (snw s) = 6
    · rw [if_pos c6]
      exact ev_pos (by rw [c6]; rfl) e3
    · rw [if_neg c6]
      exact ev_neg (by simp (disch := omega) only [z_0, z_1, z_2, z_3, z_4, z_5, z_6, z_7, z_8, z_9, z_10, z_12, z_13, z_16, z_20, z_24, z_30, z_31, z_32, z_38, z_42, z_44, z_45, z_47, z_48, z_49, z_50, z_57, z_58, z_59, z_60, z_61, z_91, z_97, z_98, z_100, z_108, z_114, z_120, z_122, z_126, z_127, z_128, z_200, z_255, z_961, z_990, z_992, z_998, z_999, z_1000, z_1092, z_1114, z_7798, z_10000, z_1000000, zI_neg, zI_add, zI_sub, zI_mul, zI_lt, zI_le, zI_eq, if_pos, if_neg, if_true, if_false, Option.bind_some, bnd, ldI_is, ldJ_is, Int.toNat_natCast, ]; omega) (m_addTier_53 h V (by omega) a1 b1 hc)
  unfold fX9_addTier fX9_addTier_19 spAddTier
  rw [show (0 : Int32) = zI 0 from rfl, z_3, m_in ha (by omega) (by omega), m_in hb (by omega) (by omega)]
  simp only [Option.bind_some]
  by_cases a1 : 0 ≤ a ∧ a ≤ 3
  · rw [if_pos a1]
    refine ev_neg (by decide) ?_
    by_cases b1 : 0 ≤ b ∧ b ≤ 3
    · rw [if_pos b1]
      refine ev_neg (by decide) ?_
      rw [if_pos (c := (0 ≤ a ∧ a ≤ 3) ∧ 0 ≤ b ∧ b ≤ 3) ⟨a1, b1⟩]
      by_cases b0 : b = 0
      · rw [if_pos (c := b = 0 ∨ (0 ≤ c ∧ c < bn (snw s))) (Or.inl b0)]
        exact ev_pos (by simp (disch := omega) only [z_0, z_1, z_2, z_3, z_4, z_5, z_6, z_7, z_8, z_9, z_10, z_12, z_13, z_16, z_20, z_24, z_30, z_31, z_32, z_38, z_42, z_44, z_45, z_47, z_48, z_49, z_50, z_57, z_58, z_59, z_60, z_61, z_91, z_97, z_98, z_100, z_108, z_114, z_120, z_122, z_126, z_127, z_128, z_200, z_255, z_961, z_990, z_992, z_998, z_999, z_1000, z_1092, z_1114, z_7798, z_10000, z_1000000, zI_neg, zI_add, zI_sub, zI_mul, zI_lt, zI_le, zI_eq, if_pos, if_neg, if_true, if_false, Option.bind_some, bnd, ldI_is, ldJ_is, Int.toNat_natCast, ]; omega) (e39 a1 b1)
      · refine ev_neg (by simp (disch := omega) only [z_0, z_1, z_2, z_3, z_4, z_5, z_6, z_7, z_8, z_9, z_10, z_12, z_13, z_16, z_20, z_24, z_30, z_31, z_32, z_38, z_42, z_44, z_45, z_47, z_48, z_49, z_50, z_57, z_58, z_59, z_60, z_61, z_91, z_97, z_98, z_100, z_108, z_114, z_120, z_122, z_126, z_127, z_128, z_200, z_255, z_961, z_990, z_992, z_998, z_999, z_1000, z_1092, z_1114, z_7798, z_10000, z_1000000, zI_neg, zI_add, zI_sub, zI_mul, zI_lt, zI_le, zI_eq, if_pos, if_neg, if_true, if_false, Option.bind_some, bnd, ldI_is, ldJ_is, Int.toNat_natCast,  Int.not_le]; omega) (ev_eq (m_isTier B hc) ?_)
        by_cases c1 : 0 ≤ c ∧ c < bn (snw s)
        · rw [if_pos c1, if_pos (c := b = 0 ∨ (0 ≤ c ∧ c < bn (snw s))) (Or.inr c1)]
          exact ev_neg (by decide) (e39 a1 b1)
        · rw [if_neg c1, if_neg (c := b = 0 ∨ (0 ≤ c ∧ c < bn (snw s))) (fun x => by rcases x with x | x; exact b0 x; exact c1 x)]
          exact ev_pos (by rfl) e2
    · rw [if_neg b1, if_neg (c := (0 ≤ a ∧ a ≤ 3) ∧ 0 ≤ b ∧ b ≤ 3) (fun x => b1 x.2)]
      exact ev_pos (by rfl) e1
  · rw [if_neg a1, if_neg (c := (0 ≤ a ∧ a ≤ 3) ∧ 0 ≤ b ∧ b ≤ 3) (fun x => a1 x.1)]
    exact ev_pos (by rfl) e1
end CHANGE
