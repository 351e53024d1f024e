/-! every call leaves a state valid -/
theorem itms_pos {T : Tx} (hg : GT T) {n : Nat} {kd : Nat → Int} : ∀ (f p : Nat), p ≤ tn T → (itmsP n kd T f p).2 ≤ tn T := by
  intro f
  induction f with
  | zero => intro p h; exact h
  | succ f ih =>
    intro p h
    have l := itmP_lim hg (n := n) (ks := kd) h
    unfold itmsP
    rcases hi : itmP n kd T p with ⟨_ | i, q⟩
    · rw [hi] at l; exact l.1
    · rw [hi] at l
      dsimp only at l ⊢
      by_cases c : tn T ≤ q
      · rw [if_pos c]; exact l.1
      · rw [if_neg c]
        by_cases d : pk T q = 59
        · rw [if_pos d]
          have e := ih (q + 1) (by omega)
          rcases hr : itmsP n kd T f (q + 1) with ⟨_ | l9, r⟩
          · rw [hr] at e; exact e
          · rw [hr] at e; exact e
        · rw [if_neg d]; exact l.1
theorem pat_pos {T : Tx} (hg : GT T) {n : Nat} (hn : n ≤ 6) {kd : Nat → Int} : ∀ (f : Nat) (m : Bool) (p : Nat), p ≤ tn T → (patP n kd T f m p).2 ≤ tn T := by
  intro f
  induction f with
  | zero => intro m p h; exact h
  | succ f ih =>
    intro m p h
    have l := (prtP_lim hg hn (kd := kd) h).1
    unfold patP
    rcases hi : prtP n kd T p with ⟨_ | i, q⟩
    · rw [hi] at l; exact l
    · rw [hi] at l
      dsimp only at l ⊢
      by_cases c : tn T ≤ q
      · rw [if_pos c]; exact l
      · rw [if_neg c]
        by_cases c0 : f = 0
        · rw [if_pos c0]; exact l
        · rw [if_neg c0]
          by_cases d : pk T q = 38
          · rw [if_pos d]
            have e := ih true (q + 1) (by omega)
            rcases hr : patP n kd T f true (q + 1) with ⟨_ | l9, r⟩
            · rw [hr] at e; exact e
            · rw [hr] at e; exact e
          · rw [if_neg d]
            by_cases d : pk T q = 44
            · rw [if_pos d]
              have e := ih false (q + 1) (by omega)
              rcases hr : patP n kd T f false (q + 1) with ⟨_ | l9, r⟩
              · rw [hr] at e; exact e
              · rw [hr] at e; exact e
            · rw [if_neg d]; exact l
section STAYS
variable {s : St} {k : Bk}
theorem VSt.pshV (V : VSt s) (O : OKB k) : VSt (psh s k) := ⟨O, V.ps.2⟩
theorem VSt.txe (V : VSt s) : VSt (settx s (emT (stx s))) := ⟨V.1, V.2.1, V.2.2.1, V.2.2.2.1, ⟨Nat.zero_le _, fun i hi => absurd hi (Nat.not_lt_zero _)⟩, V.2.2.2.2.2⟩
theorem VSt.rf (V : VSt s) {a b : Int} (ha : 0 ≤ a ∧ a ≤ 5) (hb : 0 ≤ b ∧ b ≤ 100) : VSt (setrf s a b) := ⟨V.1, V.2.1, V.2.2.1, V.2.2.2.1, V.2.2.2.2.1, V.2.2.2.2.2.1, ⟨ha, hb⟩, V.2.2.2.2.2.2.2⟩
theorem VSt.bdv (V : VSt s) {a : Int} (ha : -1 ≤ a ∧ a ≤ 100) : VSt (setbd s a) := ⟨V.1, V.2.1, V.2.2.1, V.2.2.2.1, V.2.2.2.2.1, V.2.2.2.2.2.1, V.2.2.2.2.2.2.1, ha, V.2.2.2.2.2.2.2.2⟩
theorem VSt.riv (V : VSt s) {a : Int} (ha : -1 ≤ a ∧ a ≤ 100) : VSt (setri s a) := ⟨V.1, V.2.1, V.2.2.1, V.2.2.2.1, V.2.2.2.2.1, V.2.2.2.2.2.1, V.2.2.2.2.2.2.1, V.2.2.2.2.2.2.2.1, ha⟩
theorem okb_reset (k : Bk) : OKB (0, bkd k, brl k, bpr k, brw k, 0, 50, 20) := by
  refine ⟨⟨Nat.zero_le _, by show 0 < 2; omega, by show (0 : Int) ≤ 50 ∧ (50 : Int) ≤ 200; omega, by show (0 : Int) ≤ 20 ∧ (20 : Int) ≤ 200; omega, fun t ht => absurd ht (Nat.not_lt_zero _)⟩, fun x t _ ht => absurd ht (Nat.not_lt_zero _), fun x t _ ht => absurd ht (Nat.not_lt_zero _), fun x t _ ht => absurd ht (Nat.not_lt_zero _)⟩
theorem vs_clear (V : VSt s) : VSt (spClear s).2.2 := ⟨okb_reset _, V.2.1, fun b hb => absurd hb List.not_mem_nil, Nat.zero_le _, V.2.2.2.2.1, ⟨Nat.zero_le _, fun e he => absurd he List.not_mem_nil⟩, V.2.2.2.2.2.2⟩
theorem okb_addT (O : OKB k) (hb : bn k < 6) {u v p : Int} (hu : 0 ≤ u ∧ u ≤ 3) (hv : 0 ≤ v ∧ v ≤ 3) (h0 : v = 0 → p = -1) (h1 : v ≠ 0 → 0 ≤ p ∧ p < bn k) : OKB (addT k u v p) := by
  obtain ⟨⟨g1, g2, g3, g4, g5⟩, o2, o3, o4⟩ := O
  have eb : bn (addT k u v p) = bn k + 1 := rfl
  have ew : ∀ x t, brw (addT k u v p) x t = if t = bn k then emR else brw k x t := fun _ _ => rfl
  have el : ∀ t, brl (addT k u v p) t = if t = bn k then v else brl k t := fun _ => rfl
  have ep : ∀ t, bpr (addT k u v p) t = if t = bn k then p else bpr k t := fun _ => rfl
  have ek : ∀ t, bkd (addT k u v p) t = if t = bn k then u else bkd k t := fun _ => rfl
  have r0 : rn emR = 0 := rfl
  refine ⟨⟨by rw [eb]; omega, g2, g3, g4, fun t ht => ?_⟩, fun x t hx ht => ?_, fun x t hx ht => ?_, fun x t hx ht => ?_⟩
  · rw [eb] at ht
    rw [ek, el, ep]
    by_cases c : t = bn k
    · rw [if_pos c, if_pos c, if_pos c]
      refine ⟨hu, hv, ⟨?_, ?_⟩, h0, fun n => (h1 n).1, fun x hx => ?_⟩
      · by_cases z : v = 0
        · rw [h0 z]; omega
        · have := h1 z; omega
      · by_cases z : v = 0
        · rw [h0 z]; omega
        · have := h1 z; omega
      · rw [ew, if_pos c]
        exact ⟨by rw [r0]; omega, fun i hi => absurd hi (Nat.not_lt_zero _)⟩
    · rw [if_neg c, if_neg c, if_neg c]
      have g := g5 t (by omega)
      exact ⟨g.1, g.2.1, g.2.2.1, g.2.2.2.1, g.2.2.2.2.1, fun x hx => by rw [ew, if_neg c]; exact g.2.2.2.2.2 x hx⟩
  · rw [eb] at ht
    rw [ew]
    by_cases c : t = bn k
    · rw [if_pos c, r0]; omega
    · rw [if_neg c]; exact o2 x t hx (by omega)
  · rw [eb] at ht
    rw [ew]
    by_cases c : t = bn k
    · rw [if_pos c]; exact ⟨fun i hi => absurd hi (Nat.not_lt_zero _), fun i hi => absurd hi (Nat.not_lt_zero _)⟩
    · rw [if_neg c]; exact o3 x t hx (by omega)
  · rw [eb] at ht
    rw [orp_iff, ew]
    by_cases c : t = bn k
    · rw [if_pos c]; intro i hi; exact absurd hi (Nat.not_lt_zero _)
    · rw [if_neg c]
      intro i hi
      have q := orp_iff.mp (o4 x t hx (by omega)) i hi
      have g := g5 t (by omega)
      unfold Hst at q ⊢
      rw [el, ep, if_neg c, if_neg c, ew]
      rcases q with q | q
      · exact Or.inl q
      · by_cases z : brl k t = 0
        · exact Or.inl z
        · have := g.2.2.2.2.1 z
          rw [if_neg (show ¬ (bpr k t).toNat = bn k by omega)]
          exact Or.inr q
theorem vs_addTier (V : VSt s) {a b c : Int} : VSt (spAddTier s a b c).2.2 := by
  have h6 := V.1.1.1
  unfold spAddTier
  split
  · split
    · split
      · exact V
      · refine V.pshV (okb_addT V.1 (by omega) (by omega) (by omega) (fun z => if_pos z) (fun z => ?_))
        rw [if_neg z]
        omega
    · exact V
  · exact V
theorem okb_seta (O : OKB k) {a : Nat} (ha : a < 2) : OKB (seta k a) := ⟨⟨O.1.1, ha, O.1.2.2⟩, O.2.1, O.2.2.1, O.2.2.2⟩
theorem okb_setw (O : OKB k) {a : Int} (ha : 0 ≤ a ∧ a ≤ 200) : OKB (setw k a) := ⟨⟨O.1.1, O.1.2.1, ha, O.1.2.2.2⟩, O.2.1, O.2.2.1, O.2.2.2⟩
theorem okb_setg (O : OKB k) {a : Int} (ha : 0 ≤ a ∧ a ≤ 200) : OKB (setg k a) := ⟨⟨O.1.1, O.1.2.1, O.1.2.2.1, ha, O.1.2.2.2.2⟩, O.2.1, O.2.2.1, O.2.2.2⟩
theorem vs_select (V : VSt s) {a : Int} : VSt (spSelect s a).2.2 := by
  unfold spSelect
  split
  · exact V.pshV (okb_seta V.1 (by omega))
  · exact V
theorem vs_setting (V : VSt s) {q v : Int} : VSt (spSetting s q v).2.2 := by
  unfold spSetting
  split
  · split
    · split
      · exact V.pshV (okb_setw V.1 (by assumption))
      · exact V.pshV (okb_setg V.1 (by assumption))
    · exact V
  · exact V
theorem vs_undo (V : VSt s) : VSt (spUndo s).2.2 := by
  have h2 := V.2.2.1
  have h3 := V.2.2.2.1
  unfold spUndo
  cases hs : sps s with
  | nil => exact V
  | cons k P =>
    rw [hs] at h2 h3
    exact ⟨h2 k (List.mem_cons_self ..), V.2.1, fun b hb => h2 b (List.mem_cons_of_mem _ hb), by show P.length ≤ 8; have h3 : P.length + 1 ≤ 8 := h3; omega, V.2.2.2.2⟩
theorem vs_snap (V : VSt s) : VSt (spSnap s).2.2 := ⟨V.1, fun b hb => by
  have hb : some (snw s) = some b := hb
  cases hb
  exact V.1, V.2.2⟩
theorem vs_restore (V : VSt s) : VSt (spRestore s).2.2 := by
  have h2 := V.2.1
  unfold spRestore
  cases hs : ssv s with
  | none => exact V
  | some k => exact ⟨h2 k hs, V.2.1, fun b hb => absurd hb List.not_mem_nil, Nat.zero_le _, V.2.2.2.2⟩
theorem vs_append (V : VSt s) {p : Int32} : VSt (spAppend s p).2.2 := by
  unfold spAppend
  split
  · split
    · exact ⟨V.1, V.2.1, V.2.2.1, V.2.2.2.1, putL_gt _ _ V.2.2.2.2.1 (by assumption) (by assumption), V.2.2.2.2.2⟩
    · exact V
  · exact V
theorem vs_bad (V : VSt s) {kd : Int} : VSt (setbd (settx s (emT (stx s))) (labK (stx s) kd 0).length) := by
  have T := V.2.2.2.2.1
  have l := (labK_lim (kd := kd) T (Nat.zero_le (tn (stx s)))).1
  have := T.1
  exact V.txe.bdv (by omega)
theorem vs_addSpan (V : VSt s) {t f e : Int} : VSt (spAddSpan s t f e).2.2 := by
  unfold spAddSpan
  split
  · rename_i c
    split
    · rename_i d
      have hb : t.toNat < bn (snw s) := by omega
      split
      · exact V.txe.pshV (OKB.ins V.1 hb ((labK_lim V.2.2.2.2.1 (Nat.zero_le _)).2 d.1) (by assumption))
      · have l := rsn_lim V.1 hb f e
        exact V.txe.rf l.1 l.2
    · exact vs_bad V
  · exact V
theorem okb_row (O : OKB k) {t : Nat} (ht : t < bn k) {r : Rw} (R : RowOk k t r) (h30 : rn r ≤ 30) (hb : ber (bset k (ban k) t r) t = -1) : OKB (bset k (ban k) t r) := O.set ht R.1 h30 R.2.1 R.2.2 hb
theorem vs_rename (V : VSt s) {t i : Int} : VSt (spRename s t i).2.2 := by
  unfold spRename
  split
  · rename_i c
    split
    · rename_i d
      have hb : t.toNat < bn (snw s) := by omega
      have hv := (labK_lim V.2.2.2.2.1 (Nat.zero_le _)).2 d.1
      have R := V.1.row hb
      refine V.txe.pshV (okb_row V.1 hb ⟨⟨R.1.1, fun j hj => ?_⟩, R.2.1, R.2.2⟩ (V.1.2.1 _ _ V.1.1.2.1 hb) (ber_more V.1 fun j hj => ⟨j, hj, rfl, rfl⟩))
      have g := R.1.2 j hj
      refine ⟨g.1, g.2.1, g.2.2.1, g.2.2.2.1, ?_⟩
      show VL (if j = i.toNat then _ else _)
      split
      · exact hv
      · exact g.2.2.2.2
    · exact vs_bad V
  · exact V
theorem ber_100 (O : OKB k) {t : Nat} (ht : t < bn k) {k' : Bk} (e : bn k' = bn k) (n : ¬ ber k' t = -1) : 0 ≤ ber k' t ∧ ber k' t ≤ 100 := by
  have h6 := O.1.1
  have l := fnd_lim (berP k' t) (bn k' - (t + 1)) (t + 1)
  unfold ber at n ⊢
  omega
theorem vs_move (V : VSt s) {t i f e : Int} : VSt (spMove s t i f e).2.2 := by
  unfold spMove
  split
  · rename_i c
    have hb : t.toNat < bn (snw s) := by omega
    have hi : i.toNat < rn (brw (snw s) (ban (snw s)) t.toNat) := by omega
    have h30 := V.1.2.1 _ _ V.1.1.2.1 hb
    split
    · rename_i d
      have R := (mvR_ok V.1 hb hi (f := f) (e := e) (by rw [Int.toNat_of_nonneg (by omega)]; exact d)).2
      split
      · refine V.pshV (okb_row V.1 hb R ?_ (by assumption))
        show rn (brw (snw s) (ban (snw s)) t.toNat) - 1 + 1 ≤ 30
        omega
      · exact V.rf (by omega) (ber_100 V.1 hb rfl (by assumption))
    · have l := tryR_lim V.1 hb i f e
      exact V.rf l.1 l.2
  · exact V
theorem vs_split (V : VSt s) {t i g : Int} : VSt (spSplit s t i g).2.2 := by
  unfold spSplit
  split
  · rename_i c
    have hb : t.toNat < bn (snw s) := by omega
    have hi : i.toNat < rn (brw (snw s) (ban (snw s)) t.toNat) := by omega
    have h30 := V.1.2.1 _ _ V.1.1.2.1 hb
    split
    · exact V.rf (by omega) (by omega)
    · split
      · exact V.rf (by omega) (by omega)
      · rename_i d1 d2
        have n1 : lack (snw s) (ban (snw s)) t.toNat (rf (brw (snw s) (ban (snw s)) t.toNat) i.toNat) g = false := by
          cases hh : lack (snw s) (ban (snw s)) t.toNat (rf (brw (snw s) (ban (snw s)) t.toNat) i.toNat) g
          · rfl
          · exact absurd (Or.inl hh) d2
        have n2 : lack (snw s) (ban (snw s)) t.toNat g (re (brw (snw s) (ban (snw s)) t.toNat) i.toNat) = false := by
          cases hh : lack (snw s) (ban (snw s)) t.toNat g (re (brw (snw s) (ban (snw s)) t.toNat) i.toNat)
          · rfl
          · exact absurd (Or.inr hh) d2
        have R := cutR_ok V.1 hb hi (g := g) (by omega) (by omega) (lack_iff.mp n1) (lack_iff.mp n2)
        have R := R.2
        split
        · split
          · exact V.rf (by omega) (by omega)
          · refine V.pshV (okb_row V.1 hb R ?_ (by assumption))
            show rn (brw (snw s) (ban (snw s)) t.toNat) + 1 ≤ 30
            omega
        · exact V.rf (by omega) (ber_100 V.1 hb rfl (by assumption))
  · exact V
theorem vs_join (V : VSt s) {t i : Int} : VSt (spJoin s t i).2.2 := by
  unfold spJoin
  split
  · rename_i c
    have hb : t.toNat < bn (snw s) := by omega
    have hi : i.toNat < rn (brw (snw s) (ban (snw s)) t.toNat) := by omega
    have h30 := V.1.2.1 _ _ V.1.1.2.1 hb
    split
    · exact V.rf (by omega) (by omega)
    · split
      · exact V.rf (by omega) (by omega)
      · rename_i d1 d2
        have n1 : lack (snw s) (ban (snw s)) t.toNat (rf (brw (snw s) (ban (snw s)) t.toNat) i.toNat) (re (brw (snw s) (ban (snw s)) t.toNat) (i.toNat + 1)) = false := by
          cases hh : lack (snw s) (ban (snw s)) t.toNat (rf (brw (snw s) (ban (snw s)) t.toNat) i.toNat) (re (brw (snw s) (ban (snw s)) t.toNat) (i.toNat + 1))
          · rfl
          · exact absurd hh d2
        have R := uniR_ok V.1 hb (show i.toNat + 1 < rn (brw (snw s) (ban (snw s)) t.toNat) by omega) (lack_iff.mp n1)
        split
        · refine V.pshV (okb_row V.1 hb R ?_ (by assumption))
          show rn (brw (snw s) (ban (snw s)) t.toNat) - 1 ≤ 30
          omega
        · exact V.rf (by omega) (ber_100 V.1 hb rfl (by assumption))
  · exact V
theorem vs_remove (V : VSt s) {t i : Int} : VSt (spRemove s t i).2.2 := by
  unfold spRemove
  split
  · rename_i c
    have hb : t.toNat < bn (snw s) := by omega
    have hi : i.toNat < rn (brw (snw s) (ban (snw s)) t.toNat) := by omega
    exact V.pshV (PB.drps _ _ _ (PB.del V.1 hb hi) (by show t.toNat + 1 + (bn (snw s) - (t.toNat + 1)) = bn (snw s); omega))
  · exact V
theorem addL_ok : ∀ (R : List Itm) (j : Nat) (k : Bk), OKB k → (∀ i ∈ R, ItmOk (bn k) i) → (match addL k R j with | (k', none) => OKB k' | (_, some (j', r)) => j' < j + R.length ∧ (0 ≤ r.1 ∧ r.1 ≤ 5) ∧ (0 ≤ r.2 ∧ r.2 ≤ 100)) := by
  intro R
  induction R with
  | nil => intro j k O _; exact O
  | cons i R ih =>
    intro j k O hR
    have o := hR i (List.mem_cons_self ..)
    unfold addL
    by_cases c : (rsn k i.1 i.2.1 i.2.2.1).1 = 0
    · rw [if_pos c]
      have q := ih (j + 1) (insK k i.1 i.2.1 i.2.2.1 i.2.2.2) (OKB.ins O o.1 o.2.2.2 c) (fun i' hi => hR i' (List.mem_cons_of_mem _ hi))
      rcases ha : addL (insK k i.1 i.2.1 i.2.2.1 i.2.2.2) R (j + 1) with ⟨k', _ | ⟨j', r⟩⟩
      · rw [ha] at q; exact q
      · rw [ha] at q
        obtain ⟨q1, q2⟩ := q
        exact ⟨by rw [List.length_cons]; omega, q2⟩
    · rw [if_neg c]
      have l := rsn_lim O o.1 i.2.1 i.2.2.1
      exact ⟨by rw [List.length_cons]; omega, l.1, l.2⟩
theorem vs_read (V : VSt s) : VSt (spRead s).2.2 := by
  have T := V.2.2.2.2.1
  have T1 := T.1
  have p := itms_pos T (n := bn (snw s)) (kd := bkd (snw s)) 100 0 (Nat.zero_le _)
  have ok := itms_ok T V.1.1.1 (kd := bkd (snw s)) 100 0 (Nat.zero_le _)
  have ln := itms_len T (n := bn (snw s)) (kd := bkd (snw s)) 100 0 (Nat.zero_le _)
  unfold spRead
  rcases hr : itmsP (bn (snw s)) (bkd (snw s)) (stx s) 100 0 with ⟨_ | l, q⟩
  · rw [hr] at p
    have p : q ≤ tn (stx s) := p
    exact V.txe.bdv (by omega)
  · rw [hr] at ok ln
    have a := addL_ok l 0 (snw s) V.1 (ok l rfl)
    have n := ln l rfl
    dsimp only
    rcases ha : addL (snw s) l 0 with ⟨k', _ | ⟨j', r⟩⟩
    · rw [ha] at a; exact V.txe.pshV a
    · rw [ha] at a
      obtain ⟨a1, a2, a3⟩ := a
      exact (V.txe.rf a2 a3).riv (by omega)
theorem vs_search (V : VSt s) : VSt (spSearch s).2.2 := by
  have T := V.2.2.2.2.1
  have T1 := T.1
  have p := pat_pos T V.1.1.1 (kd := bkd (snw s)) 4 false 0 (Nat.zero_le _)
  have ok := pat_ok T V.1.1.1 (kd := bkd (snw s)) (fun t ht => (V.1.1.2.2.2.2 t ht).1) 4 false 0 (Nat.zero_le _)
  unfold spSearch
  rcases hr : patP (bn (snw s)) (bkd (snw s)) (stx s) 4 false 0 with ⟨_ | l, q⟩
  · rw [hr] at p
    have p : q ≤ tn (stx s) := p
    exact V.txe.bdv (by omega)
  · rw [hr] at ok
    obtain ⟨o1, o2, o3⟩ := ok l rfl
    exact ⟨V.txe.1, V.txe.2.1, V.txe.2.2.1, V.txe.2.2.2.1, V.txe.2.2.2.2.1, ⟨o2, fun e he => (o3 e he).1⟩, V.txe.2.2.2.2.2.2⟩
end STAYS
