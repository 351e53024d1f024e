/-! the reference's read -/
section READ
variable {F : Fr} {N : Nat} {w : Wd} {z : Nat} {s : St} {k : Bk} {p m : Nat} {b : Bool}
/-- items stand in the arrays -/
def ITs (w : Wd) (z : Nat) (l : List Itm) : Prop := ∀ j i, l[j]? = some i → IT w z j i
theorem ITs.snoc {w w' : Wd} {l : List Itm} {i : Itm} (h : ITs w z l) (k : Wr z l.length w w') (hi : IT w' z l.length i) : ITs w' z (l ++ [i]) := by
  intro j i' hj
  by_cases c : j < l.length
  · rw [List.getElem?_append_left c] at hj
    exact k.it (by omega) (h j i' hj)
  · have e : j = l.length := by
      obtain ⟨hlt, -⟩ := List.getElem?_eq_some_iff.mp hj
      rw [List.length_append, List.length_singleton] at hlt
      omega
    subst e
    rw [List.getElem?_append_right (Nat.le_refl _), Nat.sub_self] at hj
    have : i = i' := by simpa using hj
    rw [← this]; exact hi
theorem Wr.kp {m : Nat} {w w' : Wd} (h : Wr z m w w') : Kp (Rg z 26) w w' := h.1.2.2.2.2
/-- the loop over the text ends at read_44 with what the text is -/
def Fin44 (F : Fr) (N : Nat) (z : Nat) (s : St) (w : Wd) (x : Option (Int32 × Wd)) (acc : List Itm) (r : Option (List Itm) × Nat) : Prop :=
  ∃ w' b, x = fX9_read_44 F N (rdw w' z r.2 b) z ∧ MSt F w' z s ∧ Kp (Rg z 26) w w' ∧ gI w' 906 z = gI w 906 z ∧ r.2 ≤ tn (stx s) ∧ match r.1 with
    | none => b = true ∨ r.2 < tn (stx s)
    | some l => b = false ∧ tn (stx s) ≤ r.2 ∧ ITs w' z (acc ++ l) ∧ gI w' 945 z = zI ((acc ++ l).length : Nat)
theorem Fin44.mono {w0 w : Wd} {x : Option (Int32 × Wd)} {acc : List Itm} {r : Option (List Itm) × Nat} (h : Fin44 F N z s w x acc r) (k : Kp (Rg z 26) w0 w) (e : gI w 906 z = gI w0 906 z) : Fin44 F N z s w0 x acc r := by
  obtain ⟨w', b, h1, h2, h3, h4, h5⟩ := h
  exact ⟨w', b, h1, h2, k.trans h3, h4.trans e, h5⟩
theorem m_read_13 (V : VSt s) (hN : 40 ≤ N) : ∀ (f : Nat) (acc : List Itm) (i : Itm) (q mm : Nat) (w : Wd), MSt F w z s → q ≤ tn (stx s) → 102 ≤ f + 1 + q → acc.length * 2 + 2 ≤ q → f < mm → ITs w z (acc ++ [i]) → gI w 945 z = zI (acc.length + 1 : Nat) →
    Fin44 F N z s w (fX9_read_13 F N mm (rdw w z q false) z) acc (if tn (stx s) ≤ q then (some [i], q) else if pk (stx s) q = 59 then (match itmsP (bn (snw s)) (bkd (snw s)) (stx s) f (q + 1) with | (none, r) => (none, r) | (some l, r) => (some (i :: l), r)) else (none, q)) := by
  intro f
  induction f with
  | zero =>
    intro acc i q mm w h hq hf hl hm hI h5
    have T := V.2.2.2.2.1
    have hT := T.1
    obtain ⟨mm', rfl⟩ : ∃ mm', mm = mm' + 1 := ⟨mm - 1, by omega⟩
    by_cases c : tn (stx s) ≤ q
    · rw [if_pos c]
      refine ⟨w, false, ?_, h, Kp.refl _, rfl, hq, rfl, c, hI, by rw [List.length_append, List.length_singleton]; exact h5⟩
      rw [fX9_read_13, rdw_910, if_pos (by rfl), rdw_909, rdw_ne (by omega) (by omega), h.2.2.2.2.1.1, if_pos (by simp (disch := omega) only [z_0, z_1, z_2, z_3, z_4, z_5, z_6, z_7, z_8, z_9, z_10, z_12, z_13, z_16, z_20, z_24, z_30, z_31, z_32, z_38, z_42, z_44, z_45, z_47, z_48, z_49, z_50, z_57, z_58, z_59, z_60, z_61, z_91, z_97, z_98, z_100, z_108, z_114, z_120, z_122, z_126, z_127, z_128, z_200, z_255, z_961, z_990, z_992, z_998, z_999, z_1000, z_1092, z_1114, z_7798, z_10000, z_1000000, zI_neg, zI_add, zI_sub, zI_mul, zI_lt, zI_le, zI_eq, if_pos, if_neg, if_true, if_false, Option.bind_some, bnd, ldI_is, ldJ_is, Int.toNat_natCast, ]; omega)]
    · omega
  | succ f ih =>
    intro acc i q mm w h hq hf hl hm hI h5
    have T := V.2.2.2.2.1
    have hT := T.1
    obtain ⟨mm', rfl⟩ : ∃ mm', mm = mm' + 1 := ⟨mm - 1, by omega⟩
    by_cases c : tn (stx s) ≤ q
    · rw [if_pos c]
      refine ⟨w, false, ?_, h, Kp.refl _, rfl, hq, rfl, c, hI, by rw [List.length_append, List.length_singleton]; exact h5⟩
      rw [fX9_read_13, rdw_910, if_pos (by rfl), rdw_909, rdw_ne (by omega) (by omega), h.2.2.2.2.1.1, if_pos (by simp (disch := omega) only [z_0, z_1, z_2, z_3, z_4, z_5, z_6, z_7, z_8, z_9, z_10, z_12, z_13, z_16, z_20, z_24, z_30, z_31, z_32, z_38, z_42, z_44, z_45, z_47, z_48, z_49, z_50, z_57, z_58, z_59, z_60, z_61, z_91, z_97, z_98, z_100, z_108, z_114, z_120, z_122, z_126, z_127, z_128, z_200, z_255, z_961, z_990, z_992, z_998, z_999, z_1000, z_1092, z_1114, z_7798, z_10000, z_1000000, zI_neg, zI_add, zI_sub, zI_mul, zI_lt, zI_le, zI_eq, if_pos, if_neg, if_true, if_false, Option.bind_some, bnd, ldI_is, ldJ_is, Int.toNat_natCast, ]; omega)]
    · rw [if_neg c, fX9_read_13, rdw_910, if_pos (by rfl), rdw_909, rdw_ne (by omega) (by omega), h.2.2.2.2.1.1, if_neg (by simp (disch := omega) only [z_0, z_1, z_2, z_3, z_4, z_5, z_6, z_7, z_8, z_9, z_10, z_12, z_13, z_16, z_20, z_24, z_30, z_31, z_32, z_38, z_42, z_44, z_45, z_47, z_48, z_49, z_50, z_57, z_58, z_59, z_60, z_61, z_91, z_97, z_98, z_100, z_108, z_114, z_120, z_122, z_126, z_127, z_128, z_200, z_255, z_961, z_990, z_992, z_998, z_999, z_1000, z_1092, z_1114, z_7798, z_10000, z_1000000, zI_neg, zI_add, zI_sub, zI_mul, zI_lt, zI_le, zI_eq, if_pos, if_neg, if_true, if_false, Option.bind_some, bnd, ldI_is, ldJ_is, Int.toNat_natCast,  Int.not_le]; omega), z_59, r_sign h T hq (by omega)]
      simp only [Option.bind_some]
      by_cases d : pk (stx s) q = 59
      · have hpk := (pk_lim T q).2.2 (by omega)
        rw [if_pos d, if_pos d]
        obtain ⟨w', e1, e2, e3, e4⟩ := q_itemP (N := N) (m := acc.length + 1) (p := q + 1) h V hN (by omega) h5 (by omega)
        have lim := itmP_lim (n := bn (snw s)) (ks := bkd (snw s)) T (show q + 1 ≤ tn (stx s) by omega)
        rw [e1]
        simp only [Option.bind_some]
        have h' := h.sc e2.1
        unfold itmsP
        generalize itmP (bn (snw s)) (bkd (snw s)) (stx s) (q + 1) = it at e4 lim ⊢
        obtain ⟨o, q2⟩ := it
        cases o with
        | none =>
          obtain ⟨mm'', rfl⟩ : ∃ mm'', mm' = mm'' + 1 := ⟨mm' - 1, by omega⟩
          refine ⟨w', true, ?_, h', e2.kp, e2.2.1, lim.1, Or.inl rfl⟩
          show fX9_read_13 F N (mm'' + 1) (rdw w' z q2 true) z = fX9_read_44 F N (rdw w' z q2 true) z
          rw [fX9_read_13, rdw_910, if_neg (by decide)]
        | some i2 =>
          have l3 := lim.2.2 (by simp)
          have hI2 : ITs w' z ((acc ++ [i]) ++ [i2]) := hI.snoc (by rw [List.length_append, List.length_singleton]; exact e2) (by rw [List.length_append, List.length_singleton]; exact e4 i2 rfl)
          have r := ih (acc ++ [i]) i2 q2 mm' w' h' lim.1 (by dsimp only at l3; omega) (by rw [List.length_append, List.length_singleton]; dsimp only at l3; omega) (by omega) hI2 (by rw [List.length_append, List.length_singleton]; exact e3)
          have r := r.mono e2.kp e2.2.1
          rw [show (decide ((some i2, q2).1 = none)) = false from rfl]
          show Fin44 F N z s w (fX9_read_13 F N mm' (rdw w' z q2 false) z) acc _
          revert r
          have key : ∀ R : Option (List Itm) × Nat, Fin44 F N z s w (fX9_read_13 F N mm' (rdw w' z q2 false) z) (acc ++ [i]) R → Fin44 F N z s w (fX9_read_13 F N mm' (rdw w' z q2 false) z) acc (match R with | (none, r) => (none, r) | (some l, r) => (some (i :: l), r)) := by
            rintro ⟨o, q3⟩ ⟨w9, b9, a1, a2, a3, a4, a5, a6⟩
            cases o with
            | none => exact ⟨w9, b9, a1, a2, a3, a4, a5, a6⟩
            | some l =>
              refine ⟨w9, b9, a1, a2, a3, a4, a5, a6.1, a6.2.1, ?_, ?_⟩
              · have := a6.2.2.1
                rw [List.append_assoc] at this
                exact this
              · have := a6.2.2.2
                rw [List.append_assoc] at this
                exact this
          exact key _
      · rw [if_neg d, if_neg d]
        obtain ⟨w', e1, e2, e3, -⟩ := q_itemW (N := N) (m := acc.length + 1) (q := q) h T hN (by omega) h5 hq
        rw [e1]
        simp only [Option.bind_some]
        obtain ⟨mm'', rfl⟩ : ∃ mm'', mm' = mm'' + 1 := ⟨mm' - 1, by omega⟩
        refine ⟨w', true, ?_, h.sc e2.1, e2.kp, e2.2.1, hq, Or.inl rfl⟩
        show fX9_read_13 F N (mm'' + 1) (rdw w' z q true) z = fX9_read_44 F N (rdw w' z q true) z
        rw [fX9_read_13, rdw_910, if_neg (by decide)]
theorem setnw_self (s : St) : setnw s (snw s) = s := rfl
theorem rsn_bn (k : Bk) (t : Nat) (f e : Int) (l : List Nat) : bn (insK k t f e l) = bn k := rfl
theorem m_read_75 {s0 : St} (V : VSt s0) (hN : 200 ≤ N) {L : List Itm} (hL : ∀ i ∈ L, ItmOk (bn (snw s0)) i) (hLl : L.length ≤ 100) : ∀ (n j m : Nat) (k : Bk) (w : Wd), j + n = L.length → n < m → MSt F w z (setnw s0 k) → OKB k → bn k = bn (snw s0) → MBook (aJ w (z + 2)) (snw s0) → ITs w z L → gI w 945 z = zI (L.length : Nat) → gI w 906 z = 0 →
    Ev (fX9_read_75 F N m w z (zI (j : Nat))) fun x => match addL k (L.drop j) j with
      | (k', none) => gI x.2 906 z = zI 0 ∧ x.1 = zI (L.length : Nat) ∧ MSt F x.2 z (psh s0 k') ∧ Kp (Rg z 26) w x.2
      | (_, some (j', r)) => gI x.2 906 z = zI 2 ∧ MSt F x.2 z (setri (setrf s0 r.1 r.2) j') ∧ Kp (Rg z 26) w x.2 := by
  intro n
  induction n with
  | zero =>
    intro j m k w hj hm h K hb M hI h5 h6
    obtain ⟨m', rfl⟩ : ∃ m', m = m' + 1 := ⟨m - 1, by omega⟩
    rw [List.drop_of_length_le (by omega)]
    unfold fX9_read_75 addL
    obtain ⟨w', c1, c2, c3, c4⟩ := h.change (N := N) M V.1.1 V.1.2.1 V.past V.2.2.2.1
    refine ev_pos (by rw [h5]; simp (disch := omega) only [z_0, z_1, z_2, z_3, z_4, z_5, z_6, z_7, z_8, z_9, z_10, z_12, z_13, z_16, z_20, z_24, z_30, z_31, z_32, z_38, z_42, z_44, z_45, z_47, z_48, z_49, z_50, z_57, z_58, z_59, z_60, z_61, z_91, z_97, z_98, z_100, z_108, z_114, z_120, z_122, z_126, z_127, z_128, z_200, z_255, z_961, z_990, z_992, z_998, z_999, z_1000, z_1092, z_1114, z_7798, z_10000, z_1000000, zI_neg, zI_add, zI_sub, zI_mul, zI_lt, zI_le, zI_eq, if_pos, if_neg, if_true, if_false, Option.bind_some, bnd, ldI_is, ldJ_is, Int.toNat_natCast, ]; omega) ?_
    have e945 : gI w' 945 z = gI w 945 z := by
      have := c1
      obtain ⟨g, r1, r2⟩ := m_change (N := N) h.1 M V.1.1 V.1.2.1 h.2.2.2.1 V.past V.2.2.2.1
      rw [r1] at this
      rw [← Option.some.inj this, gI_ne _ (by omega)]
      rfl
    exact ev_eq c1 (ev_some ⟨c4.trans h6, e945.trans h5, c2, c3⟩)
  | succ n ih =>
    intro j m k w hj hm h K hb M hI h5 h6
    obtain ⟨m', rfl⟩ : ∃ m', m = m' + 1 := ⟨m - 1, by omega⟩
    have hj2 : j < L.length := by omega
    have hi : L[j]? = some L[j] := List.getElem?_eq_getElem hj2
    obtain ⟨i1, i2, i3, i4⟩ := hI j _ hi
    obtain ⟨o1, o2, o3, o4⟩ := hL L[j] (List.getElem_mem hj2)
    have ed : L.drop j = L[j] :: L.drop (j + 1) := List.drop_eq_getElem_cons hj2
    generalize L[j] = it at i1 i2 i3 i4 o1 o2 o3 o4 ed
    rw [ed]
    unfold fX9_read_75 addL
    refine ev_neg (by rw [h5]; simp (disch := omega) only [z_0, z_1, z_2, z_3, z_4, z_5, z_6, z_7, z_8, z_9, z_10, z_12, z_13, z_16, z_20, z_24, z_30, z_31, z_32, z_38, z_42, z_44, z_45, z_47, z_48, z_49, z_50, z_57, z_58, z_59, z_60, z_61, z_91, z_97, z_98, z_100, z_108, z_114, z_120, z_122, z_126, z_127, z_128, z_200, z_255, z_961, z_990, z_992, z_998, z_999, z_1000, z_1092, z_1114, z_7798, z_10000, z_1000000, zI_neg, zI_add, zI_sub, zI_mul, zI_lt, zI_le, zI_eq, if_pos, if_neg, if_true, if_false, Option.bind_some, bnd, ldI_is, ldJ_is, Int.toNat_natCast,  Int.not_le]; omega) (ev_eq (rdR_is h.1.p941.1 h.1.p941.2.1) (ev_eq (ldI_is (by omega) (by rw [h.1.p941.2.2]; omega) (by omega)) (ev_eq (rdR_is h.1.p942.1 h.1.p942.2.1) (ev_eq (ldI_is (by omega) (by rw [h.1.p942.2.2]; omega) (by omega)) (ev_eq (rdR_is h.1.p943.1 h.1.p943.2.1) (ev_eq (ldI_is (by omega) (by rw [h.1.p943.2.2]; omega) (by omega)) (ev_eq (rdR_is h.1.p944.1 h.1.p944.2.1) (ev_eq (ldJ_is (by omega) (by rw [h.1.p944.2.2]; omega) (by omega)) ?_)))))))) 
    rw [Int.toNat_natCast, i1, i2, i3, i4]
    have B : MS F w z k := ⟨h.1, h.2.1, K.1, K.2.1⟩
    have hit : it.1 < bn k := by omega
    by_cases r0 : (rsn k it.1 it.2.1 it.2.2.1).1 = 0
    · obtain ⟨g, a1, a2⟩ := m_add_ok (N := N) B K (by omega) hit (f := it.2.1) (e := it.2.2.1) (by omega) (by omega) it.2.2.2 r0
      have h30 := B.lim B.g.2.1 hit
      have hip := (insP_is (K.2.2.1 _ _ B.g.2.1 hit) it.2.1).1
      refine ev_eq a1 (ev_pos (by simp (disch := omega) only [z_0, z_1, z_2, z_3, z_4, z_5, z_6, z_7, z_8, z_9, z_10, z_12, z_13, z_16, z_20, z_24, z_30, z_31, z_32, z_38, z_42, z_44, z_45, z_47, z_48, z_49, z_50, z_57, z_58, z_59, z_60, z_61, z_91, z_97, z_98, z_100, z_108, z_114, z_120, z_122, z_126, z_127, z_128, z_200, z_255, z_961, z_990, z_992, z_998, z_999, z_1000, z_1092, z_1114, z_7798, z_10000, z_1000000, zI_neg, zI_add, zI_sub, zI_mul, zI_lt, zI_le, zI_eq, if_pos, if_neg, if_true, if_false, Option.bind_some, bnd, ldI_is, ldJ_is, Int.toNat_natCast, ]; omega) ?_)
      rw [if_pos r0, zI_succ]
      have M2 : MBook (aJ (sAJ w (z + 1) g) (z + 2)) (snw s0) := by rw [q_aJ_sAJ, if_neg (by omega)]; exact M
      have I2 : ITs (sAJ w (z + 1) g) z L := fun j i hji => by
        obtain ⟨b1, b2, b3, b4⟩ := hI j i hji
        exact ⟨b1, b2, b3, by rw [q_aJ_sAJ, if_neg (by omega)]; exact b4⟩
      refine ev_mono (ih (j + 1) m' (insK k it.1 it.2.1 it.2.2.1 it.2.2.2) (sAJ w (z + 1) g) (by omega) (by omega) (h.setnow a2) (K.ins hit o4 r0) hb M2 I2 h5 h6) fun x hx => ?_
      revert hx
      generalize addL (insK k it.1 it.2.1 it.2.2.1 it.2.2.2) (L.drop (j + 1)) (j + 1) = R
      obtain ⟨k', o⟩ := R
      cases o with
      | none => exact fun hx => ⟨hx.1, hx.2.1, hx.2.2.1, (kp_now _ _ _).trans hx.2.2.2⟩
      | some y => exact fun hx => ⟨hx.1, hx.2.1, (kp_now _ _ _).trans hx.2.2⟩
    · refine ev_eq (m_add_no (N := N) B K (by omega) hit (f := it.2.1) (e := it.2.2.1) (by omega) (by omega) r0) (ev_neg (show ¬ (0 : Int32) ≤ zI (-1) by decide) ?_)
      rw [if_neg r0]
      have h2 := h.fref (a := (rsn k it.1 it.2.1 it.2.2.1).1) (b := (rsn k it.1 it.2.1 it.2.2.1).2)
      obtain ⟨g, e1, e2⟩ := m_putBack (N := N) (w := rfw w z (rsn k it.1 it.2.1 it.2.2.1).1 (rsn k it.1 it.2.1 it.2.2.1).2) h2.1 M V.1.1 V.1.2.1
      refine ev_eq e1 (ev_bnd (ev_bnd (ev_some ⟨gI_same _ _ _ _, ((h2.setnow e2).f946).thr 2, ?_⟩)))
      exact (((kp_rfw _ _ _ _).trans (kp_now _ _ _)).trans (kp_f _ _ _ _)).trans (kp_thr _ _ _)
theorem itm_ok {T : Tx} (hg : GT T) {n : Nat} {kd : Nat → Int} {p : Nat} (hp : p ≤ tn T) {j : Itm} (h : (itmP n kd T p).1 = some j) : ItmOk n j := by
  unfold itmP at h
  by_cases c : 48 ≤ pk T p ∧ pk T p < 48 + n
  · rw [if_pos c] at h
    have k1 := (pk_lim hg p).2.2 (by omega)
    unfold it0 at h
    by_cases c0 : pk T (p + 1) = 58
    · rw [if_pos c0] at h
      have k2 := (pk_lim hg (p + 1)).2.2 (by omega)
      have l1 := numP_lim hg (show p + 1 + 1 ≤ tn T by omega)
      unfold it1 at h
      by_cases c1 : (numP T (p + 1 + 1)).1 < 0
      · rw [if_pos c1] at h; cases h
      · rw [if_neg c1] at h
        unfold it2 at h
        by_cases c2 : pk T (numP T (p + 1 + 1)).2 = 45
        · rw [if_pos c2] at h
          have k3 := (pk_lim hg (numP T (p + 1 + 1)).2).2.2 (by omega)
          have l2 := numP_lim hg (show (numP T (p + 1 + 1)).2 + 1 ≤ tn T by omega)
          unfold it3 at h
          by_cases c3 : (numP T ((numP T (p + 1 + 1)).2 + 1)).1 < 0
          · rw [if_pos c3] at h; cases h
          · rw [if_neg c3] at h
            unfold it4 at h
            by_cases c4 : pk T (numP T ((numP T (p + 1 + 1)).2 + 1)).2 = 61
            · rw [if_pos c4] at h
              have k4 := (pk_lim hg (numP T ((numP T (p + 1 + 1)).2 + 1)).2).2.2 (by omega)
              by_cases c5 : labK T (kd (pk T p - 48).toNat) ((numP T ((numP T (p + 1 + 1)).2 + 1)).2 + 1) = []
              · rw [if_pos c5] at h; cases h
              · rw [if_neg c5] at h
                have e := Option.some.inj h
                rw [← e]
                exact ⟨by show (pk T p - 48).toNat < n; omega, by dsimp only; omega, by dsimp only; omega, (labK_lim hg (by omega)).2 c5⟩
            · rw [if_neg c4] at h; cases h
        · rw [if_neg c2] at h; cases h
    · rw [if_neg c0] at h; cases h
  · rw [if_neg c] at h; cases h
theorem itms_ok {T : Tx} (hg : GT T) {n : Nat} (hn : n ≤ 6) {kd : Nat → Int} : ∀ (f p : Nat), p ≤ tn T → ∀ l, (itmsP n kd T f p).1 = some l → ∀ i ∈ l, ItmOk n i := by
  intro f
  induction f with
  | zero => intro p _ l h; cases h
  | succ f ih =>
    intro p hp l h i hi
    unfold itmsP at h
    have lim := itmP_lim (n := n) (ks := kd) hg hp
    have ok : ∀ j, (itmP n kd T p).1 = some j → ItmOk n j := fun j hj => itm_ok hg hp hj
    generalize itmP n kd T p = it at h lim ok
    obtain ⟨o, q⟩ := it
    cases o with
    | none => cases h
    | some j =>
      dsimp only at h
      by_cases c : tn T ≤ q
      · rw [if_pos c] at h
        have e : [j] = l := Option.some.inj h
        rw [← e, List.mem_singleton] at hi
        rw [hi]; exact ok j rfl
      · rw [if_neg c] at h
        by_cases d : pk T q = 59
        · have hpk := (pk_lim hg q).2.2 (by omega)
          rw [if_pos d] at h
          have ih := ih (q + 1) (by omega)
          generalize itmsP n kd T f (q + 1) = R at h ih
          obtain ⟨o, r⟩ := R
          cases o with
          | none => cases h
          | some l2 =>
            have e : j :: l2 = l := Option.some.inj h
            rw [← e] at hi
            rcases List.mem_cons.mp hi with x | x
            · rw [x]; exact ok j rfl
            · exact ih l2 rfl i x
        · rw [if_neg d] at h; cases h
theorem itms_len {T : Tx} (hg : GT T) {n : Nat} {kd : Nat → Int} : ∀ (f p : Nat), p ≤ tn T → ∀ l, (itmsP n kd T f p).1 = some l → 1 ≤ l.length ∧ l.length ≤ f := by
  intro f
  induction f with
  | zero => intro p _ l h; cases h
  | succ f ih =>
    intro p hp l h
    unfold itmsP at h
    have lim := itmP_lim (n := n) (ks := kd) hg hp
    generalize itmP n kd T p = it at h lim
    obtain ⟨o, q⟩ := it
    cases o with
    | none => cases h
    | some j =>
      dsimp only at h
      by_cases c : tn T ≤ q
      · rw [if_pos c] at h
        have e : [j] = l := Option.some.inj h
        rw [← e, List.length_singleton]; omega
      · rw [if_neg c] at h
        by_cases d : pk T q = 59
        · have hpk := (pk_lim hg q).2.2 (by omega)
          rw [if_pos d] at h
          have ih := ih (q + 1) (by omega)
          generalize itmsP n kd T f (q + 1) = R at h ih
          obtain ⟨o, r⟩ := R
          cases o with
          | none => cases h
          | some l2 =>
            have e : j :: l2 = l := Option.some.inj h
            have := ih l2 rfl
            rw [← e, List.length_cons]
            omega
        · rw [if_neg d] at h; cases h
theorem m_read (h : MSt F w z s) (V : VSt s) (hN : 200 ≤ N) : Ev (fX9_read F N w z) (MO F z w (spRead s)) := by
  have T := V.2.2.2.2.1
  have hT := T.1
  unfold fX9_read
  refine ev_eq r_begin (ev_bnd ?_)
  rw [rdw_945]
  have h0 : MSt F (sI w 945 z 0) z s := h.sc (Sc.sI _ _ (by unfold KF; omega))
  obtain ⟨w1, e1, e2, e3, e4⟩ := q_itemP (N := N) (m := 0) (p := 0) h0 V (by omega) (by omega) (gI_same _ _ _ _) (Nat.zero_le _)
  refine ev_eq e1 ?_
  have h1 := h0.sc e2.1
  have lim := itmP_lim (n := bn (snw s)) (ks := bkd (snw s)) T (Nat.zero_le (tn (stx s)))
  have F44 : Fin44 F N z s w1 (fX9_read_13 F N N (rdw w1 z (itmP (bn (snw s)) (bkd (snw s)) (stx s) 0).2 (decide ((itmP (bn (snw s)) (bkd (snw s)) (stx s) 0).1 = none))) z) [] (itmsP (bn (snw s)) (bkd (snw s)) (stx s) 100 0) := by
    unfold itmsP
    generalize itmP (bn (snw s)) (bkd (snw s)) (stx s) 0 = it at e4 lim ⊢
    obtain ⟨o, q⟩ := it
    cases o with
    | none =>
      obtain ⟨N', rfl⟩ : ∃ N', N = N' + 1 := ⟨N - 1, by omega⟩
      refine ⟨w1, true, ?_, h1, Kp.refl _, rfl, lim.1, Or.inl rfl⟩
      show fX9_read_13 F (N' + 1) (N' + 1) (rdw w1 z q true) z = fX9_read_44 F (N' + 1) (rdw w1 z q true) z
      rw [fX9_read_13, rdw_910, if_neg (by decide)]
    | some i =>
      have l3 := lim.2.2 (by simp)
      have hI : ITs w1 z ([] ++ [i]) := ITs.snoc (w := w1) (fun j i hj => by simp at hj) (Wr.refl _ _ _) (e4 i rfl)
      exact m_read_13 (N := N) V (by omega) 99 [] i q N w1 h1 lim.1 (by dsimp only at l3; omega) (by dsimp only at l3; rw [List.length_nil]; omega) (by omega) hI e3
  have kw : Kp (Rg z 26) w w1 := (kp_f w z 945 0).trans e2.kp
  have g6 : gI w1 906 z = gI w 906 z := e2.2.1.trans (gI_ne _ (by omega))
  have hok := itms_ok (n := bn (snw s)) (kd := bkd (snw s)) T V.1.1.1 100 0 (Nat.zero_le _)
  have hlen := itms_len (n := bn (snw s)) (kd := bkd (snw s)) T 100 0 (Nat.zero_le _)
  unfold spRead
  generalize itmsP (bn (snw s)) (bkd (snw s)) (stx s) 100 0 = R at F44 hok hlen ⊢
  obtain ⟨o, q⟩ := R
  obtain ⟨w2, b, a1, a2, a3, a4, a5, a6⟩ := F44
  rw [a1]
  unfold fX9_read_44 fX9_read_57
  obtain ⟨w3, c1, c2, c3, c4, c5, c6, c7⟩ := r_end (N := N) (b := b) a2 T a5
  refine ev_eq c1 ?_
  have kw3 : Kp (Rg z 26) w w3 := (kw.trans a3).trans c3
  cases o with
  | none =>
    have a6 : b = true ∨ q < tn (stx s) := a6
    rw [endS_bad a6] at c2
    rw [if_pos a6]
    exact ev_neg (show ¬ (1 : Int32) = 0 by decide) (ev_bnd (ev_neg (by rw [gI_same]; decide) (ev_some ⟨gI_same _ _ _ _, fun x => absurd x (show ¬ (1 : Int) = 0 by decide), c2.thr _, kw3.trans (kp_thr _ _ _)⟩)))
  | some l =>
    obtain ⟨b1, b2, b3, b4⟩ := a6
    have nb : ¬ (b = true ∨ q < tn (stx s)) := by
      rw [b1]
      intro x
      rcases x with x | x
      · cases x
      · dsimp only at b2; omega
    rw [endS_ok nb] at c2
    dsimp only
    rw [if_neg nb]
    have V2 : VSt (settx s (emT (stx s))) := ⟨V.1, V.2.1, V.2.2.1, V.2.2.2.1, ⟨Nat.zero_le _, fun i hi => absurd hi (Nat.not_lt_zero _)⟩, V.2.2.2.2.2⟩
    refine ev_pos rfl (ev_bnd (ev_pos (by rw [gI_same]; decide) ?_))
    obtain ⟨g2, k1, k2, k3, k4⟩ := (c2.thr 0).keepS (N := N) V2
    refine ev_eq k1 ?_
    have hI3 : ITs (sAJ (sI w3 906 z 0) (z + 2) g2) z l := by
      intro j i hj
      obtain ⟨d1, d2, d3, d4⟩ := b3 j i hj
      unfold IT
      rw [q_aI_sAJ, q_aI_sAJ, q_aI_sAJ, q_aI_sI, q_aI_sI, q_aI_sI, q_aJ_sAJ, if_neg (by omega), q_aJ_sI, c6, c7]
      exact ⟨d1, d2, d3, d4⟩
    have h5 : gI (sAJ (sI w3 906 z 0) (z + 2) g2) 945 z = zI (l.length : Nat) := by
      rw [q_gI_sAJ, gI_ne _ (by omega), c5.2, b4]
      rfl
    have hl := hlen l rfl
    refine ev_mono (m_read_75 (N := N) V2 hN (hok l rfl) hl.2 l.length 0 N (snw s) _ (by omega) (by omega) k2 V.1 rfl k3 hI3 h5 (gI_same _ _ _ _)) fun x hx => ?_
    rw [List.drop_zero] at hx
    have kk : Kp (Rg z 26) w (sAJ (sI w3 906 z 0) (z + 2) g2) := (kw3.trans (kp_thr _ _ _)).trans k4
    revert hx
    generalize addL (snw s) l 0 = R
    obtain ⟨k', o⟩ := R
    cases o with
    | none => exact fun hx => ⟨hx.1, fun _ => hx.2.1, hx.2.2.1, kk.trans hx.2.2.2⟩
    | some y => exact fun hx => ⟨hx.1, fun e => absurd e (show ¬ (2 : Int) = 0 by decide), hx.2.1, kk.trans hx.2.2⟩
end READ
