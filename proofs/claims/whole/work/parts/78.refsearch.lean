/-! the reference searches -/
def spSearch (s : St) : Rs := match patP (bn (snw s)) (bkd (snw s)) (stx s) 4 false 0 with
  | (none, q) => (1, 0, setbd (settx s (emT (stx s))) q)
  | (some l, _) => (0, zI (min (tot (snw s) l) 1000), setpt (settx s (emT (stx s))) l)
def spMatch (s : St) (m i : Int) : Rs :=
  if spt s = [] then (1, 0, s)
  else if (0 ≤ m ∧ m < min (tot (snw s) (spt s)) 1000) ∧ 0 ≤ i ∧ i < (spt s).length then (0, zI ((selM (snw s) (spt s) (fun _ => true) m).getD i.toNat 0 : Nat), s)
  else (2, 0, s)
/-- but the pattern, only what is no state may have changed -/
def Sq (z : Nat) (w w' : Wd) : Prop := gR w' = gR w ∧ (∀ f, KF f → ¬ f = 916 → gI w' f z = gI w f z) ∧ (aJ w' (z + 1) = aJ w (z + 1) ∧ aJ w' (z + 3) = aJ w (z + 3) ∧ aJ w' (z + 4) = aJ w (z + 4)) ∧ aI w' (z + 5) = aI w (z + 5) ∧ Kp (Rg z 26) w w' ∧ gI w' 906 z = gI w 906 z ∧ (aI w' (z + 12) = aI w (z + 12) ∧ aJ w' (z + 13) = aJ w (z + 13) ∧ aI w' (z + 14) = aI w (z + 14))
theorem Sq.trans {z : Nat} {u v w : Wd} (h : Sq z u v) (k : Sq z v w) : Sq z u w := by
  obtain ⟨h1, h2, ⟨h3, h4, h5⟩, h6, h7, h8, h9, h10, h11⟩ := h
  obtain ⟨k1, k2, ⟨k3, k4, k5⟩, k6, k7, k8, k9, k10, k11⟩ := k
  exact ⟨k1.trans h1, fun f hf hn => (k2 f hf hn).trans (h2 f hf hn), ⟨k3.trans h3, k4.trans h4, k5.trans h5⟩, k6.trans h6, h7.trans k7, k8.trans h8, k9.trans h9, k10.trans h10, k11.trans h11⟩
theorem Sq.refl (z : Nat) (w : Wd) : Sq z w w := ⟨rfl, fun _ _ _ => rfl, ⟨rfl, rfl, rfl⟩, rfl, Kp.refl _, rfl, rfl, rfl, rfl⟩
theorem Sq.s916 (z : Nat) (w : Wd) (v : Int32) : Sq z w (sI w 916 z v) := ⟨rfl, fun f _ hn => gI_ne _ hn, ⟨rfl, rfl, rfl⟩, rfl, kp_f _ _ _ _, gI_ne _ (by omega), rfl, rfl, rfl⟩
theorem Sq.sAI {z : Nat} (w : Wd) {o : Nat} (v : Nat → Int32) (ho : o = 8 ∨ o = 9 ∨ o = 11) : Sq z w (sAI w (z + o) v) := by
  refine ⟨rfl, fun f _ _ => rfl, ⟨rfl, rfl, rfl⟩, ?_, kp_sAI _ _ ⟨by omega, by omega⟩, rfl, ?_, rfl, ?_⟩
  all_goals rw [q_aI_sAI, if_neg (by omega)]
theorem Sq.sAJ {z : Nat} (w : Wd) (v : Nat → Int64) : Sq z w (sAJ w (z + 10) v) := by
  refine ⟨rfl, fun f _ _ => rfl, ⟨?_, ?_, ?_⟩, rfl, kp_sAJ _ _ ⟨by omega, by omega⟩, rfl, rfl, ?_, rfl⟩
  all_goals rw [q_aJ_sAJ, if_neg (by omega)]
section SEARCH
variable {F : Fr} {N : Nat} {w : Wd} {z : Nat} {s : St} {k : Bk} {p : List Pe}
theorem MSt.sq {w' : Wd} (h : MSt F w z s) (q : Sq z w w') (hp : MPt w' z p) : MSt F w' z (setpt s p) := by
  obtain ⟨h1, h2, h3, h4, h5, h6, h7⟩ := h
  obtain ⟨q1, q2, ⟨q3, q4, q5⟩, q6, q7, -⟩ := q
  refine ⟨h1.sc q1, q3 ▸ h2, ⟨?_, q4 ▸ h3.2⟩, ⟨?_, q5 ▸ h4.2⟩, ⟨?_, q6 ▸ h5.2⟩, hp, ?_, ?_, ?_, ?_⟩
  · rw [q2 903 (by unfold KF; omega) (by omega)]; exact h3.1
  · rw [q2 905 (by unfold KF; omega) (by omega)]; exact h4.1
  · rw [q2 908 (by unfold KF; omega) (by omega)]; exact h5.1
  · rw [q2 912 (by unfold KF; omega) (by omega)]; exact h7.1
  · rw [q2 913 (by unfold KF; omega) (by omega)]; exact h7.2.1
  · rw [q2 911 (by unfold KF; omega) (by omega)]; exact h7.2.2.1
  · rw [q2 946 (by unfold KF; omega) (by omega)]; exact h7.2.2.2
theorem m_search_35 (h : MSt F w z s) (V : VSt s) (G : PGs p) (hne : 1 ≤ p.length) (hb : ∀ e ∈ p, e.1 < bn (snw s)) (R : RTs w z (bkd (snw s)) p) (hN : 40 ≤ N) : ∀ (m n j : Nat) (w1 : Wd), Sq z w w1 → gI w1 916 z = zI (p.length : Nat) → j + n = p.length → n < m → (∀ i e, i < j → p[i]? = some e → MPe w1 z i e) →
    Ev (fX9_search_35 F N m w1 z (zI (j : Nat))) fun x => x.1 = zI (min (tot (snw s) p) 1000) ∧ MSt F x.2 z (setpt s p) ∧ Kp (Rg z 26) w x.2 ∧ gI x.2 906 z = gI w 906 z := by
  have hp := G.1
  intro m
  induction m with
  | zero => intro n j w1 _ _ _ h; omega
  | succ m ih =>
    intro n j w1 q h16 hj hm hP
    unfold fX9_search_35
    rw [h16]
    cases n with
    | zero =>
      refine ev_pos (by simp (disch := omega) only [z_0, z_1, z_2, z_3, z_4, z_5, z_6, z_7, z_8, z_9, z_10, z_12, z_13, z_16, z_20, z_24, z_30, z_31, z_32, z_38, z_42, z_44, z_45, z_47, z_48, z_49, z_50, z_57, z_58, z_59, z_60, z_61, z_91, z_97, z_98, z_100, z_108, z_114, z_120, z_122, z_126, z_127, z_128, z_200, z_255, z_961, z_990, z_992, z_998, z_999, z_1000, z_1092, z_1114, z_7798, z_10000, z_1000000, zI_neg, zI_add, zI_sub, zI_mul, zI_lt, zI_le, zI_eq, if_pos, if_neg, if_true, if_false, Option.bind_some, bnd, ldI_is, ldJ_is, Int.toNat_natCast, ]; omega) (ev_bnd (ev_bnd ?_))
      have P1 : MPt w1 z p := ⟨h16, fun i e he => hP i e (by obtain ⟨hlt, -⟩ := List.getElem?_eq_some_iff.mp he; omega) he⟩
      have h1 := h.sq q P1
      have s2 : Sc z w1 (sI (sI w1 927 z 0) 928 z (-1)) := (Sc.sI _ _ (by unfold KF; omega)).trans (Sc.sI _ _ (by unfold KF; omega))
      have h2 := h1.sc s2
      have B : MS F (sI (sI w1 927 z 0) 928 z (-1)) z (snw s) := ⟨h2.1, h2.2.1, V.1.1, V.1.2.1⟩
      obtain ⟨w', r1, r2, r3, r4, -⟩ := m_match0 (N := N) (v := -1) B h2.2.2.2.2.2.1 G V.1.2.1 (by omega) (gI_same _ _ _ _) (by rw [gI_ne _ (by omega)]; exact gI_same _ _ _ _) hne hN
      refine ev_eq r1 (ev_some ⟨r2, h2.sc r3, (q.2.2.2.2.1.trans s2.2.2.2.2).trans r3.2.2.2.2, ?_⟩)
      rw [r4, gI_ne _ (by omega), gI_ne _ (by omega), q.2.2.2.2.2.1]
    | succ n =>
      have hj2 : j < p.length := by omega
      have he : p[j]? = some p[j] := List.getElem?_eq_getElem hj2
      have hm2 := List.getElem_mem hj2
      obtain ⟨⟨a1, a2⟩, a3, a4⟩ := R j _ he
      have ge := hb _ hm2
      generalize hE : p[j] = e at he a1 a2 a3 a4 ge hm2
      have A := h.1.sc q.1
      refine ev_neg (by simp (disch := omega) only [z_0, z_1, z_2, z_3, z_4, z_5, z_6, z_7, z_8, z_9, z_10, z_12, z_13, z_16, z_20, z_24, z_30, z_31, z_32, z_38, z_42, z_44, z_45, z_47, z_48, z_49, z_50, z_57, z_58, z_59, z_60, z_61, z_91, z_97, z_98, z_100, z_108, z_114, z_120, z_122, z_126, z_127, z_128, z_200, z_255, z_961, z_990, z_992, z_998, z_999, z_1000, z_1092, z_1114, z_7798, z_10000, z_1000000, zI_neg, zI_add, zI_sub, zI_mul, zI_lt, zI_le, zI_eq, if_pos, if_neg, if_true, if_false, Option.bind_some, bnd, ldI_is, ldJ_is, Int.toNat_natCast,  Int.not_le]; omega) (ev_eq (rdR_is A.p917.1 A.p917.2.1) (ev_eq (rdR_is A.p921.1 A.p921.2.1) (ev_eq (ldI_is (by omega) (by rw [A.p921.2.2]; omega) (by omega)) (ev_eq (stI_is (by omega) (by rw [A.p917.2.2]; omega) (by omega)) ?_))))
      rw [Int.toNat_natCast, q.2.2.2.2.2.2.1, a1]
      generalize hw2 : sAI w1 (z + 8) (upd (aI w1 (z + 8)) j (zI (e.1 : Nat))) = w2
      have q2 : Sq z w1 w2 := hw2 ▸ Sq.sAI _ _ (by omega)
      have i2 : aI w2 (z + 8) j = zI (e.1 : Nat) := hw2 ▸ sI_aI w1 z 8 j _
      have A2 := A.sc q2.1
      refine ev_eq (rdR_is A2.p918.1 A2.p918.2.1) (ev_eq (rdR_is A2.p921.1 A2.p921.2.1) (ev_eq (ldI_is (by omega) (by rw [A2.p921.2.2]; omega) (by omega)) ?_))
      rw [Int.toNat_natCast, q2.2.2.2.2.2.2.1, q.2.2.2.2.2.2.1, a1]
      have B2 : MS F w2 z (snw s) := ⟨A2, (q.trans q2).2.2.1.1 ▸ h.2.1, V.1.1, V.1.2.1⟩
      refine ev_eq (m_kind B2 ge) (ev_eq (stI_is (by omega) (by rw [A2.p918.2.2]; omega) (by omega)) ?_)
      rw [Int.toNat_natCast, ← a3]
      generalize hw3 : sAI w2 (z + 9) (upd (aI w2 (z + 9)) j (zI e.2.1)) = w3
      have q3 : Sq z w2 w3 := hw3 ▸ Sq.sAI _ _ (by omega)
      have i3 : aI w3 (z + 9) j = zI e.2.1 := hw3 ▸ sI_aI w2 z 9 j _
      have A3 := A2.sc q3.1
      refine ev_eq (rdR_is A3.p919.1 A3.p919.2.1) (ev_eq (rdR_is A3.p922.1 A3.p922.2.1) (ev_eq (ldJ_is (by omega) (by rw [A3.p922.2.2]; omega) (by omega)) (ev_eq (stJ_is (by omega) (by rw [A3.p919.2.2]; omega) (by omega)) ?_)))
      rw [Int.toNat_natCast, ((q.trans q2).trans q3).2.2.2.2.2.2.2.1, a2]
      generalize hw4 : sAJ w3 (z + 10) (vp_updL (aJ w3 (z + 10)) j (mL (e.1, e.2.2.1).2)) = w4
      have q4 : Sq z w3 w4 := hw4 ▸ Sq.sAJ _ _
      have i4 : aJ w4 (z + 10) j = mL e.2.2.1 := by rw [← hw4, aJ_same, updL_is, if_pos rfl]
      have A4 := A3.sc q4.1
      refine ev_eq (rdR_is A4.p920.1 A4.p920.2.1) (ev_eq (rdR_is A4.p923.1 A4.p923.2.1) (ev_eq (ldI_is (by omega) (by rw [A4.p923.2.2]; omega) (by omega)) (ev_eq (stI_is (by omega) (by rw [A4.p920.2.2]; omega) (by omega)) ?_)))
      rw [Int.toNat_natCast, (((q.trans q2).trans q3).trans q4).2.2.2.2.2.2.2.2]
      generalize hw5 : sAI w4 (z + 11) (upd (aI w4 (z + 11)) j (vp_nar .boolean (aI w (z + 14) j))) = w5
      have q5 : Sq z w4 w5 := hw5 ▸ Sq.sAI _ _ (by omega)
      have i5 : aI w5 (z + 11) j = vp_nar .boolean (aI w (z + 14) j) := hw5 ▸ sI_aI w4 z 11 j _
      rw [zI_succ]
      have e8 : ∀ i, aI w5 (z + 8) i = if i = j then zI (e.1 : Nat) else aI w1 (z + 8) i := by
        intro i
        rw [← hw5, q_aI_sAI, if_neg (by omega), ← hw4, q_aI_sAJ, ← hw3, q_aI_sAI, if_neg (by omega), ← hw2, q_aI_sAI, if_pos rfl, upd_is]
      have e9 : ∀ i, aI w5 (z + 9) i = if i = j then zI e.2.1 else aI w1 (z + 9) i := by
        intro i
        rw [← hw5, q_aI_sAI, if_neg (by omega), ← hw4, q_aI_sAJ, ← hw3, q_aI_sAI, if_pos rfl, upd_is, ← hw2, q_aI_sAI, if_neg (c := z + 9 = z + 8) (by omega)]
      have e10 : ∀ i, aJ w5 (z + 10) i = if i = j then mL e.2.2.1 else aJ w1 (z + 10) i := by
        intro i
        rw [← hw5, q_aJ_sAI, ← hw4, q_aJ_sAJ, if_pos rfl, updL_is, ← hw3, q_aJ_sAI, ← hw2, q_aJ_sAI]
      have e11 : ∀ i, aI w5 (z + 11) i = if i = j then vp_nar .boolean (aI w (z + 14) j) else aI w1 (z + 11) i := by
        intro i
        rw [← hw5, q_aI_sAI, if_pos rfl, upd_is, ← hw4, q_aI_sAJ, ← hw3, q_aI_sAI, if_neg (c := z + 11 = z + 9) (by omega), ← hw2, q_aI_sAI, if_neg (c := z + 11 = z + 8) (by omega)]
      have g16 : gI w5 916 z = zI (p.length : Nat) := by rw [← hw5, ← hw4, ← hw3, ← hw2]; exact h16
      refine ih n (j + 1) w5 ((((q.trans q2).trans q3).trans q4).trans q5) g16 (by omega) (by omega) fun i e' hi he' => ?_
      by_cases c : i = j
      · subst c
        rw [he] at he'
        have ee := Option.some.inj he'
        subst ee
        refine ⟨by rw [e8, if_pos rfl], by rw [e9, if_pos rfl], by rw [e10, if_pos rfl], fun h0 => ?_⟩
        rw [e11, if_pos rfl, a4 h0]
        unfold mtI
        by_cases mm : e.2.2.2 = true
        · rw [if_pos mm]; rfl
        · rw [if_neg mm]; rfl
      · obtain ⟨b1, b2, b3, b4⟩ := hP i e' (by omega) he'
        refine ⟨by rw [e8, if_neg c]; exact b1, by rw [e9, if_neg c]; exact b2, by rw [e10, if_neg c]; exact b3, fun h0 => by rw [e11, if_neg c]; exact b4 h0⟩
theorem pat_ok {T : Tx} (hg : GT T) {n : Nat} (hn : n ≤ 6) {kd : Nat → Int} (hk : ∀ t, t < n → 0 ≤ kd t ∧ kd t ≤ 3) : ∀ (f : Nat) (m : Bool) (p : Nat), p ≤ tn T → ∀ l, (patP n kd T f m p).1 = some l → 1 ≤ l.length ∧ l.length ≤ f ∧ ∀ e ∈ l, GPe e ∧ e.1 < n := by
  intro f
  induction f with
  | zero => intro m p _ l h; cases h
  | succ f ih =>
    intro m p hp l h
    unfold patP at h
    have lim := prtP_lim (kd := kd) hg hn hp
    generalize prtP n kd T p = pr at h lim
    obtain ⟨o, q⟩ := pr
    cases o with
    | none => cases h
    | some e =>
      obtain ⟨l1, l2⟩ := lim
      obtain ⟨l3, l4, -⟩ := l2 e rfl
      have gp : GPe (e.1, kd e.1, e.2, m) ∧ e.1 < n := ⟨⟨by show e.1 < 6; omega, hk _ l3, l4⟩, l3⟩
      dsimp only at h
      by_cases c : tn T ≤ q
      · rw [if_pos c] at h
        have e9 := Option.some.inj h
        rw [← e9, List.length_singleton]
        refine ⟨by omega, by omega, fun x hx => ?_⟩
        rw [List.mem_singleton] at hx
        rw [hx]; exact gp
      · rw [if_neg c] at h
        by_cases c0 : f = 0
        · rw [if_pos c0] at h; cases h
        · rw [if_neg c0] at h
          have go : ∀ mt : Bool, q < tn T → (match patP n kd T f mt (q + 1) with | (none, r) => ((none : Option (List Pe)), r) | (some l, r) => (some ((e.1, kd e.1, e.2, m) :: l), r)).1 = some l → 1 ≤ l.length ∧ l.length ≤ f + 1 ∧ ∀ e ∈ l, GPe e ∧ e.1 < n := by
            intro mt hq hR
            have ih := ih mt (q + 1) (by omega)
            revert hR ih
            generalize patP n kd T f mt (q + 1) = R
            intro hR ih
            obtain ⟨o, r⟩ := R
            cases o with
            | none => cases hR
            | some l2 =>
              have e9 : (e.1, kd e.1, e.2, m) :: l2 = l := Option.some.inj hR
              obtain ⟨i1, i2, i3⟩ := ih l2 rfl
              rw [← e9, List.length_cons]
              refine ⟨by omega, by omega, fun x hx => ?_⟩
              rcases List.mem_cons.mp hx with y | y
              · rw [y]; exact gp
              · exact i3 x y
          by_cases c3 : pk T q = 38
          · rw [if_pos c3] at h
            exact go true ((pk_lim hg q).2.2 (by omega)) h
          · rw [if_neg c3] at h
            by_cases c4 : pk T q = 44
            · rw [if_pos c4] at h
              exact go false ((pk_lim hg q).2.2 (by omega)) h
            · rw [if_neg c4] at h; cases h
theorem m_search (h : MSt F w z s) (V : VSt s) (hN : 40 ≤ N) : Ev (fX9_search F N w z) (MO F z w (spSearch s)) := by
  have T := V.2.2.2.2.1
  have F86 := p_wrong (N := N) h V hN
  have hok := pat_ok (n := bn (snw s)) (kd := bkd (snw s)) T V.1.1.1 (fun t ht => (V.1.1.2.2.2.2 t ht).1) 4 false 0 (Nat.zero_le _)
  unfold fX9_search fX9_search_13 spSearch
  generalize patP (bn (snw s)) (bkd (snw s)) (stx s) 4 false 0 = R at F86 hok ⊢
  obtain ⟨o, q⟩ := R
  obtain ⟨w2, b, a1, a2, a3, a5, a6⟩ := F86
  rw [a1]
  unfold fX9_isPatternWrong_86
  obtain ⟨w3, c1, c2, c3, c4, c5, c6, c7⟩ := r_end (N := N) (b := b) a2 T a5
  rw [c1]
  simp only [Option.bind_some]
  rw [ckZ_if]
  simp only [Option.bind_some]
  have kw3 : Kp (Rg z 26) w w3 := a3.trans c3
  cases o with
  | none =>
    have a6 : b = true ∨ q < tn (stx s) := a6
    rw [endS_bad a6] at c2
    rw [if_pos a6]
    exact ev_neg (show ¬ (1 : Int32) = 0 by decide) (ev_bnd (ev_neg (by rw [gI_same]; decide) (ev_some ⟨gI_same _ _ _ _, fun x => absurd x (show ¬ (1 : Int) = 0 by decide), c2.thr _, kw3.trans (kp_thr _ _ _)⟩)))
  | some l =>
    obtain ⟨b1, b2, b3, b4, b5⟩ := a6
    have nb : ¬ (b = true ∨ q < tn (stx s)) := by
      rw [b1]
      intro x
      rcases x with x | x
      · cases x
      · dsimp only at b2; omega
    rw [endS_ok nb] at c2
    dsimp only
    rw [if_neg nb]
    obtain ⟨o1, o2, o3⟩ := hok l rfl
    have V2 : VSt (settx s (emT (stx s))) := ⟨V.1, V.2.1, V.2.2.1, V.2.2.2.1, ⟨Nat.zero_le _, fun i hi => absurd hi (Nat.not_lt_zero _)⟩, V.2.2.2.2.2⟩
    refine ev_pos rfl (ev_bnd (ev_pos (by rw [gI_same]; decide) (ev_bnd ?_)))
    rw [gI_ne _ (by omega), c5.1, b4]
    have h4 := c2.thr 0
    have R3 : RTs (sI w3 906 z 0) z (bkd (snw s)) l := by
      intro j e hj
      obtain ⟨⟨d1, d2⟩, d3, d4⟩ := b3 j e hj
      refine ⟨⟨?_, ?_⟩, d3, fun x => ?_⟩
      · rw [q_aI_sI, c6]; exact d1
      · rw [q_aJ_sI, c7]; exact d2
      · rw [q_aI_sI, c6]; exact d4 x
    refine ev_mono (m_search_35 (N := N) h4 V2 ⟨o2, fun e he => (o3 e he).1⟩ o1 (fun e he => (o3 e he).2) R3 hN N l.length 0 _ (Sq.s916 _ _ _) (gI_same _ _ _ _) (by omega) (by omega) (fun i e hi => absurd hi (Nat.not_lt_zero _))) fun x ⟨x1, x2, x3, x4⟩ => ⟨x4.trans (gI_same _ _ _ _), fun _ => x1, x2, (kw3.trans (kp_thr _ _ _)).trans x3⟩
theorem m_matchC (h : MSt F w z s) (V : VSt s) (hN : 40 ≤ N) {m i : Int} (hm : I32 m) (hi : I32 i) : Ev (fX9_match_ F N w z (zI m) (zI i)) (MO F z w (spMatch s m i)) := by
  have G := V.2.2.2.2.2.1
  have hl := G.1
  have e16 := h.2.2.2.2.2.1.1
  have er : Ev (fX9_match__37 F N w z (zI m) (zI i) z) (MO F z w (2, 0, s)) := by
    unfold fX9_match__37 fX9_match__42
    exact ev_bnd (ev_neg (by rw [gI_same]; decide) (ev_some (mo_err h (by omega) rfl)))
  unfold fX9_match_ spMatch
  rw [e16]
  by_cases c : spt s = []
  · rw [if_pos c]
    refine ev_pos (by rw [c]; rfl) ?_
    unfold fX9_match__42
    exact ev_bnd (ev_neg (by rw [gI_same]; decide) (ev_some (mo_err h (by omega) rfl)))
  · have hne : 1 ≤ (spt s).length := by
      rcases Nat.eq_zero_or_pos (spt s).length with x | x
      · exact absurd (List.length_eq_zero_iff.mp x) c
      · exact x
    rw [if_neg c]
    refine ev_neg (by simp (disch := omega) only [z_0, z_1, z_2, z_3, z_4, z_5, z_6, z_7, z_8, z_9, z_10, z_12, z_13, z_16, z_20, z_24, z_30, z_31, z_32, z_38, z_42, z_44, z_45, z_47, z_48, z_49, z_50, z_57, z_58, z_59, z_60, z_61, z_91, z_97, z_98, z_100, z_108, z_114, z_120, z_122, z_126, z_127, z_128, z_200, z_255, z_961, z_990, z_992, z_998, z_999, z_1000, z_1092, z_1114, z_7798, z_10000, z_1000000, zI_neg, zI_add, zI_sub, zI_mul, zI_lt, zI_le, zI_eq, if_pos, if_neg, if_true, if_false, Option.bind_some, bnd, ldI_is, ldJ_is, Int.toNat_natCast, ]; omega) ?_
    rw [show (0 : Int32) = zI 0 from rfl, z_999b, zI_sb1, m_in hm (by omega) (by omega), m_in hi (by omega) (by omega)]
    simp only [Option.bind_some]
    by_cases c1 : 0 ≤ m ∧ m ≤ 999
    · rw [if_pos c1]
      refine ev_neg (by decide) ?_
      by_cases c2 : 0 ≤ i ∧ i ≤ ((spt s).length : Int) - 1
      · rw [if_pos c2]
        refine ev_neg (by decide) ?_
        unfold fX9_match__42 fX9_match__83
        refine ev_bnd (ev_pos (by rw [gI_same]; decide) (ev_bnd (ev_bnd ?_)))
        have s2 : Sc z w (sI (sI (sI w 906 z (zI 0)) 927 z (zI 0)) 928 z (zI m)) := ((Sc.sI _ _ nKF906).trans (Sc.sI _ _ (by unfold KF; omega))).trans (Sc.sI _ _ (by unfold KF; omega))
        have h2 := h.sc s2
        have B : MS F _ z (snw s) := h2.ms V
        obtain ⟨w', r1, r2, r3, r4, r5⟩ := m_match0 (N := N) (v := m) B h2.2.2.2.2.2.1 G V.1.2.1 (by omega) (gI_same _ _ _ _) (by rw [gI_ne _ (by omega)]; exact gI_same _ _ _ _) hne hN
        refine ev_eq r1 ?_
        have h3 := h2.sc r3
        have kk : Kp (Rg z 26) w w' := s2.2.2.2.2.trans r3.2.2.2.2
        have ht : -1000 ≤ min (tot (snw s) (spt s)) 1000 ∧ min (tot (snw s) (spt s)) 1000 ≤ 1000 := by
          have : 0 ≤ tot (snw s) (spt s) := by
            cases hs : spt s with
            | nil => exact Int.le_refl _
            | cons e es => exact sumN_nn _ fun j _ => (way_lim _ _ _).1
          omega
        rw [r2]
        by_cases c3 : m < min (tot (snw s) (spt s)) 1000
        · rw [if_pos (c := (0 ≤ m ∧ m < min (tot (snw s) (spt s)) 1000) ∧ 0 ≤ i ∧ i < (spt s).length) ⟨⟨c1.1, c3⟩, by omega⟩]
          refine ev_pos (by simp (disch := omega) only [z_0, z_1, z_2, z_3, z_4, z_5, z_6, z_7, z_8, z_9, z_10, z_12, z_13, z_16, z_20, z_24, z_30, z_31, z_32, z_38, z_42, z_44, z_45, z_47, z_48, z_49, z_50, z_57, z_58, z_59, z_60, z_61, z_91, z_97, z_98, z_100, z_108, z_114, z_120, z_122, z_126, z_127, z_128, z_200, z_255, z_961, z_990, z_992, z_998, z_999, z_1000, z_1092, z_1114, z_7798, z_10000, z_1000000, zI_neg, zI_add, zI_sub, zI_mul, zI_lt, zI_le, zI_eq, if_pos, if_neg, if_true, if_false, Option.bind_some, bnd, ldI_is, ldJ_is, Int.toNat_natCast, ]; omega) (ev_bnd (ev_pos (by rw [gI_same]; decide) ?_))
          refine ev_eq (rdR_is h3.1.p926.1 h3.1.p926.2.1) (ev_eq (ldI_is (by omega) (by rw [h3.1.p926.2.2]; omega) (by omega)) (ev_some ⟨gI_same _ _ _ _, fun _ => ?_, h3.thr _, kk.trans (kp_thr _ _ _)⟩))
          exact r5 c1.1 c3 i.toNat (by omega)
        · rw [if_neg (c := (0 ≤ m ∧ m < min (tot (snw s) (spt s)) 1000) ∧ 0 ≤ i ∧ i < (spt s).length) (fun x => c3 x.1.2)]
          exact ev_neg (by simp (disch := omega) only [z_0, z_1, z_2, z_3, z_4, z_5, z_6, z_7, z_8, z_9, z_10, z_12, z_13, z_16, z_20, z_24, z_30, z_31, z_32, z_38, z_42, z_44, z_45, z_47, z_48, z_49, z_50, z_57, z_58, z_59, z_60, z_61, z_91, z_97, z_98, z_100, z_108, z_114, z_120, z_122, z_126, z_127, z_128, z_200, z_255, z_961, z_990, z_992, z_998, z_999, z_1000, z_1092, z_1114, z_7798, z_10000, z_1000000, zI_neg, zI_add, zI_sub, zI_mul, zI_lt, zI_le, zI_eq, if_pos, if_neg, if_true, if_false, Option.bind_some, bnd, ldI_is, ldJ_is, Int.toNat_natCast,  Int.not_lt]; omega) (ev_bnd (ev_neg (by rw [gI_same]; decide) (ev_some ⟨gI_same _ _ _ _, fun x => absurd x (show ¬ (2 : Int) = 0 by decide), h3.thr _, kk.trans (kp_thr _ _ _)⟩)))
      · rw [if_neg c2, if_neg (c := (0 ≤ m ∧ m < min (tot (snw s) (spt s)) 1000) ∧ 0 ≤ i ∧ i < (spt s).length) (fun x => c2 (by omega))]
        exact ev_pos (by rfl) er
    · rw [if_neg c1, if_neg (c := (0 ≤ m ∧ m < min (tot (snw s) (spt s)) 1000) ∧ 0 ≤ i ∧ i < (spt s).length) (fun x => c1 (by omega))]
      exact ev_pos (by rfl) er
end SEARCH
