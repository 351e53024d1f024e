/-! the class: reading of a text, search -/
theorem itms_inv {n f p : Nat} {kd : Nat → Int} {T : Tx} {i : Itm} {R : List Itm} (h : (itmsP n kd T f p).1 = some (i :: R)) : ∃ q f', itmP n kd T p = (some i, q) ∧ ((tn T ≤ q ∧ R = []) ∨ (¬ tn T ≤ q ∧ pk T q = 59 ∧ (itmsP n kd T f' (q + 1)).1 = some R)) := by
  cases f with
  | zero => cases h
  | succ f =>
    unfold itmsP at h
    rcases hi : itmP n kd T p with ⟨_ | i', q⟩
    · rw [hi] at h; cases h
    · rw [hi] at h
      dsimp only at h
      by_cases c : tn T ≤ q
      · rw [if_pos c] at h
        dsimp only at h
        injection h with h
        injection h with h1 h2
        subst h1; subst h2
        exact ⟨q, 0, rfl, Or.inl ⟨c, rfl⟩⟩
      · rw [if_neg c] at h
        by_cases d : pk T q = 59
        · rw [if_pos d] at h
          rcases hr : itmsP n kd T f (q + 1) with ⟨_ | l, r⟩
          · rw [hr] at h; cases h
          · rw [hr] at h
            dsimp only at h
            injection h with h
            injection h with h1 h2
            subst h1; subst h2
            exact ⟨q, f, rfl, Or.inr ⟨c, d, by rw [hr]⟩⟩
        · rw [if_neg d] at h; cases h
section RD8
variable {F : Fr} {N : Nat} {w w' : Wd} {h zp zn b : Nat} {s s' : St} {k : Bk}
theorem CStP.pP (C : CStP F w h zp zn s) : CPat F w zp ∧ DPat w zp (spt s) := by
  obtain ⟨hz, cX, cN, cD, cV, cH, cI, cR, cA, cM, cP, cQ⟩ := C
  exact cP
theorem CStP.pQ (C : CStP F w h zp zn s) : CPat F w zn := by
  obtain ⟨hz, cX, cN, cD, cV, cH, cI, cR, cA, cM, cP, cQ⟩ := C
  exact cQ
theorem c_ins (D : CBook F w b k) (O : OKB k) (hN : 40 ≤ N) {t : Nat} (hb : t < bn k) {f e : Int} (hf : I32 f) (he : I32 e) {l : List Nat} (hv : VL l) {z : Nat} : Ev (fX1_insertSpan F N w b (zI t) (zI f) (zI e) (cL l) z) fun x =>
    (¬ (rsn k t f e).1 = 0 ∧ x = (zI (-1), rfs w z (rsn k t f e).1 (rsn k t f e).2)) ∨ ((rsn k t f e).1 = 0 ∧ (tryR k t (-1) f e).1 = 0 ∧ rn (brw k (ban k) t) < 30 ∧ ∃ p : Nat, p ≤ 30 ∧ x.1 = zI p ∧ CBook F x.2 b (insK k t f e l) ∧ Kp (Rg (ra b (ban k) t) 4) w x.2) := by
  have h30 := O.2.1 _ _ O.1.2.1 hb
  refine ev_mono (c_insertSpan D hN hb hf he hv) ?_
  intro y hy
  rcases hy with ⟨y1, y2⟩ | ⟨y1, y2, y3⟩ | ⟨y1, y2, p, y3, y4, y5, y6⟩
  · have er : rsn k t f e = tryR k t (-1) f e := by unfold rsn; rw [if_neg y1]
    rw [er]
    exact Or.inl ⟨y1, y2⟩
  · have er : rsn k t f e = (5, 0) := by unfold rsn; rw [if_pos y1, if_pos (by omega)]
    rw [er]
    exact Or.inl ⟨by show ¬ (5 : Int) = 0; decide, y3⟩
  · have er : rsn k t f e = (0, 0) := by unfold rsn; rw [if_pos y1, if_neg (by omega)]
    rw [er]
    have ep := y4.uniq (insP_is (O.2.2.1 _ _ O.1.2.1 hb) f)
    subst ep
    have hp := y4.1
    exact Or.inr ⟨rfl, y1, y2, _, by omega, y3, y5, y6⟩
def AddQ (F : Fr) (h zp zn : Nat) (s : St) (L : Nat) (w : Wd) (r : Bk × Option (Nat × Int × Int)) (x : Int32 × Wd) : Prop := match r with
  | (k', none) => x.1 = zI (L : Nat) ∧ CStP F x.2 h zp zn s ∧ CBook F x.2 (h + 58) k' ∧ Kp (Rg h 661) w x.2
  | (_, some (j', r)) => j' < L ∧ x.1 = zI (j' : Nat) ∧ CStP F x.2 h zp zn (setrf s r.1 r.2) ∧ Kp (Rg h 661) w x.2
theorem AddQ.mono {L : Nat} {r : Bk × Option (Nat × Int × Int)} {x : Int32 × Wd} (q : AddQ F h zp zn s L w' r x) (k : Kp (Rg h 661) w w') : AddQ F h zp zn s L w r x := by
  obtain ⟨k', _ | ⟨j', r⟩⟩ := r
  · exact ⟨q.1, q.2.1, q.2.2.1, k.trans q.2.2.2⟩
  · exact ⟨q.1, q.2.1, q.2.2.1, k.trans q.2.2.2⟩
theorem c8_items {L : Nat} (hL : L ≤ 100) (hN : 40 ≤ N) : ∀ (R : List Itm) (j m f p : Nat) (k : Bk) (w : Wd), CStP F w h zp zn s → CBook F w (h + 58) k → OKB k → bn k = bn (snw s) → bkd k = bkd (snw s) → CInp F w (h + 630) (stx s) p → (R ≠ [] → (itmsP (bn (snw s)) (bkd (snw s)) (stx s) f p).1 = some R) → j + R.length = L → R.length < m →
    Ev (fX8_addItems_9 F N m w h (zI (L : Nat)) (zI (j : Nat))) (AddQ F h zp zn s L w (addL k R j)) := by
  intro R
  induction R with
  | nil =>
    intro j m f p k w C D O e1 e2 I hR hj hm
    match m, hm with
    | m + 1, hm =>
    unfold fX8_addItems_9
    have hj : j + 0 = L := hj
    exact ev_pos (by simp (disch := omega) only [z_0, z_1, z_2, z_3, z_4, z_5, z_6, z_7, z_8, z_9, z_10, z_12, z_13, z_16, z_20, z_24, z_30, z_31, z_32, z_38, z_42, z_44, z_45, z_47, z_48, z_49, z_50, z_57, z_58, z_59, z_60, z_61, z_91, z_97, z_98, z_100, z_108, z_114, z_120, z_122, z_126, z_127, z_128, z_200, z_255, z_961, z_990, z_992, z_998, z_999, z_1000, z_1092, z_1114, z_7798, z_10000, z_1000000, zI_neg, zI_add, zI_sub, zI_mul, zI_lt, zI_le, zI_eq, if_pos, if_neg, if_true, if_false, Option.bind_some, bnd, ldI_is, ldJ_is, Int.toNat_natCast, ]; omega) (ev_some ⟨rfl, C, D, Kp.refl _⟩)
  | cons i R ih =>
    intro j m f p k w C D O e1 e2 I hR hj hm
    match m, hm with
    | m + 1, hm =>
    have hj : j + (R.length + 1) = L := hj
    have hm : R.length + 1 < m + 1 := hm
    unfold fX8_addItems_9
    obtain ⟨q, f', hi, hq⟩ := itms_inv (hR (by simp))
    refine ev_neg (by simp (disch := omega) only [z_0, z_1, z_2, z_3, z_4, z_5, z_6, z_7, z_8, z_9, z_10, z_12, z_13, z_16, z_20, z_24, z_30, z_31, z_32, z_38, z_42, z_44, z_45, z_47, z_48, z_49, z_50, z_57, z_58, z_59, z_60, z_61, z_91, z_97, z_98, z_100, z_108, z_114, z_120, z_122, z_126, z_127, z_128, z_200, z_255, z_961, z_990, z_992, z_998, z_999, z_1000, z_1092, z_1114, z_7798, z_10000, z_1000000, zI_neg, zI_add, zI_sub, zI_mul, zI_lt, zI_le, zI_eq, if_pos, if_neg, if_true, if_false, Option.bind_some, bnd, ldI_is, ldJ_is, Int.toNat_natCast, ]; omega) (ev_eq C.a4 (ev_eq C.a1 (ev_then (c_readItem I D (by omega) hN) ?_)))
    rw [e1, e2, hi]
    intro x ⟨x1, x2, x3⟩
    rcases x3 with ⟨x3, _⟩ | ⟨i', x3, x4, x5, a1, a2, a3, a4⟩
    · cases x3
    injection x3 with x3
    subst x3
    obtain ⟨C1, q1⟩ := C.upIn x2 (fun a ha => by omega) x1.1
    have D1 := D.keep x2 fun y y1 y2 => by omega
    refine ev_eq C1.a1 (ev_eq C1.a4 (ev_eq C1.a4 (ev_eq C1.a4 (ev_eq C1.a4 (ev_eq C1.a5 ?_)))))
    rw [a1, a2, a3, a4]
    obtain ⟨o1, o2, o3, o4⟩ := x5
    have hb : i.1 < bn k := by rw [e1]; exact o1
    have h6 := O.1.1
    have hx := O.1.2.1
    refine ev_then (c_ins D1 O hN hb (by omega) (by omega) o4) ?_
    intro y hy
    show Ev _ (AddQ F h zp zn s L w (if (rsn k i.1 i.2.1 i.2.2.1).1 = 0 then addL (insK k i.1 i.2.1 i.2.2.1 i.2.2.2) R (j + 1) else (k, some (j, rsn k i.1 i.2.1 i.2.2.1))))
    rcases hy with ⟨y1, y2⟩ | ⟨y1, y10, y11, pp, y2, y3, y4, y5⟩
    · rw [if_neg y1, y2]
      obtain ⟨C3, q3⟩ := C1.rfs (rsn k i.1 i.2.1 i.2.2.1).1 (rsn k i.1 i.2.1 i.2.2.1).2
      exact ev_neg (show ¬ (0 : Int32) ≤ zI (-1) by decide) (ev_some ⟨by omega, rfl, C3, q1.trans q3⟩)
    · rw [if_pos y1, y3]
      obtain ⟨C2, q2⟩ := C1.ofD y4 y5 (by unfold ra; omega) (by unfold ra; omega)
      have I2 : CInp F y.2 (h + 630) (stx s) q := x1.keep y5 (by unfold Rg ra; omega) (by unfold Rg ra; omega)
      have O2 : OKB (insK k i.1 i.2.1 i.2.2.1 i.2.2.2) := OKB.ins O hb o4 y1
      refine ev_pos (by simp (disch := omega) only [z_0, z_1, z_2, z_3, z_4, z_5, z_6, z_7, z_8, z_9, z_10, z_12, z_13, z_16, z_20, z_24, z_30, z_31, z_32, z_38, z_42, z_44, z_45, z_47, z_48, z_49, z_50, z_57, z_58, z_59, z_60, z_61, z_91, z_97, z_98, z_100, z_108, z_114, z_120, z_122, z_126, z_127, z_128, z_200, z_255, z_961, z_990, z_992, z_998, z_999, z_1000, z_1092, z_1114, z_7798, z_10000, z_1000000, zI_neg, zI_add, zI_sub, zI_mul, zI_lt, zI_le, zI_eq, if_pos, if_neg, if_true, if_false, Option.bind_some, bnd, ldI_is, ldJ_is, Int.toNat_natCast, ]; omega) (ev_eq C2.a4 (ev_eq (c_take I2 (x := 59) (by omega)) ?_))
      rw [zI_succ]
      rcases hq with ⟨g1, g2⟩ | ⟨g1, g2, g3⟩
      · have hpk : ¬ pk (stx s) q = 59 := by unfold pk; rw [if_neg (by omega)]; decide
        rw [if_neg hpk]
        exact ev_mono (ih (j + 1) m 0 q _ _ C2 y4 O2 e1 e2 I2 (fun n => absurd g2 n) (by omega) (by omega)) fun x hx => hx.mono (q1.trans q2)
      · rw [if_pos g2]
        have k4 : Kp (fun a => a = h + 630) y.2 (ps y.2 (h + 630) (q + 1)) := kp_sI _ _ rfl
        have I3 := I2.mv (q := q + 1) (by omega)
        obtain ⟨C4, q4⟩ := C2.upIn k4 (fun a ha => by omega) I3.1
        have D4 := y4.keep k4 fun y y1 y2 => by omega
        exact ev_mono (ih (j + 1) m f' (q + 1) _ _ C4 D4 O2 e1 e2 I3 (fun _ => g3) (by omega) (by omega)) fun x hx => hx.mono ((q1.trans q2).trans q4)
theorem c8_read (C : CStP F w h zp zn s) (V : VSt s) (hN : 200 ≤ N) : Ev (fX8_read F N w h) (CO F h w [0, 3] (spRead s)) := by
  have T := V.2.2.2.2.1
  unfold fX8_read
  refine ev_eq C.a4 (ev_eq C.a0 (ev_then (c_countItems C.inp C.bk (by omega) hN) ?_))
  intro x ⟨x1, x2, x3⟩
  obtain ⟨C1, q1⟩ := C.upIn x2 (fun a ha => by omega) x1.1
  have hlen := itms_len T (n := bn (snw s)) (kd := bkd (snw s)) 100 0 (Nat.zero_le _)
  rcases hr : itmsP (bn (snw s)) (bkd (snw s)) (stx s) 100 0 with ⟨_ | l, q⟩
  · rw [hr] at x1 x3
    have es : spRead s = (1, 0, setbd (settx s (emT (stx s))) q) := by unfold spRead; rw [hr]
    rw [es]
    rcases x3 with ⟨_, x3⟩ | ⟨l, x3, _⟩
    · rw [x3]
      obtain ⟨C3, q3⟩ := C1.bad (q : Nat)
      refine ev_pos rfl (ev_eq C1.a4 ?_)
      rw [x1.2.1]
      refine ev_bnd (ev_eq C3.a4 (ev_then C3.empty ?_))
      intro w4 ⟨C4, q4⟩
      exact ev_some (co_e1 C4.st ((q1.trans q3).trans q4))
    · cases x3
  · rw [hr] at x1 x3 hlen
    rcases x3 with ⟨x3, _⟩ | ⟨l', x3, x4, x5⟩
    · cases x3
    injection x3 with x3
    subst x3
    have h100 := (hlen l rfl).2
    rw [x5]
    refine ev_neg (by simp (disch := omega) only [z_0, z_1, z_2, z_3, z_4, z_5, z_6, z_7, z_8, z_9, z_10, z_12, z_13, z_16, z_20, z_24, z_30, z_31, z_32, z_38, z_42, z_44, z_45, z_47, z_48, z_49, z_50, z_57, z_58, z_59, z_60, z_61, z_91, z_97, z_98, z_100, z_108, z_114, z_120, z_122, z_126, z_127, z_128, z_200, z_255, z_961, z_990, z_992, z_998, z_999, z_1000, z_1092, z_1114, z_7798, z_10000, z_1000000, zI_neg, zI_add, zI_sub, zI_mul, zI_lt, zI_le, zI_eq, if_pos, if_neg, if_true, if_false, Option.bind_some, bnd, ldI_is, ldJ_is, Int.toNat_natCast, ]; omega) (ev_eq C1.a1 (ev_eq C1.a0 (ev_then (C1.draft (by omega)) ?_)))
    intro w2 ⟨C2, D2, q2⟩
    unfold fX8_addItems
    refine ev_bind (ev_eq C2.a4 (ev_then (c_restart C2.inp) ?_))
    intro w3 ⟨a3, k3⟩
    obtain ⟨C3, q3⟩ := C2.upIn k3 (fun a ha => by omega) a3.1
    have D3 : CBook F w3 (h + 58) (snw s) := D2.keep k3 fun y y1 y2 => by omega
    refine ev_mono (c8_items h100 (by omega) l 0 N 100 0 (snw s) w3 C3 D3 V.1 rfl rfl a3 (fun _ => by rw [hr]) (by omega) (by omega)) ?_
    intro y hy
    have es : spRead s = match addL (snw s) l 0 with
      | (k, none) => (0, zI (l.length : Nat), psh (settx s (emT (stx s))) k)
      | (_, some (j, r)) => (2, 0, setri (setrf (settx s (emT (stx s))) r.1 r.2) j) := by unfold spRead; rw [hr]; rfl
    rw [es]
    rcases ha : addL (snw s) l 0 with ⟨k', _ | ⟨j', r⟩⟩
    · rw [ha] at hy
      obtain ⟨y1, C4, D4, q4⟩ := hy
      refine ev_eq C4.a4 (ev_then (c_empty C4.inp) ?_)
      intro w5 ⟨a5, k5, _⟩
      have C5 : CStP F w5 h zp zn (settx s (emT (stx s))) := C4.upI k5 (fun a ha => by omega) a5 eqx_tx
      have D5 := D4.keep k5 fun y y1 y2 => by omega
      rw [y1]
      refine ev_pos (by simp (disch := omega) only [z_0, z_1, z_2, z_3, z_4, z_5, z_6, z_7, z_8, z_9, z_10, z_12, z_13, z_16, z_20, z_24, z_30, z_31, z_32, z_38, z_42, z_44, z_45, z_47, z_48, z_49, z_50, z_57, z_58, z_59, z_60, z_61, z_91, z_97, z_98, z_100, z_108, z_114, z_120, z_122, z_126, z_127, z_128, z_200, z_255, z_961, z_990, z_992, z_998, z_999, z_1000, z_1092, z_1114, z_7798, z_10000, z_1000000, zI_neg, zI_add, zI_sub, zI_mul, zI_lt, zI_le, zI_eq, if_pos, if_neg, if_true, if_false, Option.bind_some, bnd, ldI_is, ldJ_is, Int.toNat_natCast, ]; omega) (ev_then (C5.keepDraft D5 (by omega)) ?_)
      intro w6 ⟨C6, q6⟩
      exact ev_some (co_in C6.st (((((q1.trans q2).trans q3).trans q4).trans (k5.mono fun a ha => by unfold Rg; omega)).trans q6) rfl)
    · rw [ha] at hy
      obtain ⟨y0, y1, C4, q4⟩ := hy
      refine ev_eq C4.a4 (ev_then C4.empty ?_)
      intro w5 ⟨C5, q5⟩
      rw [y1]
      obtain ⟨C6, q6⟩ := C5.badItem (j' : Nat)
      exact ev_neg (by simp (disch := omega) only [z_0, z_1, z_2, z_3, z_4, z_5, z_6, z_7, z_8, z_9, z_10, z_12, z_13, z_16, z_20, z_24, z_30, z_31, z_32, z_38, z_42, z_44, z_45, z_47, z_48, z_49, z_50, z_57, z_58, z_59, z_60, z_61, z_91, z_97, z_98, z_100, z_108, z_114, z_120, z_122, z_126, z_127, z_128, z_200, z_255, z_961, z_990, z_992, z_998, z_999, z_1000, z_1092, z_1114, z_7798, z_10000, z_1000000, zI_neg, zI_add, zI_sub, zI_mul, zI_lt, zI_le, zI_eq, if_pos, if_neg, if_true, if_false, Option.bind_some, bnd, ldI_is, ldJ_is, Int.toNat_natCast, ]; omega) (ev_bnd (ev_some (co_e2 C6.st (((((q1.trans q2).trans q3).trans q4).trans q5).trans q6))))
theorem c8_search (C : CStP F w h zp zn s) (V : VSt s) (hN : 40 ≤ N) : Ev (fX8_search F N w h) (CO F h w [0] (spSearch s)) := by
  have hz := C.1
  have cQ : CPat F w zn := C.pQ
  unfold fX8_search
  refine ev_eq C.a9 (ev_eq C.a4 (ev_eq C.a0 (ev_then (c_readFrom C.inp cQ C.bk (by unfold ZZ at hz; omega) (by omega) (by unfold ZZ at hz; omega) hN) ?_)))
  intro x ⟨x1, x2, x3, x4, x5⟩
  have q1 : Kp (Rg h 661) w x.2 := x4.mono fun a ha => by unfold RdS at ha; unfold ZZ at hz; unfold Rg; omega
  have C1 : CStP F x.2 h zp zn s := C.upIQ x4 (fun a ha => by unfold RdS at ha; omega) x1.1 x2 EqX.rf
  rcases hr : patP (bn (snw s)) (bkd (snw s)) (stx s) 4 false 0 with ⟨_ | l, q⟩
  · rw [hr] at x1 x5
    have es : spSearch s = (1, 0, setbd (settx s (emT (stx s))) q) := by unfold spSearch; rw [hr]
    rw [es]
    rcases x5 with ⟨_, x5⟩ | ⟨l, x5, _⟩
    · rw [x5]
      obtain ⟨C3, q3⟩ := C1.bad (q : Nat)
      refine ev_pos rfl (ev_eq C1.a4 ?_)
      rw [x1.2.1]
      refine ev_bnd ?_
      unfold fX8_search_31
      refine ev_eq C3.a4 (ev_then C3.empty ?_)
      intro w4 ⟨C4, q4⟩
      exact ev_pos rfl (ev_some (co_e1 C4.st ((q1.trans q3).trans q4)))
    · cases x5
  · rw [hr] at x1 x5
    have es : spSearch s = (0, zI (min (tot (snw s) l) 1000), setpt (settx s (emT (stx s))) l) := by unfold spSearch; rw [hr]
    rw [es]
    rcases x5 with ⟨x5, _⟩ | ⟨l', x5, x6, D1, l1, l4, lg⟩
    · cases x5
    injection x5 with x5
    subst x5
    rw [x6]
    refine ev_neg (by decide) ?_
    unfold fX8_search_31
    refine ev_eq C1.a4 (ev_then (c_empty C1.inp) ?_)
    intro w2 ⟨a2, k2, _⟩
    have C2 : CStP F w2 h zp zn (settx s (emT (stx s))) := C1.upI k2 (fun a ha => by omega) a2 eqx_tx
    have D2 : DPat w2 zn l := D1.keep k2 (by unfold ZZ at hz; omega) (by unfold ZZ at hz; omega) (by unfold ZZ at hz; omega) (by unfold ZZ at hz; omega) (by unfold ZZ at hz; omega)
    have q2 : Kp (Rg h 661) x.2 w2 := k2.mono fun a ha => by unfold Rg; omega
    refine ev_neg (by decide) (ev_eq C2.a8 (ev_eq C2.a9 (ev_bnd (ev_bnd ?_))))
    have k3 : Kp (fun a => a = h) w2 (sR (sR w2 808 h (some zn)) 809 h (some zp)) := (kp_sR (S := fun a => a = h) _ _ rfl).trans (kp_sR _ _ rfl)
    have cX := C2.2.1
    obtain ⟨⟨⟨p0, p1, p2, p3, p4⟩, p5, p6, p7, p8, p9⟩, r1, r2, r3⟩ := cX
    have e1 : ∀ f, ¬ f = 808 → ¬ f = 809 → gR (sR (sR w2 808 h (some zn)) 809 h (some zp)) f h = gR w2 f h := fun f n1 n2 => by rw [q_gR_sR, if_neg (fun c => n2 c.1), q_gR_sR, if_neg (fun c => n1 c.1)]
    have e8 : gR (sR (sR w2 808 h (some zn)) 809 h (some zp)) 808 h = some zn := by rw [q_gR_sR, if_neg (fun c => absurd c.1 (by decide)), q_gR_sR, if_pos ⟨rfl, rfl⟩]
    have e9 : gR (sR (sR w2 808 h (some zn)) 809 h (some zp)) 809 h = some zp := by rw [q_gR_sR, if_pos ⟨rfl, rfl⟩]
    have A2 : CPat F w2 zn := C2.pQ
    have P2 : CPat F w2 zp := C2.pP.1
    have C3 : CStP F (sR (sR w2 808 h (some zn)) 809 h (some zp)) h zn zp (setpt (settx s (emT (stx s))) l) := C2.upSw k3 (fun a ha => ha)
      ⟨⟨⟨by rw [e1 _ (by decide) (by decide)]; exact p0, by rw [e1 _ (by decide) (by decide)]; exact p1, by rw [e1 _ (by decide) (by decide)]; exact p2, by rw [e1 _ (by decide) (by decide)]; exact p3, by rw [e1 _ (by decide) (by decide)]; exact p4⟩, by rw [e1 _ (by decide) (by decide)]; exact p5, by rw [e1 _ (by decide) (by decide)]; exact p6, by rw [e1 _ (by decide) (by decide)]; exact p7, e8, e9⟩, r1, r2, r3⟩
      ⟨A2.keep k3 (by unfold ZZ at hz; omega) (fun y y1 y2 => by unfold ZZ at hz; omega), D2.keep k3 (by unfold ZZ at hz; omega) (by unfold ZZ at hz; omega) (by unfold ZZ at hz; omega) (by unfold ZZ at hz; omega) (by unfold ZZ at hz; omega)⟩
      (P2.keep k3 (by unfold ZZ at hz; omega) (fun y y1 y2 => by unfold ZZ at hz; omega))
      ⟨fun _ => rfl, fun _ => rfl, fun _ => rfl, fun _ => rfl, fun e => e.elim, fun _ => rfl, fun e => e.elim, fun e => e.elim⟩
    have q3 : Kp (Rg h 661) w2 (sR (sR w2 808 h (some zn)) 809 h (some zp)) := k3.mono fun a ha => by unfold Rg; omega
    obtain ⟨A3, D3⟩ : CPat F _ zn ∧ DPat _ zn l := C3.pP
    have B3 : CBook F (sR (sR w2 808 h (some zn)) 809 h (some zp)) (h + 1) (snw s) := C3.bk
    refine ev_eq C3.a8 (ev_eq C3.a0 (ev_then (c_countMatches A3 D3 B3 ⟨l4, lg⟩ V.1.2.1 hN (by unfold ZZ at hz; omega)) ?_))
    intro y ⟨y1, y2, y3, y4, y5, _⟩
    have C4 : CStP F y.2 h zn zp (setpt (settx s (emT (stx s))) l) := C3.upP y2 (fun a ha => by omega) ⟨y3, y4⟩ EqX.rf
    exact ev_some (co_in C4.st (((q1.trans q2).trans q3).trans (y2.mono fun a ha => by unfold ZZ at hz; unfold Rg; omega)) y1)
end RD8
