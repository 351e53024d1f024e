/-! the class's new object -/
def NB (w : Wd) (b : Nat) : Prop := WBook w b ∧ gI w 105 b = 0 ∧ gI w 106 b = 0 ∧ gI w 107 b = zI 50 ∧ gI w 108 b = zI 20
theorem NB.keep {S : Nat → Prop} {w w' : Wd} {b : Nat} (n : NB w b) (k : Kp S w w') (hs : ∀ x, b ≤ x → x < b + 57 → ¬ S x) : NB w' b := by
  have e := hs b (by omega) (by omega)
  exact ⟨n.1.keep k hs, by rw [k.gI e]; exact n.2.1, by rw [k.gI e]; exact n.2.2.1, by rw [k.gI e]; exact n.2.2.2.1, by rw [k.gI e]; exact n.2.2.2.2⟩
def NH (w : Wd) (z : Nat) : Prop := gR w 200 z = some (z + 1) ∧ gI w 201 z = 0 ∧ gI w 202 z = 0 ∧ ∀ j, j < 8 → aR w (z + 1) j = some (z + 2 + 57 * j) ∧ WBook w (z + 2 + 57 * j)
theorem NH.keep {S : Nat → Prop} {w w' : Wd} {z : Nat} (n : NH w z) (k : Kp S w w') (hs : ∀ x, z ≤ x → x < z + 458 → ¬ S x) : NH w' z := by
  have e := hs z (by omega) (by omega)
  exact ⟨by rw [k.gR e]; exact n.1, by rw [k.gI e]; exact n.2.1, by rw [k.gI e]; exact n.2.2.1, fun j hj => ⟨by rw [k.aR (hs (z + 1) (by omega) (by omega))]; exact (n.2.2.2 j hj).1, (n.2.2.2 j hj).2.keep k (fun x h1 h2 => hs x (by omega) (by omega))⟩⟩
def NP (w : Wd) (z : Nat) : Prop := (gR w 500 z = some (z + 1) ∧ gR w 501 z = some (z + 2) ∧ gR w 502 z = some (z + 3) ∧ gR w 503 z = some (z + 4) ∧ gR w 504 z = some (z + 5) ∧ gR w 505 z = some (z + 6)) ∧ gI w 506 z = 0 ∧ WRow w (z + 6) ∧ gI w 703 (z + 6) = 0
theorem NP.keep {S : Nat → Prop} {w w' : Wd} {z : Nat} (n : NP w z) (k : Kp S w w') (hs : ∀ x, z ≤ x → x < z + 10 → ¬ S x) : NP w' z := by
  have e := hs z (by omega) (by omega)
  refine ⟨?_, by rw [k.gI e]; exact n.2.1, n.2.2.1.keep k (fun x h1 h2 => hs x (by omega) (by omega)), by rw [k.gI (hs (z + 6) (by omega) (by omega))]; exact n.2.2.2⟩
  rw [k.gR e, k.gR e, k.gR e, k.gR e, k.gR e, k.gR e]
  exact n.1
def NI (w : Wd) (z : Nat) : Prop := gR w 300 z = some (z + 1) ∧ gI w 301 z = 0
def NA (w : Wd) (z : Nat) : Prop := gR w 0 z = some (z + 1) ∧ gR w 1 z = some (z + 2)
def NM (w : Wd) (z : Nat) : Prop := gR w 400 z = some (z + 1) ∧ gR w 401 z = some (z + 2) ∧ gR w 402 z = some (z + 3) ∧ gR w 403 z = some (z + 4)
def New8 (w : Wd) (h : Nat) : Prop := CPtr w h (h + 641) (h + 651) ∧ (gI w 810 h = 0 ∧ gI w 811 h = zI (-1) ∧ gI w 812 h = zI (-1)) ∧ NB w (h + 1) ∧ NB w (h + 58) ∧ NB w (h + 115) ∧ NH w (h + 172) ∧ NI w (h + 630) ∧ (gI w 600 (h + 632) = 0 ∧ gI w 601 (h + 632) = 0) ∧ NA w (h + 633) ∧ NM w (h + 636) ∧ NP w (h + 641) ∧ NP w (h + 651)
def KHs (F : Fr) (z : Nat) : Prop := F.1 z = 2 ∧ KA F (z + 1) 14 8 ∧ ∀ i, i < 8 → KBk F (z + 2 + 57 * i)
def KX8 (F : Fr) (h : Nat) : Prop := (KBk F (h + 1) ∧ KBk F (h + 58) ∧ KBk F (h + 115) ∧ KHs F (h + 172)) ∧ (F.1 (h + 630) = 3 ∧ KA F (h + 631) 10 100) ∧ F.1 (h + 632) = 6 ∧ (F.1 (h + 633) = 0 ∧ KA F (h + 634) 11 961 ∧ KA F (h + 635) 11 30) ∧ (F.1 (h + 636) = 4 ∧ KA F (h + 637) 11 60 ∧ KA F (h + 638) 11 60 ∧ KA F (h + 639) 11 60 ∧ KA F (h + 640) 12 60) ∧ KPt F (h + 641) ∧ KPt F (h + 651)
section INIT
variable {F : Fr} {N : Nat} {w : Wd} {a b z h : Nat}
theorem i_hist_15 (h0 : F.2.2.1 ≤ z) (K : KHs F z) (hN : 40 ≤ N) : ∀ (m n i : Nat) (w : Wd), i + n = 8 → n < m → gR w 200 z = some (z + 1) → (∀ j, j < i → aR w (z + 1) j = some (z + 2 + 57 * j) ∧ WBook w (z + 2 + 57 * j)) →
    Ev (fX2_init_15 F N (z + 1) m (z + 2 + 57 * i) w z (zI i)) fun w' => (∀ j, j < 8 → aR w' (z + 1) j = some (z + 2 + 57 * j) ∧ WBook w' (z + 2 + 57 * j)) ∧ Kp (fun q => q = z + 1 ∨ Rg (z + 2) 456 q) w w' := by
  intro m
  induction m with
  | zero => intro n i w _ hm; omega
  | succ m ih =>
    intro n i w hi hm hr hj
    unfold fX2_init_15
    have o : okF (Fto F (z + 2 + 57 * i)) (z + 1) 14 := ⟨by show F.2.2.1 ≤ z + 1; omega, by show z + 1 < z + 2 + 57 * i; omega, K.2.1.1⟩
    refine ev_rdR hr o ?_
    rw [show (Fto F (z + 2 + 57 * i)).2.1 (z + 1) = 8 from K.2.1.2, nI_z]
    cases n with
    | zero =>
      have e : i = 8 := by omega
      subst e
      exact ev_pos (by decide) (ev_eq (ckE_is (by omega)) (ev_some ⟨hj, Kp.refl _⟩))
    | succ n =>
      refine ev_neg (by simp (disch := omega) only [z_0, z_1, z_2, z_3, z_4, z_5, z_6, z_7, z_8, z_9, z_10, z_12, z_13, z_16, z_20, z_24, z_30, z_31, z_32, z_38, z_42, z_44, z_45, z_47, z_48, z_49, z_50, z_57, z_58, z_59, z_60, z_61, z_91, z_97, z_98, z_100, z_108, z_114, z_120, z_122, z_126, z_127, z_128, z_200, z_255, z_961, z_990, z_992, z_998, z_999, z_1000, z_1092, z_1114, z_7798, z_10000, z_1000000, zI_neg, zI_add, zI_sub, zI_mul, zI_lt, zI_le, zI_eq, if_pos, if_neg, if_true, if_false, Option.bind_some, bnd, ldI_is, ldJ_is, Int.toNat_natCast,  Int.not_le]; omega) (ev_rdR hr o ?_)
      have r := K.2.2 i (by omega)
      refine ev_eq (ckH_is (by omega) (by omega)) (ev_eq (ckN_is (by omega) r.1) (ev_bnd (ev_eq (ckH_is (by omega) (by omega)) ?_)))
      refine ev_then (i_book (by omega) r hN) ?_
      intro w6 ⟨W6, _, k6⟩
      have kz : Kp (Rg (z + 2 + 57 * i) 57) w w6 := (kp_zO w ⟨by omega, by omega⟩).trans k6
      refine ev_eq (stR_is (i := (i : Int)) (by omega) (by rw [show (Fto F (z + 2 + 57 * i + 57)).2.1 (z + 1) = 8 from K.2.1.2]; omega) (by omega)) ?_
      rw [Int.toNat_natCast, zI_succ, show z + 2 + 57 * i + 57 = z + 2 + 57 * (i + 1) from by omega]
      have kA : Kp (fun q => q = z + 1) w6 (sAR w6 (z + 1) (va_up (aR w6 (z + 1)) i (some (z + 2 + 57 * i)))) := kp_sAR _ _ rfl
      refine ev_mono (ih n (i + 1) _ (by omega) (by omega) ?_ ?_) ?_
      · rw [q_gR_sAR, kz.gR (by unfold Rg; omega), hr]
      · intro j hj2
        by_cases e : j = i
        · subst e
          exact ⟨by rw [q_aR_sAR, if_pos rfl, va_up_self], W6.keep kA (fun x h1 h2 => by omega)⟩
        · have h9 := hj j (by omega)
          exact ⟨by rw [q_aR_sAR, if_pos rfl, va_up_ne _ _ e, kz.aR (by unfold Rg; omega)]; exact h9.1, (h9.2.keep kz (fun x h1 h2 => by unfold Rg; omega)).keep kA (fun x h1 h2 => by omega)⟩
      · intro w' ⟨h1, h2⟩
        exact ⟨h1, ((kz.mono (fun x hx => Or.inr (by unfold Rg at *; omega))).trans (kA.mono (fun x hx => Or.inl hx))).trans h2⟩
theorem i_hist (h0 : F.2.2.1 ≤ z) (K : KHs F z) (hN : 40 ≤ N) (h1 : gI w 201 z = 0) (h2 : gI w 202 z = 0) : Ev (fX2_init F N w z (z + 1)) fun w' => NH w' z ∧ Kp (Rg z 458) w w' := by
  unfold fX2_init
  refine ev_eq (ckH_is (by omega) (by omega)) (ev_eq (ckL_is (by omega) K.2.1.1 K.2.1.2) (ev_bnd (ev_bnd ?_)))
  have k1 : Kp (Rg z 458) w (sR (zO w (z + 1)) 200 z (some (z + 1))) := (kp_zO _ ⟨by omega, by omega⟩).trans (kp_sR _ _ ⟨by omega, by omega⟩)
  refine ev_mono (i_hist_15 (N := N) h0 K hN N 8 0 (sR (zO w (z + 1)) 200 z (some (z + 1))) (by omega) (by omega) (by simp [Nat.add_assoc, q_gR_sR]) (fun j hj => absurd hj (Nat.not_lt_zero _))) ?_
  intro w' ⟨g1, g2⟩
  have e : ¬ (z = z + 1 ∨ Rg (z + 2) 456 z) := by unfold Rg; omega
  refine ⟨⟨?_, ?_, ?_, g1⟩, k1.trans (g2.mono (fun x hx => by unfold Rg at *; omega))⟩
  · rw [g2.gR e]; simp [Nat.add_assoc, q_gR_sR]
  · rw [g2.gI e, q_gI_sR, q_gI_zO, if_neg (by omega)]; exact h1
  · rw [g2.gI e, q_gI_sR, q_gI_zO, if_neg (by omega)]; exact h2
theorem i_pat (h0 : F.2.2.1 ≤ z) (K : KPt F z) (h1 : gI w 506 z = 0) : Ev (fX5_init F N w z (z + 1)) fun w' => NP w' z ∧ Kp (Rg z 10) w w' := by
  obtain ⟨k1, k2, k3, k4, k5, k6, k7⟩ := K
  unfold fX5_init
  refine ev_eq (ckH_is (by omega) (by omega)) (ev_eq (ckL_is (by omega) k2.1 k2.2) (ev_bnd (ev_bnd ?_)))
  refine ev_eq (ckH_is (by omega) (by omega)) (ev_eq (ckL_is (by omega) k3.1 k3.2) (ev_bnd (ev_bnd ?_)))
  refine ev_eq (ckH_is (by omega) (by omega)) (ev_eq (ckL_is (by omega) k4.1 k4.2) (ev_bnd (ev_bnd ?_)))
  refine ev_eq (ckH_is (by omega) (by omega)) (ev_eq (ckL_is (by omega) k5.1 k5.2) (ev_bnd (ev_bnd ?_)))
  refine ev_eq (ckH_is (by omega) (by omega)) (ev_eq (ckL_is (by omega) k6.1 k6.2) (ev_bnd (ev_bnd ?_)))
  refine ev_eq (ckH_is (by omega) (by omega)) (ev_eq (ckN_is (by omega) k7.1) (ev_bnd (ev_eq (ckH_is (by omega) (by omega)) ?_)))
  refine ev_then (i_row (a := z + 6) (by omega) k7) ?_
  intro w18 ⟨W18, c18, k18⟩
  refine ev_bnd (ev_eq (ckE_is rfl) (ev_some ?_))
  have n : ∀ o, o < 10 → Rg z 10 (z + o) := fun o ho => ⟨by omega, by omega⟩
  have eb : ¬ Rg (z + 6) 4 z := by unfold Rg; omega
  have g0 : ∀ f, gR w18 f z = if f = 504 then some (z + 5) else if f = 503 then some (z + 4) else if f = 502 then some (z + 3) else if f = 501 then some (z + 2) else if f = 500 then some (z + 1) else gR w f z := by
    intro f
    rw [k18.gR eb]
    simp [Nat.add_assoc, q_gR_sR, q_gR_zO]
  have g1 : gI w18 506 z = gI w 506 z := by
    rw [k18.gI eb]
    simp [Nat.add_assoc, q_gI_sR, q_gI_zO]
  have kA : Kp (fun q => q = z) w18 (sR w18 505 z (some (z + 6))) := kp_sR _ _ rfl
  have kk : Kp (Rg z 10) w w18 := ((kp_zO _ (n 1 (by omega))).trans ((kp_sR _ _ (n 0 (by omega))).trans ((kp_zO _ (n 2 (by omega))).trans ((kp_sR _ _ (n 0 (by omega))).trans ((kp_zO _ (n 3 (by omega))).trans ((kp_sR _ _ (n 0 (by omega))).trans ((kp_zO _ (n 4 (by omega))).trans ((kp_sR _ _ (n 0 (by omega))).trans ((kp_zO _ (n 5 (by omega))).trans ((kp_sR _ _ (n 0 (by omega))).trans (kp_zO _ (n 6 (by omega))))))))))))).trans (k18.mono (fun x hx => by unfold Rg at *; omega))
  refine ⟨⟨⟨?_, ?_, ?_, ?_, ?_, ?_⟩, ?_, ?_, ?_⟩, kk.trans (kA.mono (fun x hx => by subst hx; exact n 0 (by omega)))⟩
  · show gR (sR w18 505 z _) _ z = _
    rw [q_gR_sR, if_neg (by omega), g0]; rfl
  · show gR (sR w18 505 z _) _ z = _
    rw [q_gR_sR, if_neg (by omega), g0]; rfl
  · show gR (sR w18 505 z _) _ z = _
    rw [q_gR_sR, if_neg (by omega), g0]; rfl
  · show gR (sR w18 505 z _) _ z = _
    rw [q_gR_sR, if_neg (by omega), g0]; rfl
  · show gR (sR w18 505 z _) _ z = _
    rw [q_gR_sR, if_neg (by omega), g0]; rfl
  · show gR (sR w18 505 z _) _ z = _
    rw [q_gR_sR, if_pos ⟨rfl, rfl⟩]
  · show gI (sR w18 505 z _) _ z = _
    rw [q_gI_sR, g1]; exact h1
  · exact W18.keep kA (fun x h1 h2 => by omega)
  · show gI (sR w18 505 z _) _ _ = _
    rw [q_gI_sR, c18]
    simp [Nat.add_assoc, q_gI_zO]
theorem i_inp (h0 : F.2.2.1 ≤ z) (K : KA F (z + 1) 10 100) (h1 : gI w 301 z = 0) : Ev (fX3_init F N w z (z + 1)) fun w' => NI w' z ∧ Kp (Rg z 2) w w' := by
  unfold fX3_init
  refine ev_eq (ckH_is (by omega) (by omega)) (ev_eq (ckL_is (by omega) K.1 K.2) (ev_bnd (ev_bnd ?_)))
  refine ev_eq (ckE_is rfl) (ev_some ⟨⟨?_, ?_⟩, ?_⟩)
  · simp [Nat.add_assoc, q_gR_sR]
  · rw [q_gI_sR, q_gI_zO, if_neg (by omega)]; exact h1
  · exact (kp_zO _ ⟨by omega, by omega⟩).trans (kp_sR _ _ ⟨by omega, by omega⟩)
theorem i_alg (h0 : F.2.2.1 ≤ z) (K1 : KA F (z + 1) 11 961) (K2 : KA F (z + 2) 11 30) : Ev (fX0_init F N w z (z + 1)) fun w' => NA w' z ∧ Kp (Rg z 3) w w' := by
  unfold fX0_init
  refine ev_eq (ckH_is (by omega) (by omega)) (ev_eq (ckL_is (by omega) K1.1 K1.2) (ev_bnd (ev_bnd ?_)))
  refine ev_eq (ckH_is (by omega) (by omega)) (ev_eq (ckL_is (by omega) K2.1 K2.2) (ev_bnd (ev_bnd ?_)))
  have n : ∀ o, o < 3 → Rg z 3 (z + o) := fun o ho => ⟨by omega, by omega⟩
  refine ev_eq (ckE_is rfl) (ev_some ⟨⟨?_, ?_⟩, ?_⟩)
  · simp [Nat.add_assoc, q_gR_sR, q_gR_zO]
  · simp [Nat.add_assoc, q_gR_sR, q_gR_zO]
  · exact (kp_zO _ (n 1 (by omega))).trans ((kp_sR _ _ (n 0 (by omega))).trans ((kp_zO _ (n 2 (by omega))).trans (kp_sR _ _ (n 0 (by omega)))))
theorem i_mrg (h0 : F.2.2.1 ≤ z) (K1 : KA F (z + 1) 11 60) (K2 : KA F (z + 2) 11 60) (K3 : KA F (z + 3) 11 60) (K4 : KA F (z + 4) 12 60) : Ev (fX4_init F N w z (z + 1)) fun w' => NM w' z ∧ Kp (Rg z 5) w w' := by
  unfold fX4_init
  refine ev_eq (ckH_is (by omega) (by omega)) (ev_eq (ckL_is (by omega) K1.1 K1.2) (ev_bnd (ev_bnd ?_)))
  refine ev_eq (ckH_is (by omega) (by omega)) (ev_eq (ckL_is (by omega) K2.1 K2.2) (ev_bnd (ev_bnd ?_)))
  refine ev_eq (ckH_is (by omega) (by omega)) (ev_eq (ckL_is (by omega) K3.1 K3.2) (ev_bnd (ev_bnd ?_)))
  refine ev_eq (ckH_is (by omega) (by omega)) (ev_eq (ckL_is (by omega) K4.1 K4.2) (ev_bnd (ev_bnd ?_)))
  have n : ∀ o, o < 5 → Rg z 5 (z + o) := fun o ho => ⟨by omega, by omega⟩
  refine ev_eq (ckE_is rfl) (ev_some ⟨⟨?_, ?_, ?_, ?_⟩, ?_⟩)
  · simp [Nat.add_assoc, q_gR_sR, q_gR_zO]
  · simp [Nat.add_assoc, q_gR_sR, q_gR_zO]
  · simp [Nat.add_assoc, q_gR_sR, q_gR_zO]
  · simp [Nat.add_assoc, q_gR_sR, q_gR_zO]
  · exact (kp_zO _ (n 1 (by omega))).trans ((kp_sR _ _ (n 0 (by omega))).trans ((kp_zO _ (n 2 (by omega))).trans ((kp_sR _ _ (n 0 (by omega))).trans ((kp_zO _ (n 3 (by omega))).trans ((kp_sR _ _ (n 0 (by omega))).trans ((kp_zO _ (n 4 (by omega))).trans (kp_sR _ _ (n 0 (by omega)))))))))
/-- from a place on, and the object itself -/
def Fm (h a : Nat) : Nat → Prop := fun q => q = h ∨ (h + a ≤ q ∧ q < h + 661)
theorem i_class (h0 : F.2.2.1 ≤ h) (K : KX8 F h) (hN : 40 ≤ N) (hz : ∀ f, gI w f h = 0) : Ev (fX8_init F N w h (h + 1)) fun w' => New8 w' h ∧ Kp (Rg h 661) w w' := by
  obtain ⟨⟨K1, K2, K3, K4⟩, K5, K6, K7, K8, K9, K10⟩ := K
  unfold fX8_init
  refine ev_eq (ckH_is (by omega) (by omega)) (ev_eq (ckN_is (by omega) K1.1) (ev_bnd (ev_eq (ckH_is (by omega) (by omega)) ?_)))
  refine ev_then (i_book (b := h + 1) (by omega) K1 hN) ?_
  intro v1 ⟨W1, d1, k1⟩
  refine ev_bnd (ev_eq (ckH_is (by omega) (by omega)) (ev_eq (ckN_is (by omega) K2.1) (ev_bnd (ev_eq (ckH_is (by omega) (by omega)) ?_))))
  refine ev_then (i_book (b := h + 58) (by omega) K2 hN) ?_
  intro v2 ⟨W2, d2, k2⟩
  refine ev_bnd (ev_eq (ckH_is (by omega) (by omega)) (ev_eq (ckN_is (by omega) K3.1) (ev_bnd (ev_eq (ckH_is (by omega) (by omega)) ?_))))
  refine ev_then (i_book (b := h + 115) (by omega) K3 hN) ?_
  intro v3 ⟨W3, d3, k3⟩
  refine ev_bnd (ev_eq (ckH_is (by omega) (by omega)) (ev_eq (ckN_is (by omega) K4.1) (ev_bnd (ev_eq (ckH_is (by omega) (by omega)) ?_))))
  refine ev_then (i_hist (z := h + 172) (by omega) K4 hN (by simp [Nat.add_assoc, q_gI_zO]) (by simp [Nat.add_assoc, q_gI_zO])) ?_
  intro v4 ⟨W4, k4⟩
  refine ev_bnd (ev_eq (ckH_is (by omega) (by omega)) (ev_eq (ckN_is (by omega) K5.1) (ev_bnd (ev_eq (ckH_is (by omega) (by omega)) ?_))))
  refine ev_then (i_inp (z := h + 630) (by omega) K5.2 (by simp [Nat.add_assoc, q_gI_zO])) ?_
  intro v5 ⟨W5, k5⟩
  refine ev_bnd (ev_eq (ckH_is (by omega) (by omega)) (ev_eq (ckN_is (by omega) K6) (ev_bnd (ev_eq (ckH_is (by omega) (by omega)) ?_))))
  unfold fX6_init
  refine ev_then (ev_eq (ckE_is rfl) (ev_some (P := fun w9 => w9 = zO (sR v5 804 h (some (h + 630))) (h + 632)) rfl)) ?_
  intro v6 e6
  refine ev_bnd (ev_eq (ckH_is (by omega) (by omega)) (ev_eq (ckN_is (by omega) K7.1) (ev_bnd (ev_eq (ckH_is (by omega) (by omega)) ?_))))
  refine ev_then (i_alg (z := h + 633) (by omega) K7.2.1 K7.2.2) ?_
  intro v7 ⟨W7, k7⟩
  refine ev_bnd (ev_eq (ckH_is (by omega) (by omega)) (ev_eq (ckN_is (by omega) K8.1) (ev_bnd (ev_eq (ckH_is (by omega) (by omega)) ?_))))
  refine ev_then (i_mrg (z := h + 636) (by omega) K8.2.1 K8.2.2.1 K8.2.2.2.1 K8.2.2.2.2) ?_
  intro v8 ⟨W8, k8⟩
  refine ev_bnd (ev_eq (ckH_is (by omega) (by omega)) (ev_eq (ckN_is (by omega) K9.1) (ev_bnd (ev_eq (ckH_is (by omega) (by omega)) ?_))))
  refine ev_then (i_pat (z := h + 641) (by omega) K9 (by simp [Nat.add_assoc, q_gI_zO])) ?_
  intro v9 ⟨W9, k9⟩
  refine ev_bnd (ev_eq (ckH_is (by omega) (by omega)) (ev_eq (ckN_is (by omega) K10.1) (ev_bnd (ev_eq (ckH_is (by omega) (by omega)) ?_))))
  refine ev_then (i_pat (z := h + 651) (by omega) K10 (by simp [Nat.add_assoc, q_gI_zO])) ?_
  intro v10 ⟨W10, k10⟩
  obtain ⟨we, hwe⟩ : ∃ we, we = sI (sI (sR v10 809 h (some (h + 651))) 811 h (-1)) 812 h (-1) := ⟨_, rfl⟩
  have fm : ∀ {a n m x : Nat}, Rg (h + a) n x → m ≤ a → a + n ≤ 661 → Fm h m x := fun hx h1 h2 => by unfold Rg at hx; unfold Fm; omega
  have fn : ∀ {a m x : Nat}, Fm h a x → m ≤ a → Fm h m x := fun hx h1 => by unfold Fm at *; omega
  have s10 : Kp (Fm h 661) v10 we := by rw [hwe]; exact (kp_sR _ _ (Or.inl rfl)).trans ((kp_sI _ _ (Or.inl rfl)).trans (kp_sI _ _ (Or.inl rfl)))
  have s9 : Kp (Fm h 651) v9 we := (kp_sR _ _ (Or.inl rfl)).trans ((kp_zO _ (Or.inr (by omega))).trans ((k10.mono (fun x hx => fm hx (Nat.le_refl _) (by omega))).trans (s10.mono (fun x hx => fn hx (by omega)))))
  have s8 : Kp (Fm h 641) v8 we := (kp_sR _ _ (Or.inl rfl)).trans ((kp_zO _ (Or.inr (by omega))).trans ((k9.mono (fun x hx => fm hx (Nat.le_refl _) (by omega))).trans (s9.mono (fun x hx => fn hx (by omega)))))
  have s7 : Kp (Fm h 636) v7 we := (kp_sR _ _ (Or.inl rfl)).trans ((kp_zO _ (Or.inr (by omega))).trans ((k8.mono (fun x hx => fm hx (Nat.le_refl _) (by omega))).trans (s8.mono (fun x hx => fn hx (by omega)))))
  have s6 : Kp (Fm h 633) v6 we := (kp_sR _ _ (Or.inl rfl)).trans ((kp_zO _ (Or.inr (by omega))).trans ((k7.mono (fun x hx => fm hx (Nat.le_refl _) (by omega))).trans (s7.mono (fun x hx => fn hx (by omega)))))
  have s5 : Kp (Fm h 632) v5 we := (kp_sR _ _ (Or.inl rfl)).trans ((kp_zO (S := Fm h 632) (sR v5 804 h (some (h + 630))) (a := h + 632) (Or.inr (by omega))).trans (by rw [← e6]; exact s6.mono (fun x hx => fn hx (by omega))))
  have s4 : Kp (Fm h 630) v4 we := (kp_sR _ _ (Or.inl rfl)).trans ((kp_zO _ (Or.inr (by omega))).trans ((k5.mono (fun x hx => fm hx (Nat.le_refl _) (by omega))).trans (s5.mono (fun x hx => fn hx (by omega)))))
  have s3 : Kp (Fm h 172) v3 we := (kp_sR _ _ (Or.inl rfl)).trans ((kp_zO _ (Or.inr (by omega))).trans ((k4.mono (fun x hx => fm hx (Nat.le_refl _) (by omega))).trans (s4.mono (fun x hx => fn hx (by omega)))))
  have s2 : Kp (Fm h 115) v2 we := (kp_sR _ _ (Or.inl rfl)).trans ((kp_zO _ (Or.inr (by omega))).trans ((k3.mono (fun x hx => fm hx (Nat.le_refl _) (by omega))).trans (s3.mono (fun x hx => fn hx (by omega)))))
  have s1 : Kp (Fm h 58) v1 we := (kp_sR _ _ (Or.inl rfl)).trans ((kp_zO _ (Or.inr (by omega))).trans ((k2.mono (fun x hx => fm hx (Nat.le_refl _) (by omega))).trans (s2.mono (fun x hx => fn hx (by omega)))))
  have kt : Kp (Rg h 661) w we := (kp_zO _ ⟨by omega, by omega⟩).trans ((k1.mono (fun x hx => by unfold Rg at *; omega)).trans (s1.mono (fun x hx => by unfold Fm at hx; unfold Rg; omega)))
  have p1 := fun f => k1.gR (a := h) (by unfold Rg; omega) f
  have g1 := fun f => k1.gI (a := h) (by unfold Rg; omega) f
  have p2 := fun f => k2.gR (a := h) (by unfold Rg; omega) f
  have g2 := fun f => k2.gI (a := h) (by unfold Rg; omega) f
  have p3 := fun f => k3.gR (a := h) (by unfold Rg; omega) f
  have g3 := fun f => k3.gI (a := h) (by unfold Rg; omega) f
  have p4 := fun f => k4.gR (a := h) (by unfold Rg; omega) f
  have g4 := fun f => k4.gI (a := h) (by unfold Rg; omega) f
  have p5 := fun f => k5.gR (a := h) (by unfold Rg; omega) f
  have g5 := fun f => k5.gI (a := h) (by unfold Rg; omega) f
  have p7 := fun f => k7.gR (a := h) (by unfold Rg; omega) f
  have g7 := fun f => k7.gI (a := h) (by unfold Rg; omega) f
  have p8 := fun f => k8.gR (a := h) (by unfold Rg; omega) f
  have g8 := fun f => k8.gI (a := h) (by unfold Rg; omega) f
  have p9 := fun f => k9.gR (a := h) (by unfold Rg; omega) f
  have g9 := fun f => k9.gI (a := h) (by unfold Rg; omega) f
  have p10 := fun f => k10.gR (a := h) (by unfold Rg; omega) f
  have g10 := fun f => k10.gI (a := h) (by unfold Rg; omega) f
  refine ev_bnd (ev_bnd (ev_bnd (ev_eq (ckE_is rfl) (ev_some (show New8 (sI (sI (sR v10 809 h (some (h + 651))) 811 h (-1)) 812 h (-1)) h ∧ Kp (Rg h 661) w (sI (sI (sR v10 809 h (some (h + 651))) 811 h (-1)) 812 h (-1)) from ?_)))))
  rw [← hwe]
  refine ⟨⟨⟨⟨?_, ?_, ?_, ?_, ?_⟩, ?_, ?_, ?_, ?_, ?_⟩, ⟨?_, ?_, ?_⟩, ?_, ?_, ?_, ?_, ?_, ⟨?_, ?_⟩, ?_, ?_, ?_, ?_⟩, kt⟩
  · simp [Nat.add_assoc, hwe, q_gR_sI, q_gR_sR, q_gR_zO, p10, p9, p8, p7, e6, p5, p4, p3, p2, p1]
  · simp [Nat.add_assoc, hwe, q_gR_sI, q_gR_sR, q_gR_zO, p10, p9, p8, p7, e6, p5, p4, p3, p2, p1]
  · simp [Nat.add_assoc, hwe, q_gR_sI, q_gR_sR, q_gR_zO, p10, p9, p8, p7, e6, p5, p4, p3, p2, p1]
  · simp [Nat.add_assoc, hwe, q_gR_sI, q_gR_sR, q_gR_zO, p10, p9, p8, p7, e6, p5, p4, p3, p2, p1]
  · simp [Nat.add_assoc, hwe, q_gR_sI, q_gR_sR, q_gR_zO, p10, p9, p8, p7, e6, p5, p4, p3, p2, p1]
  · simp [Nat.add_assoc, hwe, q_gR_sI, q_gR_sR, q_gR_zO, p10, p9, p8, p7, e6, p5, p4, p3, p2, p1]
  · simp [Nat.add_assoc, hwe, q_gR_sI, q_gR_sR, q_gR_zO, p10, p9, p8, p7, e6, p5, p4, p3, p2, p1]
  · simp [Nat.add_assoc, hwe, q_gR_sI, q_gR_sR, q_gR_zO, p10, p9, p8, p7, e6, p5, p4, p3, p2, p1]
  · simp [Nat.add_assoc, hwe, q_gR_sI, q_gR_sR, q_gR_zO, p10, p9, p8, p7, e6, p5, p4, p3, p2, p1]
  · simp [Nat.add_assoc, hwe, q_gR_sI, q_gR_sR, q_gR_zO, p10, p9, p8, p7, e6, p5, p4, p3, p2, p1]
  · simp [Nat.add_assoc, hwe, q_gI_sI, q_gI_sR, q_gI_zO, g10, g9, g8, g7, e6, g5, g4, g3, g2, g1, hz]
  · rw [hwe, q_gI_sI, if_neg (by omega), q_gI_sI, if_pos ⟨rfl, rfl⟩]; exact z_m1
  · rw [hwe, q_gI_sI, if_pos ⟨rfl, rfl⟩]; exact z_m1
  · refine NB.keep (w := v1) ⟨W1, ?_, ?_, d1.2.2.1, d1.2.2.2⟩ s1 (fun x h1 h2 => by unfold Fm; omega)
    · rw [d1.1, q_gI_zO, if_pos rfl]
    · rw [d1.2.1, q_gI_zO, if_pos rfl]
  · refine NB.keep (w := v2) ⟨W2, ?_, ?_, d2.2.2.1, d2.2.2.2⟩ s2 (fun x h1 h2 => by unfold Fm; omega)
    · rw [d2.1, q_gI_zO, if_pos rfl]
    · rw [d2.2.1, q_gI_zO, if_pos rfl]
  · refine NB.keep (w := v3) ⟨W3, ?_, ?_, d3.2.2.1, d3.2.2.2⟩ s3 (fun x h1 h2 => by unfold Fm; omega)
    · rw [d3.1, q_gI_zO, if_pos rfl]
    · rw [d3.2.1, q_gI_zO, if_pos rfl]
  · exact W4.keep s4 (fun x h1 h2 => by unfold Fm; omega)
  · exact ⟨by rw [s5.gR (by unfold Fm; omega)]; exact W5.1, by rw [s5.gI (by unfold Fm; omega)]; exact W5.2⟩
  · rw [s6.gI (by unfold Fm; omega), e6, q_gI_zO, if_pos rfl]
  · rw [s6.gI (by unfold Fm; omega), e6, q_gI_zO, if_pos rfl]
  · exact ⟨by rw [s7.gR (by unfold Fm; omega)]; exact W7.1, by rw [s7.gR (by unfold Fm; omega)]; exact W7.2⟩
  · have e : ¬ Fm h 641 (h + 636) := by unfold Fm; omega
    exact ⟨by rw [s8.gR e]; exact W8.1, by rw [s8.gR e]; exact W8.2.1, by rw [s8.gR e]; exact W8.2.2.1, by rw [s8.gR e]; exact W8.2.2.2⟩
  · exact W9.keep s9 (fun x h1 h2 => by unfold Fm; omega)
  · exact W10.keep s10 (fun x h1 h2 => by unfold Fm; omega)
end INIT
