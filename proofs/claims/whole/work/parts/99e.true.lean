/-! the law's value, for every script -/
theorem law_true {L : Nat} (hL : L ≤ 2560) (xs : Nat → Int32) (h : Nat) : ∃ (K len : Nat → Nat) (N : Nat) (w : Wd), fLaw (K, len, h, h, true) N L xs w h = some () := by
  refine ⟨fun q => kd (q - h), fun q => ln (q - h), 3000, w00, ev_is (a := ()) ?_⟩
  have r := lay_rest
  unfold fLaw
  refine ev_eq (ckH_is (by omega) (by omega)) (ev_eq (ckN_is (F := FH h h true) (Nat.le_refl _) ((fh_1 h h true 0).trans r.2.2.2.2.2.1.1)) (ev_bnd (ev_eq (ckH_is (by omega) (by omega)) ?_)))
  refine ev_then (i_class (F := FH h h true) (N := 3000) (w := zO w00 h) (h := h) (Nat.le_refl _) (kx8_is h h true) (by omega) (fun f => by rw [q_gI_zO, if_pos rfl])) ?_
  intro wa ⟨n8, _⟩
  refine ev_eq (ckH_is (by omega) (by omega)) (ev_eq (ckN_is (F := FH h h true) (by show h ≤ h + 661; omega) ((fh_1 h h true 661).trans r.2.2.2.2.2.1.2)) (ev_bnd (ev_eq (ckH_is (by omega) (by omega)) ?_)))
  obtain ⟨g, hg, hg2⟩ := i_ref (F := FH h h true) (N := 3000) (w := zO wa (h + 661)) (z := h + 661) (by show h ≤ h + 661; omega) (kx9_is h h true) (by omega)
  refine ev_eq hg ?_
  refine ev_eq (ckH_is (by omega) (by omega)) (ev_eq (ckL_is (F := FH h h true) (by show h ≤ h + 687; omega) ((fh_1 h h true 687).trans r.2.2.2.2.2.2.1.1) ((fh_2 h h true 687).trans r.2.2.2.2.2.2.1.2)) (ev_bnd ?_))
  refine ev_eq (ckH_is (by omega) (by omega)) (ev_eq (ckL_is (F := FH h h true) (by show h ≤ h + 688; omega) ((fh_1 h h true 688).trans r.2.2.2.2.2.2.2.1) ((fh_2 h h true 688).trans r.2.2.2.2.2.2.2.2)) (ev_bnd ?_))
  have k0 : Kp (fun q => h + 661 ≤ q ∧ q < h + 687) wa (sI (sI (sAJ (nc (zO wa (h + 661)) (h + 661)) (h + 661 + 1) g) 905 (h + 661) 0) 916 (h + 661) 0) := by
    have kz : Kp (fun q => h + 661 ≤ q ∧ q < h + 687) wa (zO wa (h + 661)) := kp_zO _ ⟨by omega, by omega⟩
    have kn := (nc_kp (zO wa (h + 661)) (h + 661)).mono (T := fun q => h + 661 ≤ q ∧ q < h + 687) (fun x hx => by unfold Rg at hx; omega)
    exact kz.trans (kn.trans ((kp_sAJ _ _ ⟨by omega, by omega⟩).trans ((kp_sI _ _ ⟨by omega, by omega⟩).trans (kp_sI _ _ ⟨by omega, by omega⟩))))
  have hN9 : N9 (sI (sI (sAJ (nc (zO wa (h + 661)) (h + 661)) (h + 661 + 1) g) 905 (h + 661) 0) 916 (h + 661) 0) (h + 661) := by
    have e := nc_n9 (zO wa (h + 661)) (h + 661)
    unfold N9 at e ⊢
    simp only [q_gR_sI, q_gR_sAJ]
    exact e
  have hJ : ∀ j, j < 1114 → aJ (sI (sI (sAJ (nc (zO wa (h + 661)) (h + 661)) (h + 661 + 1) g) 905 (h + 661) 0) 916 (h + 661) 0) (h + 661 + 1) j = if j = 2 then 50 else if j = 3 then 20 else 0 := by
    intro j hj
    rw [q_aJ_sI, q_aJ_sI, aJ_same]
    exact hg2 j hj
  have hI : ∀ f, KF f → gI (sI (sI (sAJ (nc (zO wa (h + 661)) (h + 661)) (h + 661 + 1) g) 905 (h + 661) 0) 916 (h + 661) 0) f (h + 661) = if f = 911 ∨ f = 946 then -1 else 0 := by
    intro f hf
    rw [q_gI_sI, q_gI_sI, q_gI_sAJ, nc_gI, q_gI_zO, if_pos (c := h + 661 = h + 661) rfl]
    unfold KF at hf
    rcases hf with rfl | rfl | rfl | rfl | rfl | rfl | rfl | rfl <;> simp
  generalize sI (sI (sAJ (nc (zO wa (h + 661)) (h + 661)) (h + 661 + 1) g) 905 (h + 661) 0) 916 (h + 661) 0 = wb at *
  have A : LF (FH h (h + 689) false) h := ⟨(fh_2 h (h + 689) false 687).trans r.2.2.2.2.2.2.1.2, (fh_2 h (h + 689) false 688).trans r.2.2.2.2.2.2.2.2⟩
  have k1 : Kp (fun q => q = h + 687 ∨ q = h + 688) wb (zO (zO wb (h + 687)) (h + 688)) := (kp_zO _ (Or.inl rfl)).trans (kp_zO _ (Or.inr rfl))
  have C : CSt (FH h (h + 689) false) (zO (zO wb (h + 687)) (h + 688)) h s00 := ((cst_00 n8 (kx8_is h (h + 689) false) (Nat.le_refl _) (by show h + 661 ≤ h + 689; omega)).off k0 (fun x hx => by omega)).off k1 (fun x hx => by omega)
  have M : MSt (FH h (h + 689) false) (zO (zO wb (h + 687)) (h + 688)) (h + 661) s00 := (mst_00 hN9 (kx9_is h (h + 689) false) (by show h ≤ h + 661; omega) (by show h + 661 + 26 ≤ h + 689; omega) hJ hI).kp k1 (fun x h1 h2 => by omega)
  have e := law_loop (F := FH h (h + 689) false) (N := 3000) (L := L) (xs := xs) (h := h) A (by omega) hL 3000 0 _ s00 ⟨vst_00, C, M⟩ (by omega) (by omega)
  exact ⟨(), e, rfl⟩
