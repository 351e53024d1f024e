/-! new objects -/
theorem q_gI_zO (w : Wd) (h f b : Nat) : gI (zO w h) f b = if b = h then 0 else gI w f b := rfl
theorem q_gJ_zO (w : Wd) (h f b : Nat) : gJ (zO w h) f b = if b = h then 0 else gJ w f b := rfl
theorem q_gR_zO (w : Wd) (h f b : Nat) : gR (zO w h) f b = if b = h then none else gR w f b := rfl
theorem q_aI_zO (w : Wd) (h b : Nat) : aI (zO w h) b = if b = h then (fun _ => 0) else aI w b := rfl
theorem q_aJ_zO (w : Wd) (h b : Nat) : aJ (zO w h) b = if b = h then (fun _ => 0) else aJ w b := rfl
theorem q_aR_zO (w : Wd) (h b : Nat) : aR (zO w h) b = if b = h then (fun _ => none) else aR w b := rfl
theorem kp_zO {S : Nat → Prop} (w : Wd) {a : Nat} (h : S a) : Kp S w (zO w a) := fun b hb => slice_zO_ne w (fun e => hb (e ▸ h))
theorem ckH_is {h0 h mc c : Nat} (h1 : h0 ≤ h) (h2 : h + c ≤ h0 + mc) : ckH h0 h mc c = some () := if_pos ⟨h1, h2⟩
theorem ckN_is {F : Fr} {h k : Nat} (h1 : F.2.2.1 ≤ h) (h2 : F.1 h = k) : ckN F h k = some () := if_pos ⟨h1, h2⟩
theorem ckL_is {F : Fr} {h k n : Nat} (h1 : F.2.2.1 ≤ h) (h2 : F.1 h = k) (h3 : F.2.1 h = n) : ckL F h k n = some () := if_pos ⟨h1, h2, h3⟩
theorem ckE_is {a b : Nat} (e : a = b) : ckE a b = some () := if_pos e
/-- what will lie where -/
def KA (F : Fr) (a k n : Nat) : Prop := F.1 a = k ∧ F.2.1 a = n
def KRow (F : Fr) (a : Nat) : Prop := F.1 a = 7 ∧ KA F (a + 1) 11 31 ∧ KA F (a + 2) 11 31 ∧ KA F (a + 3) 12 31
def KBk (F : Fr) (b : Nat) : Prop := F.1 b = 1 ∧ KA F (b + 1) 11 6 ∧ KA F (b + 2) 11 6 ∧ KA F (b + 3) 11 6 ∧ KA F (b + 4) 15 12 ∧ ∀ i, i < 13 → KRow F (b + 5 + 4 * i)
def KPt (F : Fr) (z : Nat) : Prop := F.1 z = 5 ∧ KA F (z + 1) 11 4 ∧ KA F (z + 2) 11 4 ∧ KA F (z + 3) 12 4 ∧ KA F (z + 4) 13 4 ∧ KA F (z + 5) 11 120 ∧ KRow F (z + 6)
theorem KRow.l {F : Fr} {a : Nat} (k : KRow F a) (h1 : F.2.2.1 ≤ a) (h2 : a + 4 ≤ F.2.2.2.1) : LRow F a :=
  ⟨⟨h1, by omega, k.1⟩, ⟨by omega, by omega, k.2.1.1⟩, ⟨by omega, by omega, k.2.2.1.1⟩, ⟨by omega, by omega, k.2.2.2.1⟩, k.2.1.2, k.2.2.1.2, k.2.2.2.2⟩
theorem KBk.l {F : Fr} {b : Nat} (k : KBk F b) (h1 : F.2.2.1 ≤ b) (h2 : b + 57 ≤ F.2.2.2.1) : LBook F b := by
  refine ⟨⟨h1, by omega, k.1⟩, ⟨by omega, by omega, k.2.1.1⟩, ⟨by omega, by omega, k.2.2.1.1⟩, ⟨by omega, by omega, k.2.2.2.1.1⟩, ⟨by omega, by omega, k.2.2.2.2.1.1⟩, k.2.1.2, k.2.2.1.2, k.2.2.2.1.2, k.2.2.2.2.1.2, fun x t hx ht => ?_⟩
  have r := k.2.2.2.2.2 (6 * x + t + 1) (by omega)
  rw [show b + 5 + 4 * (6 * x + t + 1) = ra b x t from by unfold ra; omega] at r
  exact r.l (by unfold ra; omega) (by unfold ra; omega)
section INIT
variable {F : Fr} {N : Nat} {w : Wd} {a b z h : Nat}
theorem i_row (h0 : F.2.2.1 ≤ a) (K : KRow F a) : Ev (fX7_init F N w a (a + 1)) fun w' => WRow w' a ∧ gI w' 703 a = gI w 703 a ∧ Kp (Rg a 4) w w' := by
  obtain ⟨k1, k2, k3, k4⟩ := K
  unfold fX7_init
  refine ev_eq (ckH_is (by omega) (by omega)) (ev_eq (ckL_is (by omega) k2.1 k2.2) (ev_bnd (ev_bnd ?_)))
  refine ev_eq (ckH_is (by omega) (by omega)) (ev_eq (ckL_is (by omega) k3.1 k3.2) (ev_bnd (ev_bnd ?_)))
  refine ev_eq (ckH_is (by omega) (by omega)) (ev_eq (ckL_is (by omega) k4.1 k4.2) (ev_bnd (ev_bnd ?_)))
  refine ev_eq (ckE_is rfl) (ev_some ⟨⟨?_, ?_, ?_⟩, ?_, ?_⟩)
  · simp [Nat.add_assoc, q_gR_sR, q_gR_zO]
  · simp [Nat.add_assoc, q_gR_sR, q_gR_zO]
  · simp [Nat.add_assoc, q_gR_sR, q_gR_zO]
  · simp [Nat.add_assoc, q_gI_sR, q_gI_zO]
  · have n : ∀ o, o < 4 → Rg a 4 (a + o) := fun o ho => ⟨by omega, by omega⟩
    exact (kp_zO _ (n 1 (by omega))).trans ((kp_sR _ _ (n 0 (by omega))).trans ((kp_zO _ (n 2 (by omega))).trans ((kp_sR _ _ (n 0 (by omega))).trans ((kp_zO _ (n 3 (by omega))).trans (kp_sR _ _ (n 0 (by omega)))))))
theorem i_book_62 (h0 : F.2.2.1 ≤ b) (K : KBk F b) : ∀ (m n i : Nat) (w : Wd), i + n = 12 → n < m → gR w 103 b = some (b + 4) → (∀ j, j < i → aR w (b + 4) j = some (b + 9 + 4 * j) ∧ WRow w (b + 9 + 4 * j)) →
    Ev (fX1_init_62 F N (b + 1) m (b + 9 + 4 * i) w b (zI i)) fun w' => (∀ j, j < 12 → aR w' (b + 4) j = some (b + 9 + 4 * j) ∧ WRow w' (b + 9 + 4 * j)) ∧ Kp (fun q => q = b + 4 ∨ Rg (b + 9) 48 q) w w' := by
  intro m
  induction m with
  | zero => intro n i w _ hm; omega
  | succ m ih =>
    intro n i w hi hm hr hj
    unfold fX1_init_62
    have o : okF (Fto F (b + 9 + 4 * i)) (b + 4) 15 := ⟨by show F.2.2.1 ≤ b + 4; omega, by show b + 4 < b + 9 + 4 * i; omega, K.2.2.2.2.1.1⟩
    refine ev_rdR hr o ?_
    rw [show (Fto F (b + 9 + 4 * i)).2.1 (b + 4) = 12 from K.2.2.2.2.1.2, nI_z]
    cases n with
    | zero =>
      have e : i = 12 := by omega
      subst e
      exact ev_pos (by decide) (ev_eq (ckE_is (by omega)) (ev_some ⟨hj, Kp.refl _⟩))
    | succ n =>
      refine ev_neg (by simp (disch := omega) only [z_0, z_1, z_2, z_3, z_4, z_5, z_6, z_7, z_8, z_9, z_10, z_12, z_13, z_16, z_20, z_24, z_30, z_31, z_32, z_38, z_42, z_44, z_45, z_47, z_48, z_49, z_50, z_57, z_58, z_59, z_60, z_61, z_91, z_97, z_98, z_100, z_108, z_114, z_120, z_122, z_126, z_127, z_128, z_200, z_255, z_961, z_990, z_992, z_998, z_999, z_1000, z_1092, z_1114, z_7798, z_10000, z_1000000, zI_neg, zI_add, zI_sub, zI_mul, zI_lt, zI_le, zI_eq, if_pos, if_neg, if_true, if_false, Option.bind_some, bnd, ldI_is, ldJ_is, Int.toNat_natCast,  Int.not_le]; omega) (ev_rdR hr o ?_)
      have r := K.2.2.2.2.2 (i + 1) (by omega)
      rw [show b + 5 + 4 * (i + 1) = b + 9 + 4 * i from by omega] at r
      refine ev_eq (ckH_is (by omega) (by omega)) (ev_eq (ckN_is (by omega) r.1) (ev_bnd (ev_eq (ckH_is (by omega) (by omega)) ?_)))
      refine ev_then (i_row (by omega) r) ?_
      intro w6 ⟨W6, _, k6⟩
      have kz : Kp (Rg (b + 9 + 4 * i) 4) w w6 := (kp_zO w ⟨by omega, by omega⟩).trans k6
      refine ev_eq (stR_is (i := (i : Int)) (by omega) (by rw [show (Fto F (b + 9 + 4 * i + 4)).2.1 (b + 4) = 12 from K.2.2.2.2.1.2]; omega) (by omega)) ?_
      rw [Int.toNat_natCast, zI_succ, show b + 9 + 4 * i + 4 = b + 9 + 4 * (i + 1) from by omega]
      have kA : Kp (fun q => q = b + 4) w6 (sAR w6 (b + 4) (va_up (aR w6 (b + 4)) i (some (b + 9 + 4 * i)))) := kp_sAR _ _ rfl
      refine ev_mono (ih n (i + 1) _ (by omega) (by omega) ?_ ?_) ?_
      · rw [q_gR_sAR, kz.gR (by unfold Rg; omega), hr]
      · intro j hj2
        by_cases e : j = i
        · subst e
          exact ⟨by rw [q_aR_sAR, if_pos rfl, va_up_self], W6.keep kA (fun x h1 h2 => by omega)⟩
        · have h9 := hj j (by omega)
          exact ⟨by rw [q_aR_sAR, if_pos rfl, va_up_ne _ _ e, kz.aR (by unfold Rg; omega)]; exact h9.1, (h9.2.keep kz (fun x h1 h2 => by unfold Rg; omega)).keep kA (fun x h1 h2 => by omega)⟩
      · intro w' ⟨h1, h2⟩
        exact ⟨h1, ((kz.mono (fun x hx => Or.inr (by unfold Rg at *; omega))).trans (kA.mono (fun x hx => Or.inl hx))).trans h2⟩
/-- a new book, for what the fields held before -/
theorem i_book (h0 : F.2.2.1 ≤ b) (K : KBk F b) (hN : 40 ≤ N) : Ev (fX1_init F N w b (b + 1)) fun w' => WBook w' b ∧ (gI w' 105 b = gI w 105 b ∧ gI w' 106 b = gI w 106 b ∧ gI w' 107 b = zI 50 ∧ gI w' 108 b = zI 20) ∧ Kp (Rg b 57) w w' := by
  have K2 := K
  obtain ⟨k1, k2, k3, k4, k5, k6⟩ := K
  unfold fX1_init
  refine ev_eq (ckH_is (by omega) (by omega)) (ev_eq (ckL_is (by omega) k2.1 k2.2) (ev_bnd (ev_bnd ?_)))
  refine ev_eq (ckH_is (by omega) (by omega)) (ev_eq (ckL_is (by omega) k3.1 k3.2) (ev_bnd (ev_bnd ?_)))
  refine ev_eq (ckH_is (by omega) (by omega)) (ev_eq (ckL_is (by omega) k4.1 k4.2) (ev_bnd (ev_bnd ?_)))
  refine ev_eq (ckH_is (by omega) (by omega)) (ev_eq (ckL_is (by omega) k5.1 k5.2) (ev_bnd (ev_bnd ?_)))
  have r := k6 0 (by omega)
  refine ev_eq (ckH_is (by omega) (by omega)) (ev_eq (ckN_is (by omega) r.1) (ev_bnd (ev_eq (ckH_is (by omega) (by omega)) ?_)))
  refine ev_then (i_row (a := b + 5) (by omega) r) ?_
  intro w22 ⟨W22, _, k22⟩
  refine ev_bnd (ev_bnd (ev_bnd ?_))
  have eb : ¬ Rg (b + 5) 4 b := by unfold Rg; omega
  have n : ∀ o, o < 57 → Rg b 57 (b + o) := fun o ho => ⟨by omega, by omega⟩
  have g0 : ∀ f, gR w22 f b = if f = 103 then some (b + 4) else if f = 102 then some (b + 3) else if f = 101 then some (b + 2) else if f = 100 then some (b + 1) else gR w f b := by
    intro f
    rw [k22.gR eb]
    simp [Nat.add_assoc, q_gR_sR, q_gR_zO]
  have g1 : ∀ f, gI w22 f b = gI w f b := by
    intro f
    rw [k22.gI eb]
    simp [Nat.add_assoc, q_gI_sR, q_gI_zO]
  have kk : Kp (Rg b 57) w w22 := ((kp_zO _ (n 1 (by omega))).trans ((kp_sR _ _ (n 0 (by omega))).trans ((kp_zO _ (n 2 (by omega))).trans ((kp_sR _ _ (n 0 (by omega))).trans ((kp_zO _ (n 3 (by omega))).trans ((kp_sR _ _ (n 0 (by omega))).trans ((kp_zO _ (n 4 (by omega))).trans ((kp_sR _ _ (n 0 (by omega))).trans (kp_zO _ (n 5 (by omega))))))))))).trans (k22.mono (fun x hx => by unfold Rg at *; omega))
  have k25 : Kp (fun q => q = b) w22 (sI (sI (sR w22 104 b (some (b + 5))) 107 b 50) 108 b 20) := (kp_sR (S := fun q => q = b) _ _ rfl).trans ((kp_sI (S := fun q => q = b) _ _ rfl).trans (kp_sI (S := fun q => q = b) _ _ rfl))
  refine ev_mono (i_book_62 (N := N) h0 K2 N 12 0 (sI (sI (sR w22 104 b (some (b + 5))) 107 b 50) 108 b 20) (by omega) (by omega) ?_ (fun j hj => absurd hj (Nat.not_lt_zero _))) ?_
  · rw [q_gR_sI, q_gR_sI, q_gR_sR, if_neg (by omega), g0, if_pos rfl]
  · intro w' ⟨h1, h2⟩
    have eb2 : ¬ (b = b + 4 ∨ Rg (b + 9) 48 b) := by unfold Rg; omega
    have g2 : ∀ f, gR w' f b = if f = 104 then some (b + 5) else gR w22 f b := by
      intro f
      rw [h2.gR eb2, q_gR_sI, q_gR_sI, q_gR_sR]
      simp
    have g3 : ∀ f, gI w' f b = if f = 108 then zI 20 else if f = 107 then zI 50 else gI w f b := by
      intro f
      rw [h2.gI eb2, q_gI_sI, q_gI_sI, q_gI_sR, g1]
      simp [z_50, z_20]
    refine ⟨⟨?_, ?_, ?_, ?_, ?_⟩, ⟨?_, ?_, ?_, ?_⟩, ?_⟩
    · rw [g2, g0]; rfl
    · rw [g2, g0]; rfl
    · rw [g2, g0]; rfl
    · rw [g2, g0]; rfl
    · intro x t hx ht
      have h9 := h1 (6 * x + t) (by omega)
      exact h9
    · rw [g3]; rfl
    · rw [g3]; rfl
    · rw [g3]; rfl
    · rw [g3]; rfl
    · exact kk.trans ((k25.mono (fun x hx => by subst hx; exact n 0 (by omega))).trans (h2.mono (fun x hx => by unfold Rg at *; omega)))
end INIT
