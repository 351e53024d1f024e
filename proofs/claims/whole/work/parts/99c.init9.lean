/-! the reference's new object (written by a program) -/
def N9 (w : Wd) (z : Nat) : Prop := gR w 900 z = some (z + 1) ∧ gR w 901 z = some (z + 2) ∧ gR w 902 z = some (z + 3) ∧ gR w 904 z = some (z + 4) ∧ gR w 907 z = some (z + 5) ∧ gR w 914 z = some (z + 6) ∧ gR w 915 z = some (z + 7) ∧ gR w 917 z = some (z + 8) ∧ gR w 918 z = some (z + 9) ∧ gR w 919 z = some (z + 10) ∧ gR w 920 z = some (z + 11) ∧ gR w 921 z = some (z + 12) ∧ gR w 922 z = some (z + 13) ∧ gR w 923 z = some (z + 14) ∧ gR w 925 z = some (z + 15) ∧ gR w 926 z = some (z + 16) ∧ gR w 929 z = some (z + 17) ∧ gR w 930 z = some (z + 18) ∧ gR w 931 z = some (z + 19) ∧ gR w 932 z = some (z + 20) ∧ gR w 936 z = some (z + 21) ∧ gR w 941 z = some (z + 22) ∧ gR w 942 z = some (z + 23) ∧ gR w 943 z = some (z + 24) ∧ gR w 944 z = some (z + 25)
def KX9 (F : Fr) (z : Nat) : Prop := KA F (z + 1) 12 1114 ∧ KA F (z + 2) 12 1114 ∧ KA F (z + 3) 12 1114 ∧ KA F (z + 4) 12 8912 ∧ KA F (z + 5) 11 100 ∧ KA F (z + 6) 11 961 ∧ KA F (z + 7) 11 961 ∧ KA F (z + 8) 11 4 ∧ KA F (z + 9) 11 4 ∧ KA F (z + 10) 12 4 ∧ KA F (z + 11) 13 4 ∧ KA F (z + 12) 11 4 ∧ KA F (z + 13) 12 4 ∧ KA F (z + 14) 13 4 ∧ KA F (z + 15) 11 4 ∧ KA F (z + 16) 11 4 ∧ KA F (z + 17) 11 60 ∧ KA F (z + 18) 11 60 ∧ KA F (z + 19) 12 60 ∧ KA F (z + 20) 11 60 ∧ KA F (z + 21) 12 2000 ∧ KA F (z + 22) 11 100 ∧ KA F (z + 23) 11 100 ∧ KA F (z + 24) 11 100 ∧ KA F (z + 25) 12 100
theorem cmod_of {F : Fr} {w : Wd} {z : Nat} (n : N9 w z) (K : KX9 F z) (h1 : F.2.2.1 ≤ z) (h2 : z + 26 ≤ F.2.2.2.1) : CMod F w z :=
  ⟨⟨n.1, ⟨by omega, by omega, K.1.1⟩, K.1.2⟩,
   ⟨n.2.1, ⟨by omega, by omega, K.2.1.1⟩, K.2.1.2⟩,
   ⟨n.2.2.1, ⟨by omega, by omega, K.2.2.1.1⟩, K.2.2.1.2⟩,
   ⟨n.2.2.2.1, ⟨by omega, by omega, K.2.2.2.1.1⟩, K.2.2.2.1.2⟩,
   ⟨n.2.2.2.2.1, ⟨by omega, by omega, K.2.2.2.2.1.1⟩, K.2.2.2.2.1.2⟩,
   ⟨n.2.2.2.2.2.1, ⟨by omega, by omega, K.2.2.2.2.2.1.1⟩, K.2.2.2.2.2.1.2⟩,
   ⟨n.2.2.2.2.2.2.1, ⟨by omega, by omega, K.2.2.2.2.2.2.1.1⟩, K.2.2.2.2.2.2.1.2⟩,
   ⟨n.2.2.2.2.2.2.2.1, ⟨by omega, by omega, K.2.2.2.2.2.2.2.1.1⟩, K.2.2.2.2.2.2.2.1.2⟩,
   ⟨n.2.2.2.2.2.2.2.2.1, ⟨by omega, by omega, K.2.2.2.2.2.2.2.2.1.1⟩, K.2.2.2.2.2.2.2.2.1.2⟩,
   ⟨n.2.2.2.2.2.2.2.2.2.1, ⟨by omega, by omega, K.2.2.2.2.2.2.2.2.2.1.1⟩, K.2.2.2.2.2.2.2.2.2.1.2⟩,
   ⟨n.2.2.2.2.2.2.2.2.2.2.1, ⟨by omega, by omega, K.2.2.2.2.2.2.2.2.2.2.1.1⟩, K.2.2.2.2.2.2.2.2.2.2.1.2⟩,
   ⟨n.2.2.2.2.2.2.2.2.2.2.2.1, ⟨by omega, by omega, K.2.2.2.2.2.2.2.2.2.2.2.1.1⟩, K.2.2.2.2.2.2.2.2.2.2.2.1.2⟩,
   ⟨n.2.2.2.2.2.2.2.2.2.2.2.2.1, ⟨by omega, by omega, K.2.2.2.2.2.2.2.2.2.2.2.2.1.1⟩, K.2.2.2.2.2.2.2.2.2.2.2.2.1.2⟩,
   ⟨n.2.2.2.2.2.2.2.2.2.2.2.2.2.1, ⟨by omega, by omega, K.2.2.2.2.2.2.2.2.2.2.2.2.2.1.1⟩, K.2.2.2.2.2.2.2.2.2.2.2.2.2.1.2⟩,
   ⟨n.2.2.2.2.2.2.2.2.2.2.2.2.2.2.1, ⟨by omega, by omega, K.2.2.2.2.2.2.2.2.2.2.2.2.2.2.1.1⟩, K.2.2.2.2.2.2.2.2.2.2.2.2.2.2.1.2⟩,
   ⟨n.2.2.2.2.2.2.2.2.2.2.2.2.2.2.2.1, ⟨by omega, by omega, K.2.2.2.2.2.2.2.2.2.2.2.2.2.2.2.1.1⟩, K.2.2.2.2.2.2.2.2.2.2.2.2.2.2.2.1.2⟩,
   ⟨n.2.2.2.2.2.2.2.2.2.2.2.2.2.2.2.2.1, ⟨by omega, by omega, K.2.2.2.2.2.2.2.2.2.2.2.2.2.2.2.2.1.1⟩, K.2.2.2.2.2.2.2.2.2.2.2.2.2.2.2.2.1.2⟩,
   ⟨n.2.2.2.2.2.2.2.2.2.2.2.2.2.2.2.2.2.1, ⟨by omega, by omega, K.2.2.2.2.2.2.2.2.2.2.2.2.2.2.2.2.2.1.1⟩, K.2.2.2.2.2.2.2.2.2.2.2.2.2.2.2.2.2.1.2⟩,
   ⟨n.2.2.2.2.2.2.2.2.2.2.2.2.2.2.2.2.2.2.1, ⟨by omega, by omega, K.2.2.2.2.2.2.2.2.2.2.2.2.2.2.2.2.2.2.1.1⟩, K.2.2.2.2.2.2.2.2.2.2.2.2.2.2.2.2.2.2.1.2⟩,
   ⟨n.2.2.2.2.2.2.2.2.2.2.2.2.2.2.2.2.2.2.2.1, ⟨by omega, by omega, K.2.2.2.2.2.2.2.2.2.2.2.2.2.2.2.2.2.2.2.1.1⟩, K.2.2.2.2.2.2.2.2.2.2.2.2.2.2.2.2.2.2.2.1.2⟩,
   ⟨n.2.2.2.2.2.2.2.2.2.2.2.2.2.2.2.2.2.2.2.2.1, ⟨by omega, by omega, K.2.2.2.2.2.2.2.2.2.2.2.2.2.2.2.2.2.2.2.2.1.1⟩, K.2.2.2.2.2.2.2.2.2.2.2.2.2.2.2.2.2.2.2.2.1.2⟩,
   ⟨n.2.2.2.2.2.2.2.2.2.2.2.2.2.2.2.2.2.2.2.2.2.1, ⟨by omega, by omega, K.2.2.2.2.2.2.2.2.2.2.2.2.2.2.2.2.2.2.2.2.2.1.1⟩, K.2.2.2.2.2.2.2.2.2.2.2.2.2.2.2.2.2.2.2.2.2.1.2⟩,
   ⟨n.2.2.2.2.2.2.2.2.2.2.2.2.2.2.2.2.2.2.2.2.2.2.1, ⟨by omega, by omega, K.2.2.2.2.2.2.2.2.2.2.2.2.2.2.2.2.2.2.2.2.2.2.1.1⟩, K.2.2.2.2.2.2.2.2.2.2.2.2.2.2.2.2.2.2.2.2.2.2.1.2⟩,
   ⟨n.2.2.2.2.2.2.2.2.2.2.2.2.2.2.2.2.2.2.2.2.2.2.2.1, ⟨by omega, by omega, K.2.2.2.2.2.2.2.2.2.2.2.2.2.2.2.2.2.2.2.2.2.2.2.1.1⟩, K.2.2.2.2.2.2.2.2.2.2.2.2.2.2.2.2.2.2.2.2.2.2.2.1.2⟩,
   ⟨n.2.2.2.2.2.2.2.2.2.2.2.2.2.2.2.2.2.2.2.2.2.2.2.2, ⟨by omega, by omega, K.2.2.2.2.2.2.2.2.2.2.2.2.2.2.2.2.2.2.2.2.2.2.2.2.1⟩, K.2.2.2.2.2.2.2.2.2.2.2.2.2.2.2.2.2.2.2.2.2.2.2.2.2⟩⟩
theorem N9.keep {S : Nat → Prop} {w w' : Wd} {z : Nat} (n : N9 w z) (k : Kp S w w') (hs : ¬ S z) : N9 w' z := by
  unfold N9 at *
  simp only [k.gR hs]
  exact n
/-- the reference as it is behind its arrays -/
def al (w : Wd) (z f a : Nat) : Wd := sR (zO w a) f z (some a)
theorem al_gR (w : Wd) (z f a : Nat) (ha : ¬ z = a) (g : Nat) : gR (al w z f a) g z = if g = f then some a else gR w g z := by
  unfold al
  rw [q_gR_sR, q_gR_zO, if_neg (c := z = a) ha]
  by_cases e : g = f
  · rw [if_pos ⟨e, rfl⟩, if_pos e]
  · rw [if_neg (fun c => e c.1), if_neg e]
theorem al_gI (w : Wd) (z f a : Nat) (ha : ¬ z = a) (g : Nat) : gI (al w z f a) g z = gI w g z := by
  unfold al
  rw [q_gI_sR, q_gI_zO, if_neg ha]
theorem al_aJ (w : Wd) (z f a b : Nat) (hb : ¬ b = a) : aJ (al w z f a) b = aJ w b := by
  unfold al
  rw [q_aJ_sR, q_aJ_zO, if_neg hb]
theorem al_new (w : Wd) (z f a : Nat) : aJ (al w z f a) a = fun _ => 0 := by
  unfold al
  rw [q_aJ_sR, q_aJ_zO, if_pos rfl]
theorem kp_al {S : Nat → Prop} (w : Wd) (z f a : Nat) (h1 : S z) (h2 : S a) : Kp S w (al w z f a) := (kp_zO _ h2).trans (kp_sR _ _ h1)
def na (w : Wd) (z : Nat) : Wd := sI (al (al (al (al (al (w) z 900 (z + 1)) z 901 (z + 2)) z 902 (z + 3)) z 904 (z + 4)) z 907 (z + 5)) 911 z (-1)
def nb (w : Wd) (z : Nat) : Wd := al (al (al (al (al (al (al (al (al (al (al (al (al (al (al (al (al (al (al (al (na w z) z 914 (z + 6)) z 915 (z + 7)) z 917 (z + 8)) z 918 (z + 9)) z 919 (z + 10)) z 920 (z + 11)) z 921 (z + 12)) z 922 (z + 13)) z 923 (z + 14)) z 925 (z + 15)) z 926 (z + 16)) z 929 (z + 17)) z 930 (z + 18)) z 931 (z + 19)) z 932 (z + 20)) z 936 (z + 21)) z 941 (z + 22)) z 942 (z + 23)) z 943 (z + 24)) z 944 (z + 25)
def nc (w : Wd) (z : Nat) : Wd := sI (nb w z) 946 z (-1)
theorem na_gR (w : Wd) (z g : Nat) : gR (na w z) g z = (if g = 907 then some (z + 5) else (if g = 904 then some (z + 4) else (if g = 902 then some (z + 3) else (if g = 901 then some (z + 2) else (if g = 900 then some (z + 1) else gR w g z))))) := by
  unfold na
  rw [q_gR_sI, al_gR _ _ _ _ (by omega), al_gR _ _ _ _ (by omega), al_gR _ _ _ _ (by omega), al_gR _ _ _ _ (by omega), al_gR _ _ _ _ (by omega)]
theorem nb_gR (w : Wd) (z g : Nat) : gR (nb w z) g z = (if g = 944 then some (z + 25) else (if g = 943 then some (z + 24) else (if g = 942 then some (z + 23) else (if g = 941 then some (z + 22) else (if g = 936 then some (z + 21) else (if g = 932 then some (z + 20) else (if g = 931 then some (z + 19) else (if g = 930 then some (z + 18) else (if g = 929 then some (z + 17) else (if g = 926 then some (z + 16) else (if g = 925 then some (z + 15) else (if g = 923 then some (z + 14) else (if g = 922 then some (z + 13) else (if g = 921 then some (z + 12) else (if g = 920 then some (z + 11) else (if g = 919 then some (z + 10) else (if g = 918 then some (z + 9) else (if g = 917 then some (z + 8) else (if g = 915 then some (z + 7) else (if g = 914 then some (z + 6) else gR (na w z) g z)))))))))))))))))))) := by
  unfold nb
  rw [al_gR _ _ _ _ (by omega), al_gR _ _ _ _ (by omega), al_gR _ _ _ _ (by omega), al_gR _ _ _ _ (by omega), al_gR _ _ _ _ (by omega), al_gR _ _ _ _ (by omega), al_gR _ _ _ _ (by omega), al_gR _ _ _ _ (by omega), al_gR _ _ _ _ (by omega), al_gR _ _ _ _ (by omega), al_gR _ _ _ _ (by omega), al_gR _ _ _ _ (by omega), al_gR _ _ _ _ (by omega), al_gR _ _ _ _ (by omega), al_gR _ _ _ _ (by omega), al_gR _ _ _ _ (by omega), al_gR _ _ _ _ (by omega), al_gR _ _ _ _ (by omega), al_gR _ _ _ _ (by omega), al_gR _ _ _ _ (by omega)]
theorem nc_gR (w : Wd) (z g : Nat) : gR (nc w z) g z = gR (nb w z) g z := rfl
theorem na_gI (w : Wd) (z g : Nat) : gI (na w z) g z = if g = 911 then -1 else gI w g z := by
  unfold na
  rw [q_gI_sI, al_gI _ _ _ _ (by omega), al_gI _ _ _ _ (by omega), al_gI _ _ _ _ (by omega), al_gI _ _ _ _ (by omega), al_gI _ _ _ _ (by omega)]
  by_cases e : g = 911
  · rw [if_pos ⟨e, rfl⟩, if_pos e]
  · rw [if_neg (fun c => e c.1), if_neg e]
theorem nb_gI (w : Wd) (z g : Nat) : gI (nb w z) g z = gI (na w z) g z := by
  unfold nb
  rw [al_gI _ _ _ _ (by omega), al_gI _ _ _ _ (by omega), al_gI _ _ _ _ (by omega), al_gI _ _ _ _ (by omega), al_gI _ _ _ _ (by omega), al_gI _ _ _ _ (by omega), al_gI _ _ _ _ (by omega), al_gI _ _ _ _ (by omega), al_gI _ _ _ _ (by omega), al_gI _ _ _ _ (by omega), al_gI _ _ _ _ (by omega), al_gI _ _ _ _ (by omega), al_gI _ _ _ _ (by omega), al_gI _ _ _ _ (by omega), al_gI _ _ _ _ (by omega), al_gI _ _ _ _ (by omega), al_gI _ _ _ _ (by omega), al_gI _ _ _ _ (by omega), al_gI _ _ _ _ (by omega), al_gI _ _ _ _ (by omega)]
theorem nc_gI (w : Wd) (z g : Nat) : gI (nc w z) g z = if g = 946 then -1 else if g = 911 then -1 else gI w g z := by
  unfold nc
  rw [q_gI_sI, nb_gI, na_gI]
  by_cases e : g = 946
  · rw [if_pos ⟨e, rfl⟩, if_pos e]
  · rw [if_neg (fun c => e c.1), if_neg e]
theorem nc_kp (w : Wd) (z : Nat) : Kp (Rg z 26) w (nc w z) := by
  have m : ∀ o, o < 26 → Rg z 26 (z + o) := fun o ho => ⟨by omega, by omega⟩
  have m0 : Rg z 26 z := ⟨by omega, by omega⟩
  have k1 : Kp (Rg z 26) w (na w z) := by
    unfold na
    exact (kp_al _ _ _ _ m0 (m 1 (by omega))).trans ((kp_al _ _ _ _ m0 (m 2 (by omega))).trans ((kp_al _ _ _ _ m0 (m 3 (by omega))).trans ((kp_al _ _ _ _ m0 (m 4 (by omega))).trans ((kp_al _ _ _ _ m0 (m 5 (by omega))).trans (kp_sI _ _ m0)))))
  have k2 : Kp (Rg z 26) (na w z) (nb w z) := by
    unfold nb
    exact (kp_al _ _ _ _ m0 (m 6 (by omega))).trans ((kp_al _ _ _ _ m0 (m 7 (by omega))).trans ((kp_al _ _ _ _ m0 (m 8 (by omega))).trans ((kp_al _ _ _ _ m0 (m 9 (by omega))).trans ((kp_al _ _ _ _ m0 (m 10 (by omega))).trans ((kp_al _ _ _ _ m0 (m 11 (by omega))).trans ((kp_al _ _ _ _ m0 (m 12 (by omega))).trans ((kp_al _ _ _ _ m0 (m 13 (by omega))).trans ((kp_al _ _ _ _ m0 (m 14 (by omega))).trans ((kp_al _ _ _ _ m0 (m 15 (by omega))).trans ((kp_al _ _ _ _ m0 (m 16 (by omega))).trans ((kp_al _ _ _ _ m0 (m 17 (by omega))).trans ((kp_al _ _ _ _ m0 (m 18 (by omega))).trans ((kp_al _ _ _ _ m0 (m 19 (by omega))).trans ((kp_al _ _ _ _ m0 (m 20 (by omega))).trans ((kp_al _ _ _ _ m0 (m 21 (by omega))).trans ((kp_al _ _ _ _ m0 (m 22 (by omega))).trans ((kp_al _ _ _ _ m0 (m 23 (by omega))).trans ((kp_al _ _ _ _ m0 (m 24 (by omega))).trans (kp_al _ _ _ _ m0 (m 25 (by omega)))))))))))))))))))))
  exact k1.trans (k2.trans (kp_sI _ _ m0))
theorem nc_n9 (w : Wd) (z : Nat) : N9 (nc w z) z := by
  refine ⟨?_, ?_, ?_, ?_, ?_, ?_, ?_, ?_, ?_, ?_, ?_, ?_, ?_, ?_, ?_, ?_, ?_, ?_, ?_, ?_, ?_, ?_, ?_, ?_, ?_⟩ <;> rw [nc_gR, nb_gR]
  · exact (na_gR w z 900).trans rfl
  · exact (na_gR w z 901).trans rfl
  · exact (na_gR w z 902).trans rfl
  · exact (na_gR w z 904).trans rfl
  · exact (na_gR w z 907).trans rfl
  · rfl
  · rfl
  · rfl
  · rfl
  · rfl
  · rfl
  · rfl
  · rfl
  · rfl
  · rfl
  · rfl
  · rfl
  · rfl
  · rfl
  · rfl
  · rfl
  · rfl
  · rfl
  · rfl
  · rfl
section INIT9
variable {F : Fr} {N : Nat} {w : Wd} {z : Nat}
theorem i_ref (h0 : F.2.2.1 ≤ z) (K : KX9 F z) (hN : 1200 ≤ N) : ∃ g : Nat → Int64, fX9_init F N w z (z + 1) = some (sI (sI (sAJ (nc w z) (z + 1) g) 905 z 0) 916 z 0) ∧ ∀ j, j < 1114 → g j = if j = 2 then 50 else if j = 3 then 20 else 0 := by
  have A : CMod (Fto F (z + 26)) (nc w z) z := cmod_of (nc_n9 w z) K h0 (Nat.le_refl _)
  obtain ⟨g, hg, hg2⟩ := m_begin_2 (N := N) A N 1114 0 (aJ (nc w z) (z + 1)) (by omega) (by omega) (fun j hj => absurd hj (Nat.not_lt_zero _))
  refine ⟨g, ev_is ?_, hg2⟩
  unfold fX9_init
  refine ev_eq (ckH_is (by omega) (by omega)) (ev_eq (ckL_is (by omega) K.1.1 K.1.2) (ev_bnd (ev_bnd ?_)))
  refine ev_eq (ckH_is (by omega) (by omega)) (ev_eq (ckL_is (by omega) K.2.1.1 K.2.1.2) (ev_bnd (ev_bnd ?_)))
  refine ev_eq (ckH_is (by omega) (by omega)) (ev_eq (ckL_is (by omega) K.2.2.1.1 K.2.2.1.2) (ev_bnd (ev_bnd ?_)))
  refine ev_eq (ckH_is (by omega) (by omega)) (ev_eq (ckL_is (by omega) K.2.2.2.1.1 K.2.2.2.1.2) (ev_bnd (ev_bnd ?_)))
  refine ev_eq (ckH_is (by omega) (by omega)) (ev_eq (ckL_is (by omega) K.2.2.2.2.1.1 K.2.2.2.2.1.2) (ev_bnd (ev_bnd (ev_bnd ?_))))
  refine ev_eq (ckH_is (by omega) (by omega)) (ev_eq (ckL_is (by omega) K.2.2.2.2.2.1.1 K.2.2.2.2.2.1.2) (ev_bnd (ev_bnd ?_)))
  refine ev_eq (ckH_is (by omega) (by omega)) (ev_eq (ckL_is (by omega) K.2.2.2.2.2.2.1.1 K.2.2.2.2.2.2.1.2) (ev_bnd (ev_bnd ?_)))
  refine ev_eq (ckH_is (by omega) (by omega)) (ev_eq (ckL_is (by omega) K.2.2.2.2.2.2.2.1.1 K.2.2.2.2.2.2.2.1.2) (ev_bnd (ev_bnd ?_)))
  refine ev_eq (ckH_is (by omega) (by omega)) (ev_eq (ckL_is (by omega) K.2.2.2.2.2.2.2.2.1.1 K.2.2.2.2.2.2.2.2.1.2) (ev_bnd (ev_bnd ?_)))
  refine ev_eq (ckH_is (by omega) (by omega)) (ev_eq (ckL_is (by omega) K.2.2.2.2.2.2.2.2.2.1.1 K.2.2.2.2.2.2.2.2.2.1.2) (ev_bnd (ev_bnd ?_)))
  refine ev_eq (ckH_is (by omega) (by omega)) (ev_eq (ckL_is (by omega) K.2.2.2.2.2.2.2.2.2.2.1.1 K.2.2.2.2.2.2.2.2.2.2.1.2) (ev_bnd (ev_bnd ?_)))
  refine ev_eq (ckH_is (by omega) (by omega)) (ev_eq (ckL_is (by omega) K.2.2.2.2.2.2.2.2.2.2.2.1.1 K.2.2.2.2.2.2.2.2.2.2.2.1.2) (ev_bnd (ev_bnd ?_)))
  refine ev_eq (ckH_is (by omega) (by omega)) (ev_eq (ckL_is (by omega) K.2.2.2.2.2.2.2.2.2.2.2.2.1.1 K.2.2.2.2.2.2.2.2.2.2.2.2.1.2) (ev_bnd (ev_bnd ?_)))
  refine ev_eq (ckH_is (by omega) (by omega)) (ev_eq (ckL_is (by omega) K.2.2.2.2.2.2.2.2.2.2.2.2.2.1.1 K.2.2.2.2.2.2.2.2.2.2.2.2.2.1.2) (ev_bnd (ev_bnd ?_)))
  refine ev_eq (ckH_is (by omega) (by omega)) (ev_eq (ckL_is (by omega) K.2.2.2.2.2.2.2.2.2.2.2.2.2.2.1.1 K.2.2.2.2.2.2.2.2.2.2.2.2.2.2.1.2) (ev_bnd (ev_bnd ?_)))
  refine ev_eq (ckH_is (by omega) (by omega)) (ev_eq (ckL_is (by omega) K.2.2.2.2.2.2.2.2.2.2.2.2.2.2.2.1.1 K.2.2.2.2.2.2.2.2.2.2.2.2.2.2.2.1.2) (ev_bnd (ev_bnd ?_)))
  refine ev_eq (ckH_is (by omega) (by omega)) (ev_eq (ckL_is (by omega) K.2.2.2.2.2.2.2.2.2.2.2.2.2.2.2.2.1.1 K.2.2.2.2.2.2.2.2.2.2.2.2.2.2.2.2.1.2) (ev_bnd (ev_bnd ?_)))
  refine ev_eq (ckH_is (by omega) (by omega)) (ev_eq (ckL_is (by omega) K.2.2.2.2.2.2.2.2.2.2.2.2.2.2.2.2.2.1.1 K.2.2.2.2.2.2.2.2.2.2.2.2.2.2.2.2.2.1.2) (ev_bnd (ev_bnd ?_)))
  refine ev_eq (ckH_is (by omega) (by omega)) (ev_eq (ckL_is (by omega) K.2.2.2.2.2.2.2.2.2.2.2.2.2.2.2.2.2.2.1.1 K.2.2.2.2.2.2.2.2.2.2.2.2.2.2.2.2.2.2.1.2) (ev_bnd (ev_bnd ?_)))
  refine ev_eq (ckH_is (by omega) (by omega)) (ev_eq (ckL_is (by omega) K.2.2.2.2.2.2.2.2.2.2.2.2.2.2.2.2.2.2.2.1.1 K.2.2.2.2.2.2.2.2.2.2.2.2.2.2.2.2.2.2.2.1.2) (ev_bnd (ev_bnd ?_)))
  refine ev_eq (ckH_is (by omega) (by omega)) (ev_eq (ckL_is (by omega) K.2.2.2.2.2.2.2.2.2.2.2.2.2.2.2.2.2.2.2.2.1.1 K.2.2.2.2.2.2.2.2.2.2.2.2.2.2.2.2.2.2.2.2.1.2) (ev_bnd (ev_bnd ?_)))
  refine ev_eq (ckH_is (by omega) (by omega)) (ev_eq (ckL_is (by omega) K.2.2.2.2.2.2.2.2.2.2.2.2.2.2.2.2.2.2.2.2.2.1.1 K.2.2.2.2.2.2.2.2.2.2.2.2.2.2.2.2.2.2.2.2.2.1.2) (ev_bnd (ev_bnd ?_)))
  refine ev_eq (ckH_is (by omega) (by omega)) (ev_eq (ckL_is (by omega) K.2.2.2.2.2.2.2.2.2.2.2.2.2.2.2.2.2.2.2.2.2.2.1.1 K.2.2.2.2.2.2.2.2.2.2.2.2.2.2.2.2.2.2.2.2.2.2.1.2) (ev_bnd (ev_bnd ?_)))
  refine ev_eq (ckH_is (by omega) (by omega)) (ev_eq (ckL_is (by omega) K.2.2.2.2.2.2.2.2.2.2.2.2.2.2.2.2.2.2.2.2.2.2.2.1.1 K.2.2.2.2.2.2.2.2.2.2.2.2.2.2.2.2.2.2.2.2.2.2.2.1.2) (ev_bnd (ev_bnd ?_)))
  refine ev_eq (ckH_is (by omega) (by omega)) (ev_eq (ckL_is (by omega) K.2.2.2.2.2.2.2.2.2.2.2.2.2.2.2.2.2.2.2.2.2.2.2.2.1 K.2.2.2.2.2.2.2.2.2.2.2.2.2.2.2.2.2.2.2.2.2.2.2.2.2) (ev_bnd (ev_bnd (ev_bnd ?_))))
  refine ev_eq (ckH_is (by omega) (by omega)) ?_
  show Ev ((fX9_begin (Fto F (z + 26)) N (nc w z) z).bind fun p78 => (ckE (z + 1 + 25) (z + 1 + 25)).bind fun _ => some p78) _
  have e : fX9_begin (Fto F (z + 26)) N (nc w z) z = some (sI (sI (sAJ (nc w z) (z + 1) g) 905 z 0) 916 z 0) := by
    unfold fX9_begin
    rw [sAJ_self] at hg
    exact hg
  refine ev_eq e ?_
  exact ev_eq (ckE_is rfl) (ev_some rfl)
end INIT9
