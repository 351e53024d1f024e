/-! the reference: more calls that change little -/
section CHANGE2
variable {F : Fr} {N : Nat} {w : Wd} {z : Nat} {s : St} {k : Bk}
theorem MSt.fld (h : MSt F w z s) {f : Nat} (v : Int32) (hf : ¬ f = 905) (hf2 : ¬ f = 903) (hf3 : ¬ f = 908) (hf4 : ¬ f = 916) (hf5 : ¬ f = 912) (hf6 : ¬ f = 913) (hf7 : ¬ f = 911) (hf8 : ¬ f = 946) : MSt F (sI w f z v) z s := h.sc (Sc.sI _ _ (by unfold KF; omega))
theorem gI_ne {f g : Nat} (v : Int32) (h : ¬ g = f) : gI (sI w f z v) g z = gI w g z := by
  rw [q_gI_sI, if_neg (fun c : g = f ∧ z = z => h c.1)]
theorem MSt.f905 (h : MSt F w z s) {v : Int32} {P : List Bk} (hv : v = zI (P.length : Nat)) (hP : ∀ j b, P[j]? = some b → MBook (fun q => aJ w (z + 4) (1114 * (P.length - 1 - j) + q)) b) : MSt F (sI w 905 z v) z (setps s P) := by
  obtain ⟨h1, h2, h3, h4, h5, h6, h7⟩ := h
  refine ⟨h1, h2, ⟨?_, h3.2⟩, ⟨?_, hP⟩, ⟨?_, h5.2⟩, ⟨?_, h6.2⟩, ?_, ?_, ?_, ?_⟩
  · rw [gI_ne _ (by omega)]; exact h3.1
  · rw [gI_same]; exact hv
  · rw [gI_ne _ (by omega)]; exact h5.1
  · rw [gI_ne _ (by omega)]; exact h6.1
  · rw [gI_ne _ (by omega)]; exact h7.1
  · rw [gI_ne _ (by omega)]; exact h7.2.1
  · rw [gI_ne _ (by omega)]; exact h7.2.2.1
  · rw [gI_ne _ (by omega)]; exact h7.2.2.2
theorem MSt.f916 (h : MSt F w z s) : MSt F (sI w 916 z 0) z (setpt s []) := by
  obtain ⟨h1, h2, h3, h4, h5, h6, h7⟩ := h
  refine ⟨h1, h2, ⟨?_, h3.2⟩, ⟨?_, h4.2⟩, ⟨?_, h5.2⟩, ⟨gI_same _ _ _ _, fun i e he => by simp [setpt, spt] at he⟩, ?_, ?_, ?_, ?_⟩
  · rw [gI_ne _ (by omega)]; exact h3.1
  · rw [gI_ne _ (by omega)]; exact h4.1
  · rw [gI_ne _ (by omega)]; exact h5.1
  · rw [gI_ne _ (by omega)]; exact h7.1
  · rw [gI_ne _ (by omega)]; exact h7.2.1
  · rw [gI_ne _ (by omega)]; exact h7.2.2.1
  · rw [gI_ne _ (by omega)]; exact h7.2.2.2
theorem MSt.f908 (h : MSt F w z s) {v : Int32} {T : Tx} (hv : v = zI (tn T : Nat)) (hT : ∀ i, i < tn T → aI w (z + 5) i = zI (tc T i)) : MSt F (sI w 908 z v) z (settx s T) := by
  obtain ⟨h1, h2, h3, h4, h5, h6, h7⟩ := h
  refine ⟨h1, h2, ⟨?_, h3.2⟩, ⟨?_, h4.2⟩, ⟨?_, hT⟩, ⟨?_, h6.2⟩, ?_, ?_, ?_, ?_⟩
  · rw [gI_ne _ (by omega)]; exact h3.1
  · rw [gI_ne _ (by omega)]; exact h4.1
  · rw [gI_same]; exact hv
  · rw [gI_ne _ (by omega)]; exact h6.1
  · rw [gI_ne _ (by omega)]; exact h7.1
  · rw [gI_ne _ (by omega)]; exact h7.2.1
  · rw [gI_ne _ (by omega)]; exact h7.2.2.1
  · rw [gI_ne _ (by omega)]; exact h7.2.2.2
theorem MSt.f911 (h : MSt F w z s) {v : Int} : MSt F (sI w 911 z (zI v)) z (setbd s v) := by
  obtain ⟨h1, h2, h3, h4, h5, h6, h7⟩ := h
  refine ⟨h1, h2, ⟨?_, h3.2⟩, ⟨?_, h4.2⟩, ⟨?_, h5.2⟩, ⟨?_, h6.2⟩, ?_, ?_, gI_same _ _ _ _, ?_⟩
  · rw [gI_ne _ (by omega)]; exact h3.1
  · rw [gI_ne _ (by omega)]; exact h4.1
  · rw [gI_ne _ (by omega)]; exact h5.1
  · rw [gI_ne _ (by omega)]; exact h6.1
  · rw [gI_ne _ (by omega)]; exact h7.1
  · rw [gI_ne _ (by omega)]; exact h7.2.1
  · rw [gI_ne _ (by omega)]; exact h7.2.2.2
theorem MSt.f946 (h : MSt F w z s) {v : Int} : MSt F (sI w 946 z (zI v)) z (setri s v) := by
  obtain ⟨h1, h2, h3, h4, h5, h6, h7⟩ := h
  refine ⟨h1, h2, ⟨?_, h3.2⟩, ⟨?_, h4.2⟩, ⟨?_, h5.2⟩, ⟨?_, h6.2⟩, ?_, ?_, ?_, gI_same _ _ _ _⟩
  · rw [gI_ne _ (by omega)]; exact h3.1
  · rw [gI_ne _ (by omega)]; exact h4.1
  · rw [gI_ne _ (by omega)]; exact h5.1
  · rw [gI_ne _ (by omega)]; exact h6.1
  · rw [gI_ne _ (by omega)]; exact h7.1
  · rw [gI_ne _ (by omega)]; exact h7.2.1
  · rw [gI_ne _ (by omega)]; exact h7.2.2.1
theorem MSt.fref (h : MSt F w z s) {a b : Int} : MSt F (sI (sI w 912 z (zI a)) 913 z (zI b)) z (setrf s a b) := by
  obtain ⟨h1, h2, h3, h4, h5, h6, h7⟩ := h
  refine ⟨h1, h2, ⟨?_, h3.2⟩, ⟨?_, h4.2⟩, ⟨?_, h5.2⟩, ⟨?_, h6.2⟩, ?_, gI_same _ _ _ _, ?_, ?_⟩
  · rw [gI_ne _ (by omega), gI_ne _ (by omega)]; exact h3.1
  · rw [gI_ne _ (by omega), gI_ne _ (by omega)]; exact h4.1
  · rw [gI_ne _ (by omega), gI_ne _ (by omega)]; exact h5.1
  · rw [gI_ne _ (by omega), gI_ne _ (by omega)]; exact h6.1
  · rw [gI_ne _ (by omega), gI_same]; rfl
  · rw [gI_ne _ (by omega), gI_ne _ (by omega)]; exact h7.2.2.1
  · rw [gI_ne _ (by omega), gI_ne _ (by omega)]; exact h7.2.2.2
theorem kp_f (w : Wd) (z f : Nat) (v : Int32) : Kp (Rg z 26) w (sI w f z v) := kp_sI _ _ ⟨Nat.le_refl _, by omega⟩
theorem m_isConsistent (h : MSt F w z s) : Ev (fX9_isConsistent F N w z) (MO F z w (0, 1, s)) := ev_bnd (ev_some (mo_ok h rfl))
theorem m_errorPosition (h : MSt F w z s) (V : VSt s) : Ev (fX9_errorPosition F N w z) (MO F z w (spErr s)) := by
  have hv := V.2.2.2.2.2.2.2.1
  have e := h.2.2.2.2.2.2.2.2.1
  unfold fX9_errorPosition fX9_errorPosition_13 spErr
  rw [e]
  by_cases c : sbd s = -1
  · rw [if_pos c]
    exact ev_neg (by simp (disch := omega) only [z_0, z_1, z_2, z_3, z_4, z_5, z_6, z_7, z_8, z_9, z_10, z_12, z_13, z_16, z_20, z_24, z_30, z_31, z_32, z_38, z_42, z_44, z_45, z_47, z_48, z_49, z_50, z_57, z_58, z_59, z_60, z_61, z_91, z_97, z_98, z_100, z_108, z_114, z_120, z_122, z_126, z_127, z_128, z_200, z_255, z_961, z_990, z_992, z_998, z_999, z_1000, z_1092, z_1114, z_7798, z_10000, z_1000000, zI_neg, zI_add, zI_sub, zI_mul, zI_lt, zI_le, zI_eq, if_pos, if_neg, if_true, if_false, Option.bind_some, bnd, ldI_is, ldJ_is, Int.toNat_natCast,  Int.not_le]; omega) (ev_bnd (ev_neg (by rw [gI_same]; decide) (ev_some (mo_err h (by omega) rfl))))
  · rw [if_neg c]
    exact ev_pos (by simp (disch := omega) only [z_0, z_1, z_2, z_3, z_4, z_5, z_6, z_7, z_8, z_9, z_10, z_12, z_13, z_16, z_20, z_24, z_30, z_31, z_32, z_38, z_42, z_44, z_45, z_47, z_48, z_49, z_50, z_57, z_58, z_59, z_60, z_61, z_91, z_97, z_98, z_100, z_108, z_114, z_120, z_122, z_126, z_127, z_128, z_200, z_255, z_961, z_990, z_992, z_998, z_999, z_1000, z_1092, z_1114, z_7798, z_10000, z_1000000, zI_neg, zI_add, zI_sub, zI_mul, zI_lt, zI_le, zI_eq, if_pos, if_neg, if_true, if_false, Option.bind_some, bnd, ldI_is, ldJ_is, Int.toNat_natCast, ]; omega) (ev_bnd (ev_pos (by rw [gI_same]; decide) (ev_some (mo_ok h (by rw [gI_ne _ (by omega), e])))))
theorem m_refusedItem (h : MSt F w z s) (V : VSt s) : Ev (fX9_refusedItem F N w z) (MO F z w (spItem s)) := by
  have hv := V.2.2.2.2.2.2.2.2
  have e := h.2.2.2.2.2.2.2.2.2
  unfold fX9_refusedItem fX9_refusedItem_13 spItem
  rw [e]
  by_cases c : sri s = -1
  · rw [if_pos c]
    exact ev_neg (by simp (disch := omega) only [z_0, z_1, z_2, z_3, z_4, z_5, z_6, z_7, z_8, z_9, z_10, z_12, z_13, z_16, z_20, z_24, z_30, z_31, z_32, z_38, z_42, z_44, z_45, z_47, z_48, z_49, z_50, z_57, z_58, z_59, z_60, z_61, z_91, z_97, z_98, z_100, z_108, z_114, z_120, z_122, z_126, z_127, z_128, z_200, z_255, z_961, z_990, z_992, z_998, z_999, z_1000, z_1092, z_1114, z_7798, z_10000, z_1000000, zI_neg, zI_add, zI_sub, zI_mul, zI_lt, zI_le, zI_eq, if_pos, if_neg, if_true, if_false, Option.bind_some, bnd, ldI_is, ldJ_is, Int.toNat_natCast,  Int.not_le]; omega) (ev_bnd (ev_neg (by rw [gI_same]; decide) (ev_some (mo_err h (by omega) rfl))))
  · rw [if_neg c]
    exact ev_pos (by simp (disch := omega) only [z_0, z_1, z_2, z_3, z_4, z_5, z_6, z_7, z_8, z_9, z_10, z_12, z_13, z_16, z_20, z_24, z_30, z_31, z_32, z_38, z_42, z_44, z_45, z_47, z_48, z_49, z_50, z_57, z_58, z_59, z_60, z_61, z_91, z_97, z_98, z_100, z_108, z_114, z_120, z_122, z_126, z_127, z_128, z_200, z_255, z_961, z_990, z_992, z_998, z_999, z_1000, z_1092, z_1114, z_7798, z_10000, z_1000000, zI_neg, zI_add, zI_sub, zI_mul, zI_lt, zI_le, zI_eq, if_pos, if_neg, if_true, if_false, Option.bind_some, bnd, ldI_is, ldJ_is, Int.toNat_natCast, ]; omega) (ev_bnd (ev_pos (by rw [gI_same]; decide) (ev_some (mo_ok h (by rw [gI_ne _ (by omega), e])))))
theorem m_refusal (h : MSt F w z s) (V : VSt s) (b : Bool) : Ev (fX9_refusal F N w z (if b = true then 1 else 0)) (MO F z w (spRefusal s b)) := by
  have hv := V.2.2.2.2.2.2.1
  have e := h.2.2.2.2.2.2.1
  have e2 := h.2.2.2.2.2.2.2.1
  unfold fX9_refusal fX9_refusal_13 spRefusal
  rw [e]
  by_cases c : (srf s).1 = 0
  · rw [if_pos c]
    refine ev_pos (by rw [c]; rfl) (ev_bnd ?_)
    cases b
    · exact ev_pos (by decide) (ev_some (mo_err h (by omega) rfl))
    · exact ev_neg (by decide) (ev_some (mo_err h (by omega) rfl))
  · rw [if_neg c]
    refine ev_neg (by simp (disch := omega) only [z_0, z_1, z_2, z_3, z_4, z_5, z_6, z_7, z_8, z_9, z_10, z_12, z_13, z_16, z_20, z_24, z_30, z_31, z_32, z_38, z_42, z_44, z_45, z_47, z_48, z_49, z_50, z_57, z_58, z_59, z_60, z_61, z_91, z_97, z_98, z_100, z_108, z_114, z_120, z_122, z_126, z_127, z_128, z_200, z_255, z_961, z_990, z_992, z_998, z_999, z_1000, z_1092, z_1114, z_7798, z_10000, z_1000000, zI_neg, zI_add, zI_sub, zI_mul, zI_lt, zI_le, zI_eq, if_pos, if_neg, if_true, if_false, Option.bind_some, bnd, ldI_is, ldJ_is, Int.toNat_natCast, ]; exact c) (ev_bnd ?_)
    cases b
    · exact ev_pos (by decide) (ev_some (mo_ok h (by rw [gI_ne _ (by omega), e2]; rfl)))
    · exact ev_neg (by decide) (ev_some (mo_ok h (by rw [gI_ne _ (by omega), e]; rfl)))
theorem m_undo (h : MSt F w z s) (V : VSt s) : Ev (fX9_undo F N w z) (MO F z w (spUndo s)) := by
  have hv := V.2.2.2.1
  have e := h.2.2.2.1.1
  unfold fX9_undo fX9_undo_13 spUndo
  rw [e]
  rcases hp : sps s with _ | ⟨k, P⟩
  · exact ev_pos rfl (ev_bnd (ev_neg (by rw [gI_same]; decide) (ev_some (mo_err h (by omega) rfl))))
  · rw [hp] at hv e
    rw [List.length_cons] at hv e
    rw [List.length_cons]
    refine ev_neg (by simp (disch := omega) only [z_0, z_1, z_2, z_3, z_4, z_5, z_6, z_7, z_8, z_9, z_10, z_12, z_13, z_16, z_20, z_24, z_30, z_31, z_32, z_38, z_42, z_44, z_45, z_47, z_48, z_49, z_50, z_57, z_58, z_59, z_60, z_61, z_91, z_97, z_98, z_100, z_108, z_114, z_120, z_122, z_126, z_127, z_128, z_200, z_255, z_961, z_990, z_992, z_998, z_999, z_1000, z_1092, z_1114, z_7798, z_10000, z_1000000, zI_neg, zI_add, zI_sub, zI_mul, zI_lt, zI_le, zI_eq, if_pos, if_neg, if_true, if_false, Option.bind_some, bnd, ldI_is, ldJ_is, Int.toNat_natCast, ]; omega) (ev_bnd (ev_pos (by rw [gI_same]; decide) ?_))
    rw [gI_ne _ (by omega), e, zI_prd]
    refine ev_bnd ?_
    rw [gI_same]
    have h1 := h.thr 0
    have hps := h.2.2.2.1.2
    rw [hp] at hps
    have h2 : MSt F (sI (sI w 906 z 0) 905 z (zI (P.length : Nat))) z (setps s P) := h1.f905 rfl fun j b hj => by
      have := hps (j + 1) b (by simpa using hj)
      rw [List.length_cons, show P.length + 1 - 1 - (j + 1) = P.length - 1 - j from by omega] at this
      exact this
    have hk := hps 0 k rfl
    have vk := V.2.2.1 k (by rw [hp]; exact List.mem_cons_self ..)
    refine ev_eq (rdR_is h2.1.p904.1 h2.1.p904.2.1) (ev_eq h2.r9 ?_)
    rw [show (0 : Int32) = zI 0 from rfl, z_1114, zI_mul]
    refine ev_eq (cpJ_any (by omega) (by omega) (by omega) (by rw [h2.1.p904.2.2]; omega) (by rw [h2.1.p900.2.2]; omega) (by omega) (by omega)) (ev_some ⟨?_, fun _ => ?_, h2.setnow (k := k) ?_, ?_⟩)
    · exact (gI_ne (w := sI w 906 z (zI 0)) (z := z) (f := 905) (g := 906) (zI (P.length : Nat)) (by omega)).trans (gI_same _ _ _ _)
    · exact gI_same _ _ _ _
    · refine hk.congr vk.1.1 vk.2.1 fun j hj => ?_
      rw [cpy_is, if_pos (by omega)]
      show aJ w (z + 4) _ = aJ w (z + 4) _
      rw [List.length_cons]
      congr 1
    · exact ((kp_f w z 906 _).trans (kp_f _ z 905 _)).trans (kp_now _ _ _)
theorem m_snapshot (h : MSt F w z s) (V : VSt s) : Ev (fX9_snapshot F N w z) fun x => x.1 = zI (bn (snw s) : Nat) ∧ MSt F x.2 z (setsv s (some (snw s))) ∧ Kp (Rg z 26) w x.2 := by
  have B := h.ms V
  unfold fX9_snapshot
  refine ev_bnd (ev_eq (h.thr 0).r9 (ev_eq (rdR_is h.1.p902.1 h.1.p902.2.1) ?_))
  rw [show (0 : Int32) = zI 0 from rfl, z_1114]
  refine ev_eq (cpJ_any (by omega) (by omega) (by omega) (by rw [h.1.p900.2.2]; omega) (by rw [h.1.p902.2.2]; omega) (by omega) (by omega)) (ev_bnd ?_)
  generalize hg : va_cpy (aJ (sI w 906 z (zI 0)) (z + 1)) (aJ (sI w 906 z (zI 0)) (z + 3)) (Int.toNat 0) (Int.toNat 0) (Int.toNat 1114) = g
  have hg2 : MBook g (snw s) := h.2.1.congr V.1.1.1 V.1.2.1 fun j hj => by
    rw [← hg, cpy_is, if_pos (by omega)]
    show aJ w (z + 1) _ = aJ w (z + 1) _
    congr 1
    omega
  have e1 : aJ (sI (sAJ (sI w 906 z (zI 0)) (z + 3) g) 903 z 1) (z + 1) = aJ w (z + 1) := by rw [q_aJ_sI, q_aJ_sAJ, if_neg (by omega)]; rfl
  have e4 : aJ (sI (sAJ (sI w 906 z (zI 0)) (z + 3) g) 903 z 1) (z + 4) = aJ w (z + 4) := by rw [q_aJ_sI, q_aJ_sAJ, if_neg (by omega)]; rfl
  have e3 : aJ (sI (sAJ (sI w 906 z (zI 0)) (z + 3) g) 903 z 1) (z + 3) = g := by rw [q_aJ_sI, aJ_same]
  have e10 : aJ (sI (sAJ (sI w 906 z (zI 0)) (z + 3) g) 903 z 1) (z + 10) = aJ w (z + 10) := by rw [q_aJ_sI, q_aJ_sAJ, if_neg (by omega)]; rfl
  have eI : ∀ f, ¬ f = 903 → ¬ f = 906 → gI (sI (sAJ (sI w 906 z (zI 0)) (z + 3) g) 903 z 1) f z = gI w f z := fun f h1 h2 => by
    rw [gI_ne _ h1]
    exact gI_ne (w := w) _ h2
  have h2 : MSt F (sI (sAJ (sI w 906 z (zI 0)) (z + 3) g) 903 z 1) z (setsv s (some (snw s))) := by
    obtain ⟨h1, h2, h3, h4, h5, h6, h7⟩ := h
    refine ⟨h1, e1.symm ▸ h2, ⟨?_, fun b hb => ?_⟩, ⟨?_, e4.symm ▸ h4.2⟩, ⟨?_, h5.2⟩, ⟨?_, fun i e he => ?_⟩, ?_, ?_, ?_, ?_⟩
    · rw [gI_same]; rfl
    · have : snw s = b := by simpa [setsv, ssv] using hb
      rw [e3, ← this]; exact hg2
    · rw [eI _ (by omega) (by omega)]; exact h4.1
    · rw [eI _ (by omega) (by omega)]; exact h5.1
    · rw [eI _ (by omega) (by omega)]; exact h6.1
    · obtain ⟨a1, a2, a3, a4⟩ := h6.2 i e he
      exact ⟨a1, a2, e10.symm ▸ a3, a4⟩
    · rw [eI _ (by omega) (by omega)]; exact h7.1
    · rw [eI _ (by omega) (by omega)]; exact h7.2.1
    · rw [eI _ (by omega) (by omega)]; exact h7.2.2.1
    · rw [eI _ (by omega) (by omega)]; exact h7.2.2.2
  have B2 : MS F (sI (sAJ (sI w 906 z (zI 0)) (z + 3) g) 903 z 1) z (snw s) := ⟨h2.1, h2.2.1, V.1.1, V.1.2.1⟩
  exact ev_eq (m_tiers B2) (ev_some ⟨rfl, h2, ((kp_f _ _ _ _).trans (kp_sAJ _ _ ⟨by omega, by omega⟩)).trans (kp_f _ _ _ _)⟩)
theorem m_restore (h : MSt F w z s) (V : VSt s) : Ev (fX9_restore F N w z) (MO F z w (spRestore s)) := by
  unfold fX9_restore fX9_restore_13 spRestore
  have e := h.2.2.1
  rcases hp : ssv s with _ | k
  · rw [hp] at e
    rw [e.1]
    exact ev_pos rfl (ev_bnd (ev_neg (by rw [gI_same]; decide) (ev_some (mo_err h (by omega) rfl))))
  · rw [hp] at e
    rw [e.1]
    have vk := V.2.1 k hp
    refine ev_neg (show ¬ (1 : Int32) = 0 by decide) (ev_bnd (ev_pos (by rw [gI_same]; decide) (ev_eq (rdR_is h.1.p902.1 h.1.p902.2.1) (ev_eq (h.thr _).r9 ?_))))
    rw [show (0 : Int32) = zI 0 from rfl, z_1114]
    refine ev_eq (cpJ_any (by omega) (by omega) (by omega) (by rw [h.1.p902.2.2]; omega) (by rw [h.1.p900.2.2]; omega) (by omega) (by omega)) (ev_bnd ?_)
    have h2 := (h.thr (zI 0)).setnow (g := va_cpy (aJ (sI w 906 z (zI 0)) (z + 3)) (aJ (sI w 906 z (zI 0)) (z + 1)) (Int.toNat 0) (Int.toNat 0) (Int.toNat 1114)) (k := k) ((e.2 k rfl).congr vk.1.1 vk.2.1 fun j hj => by
      rw [cpy_is, if_pos (by omega)]
      show aJ w (z + 3) _ = aJ w (z + 3) _
      congr 1
      omega)
    have h3 := h2.f905 (v := zI 0) (P := []) rfl (fun j b hj => by simp at hj)
    have B3 : MS F _ z k := ⟨h3.1, h3.2.1, vk.1, vk.2.1⟩
    refine ev_eq (m_tiers B3) (ev_some ⟨?_, fun _ => rfl, h3, ((kp_f _ _ _ _).trans (kp_now _ _ _)).trans (kp_f _ _ _ _)⟩)
    rw [gI_ne _ (by omega)]
    exact gI_same _ _ _ _
theorem m_begin_2 (A : CMod F w z) : ∀ (m n i : Nat) (g : Nat → Int64), i + n = 1114 → n < m → (∀ j, j < i → g j = 0) →
    ∃ g', fX9_begin_2 F N m (sAJ w (z + 1) g) z (zI i) = some (sI (sI (sAJ w (z + 1) g') 905 z 0) 916 z 0) ∧ ∀ j, j < 1114 → g' j = if j = 2 then 50 else if j = 3 then 20 else 0 := by
  intro m
  induction m with
  | zero => intro n i g _ h; omega
  | succ m ih =>
    intro n i g hi hm hg
    unfold fX9_begin_2
    cases n with
    | zero =>
      rw [if_pos (by simp (disch := omega) only [z_0, z_1, z_2, z_3, z_4, z_5, z_6, z_7, z_8, z_9, z_10, z_12, z_13, z_16, z_20, z_24, z_30, z_31, z_32, z_38, z_42, z_44, z_45, z_47, z_48, z_49, z_50, z_57, z_58, z_59, z_60, z_61, z_91, z_97, z_98, z_100, z_108, z_114, z_120, z_122, z_126, z_127, z_128, z_200, z_255, z_961, z_990, z_992, z_998, z_999, z_1000, z_1092, z_1114, z_7798, z_10000, z_1000000, zI_neg, zI_add, zI_sub, zI_mul, zI_lt, zI_le, zI_eq, if_pos, if_neg, if_true, if_false, Option.bind_some, bnd, ldI_is, ldJ_is, Int.toNat_natCast, ]; omega), o_r A]
      simp only [Option.bind_some]
      rw [z_2, z_3, o_st A (by omega) (by omega)]
      simp only [Option.bind_some]
      rw [o_r A]
      simp only [Option.bind_some]
      rw [o_st A (by omega) (by omega)]
      refine ⟨_, rfl, fun j hj => ?_⟩
      rw [updL_is, updL_is, show (3 : Int).toNat = 3 from rfl, show (2 : Int).toNat = 2 from rfl]
      by_cases c3 : j = 3
      · rw [if_pos c3, if_neg (by omega), if_pos c3]
      · rw [if_neg c3, if_neg c3, hg j (by omega)]
    | succ n =>
      rw [if_neg (by simp (disch := omega) only [z_0, z_1, z_2, z_3, z_4, z_5, z_6, z_7, z_8, z_9, z_10, z_12, z_13, z_16, z_20, z_24, z_30, z_31, z_32, z_38, z_42, z_44, z_45, z_47, z_48, z_49, z_50, z_57, z_58, z_59, z_60, z_61, z_91, z_97, z_98, z_100, z_108, z_114, z_120, z_122, z_126, z_127, z_128, z_200, z_255, z_961, z_990, z_992, z_998, z_999, z_1000, z_1092, z_1114, z_7798, z_10000, z_1000000, zI_neg, zI_add, zI_sub, zI_mul, zI_lt, zI_le, zI_eq, if_pos, if_neg, if_true, if_false, Option.bind_some, bnd, ldI_is, ldJ_is, Int.toNat_natCast,  Int.not_le]; omega), o_r A]
      simp only [Option.bind_some]
      rw [o_st A (by omega) (by omega)]
      simp only [Option.bind_some]
      rw [zI_succ, Int.toNat_natCast]
      refine ih n (i + 1) _ (by omega) (by omega) fun j hj => ?_
      rw [updL_is]
      by_cases c : j = i
      · rw [if_pos c]
      · rw [if_neg c]; exact hg j (by omega)
theorem m_clear (h : MSt F w z s) (V : VSt s) (hN : 1200 ≤ N) : Ev (fX9_clear F N w z) fun x => x.1 = zI (bn (snw s) : Nat) ∧ MSt F x.2 z (spClear s).2.2 ∧ Kp (Rg z 26) w x.2 := by
  have h1 := h.thr 0
  have B1 : MS F (sI w 906 z 0) z (snw s) := h1.ms V
  unfold fX9_clear fX9_begin
  obtain ⟨g, e, hg⟩ := m_begin_2 (N := N) h1.1 N 1114 0 (aJ (sI w 906 z 0) (z + 1)) (by omega) (by omega) (fun j hj => by omega)
  rw [sAJ_self] at e
  have hM : MBook g (0, bkd (snw s), brl (snw s), bpr (snw s), brw (snw s), 0, 50, 20) := by
    refine ⟨⟨hg 0 (by omega), hg 1 (by omega), hg 2 (by omega), hg 3 (by omega), fun t ht => absurd ht (Nat.not_lt_zero _)⟩, fun x t hx ht => absurd ht (Nat.not_lt_zero _), fun x t hx ht ht' => ?_⟩
    have := mo_lim hx ht'
    have h22 : 22 ≤ mo x t := by unfold mo; omega
    rw [hg _ (by omega), if_neg (by omega), if_neg (by omega)]
    rfl
  have h2 := ((h1.setnow hM).f905 (v := 0) (P := []) rfl (fun j b hj => by simp at hj)).f916
  refine ev_bnd (ev_eq (m_tiers B1) (ev_eq e (ev_some ⟨rfl, h2, ?_⟩)))
  exact (((kp_f _ _ _ _).trans (kp_now _ _ _)).trans (kp_f _ _ _ _)).trans (kp_f _ _ _ _)
theorem m_spanAt_22 (B : MS F w z k) {t : Nat} (ht : t < bn k) (hs : SRow (brw k (ban k) t)) {f : Int} (hf : I32 f) (h6 : gI w 906 z = 0) : ∀ (m n i : Nat) (v : Int), i + n = rn (brw k (ban k) t) → n < m → (v = -1 ∨ ∃ j : Nat, v = j ∧ j < i ∧ rf (brw k (ban k) t) j ≤ f ∧ f < re (brw k (ban k) t) j) →
    fX9_spanAt_22 F N m w z (zI t) (zI f) (zI v) (zI i) = some (zI (if v = -1 then fnd (fun j => decide (rf (brw k (ban k) t) j ≤ f ∧ f < re (brw k (ban k) t) j)) n i else v), w) := by
  intro m
  induction m with
  | zero => intro n i v _ h; omega
  | succ m ih =>
    intro n i v hi hm hv
    have hl := B.lim B.g.2.1 ht
    unfold fX9_spanAt_22 fX9_spanAt_75 fX9_spanAt_68
    rw [if_pos h6, m_many B ht]
    simp only [Option.bind_some]
    cases n with
    | zero =>
      rw [if_pos (by simp (disch := omega) only [z_0, z_1, z_2, z_3, z_4, z_5, z_6, z_7, z_8, z_9, z_10, z_12, z_13, z_16, z_20, z_24, z_30, z_31, z_32, z_38, z_42, z_44, z_45, z_47, z_48, z_49, z_50, z_57, z_58, z_59, z_60, z_61, z_91, z_97, z_98, z_100, z_108, z_114, z_120, z_122, z_126, z_127, z_128, z_200, z_255, z_961, z_990, z_992, z_998, z_999, z_1000, z_1092, z_1114, z_7798, z_10000, z_1000000, zI_neg, zI_add, zI_sub, zI_mul, zI_lt, zI_le, zI_eq, if_pos, if_neg, if_true, if_false, Option.bind_some, bnd, ldI_is, ldJ_is, Int.toNat_natCast, ]; omega), if_pos (by rw [h6]; decide)]
      by_cases c : v = -1
      · rw [if_pos c, c]; rfl
      · rw [if_neg c]
    | succ n =>
      have hi2 : i < rn (brw k (ban k) t) := by omega
      have b := (B.grow B.g.2.1 ht).2 i hi2
      have b9 := hs.1 i hi2
      rw [if_neg (by simp (disch := omega) only [z_0, z_1, z_2, z_3, z_4, z_5, z_6, z_7, z_8, z_9, z_10, z_12, z_13, z_16, z_20, z_24, z_30, z_31, z_32, z_38, z_42, z_44, z_45, z_47, z_48, z_49, z_50, z_57, z_58, z_59, z_60, z_61, z_91, z_97, z_98, z_100, z_108, z_114, z_120, z_122, z_126, z_127, z_128, z_200, z_255, z_961, z_990, z_992, z_998, z_999, z_1000, z_1092, z_1114, z_7798, z_10000, z_1000000, zI_neg, zI_add, zI_sub, zI_mul, zI_lt, zI_le, zI_eq, if_pos, if_neg, if_true, if_false, Option.bind_some, bnd, ldI_is, ldJ_is, Int.toNat_natCast,  Int.not_le]; omega), m_first B ht hi2, m_end B ht hi2]
      simp only [Option.bind_some]
      rw [zI_sb1, m_in hf (by omega) (by omega), fnd_succ]
      simp only [Option.bind_some]
      by_cases c : rf (brw k (ban k) t) i ≤ f ∧ f < re (brw k (ban k) t) i
      · rw [if_pos (c := rf (brw k (ban k) t) i ≤ f ∧ f ≤ re (brw k (ban k) t) i - 1) (by omega), if_neg (by decide), zI_succ]
        have v1 : v = -1 := by
          rcases hv with hv | ⟨j, h1, h2, h3, h4⟩
          · exact hv
          · have := hs.lt h2 hi2
            omega
        rw [ih n (i + 1) (i : Int) (by omega) (by omega) (Or.inr ⟨i, rfl, by omega, c⟩), if_neg (by omega), if_pos v1, if_pos (by rw [decide_eq_true_eq]; exact c)]
      · rw [if_neg (c := rf (brw k (ban k) t) i ≤ f ∧ f ≤ re (brw k (ban k) t) i - 1) (by omega), if_pos (by rfl), zI_succ]
        rw [ih n (i + 1) v (by omega) (by omega) (by rcases hv with hv | ⟨j, h1, h2, h3⟩; exact Or.inl hv; exact Or.inr ⟨j, h1, by omega, h3⟩)]
        have e9 : ¬ decide (rf (brw k (ban k) t) i ≤ f ∧ f < re (brw k (ban k) t) i) = true := by rw [decide_eq_true_eq]; exact c
        rw [if_neg e9]
theorem m_spanAt (h : MSt F w z s) (V : VSt s) (hN : 40 ≤ N) {t f : Int} (ht : I32 t) (hf : I32 f) : Ev (fX9_spanAt F N w z (zI t) (zI f)) (MO F z w (spSpanAt s t f)) := by
  have B := h.ms V
  unfold fX9_spanAt fX9_spanAt_14 spSpanAt
  refine ev_eq (m_isTier B ht) ?_
  by_cases c : 0 ≤ t ∧ t < bn (snw s)
  · rw [if_pos c, if_pos c]
    refine ev_neg (by decide) (ev_bnd ?_)
    obtain ⟨t', rfl⟩ := Int.eq_ofNat_of_zero_le c.1
    have hb : t' < bn (snw s) := by omega
    have hl := B.lim B.g.2.1 hb
    rw [Int.toNat_natCast]
    have B1 : MS F (sI w 906 z 0) z (snw s) := B
    have e := m_spanAt_22 (N := N) B1 hb (V.1.2.2.1 _ _ B.g.2.1 hb) hf (gI_same _ _ _ _) N (rn (brw (snw s) (ban (snw s)) t')) 0 (-1) (by omega) (by omega) (Or.inl rfl)
    rw [if_pos rfl] at e
    exact ⟨_, e, mo_ok h rfl⟩
  · rw [if_neg c, if_neg c]
    refine ev_pos (by rfl) (ev_bnd ?_)
    obtain ⟨N', rfl⟩ : ∃ N', N = N' + 1 := ⟨N - 1, by omega⟩
    unfold fX9_spanAt_22 fX9_spanAt_75
    exact ev_neg (by rw [gI_same]; decide) (ev_neg (by rw [gI_same]; decide) (ev_some (mo_err h (by omega) rfl)))
end CHANGE2
