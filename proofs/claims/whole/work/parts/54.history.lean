/-! the class's history: a ring of eight books -/
theorem z4_7 : (7 : Int32) = zI 7 := rfl
def hb (z i : Nat) : Nat := z + 2 + 57 * i
def CHist (F : Fr) (w : Wd) (z : Nat) (P : List Bk) : Prop := okF F z 2 ∧ okF F (z + 1) 14 ∧ F.2.1 (z + 1) = 8 ∧ gR w 200 z = some (z + 1) ∧ (∀ i, i < 8 → aR w (z + 1) i = some (hb z i) ∧ LBook F (hb z i) ∧ WBook w (hb z i)) ∧
  gI w 202 z = zI (P.length : Nat) ∧ P.length ≤ 8 ∧ ∃ nx : Nat, nx < 8 ∧ gI w 201 z = zI nx ∧ ∀ j k, P[j]? = some k → CBook F w (hb z ((nx + 7 - j) % 8)) k
theorem WBook.keep {S : Nat → Prop} {w w' : Wd} {b : Nat} (h : WBook w b) (k : Kp S w w') (hs : ∀ x, b ≤ x → x < b + 57 → ¬ S x) : WBook w' b := by
  have s0 := hs b (by omega) (by omega)
  have s4 := hs (b + 4) (by omega) (by omega)
  obtain ⟨g1, g2, g3, g4, g5⟩ := h
  refine ⟨?_, ?_, ?_, ?_, fun x t hx ht => ⟨?_, (g5 x t hx ht).2.keep k fun y h1 h2 => hs y (by unfold ra at h1; omega) (by unfold ra at h2; omega)⟩⟩
  · rw [k.gR s0]; exact g1
  · rw [k.gR s0]; exact g2
  · rw [k.gR s0]; exact g3
  · rw [k.gR s0]; exact g4
  · rw [k.aR s4]; exact (g5 x t hx ht).1
theorem CHist.keep {F : Fr} {S : Nat → Prop} {w w' : Wd} {z : Nat} {P : List Bk} (h : CHist F w z P) (k : Kp S w w') (hs : ∀ x, z ≤ x → x < z + 458 → ¬ S x) : CHist F w' z P := by
  have s0 := hs z (by omega) (by omega)
  have s1 := hs (z + 1) (by omega) (by omega)
  obtain ⟨h1, h2, h3, h4, h5, h6, h7, nx, h8, h9, h10⟩ := h
  refine ⟨h1, h2, h3, ?_, fun i hi => ⟨?_, (h5 i hi).2.1, (h5 i hi).2.2.keep k fun y y1 y2 => hs y (by unfold hb at y1; omega) (by unfold hb at y2; omega)⟩, ?_, h7, nx, h8, ?_, fun j b hj => (h10 j b hj).keep k fun y y1 y2 => hs y (by unfold hb at y1; omega) (by unfold hb at y2; omega)⟩
  · rw [k.gR s0]; exact h4
  · rw [k.aR s1]; exact (h5 i hi).1
  · rw [k.gI s0]; exact h6
  · rw [k.gI s0]; exact h9
section HIST
variable {F : Fr} {N : Nat} {w : Wd} {z b : Nat} {P : List Bk} {k : Bk}
theorem c_hcount (h : CHist F w z P) : gI w 202 z = zI (P.length : Nat) := h.2.2.2.2.2.1
theorem c_push (h : CHist F w z P) (B : CBook F w b k) (hd : b + 57 ≤ z ∨ z + 458 ≤ b) (hN : 40 ≤ N) : Ev (fX2_push F N w z b) fun w' => CHist F w' z ((k :: P).take 8) ∧ Kp (Rg z 458) w w' := by
  obtain ⟨h1, h2, h3, h4, h5, h6, h7, nx, h8, h9, h10⟩ := h
  unfold fX2_push
  rw [h9]
  refine ev_neg (by simp (disch := omega) only [z_0, z_1, z_2, z_3, z_4, z_5, z_6, z_7, z_8, z_9, z_10, z_12, z_13, z_16, z_20, z_24, z_30, z_31, z_32, z_38, z_42, z_44, z_45, z_47, z_48, z_49, z_50, z_57, z_58, z_59, z_60, z_61, z_91, z_97, z_98, z_100, z_108, z_114, z_120, z_122, z_126, z_127, z_128, z_200, z_255, z_961, z_990, z_992, z_998, z_999, z_1000, z_1092, z_1114, z_7798, z_10000, z_1000000, zI_neg, zI_add, zI_sub, zI_mul, zI_lt, zI_le, zI_eq, if_pos, if_neg, if_true, if_false, Option.bind_some, bnd, ldI_is, ldJ_is, Int.toNat_natCast,  Int.not_lt]; omega) (ev_rdR h4 h2 (ev_neg ?_ (ev_rdR h4 h2 ?_)))
  · rw [nI_z, h3]; simp (disch := omega) only [z_0, z_1, z_2, z_3, z_4, z_5, z_6, z_7, z_8, z_9, z_10, z_12, z_13, z_16, z_20, z_24, z_30, z_31, z_32, z_38, z_42, z_44, z_45, z_47, z_48, z_49, z_50, z_57, z_58, z_59, z_60, z_61, z_91, z_97, z_98, z_100, z_108, z_114, z_120, z_122, z_126, z_127, z_128, z_200, z_255, z_961, z_990, z_992, z_998, z_999, z_1000, z_1092, z_1114, z_7798, z_10000, z_1000000, zI_neg, zI_add, zI_sub, zI_mul, zI_lt, zI_le, zI_eq, if_pos, if_neg, if_true, if_false, Option.bind_some, bnd, ldI_is, ldJ_is, Int.toNat_natCast,  Int.not_le]; omega
  have e1 : ((nx : Int)).toNat = nx := Int.toNat_natCast nx
  refine ev_eq (ldR_is (by omega) (by omega) (by omega) (by rw [e1]; exact (h5 nx h8).1) (h5 nx h8).2.1.1) ?_
  unfold fX2_push_32
  simp only [Option.elim]
  refine ev_then (c_copyBook (by unfold hb; omega) hN (h5 nx h8).2.1 (h5 nx h8).2.2 B) fun w1 ⟨b1, k1⟩ => ?_
  have kz : Kp (Rg z 458) w w1 := k1.mono (Rg.sub (by unfold hb; omega) (by unfold hb; omega))
  have s0 : ¬ Rg (hb z nx) 57 z := by unfold Rg hb; omega
  have s1 : ¬ Rg (hb z nx) 57 (z + 1) := by unfold Rg hb; omega
  have f9 : gI w1 201 z = zI nx := by rw [k1.gI s0]; exact h9
  have f6 : gI w1 202 z = zI (P.length : Nat) := by rw [k1.gI s0]; exact h6
  have fin : ∀ q : Nat, q < 8 → (nx + 1) % 8 = q → Ev (fX2_push_62 F N w1 z z (zI q)) fun w' => CHist F w' z ((k :: P).take 8) ∧ Kp (Rg z 458) w w' := by
    intro q hq hqn
    unfold fX2_push_62
    have sz : Rg z 458 z := by unfold Rg; omega
    have K4 : Kp (fun y => y = z) w1 (sI w1 201 z (zI q)) := kp_sI (S := fun y => y = z) _ _ rfl
    have K5 : ∀ v, Kp (fun y => y = z) w1 (sI (sI w1 201 z (zI q)) 202 z v) := fun v => K4.trans (kp_sI (S := fun y => y = z) _ _ rfl)
    have e202 : gI (sI w1 201 z (zI q)) 202 z = zI (P.length : Nat) := by rw [q_gI_sI, if_neg (by omega)]; exact f6
    have ev : imin (gI (sI w1 201 z (zI q)) 202 z + 1) 8 = zI (((k :: P).take 8).length : Nat) := by
      rw [e202, zI_succ, z_8, imin_z (by omega) (by omega) (by omega) (by omega)]
      congr 1
      rw [List.length_take, List.length_cons]
      omega
    refine ev_bnd (ev_bnd ?_)
    rw [ev]
    refine ev_some ⟨⟨h1, h2, h3, ?_, fun i hi => ⟨?_, (h5 i hi).2.1, ?_⟩, ?_, ?_, q, hq, ?_, fun j b' hj => ?_⟩, kz.trans ((K5 _).mono fun y hy => by rw [hy]; exact sz)⟩
    · rw [q_gR_sI, q_gR_sI, k1.gR s0]; exact h4
    · rw [q_aR_sI, q_aR_sI, k1.aR s1]; exact (h5 i hi).1
    · have W1 : WBook w1 (hb z i) := by
        by_cases c : i = nx
        · rw [c]; exact b1.2.1
        · exact (h5 i hi).2.2.keep k1 fun y y1 y2 y3 => by unfold hb at y1 y2; unfold Rg hb at y3; omega
      exact W1.keep (K5 _) fun y y1 y2 => by unfold hb at y1; omega
    · rw [q_gI_sI, if_pos ⟨rfl, rfl⟩]
    · rw [List.length_take]; omega
    · rw [q_gI_sI, if_neg (by omega), q_gI_sI, if_pos ⟨rfl, rfl⟩]
    · have B1 : CBook F w1 (hb z ((q + 7 - j) % 8)) b' := by
        rw [List.getElem?_take] at hj
        by_cases c8 : j < 8
        · rw [if_pos c8] at hj
          cases j with
          | zero =>
            have e : b' = k := by simpa using hj.symm
            subst e
            rw [show (q + 7 - 0) % 8 = nx from by omega]
            exact b1
          | succ j =>
            have hj2 : P[j]? = some b' := by simpa using hj
            have e : (q + 7 - (j + 1)) % 8 = (nx + 7 - j) % 8 := by omega
            rw [e]
            exact (h10 j b' hj2).keep k1 fun y y1 y2 y3 => by unfold hb at y1 y2; unfold Rg hb at y3; omega
        · rw [if_neg c8] at hj
          cases hj
      exact B1.keep (K5 _) fun y y1 y2 => by unfold hb at y1; omega
  unfold fX2_push_42
  rw [f9]
  by_cases c : 7 ≤ nx
  · refine ev_pos (by simp (disch := omega) only [z_0, z_1, z_2, z_3, z_4, z_5, z_6, z_7, z_8, z_9, z_10, z_12, z_13, z_16, z_20, z_24, z_30, z_31, z_32, z_38, z_42, z_44, z_45, z_47, z_48, z_49, z_50, z_57, z_58, z_59, z_60, z_61, z_91, z_97, z_98, z_100, z_108, z_114, z_120, z_122, z_126, z_127, z_128, z_200, z_255, z_961, z_990, z_992, z_998, z_999, z_1000, z_1092, z_1114, z_7798, z_10000, z_1000000, zI_neg, zI_add, zI_sub, zI_mul, zI_lt, zI_le, zI_eq, if_pos, if_neg, if_true, if_false, Option.bind_some, bnd, ldI_is, ldJ_is, Int.toNat_natCast, ]; omega) ?_
    rw [show (0 : Int32) = zI ((0 : Nat) : Int) from rfl]
    exact fin 0 (by omega) (by omega)
  · refine ev_neg (by simp (disch := omega) only [z_0, z_1, z_2, z_3, z_4, z_5, z_6, z_7, z_8, z_9, z_10, z_12, z_13, z_16, z_20, z_24, z_30, z_31, z_32, z_38, z_42, z_44, z_45, z_47, z_48, z_49, z_50, z_57, z_58, z_59, z_60, z_61, z_91, z_97, z_98, z_100, z_108, z_114, z_120, z_122, z_126, z_127, z_128, z_200, z_255, z_961, z_990, z_992, z_998, z_999, z_1000, z_1092, z_1114, z_7798, z_10000, z_1000000, zI_neg, zI_add, zI_sub, zI_mul, zI_lt, zI_le, zI_eq, if_pos, if_neg, if_true, if_false, Option.bind_some, bnd, ldI_is, ldJ_is, Int.toNat_natCast,  Int.not_le]; omega) ?_
    rw [zI_succ]
    exact fin (nx + 1) (by omega) (by omega)
theorem c_pop (h : CHist F w z (k :: P)) (L : LBook F b) (W : WBook w b) (hd : b + 57 ≤ z ∨ z + 458 ≤ b) (hN : 40 ≤ N) : Ev (fX2_pop F N w z b) fun w' => CBook F w' b k ∧ CHist F w' z P ∧ Kp (fun q => q = z ∨ Rg b 57 q) w w' := by
  obtain ⟨h1, h2, h3, h4, h5, h6, h7, nx, h8, h9, h10⟩ := h
  have hl : P.length + 1 ≤ 8 := h7
  have fin : ∀ q : Nat, q < 8 → (nx + 7) % 8 = q → Ev (fX2_pop_19 F N w z b z (zI q)) fun w' => CBook F w' b k ∧ CHist F w' z P ∧ Kp (fun q => q = z ∨ Rg b 57 q) w w' := by
    intro q hq hqn
    unfold fX2_pop_19
    have K4 : Kp (fun y => y = z) w (sI w 201 z (zI q)) := kp_sI (S := fun y => y = z) _ _ rfl
    have K5 : ∀ v, Kp (fun y => y = z) w (sI (sI w 201 z (zI q)) 202 z v) := fun v => K4.trans (kp_sI (S := fun y => y = z) _ _ rfl)
    have e202 : gI (sI w 201 z (zI q)) 202 z - 1 = zI (P.length : Nat) := by
      rw [q_gI_sI, if_neg (by omega), h6, List.length_cons]; exact zI_prd P.length
    refine ev_bnd (ev_bnd ?_)
    rw [e202]
    generalize hw2 : sI (sI w 201 z (zI q)) 202 z (zI (P.length : Nat)) = w2
    have K2 : Kp (fun y => y = z) w w2 := hw2 ▸ K5 _
    have f201 : gI w2 201 z = zI q := by rw [← hw2, q_gI_sI, if_neg (by omega), q_gI_sI, if_pos ⟨rfl, rfl⟩]
    have f202 : gI w2 202 z = zI (P.length : Nat) := by rw [← hw2, q_gI_sI, if_pos ⟨rfl, rfl⟩]
    have f200 : gR w2 200 z = some (z + 1) := by rw [← hw2, q_gR_sI, q_gR_sI]; exact h4
    have fA : ∀ i, i < 8 → aR w2 (z + 1) i = some (hb z i) ∧ LBook F (hb z i) ∧ WBook w2 (hb z i) := fun i hi => ⟨by rw [← hw2, q_aR_sI, q_aR_sI]; exact (h5 i hi).1, (h5 i hi).2.1, (h5 i hi).2.2.keep K2 fun y y1 y2 => by unfold hb at y1; omega⟩
    have W2 : WBook w2 b := W.keep K2 fun y y1 y2 => by omega
    have B2 : CBook F w2 (hb z q) k := by
      have h0 := h10 0 k rfl
      rw [show (nx + 7 - 0) % 8 = q from hqn] at h0
      exact h0.keep K2 fun y y1 y2 => by unfold hb at y1; omega
    have H2 : CHist F w2 z P := ⟨h1, h2, h3, f200, fA, f202, by omega, q, hq, f201, fun j b' hj => by
      have h0 := h10 (j + 1) b' (by simpa using hj)
      have hj8 : j < P.length := by
        rcases Nat.lt_or_ge j P.length with c | c
        · exact c
        · rw [List.getElem?_eq_none c] at hj; cases hj
      rw [show (nx + 7 - (j + 1)) % 8 = (q + 7 - j) % 8 from by omega] at h0
      exact h0.keep K2 fun y y1 y2 => by unfold hb at y1; omega⟩
    rw [f201]
    refine ev_neg (by simp (disch := omega) only [z_0, z_1, z_2, z_3, z_4, z_5, z_6, z_7, z_8, z_9, z_10, z_12, z_13, z_16, z_20, z_24, z_30, z_31, z_32, z_38, z_42, z_44, z_45, z_47, z_48, z_49, z_50, z_57, z_58, z_59, z_60, z_61, z_91, z_97, z_98, z_100, z_108, z_114, z_120, z_122, z_126, z_127, z_128, z_200, z_255, z_961, z_990, z_992, z_998, z_999, z_1000, z_1092, z_1114, z_7798, z_10000, z_1000000, zI_neg, zI_add, zI_sub, zI_mul, zI_lt, zI_le, zI_eq, if_pos, if_neg, if_true, if_false, Option.bind_some, bnd, ldI_is, ldJ_is, Int.toNat_natCast,  Int.not_lt]; omega) (ev_rdR f200 h2 (ev_neg ?_ (ev_rdR f200 h2 ?_)))
    · rw [nI_z, h3]; simp (disch := omega) only [z_0, z_1, z_2, z_3, z_4, z_5, z_6, z_7, z_8, z_9, z_10, z_12, z_13, z_16, z_20, z_24, z_30, z_31, z_32, z_38, z_42, z_44, z_45, z_47, z_48, z_49, z_50, z_57, z_58, z_59, z_60, z_61, z_91, z_97, z_98, z_100, z_108, z_114, z_120, z_122, z_126, z_127, z_128, z_200, z_255, z_961, z_990, z_992, z_998, z_999, z_1000, z_1092, z_1114, z_7798, z_10000, z_1000000, zI_neg, zI_add, zI_sub, zI_mul, zI_lt, zI_le, zI_eq, if_pos, if_neg, if_true, if_false, Option.bind_some, bnd, ldI_is, ldJ_is, Int.toNat_natCast,  Int.not_le]; omega
    have e1 : ((q : Int)).toNat = q := Int.toNat_natCast q
    refine ev_eq (ldR_is (by omega) (by omega) (by omega) (by rw [e1]; exact (fA q hq).1) (fA q hq).2.1.1) ?_
    unfold fX2_pop_64
    simp only [Option.elim]
    refine ev_then (c_copyBook (by unfold hb; omega) hN L W2 B2) fun w3 ⟨b3, k3⟩ => ?_
    exact ev_some ⟨b3, H2.keep k3 (fun y y1 y2 y3 => by unfold Rg at y3; omega), (K2.mono fun y hy => Or.inl hy).trans (k3.mono fun y hy => Or.inr hy)⟩
  unfold fX2_pop
  rw [h9]
  by_cases c : nx = 0
  · refine ev_pos (by simp (disch := omega) only [z_0, z_1, z_2, z_3, z_4, z_5, z_6, z_7, z_8, z_9, z_10, z_12, z_13, z_16, z_20, z_24, z_30, z_31, z_32, z_38, z_42, z_44, z_45, z_47, z_48, z_49, z_50, z_57, z_58, z_59, z_60, z_61, z_91, z_97, z_98, z_100, z_108, z_114, z_120, z_122, z_126, z_127, z_128, z_200, z_255, z_961, z_990, z_992, z_998, z_999, z_1000, z_1092, z_1114, z_7798, z_10000, z_1000000, zI_neg, zI_add, zI_sub, zI_mul, zI_lt, zI_le, zI_eq, if_pos, if_neg, if_true, if_false, Option.bind_some, bnd, ldI_is, ldJ_is, Int.toNat_natCast, ]; omega) ?_
    rw [show (7 : Int32) = zI ((7 : Nat) : Int) from rfl]
    exact fin 7 (by omega) (by omega)
  · refine ev_neg (by simp (disch := omega) only [z_0, z_1, z_2, z_3, z_4, z_5, z_6, z_7, z_8, z_9, z_10, z_12, z_13, z_16, z_20, z_24, z_30, z_31, z_32, z_38, z_42, z_44, z_45, z_47, z_48, z_49, z_50, z_57, z_58, z_59, z_60, z_61, z_91, z_97, z_98, z_100, z_108, z_114, z_120, z_122, z_126, z_127, z_128, z_200, z_255, z_961, z_990, z_992, z_998, z_999, z_1000, z_1092, z_1114, z_7798, z_10000, z_1000000, zI_neg, zI_add, zI_sub, zI_mul, zI_lt, zI_le, zI_eq, if_pos, if_neg, if_true, if_false, Option.bind_some, bnd, ldI_is, ldJ_is, Int.toNat_natCast,  Int.not_le]; omega) ?_
    have e : zI (nx : Int) - 1 = zI ((nx - 1 : Nat) : Int) := by
      rw [zI_sb1]; congr 1; omega
    rw [e]
    exact fin (nx - 1) (by omega) (by omega)
theorem c_forget (h : CHist F w z P) : Ev (fX2_forget F N w z) fun w' => CHist F w' z [] ∧ Kp (fun q => q = z) w w' := by
  obtain ⟨h1, h2, h3, h4, h5, h6, h7, nx, h8, h9, h10⟩ := h
  unfold fX2_forget
  have K : Kp (fun q => q = z) w (sI w 202 z 0) := kp_sI (S := fun q => q = z) _ _ rfl
  refine ev_bnd (ev_some ⟨⟨h1, h2, h3, ?_, fun i hi => ⟨?_, (h5 i hi).2.1, (h5 i hi).2.2.keep K fun y y1 y2 => by unfold hb at y1; omega⟩, ?_, by simp, nx, h8, ?_, fun j b' hj => by simp at hj⟩, K⟩)
  · rw [q_gR_sI]; exact h4
  · rw [q_aR_sI]; exact (h5 i hi).1
  · rw [q_gI_sI, if_pos ⟨rfl, rfl⟩]; rfl
  · rw [q_gI_sI, if_neg (by omega)]; exact h9
end HIST
