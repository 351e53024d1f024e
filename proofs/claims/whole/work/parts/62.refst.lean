/-! states of both, and how the reference holds one -/
def OKB (k : Bk) : Prop := GBook k ∧ H30 k ∧ (∀ x t, x < 2 → t < bn k → SRow (brw k x t)) ∧ ∀ x t, x < 2 → t < bn k → orp k x t = false
abbrev St : Type := Bk × Option Bk × List Bk × Tx × List Pe × (Int × Int) × Int × Int
def snw (s : St) : Bk := s.1
def ssv (s : St) : Option Bk := s.2.1
def sps (s : St) : List Bk := s.2.2.1
def stx (s : St) : Tx := s.2.2.2.1
def spt (s : St) : List Pe := s.2.2.2.2.1
def srf (s : St) : Int × Int := s.2.2.2.2.2.1
def sbd (s : St) : Int := s.2.2.2.2.2.2.1
def sri (s : St) : Int := s.2.2.2.2.2.2.2
def VSt (s : St) : Prop := OKB (snw s) ∧ (∀ b, ssv s = some b → OKB b) ∧ (∀ b ∈ sps s, OKB b) ∧ (sps s).length ≤ 8 ∧ GT (stx s) ∧ PGs (spt s) ∧ ((0 ≤ (srf s).1 ∧ (srf s).1 ≤ 5) ∧ (0 ≤ (srf s).2 ∧ (srf s).2 ≤ 100)) ∧ (-1 ≤ sbd s ∧ sbd s ≤ 100) ∧ (-1 ≤ sri s ∧ sri s ≤ 100)
def MSv (w : Wd) (z : Nat) (o : Option Bk) : Prop := gI w 903 z = (if o.isSome = true then 1 else 0) ∧ ∀ b, o = some b → MBook (aJ w (z + 3)) b
def MPs (w : Wd) (z : Nat) (P : List Bk) : Prop := gI w 905 z = zI (P.length : Nat) ∧ ∀ j b, P[j]? = some b → MBook (fun q => aJ w (z + 4) (1114 * (P.length - 1 - j) + q)) b
def MTx (w : Wd) (z : Nat) (T : Tx) : Prop := gI w 908 z = zI (tn T : Nat) ∧ ∀ i, i < tn T → aI w (z + 5) i = zI (tc T i)
def MPe (w : Wd) (z i : Nat) (e : Pe) : Prop := aI w (z + 8) i = zI (e.1 : Nat) ∧ aI w (z + 9) i = zI e.2.1 ∧ aJ w (z + 10) i = mL e.2.2.1 ∧ (0 < i → aI w (z + 11) i = if e.2.2.2 = true then 0 else 1)
def MPt (w : Wd) (z : Nat) (p : List Pe) : Prop := gI w 916 z = zI (p.length : Nat) ∧ ∀ i e, p[i]? = some e → MPe w z i e
def MRe (w : Wd) (z : Nat) (s : St) : Prop := gI w 912 z = zI (srf s).1 ∧ gI w 913 z = zI (srf s).2 ∧ gI w 911 z = zI (sbd s) ∧ gI w 946 z = zI (sri s)
def MSt (F : Fr) (w : Wd) (z : Nat) (s : St) : Prop := CMod F w z ∧ MBook (aJ w (z + 1)) (snw s) ∧ MSv w z (ssv s) ∧ MPs w z (sps s) ∧ MTx w z (stx s) ∧ MPt w z (spt s) ∧ MRe w z s
/-- the fields of the reference that are its state -/
def KF (f : Nat) : Prop := f = 903 ∨ f = 905 ∨ f = 908 ∨ f = 911 ∨ f = 912 ∨ f = 913 ∨ f = 916 ∨ f = 946
/-- only what is no state may have changed -/
def Sc (z : Nat) (w w' : Wd) : Prop := gR w' = gR w ∧ (∀ f, KF f → gI w' f z = gI w f z) ∧ (aJ w' (z + 1) = aJ w (z + 1) ∧ aJ w' (z + 3) = aJ w (z + 3) ∧ aJ w' (z + 4) = aJ w (z + 4) ∧ aJ w' (z + 10) = aJ w (z + 10)) ∧ (aI w' (z + 5) = aI w (z + 5) ∧ aI w' (z + 8) = aI w (z + 8) ∧ aI w' (z + 9) = aI w (z + 9) ∧ aI w' (z + 11) = aI w (z + 11)) ∧ Kp (Rg z 26) w w'
theorem Sc.refl (z : Nat) (w : Wd) : Sc z w w := ⟨rfl, fun _ _ => rfl, ⟨rfl, rfl, rfl, rfl⟩, ⟨rfl, rfl, rfl, rfl⟩, Kp.refl _⟩
theorem Sc.trans {z : Nat} {u v w : Wd} (h : Sc z u v) (k : Sc z v w) : Sc z u w := by
  obtain ⟨h1, h2, ⟨h3, h4, h5, h6⟩, ⟨h7, h8, h9, h10⟩, h11⟩ := h
  obtain ⟨k1, k2, ⟨k3, k4, k5, k6⟩, ⟨k7, k8, k9, k10⟩, k11⟩ := k
  exact ⟨k1.trans h1, fun f hf => (k2 f hf).trans (h2 f hf), ⟨k3.trans h3, k4.trans h4, k5.trans h5, k6.trans h6⟩, ⟨k7.trans h7, k8.trans h8, k9.trans h9, k10.trans h10⟩, h11.trans k11⟩
theorem Sc.sI {z : Nat} (w : Wd) {f : Nat} (v : Int32) (hf : ¬ KF f) : Sc z w (sI w f z v) := by
  refine ⟨rfl, fun j hj => ?_, ⟨rfl, rfl, rfl, rfl⟩, ⟨rfl, rfl, rfl, rfl⟩, kp_sI _ _ ⟨Nat.le_refl _, by omega⟩⟩
  rw [q_gI_sI, if_neg (fun c : j = f ∧ z = z => hf (c.1 ▸ hj))]
theorem Sc.sAI {z : Nat} (w : Wd) {a : Nat} (v : Nat → Int32) (ha : Rg z 26 a) (h5 : ¬ a = z + 5) (h8 : ¬ a = z + 8) (h9 : ¬ a = z + 9) (h11 : ¬ a = z + 11) : Sc z w (sAI w a v) := by
  refine ⟨rfl, fun j hj => rfl, ⟨rfl, rfl, rfl, rfl⟩, ⟨?_, ?_, ?_, ?_⟩, kp_sAI _ _ ha⟩
  all_goals rw [q_aI_sAI, if_neg (by omega)]
theorem Sc.sAJ {z : Nat} (w : Wd) {a : Nat} (v : Nat → Int64) (ha : Rg z 26 a) (h1 : ¬ a = z + 1) (h3 : ¬ a = z + 3) (h4 : ¬ a = z + 4) (h10 : ¬ a = z + 10) : Sc z w (sAJ w a v) := by
  refine ⟨rfl, fun j hj => rfl, ⟨?_, ?_, ?_, ?_⟩, ⟨rfl, rfl, rfl, rfl⟩, kp_sAJ _ _ ha⟩
  all_goals rw [q_aJ_sAJ, if_neg (by omega)]
theorem CMod.sc {F : Fr} {w w' : Wd} {z : Nat} (h : CMod F w z) (e : gR w' = gR w) : CMod F w' z := by
  unfold CMod MArr at *
  rw [e]
  exact h
theorem MPe.sc {w w' : Wd} {z i : Nat} {e : Pe} (h : MPe w z i e) (k : Sc z w w') : MPe w' z i e := by
  obtain ⟨k1, k2, ⟨k3, k4, k5, k6⟩, ⟨k7, k8, k9, k10⟩, k11⟩ := k
  unfold MPe at *
  rw [k8, k9, k6, k10]
  exact h
theorem MSt.sc {F : Fr} {w w' : Wd} {z : Nat} {s : St} (h : MSt F w z s) (k : Sc z w w') : MSt F w' z s := by
  obtain ⟨h1, h2, h3, h4, h5, h6, h7⟩ := h
  have kk := k
  obtain ⟨k1, k2, ⟨k3, k4, k5, k6⟩, ⟨k7, k8, k9, k10⟩, k11⟩ := k
  refine ⟨h1.sc k1, k3 ▸ h2, ⟨?_, k4 ▸ h3.2⟩, ⟨?_, k5 ▸ h4.2⟩, ⟨?_, k7 ▸ h5.2⟩, ⟨?_, fun i e he => (h6.2 i e he).sc kk⟩, ?_, ?_, ?_, ?_⟩
  · rw [k2 903 (by unfold KF; omega)]; exact h3.1
  · rw [k2 905 (by unfold KF; omega)]; exact h4.1
  · rw [k2 908 (by unfold KF; omega)]; exact h5.1
  · rw [k2 916 (by unfold KF; omega)]; exact h6.1
  · rw [k2 912 (by unfold KF; omega)]; exact h7.1
  · rw [k2 913 (by unfold KF; omega)]; exact h7.2.1
  · rw [k2 911 (by unfold KF; omega)]; exact h7.2.2.1
  · rw [k2 946 (by unfold KF; omega)]; exact h7.2.2.2
theorem MSt.ms {F : Fr} {w : Wd} {z : Nat} {s : St} (h : MSt F w z s) (V : VSt s) : MS F w z (snw s) := ⟨h.1, h.2.1, V.1.1, V.1.2.1⟩
theorem MSt.mk2 {F : Fr} {w : Wd} {z : Nat} {k : Bk} {s : St} (h : MSt F w z s) (e : snw s = k) (G : GBook k) (G2 : H30 k) : MS F w z k := ⟨h.1, e ▸ h.2.1, G, G2⟩
theorem MSt.setnow {F : Fr} {w : Wd} {z : Nat} {s : St} {g : Nat → Int64} {k : Bk} (h : MSt F w z s) (hg : MBook g k) : MSt F (sAJ w (z + 1) g) z (k, s.2) := by
  obtain ⟨h1, h2, h3, h4, h5, h6, h7⟩ := h
  have e3 : aJ (sAJ w (z + 1) g) (z + 3) = aJ w (z + 3) := by rw [q_aJ_sAJ, if_neg (by omega)]
  have e4 : aJ (sAJ w (z + 1) g) (z + 4) = aJ w (z + 4) := by rw [q_aJ_sAJ, if_neg (by omega)]
  have e10 : aJ (sAJ w (z + 1) g) (z + 10) = aJ w (z + 10) := by rw [q_aJ_sAJ, if_neg (by omega)]
  refine ⟨h1, ?_, ⟨h3.1, e3.symm ▸ h3.2⟩, ⟨h4.1, e4.symm ▸ h4.2⟩, h5, ⟨h6.1, fun i e he => ?_⟩, h7⟩
  · rw [aJ_same]; exact hg
  · obtain ⟨a1, a2, a3, a4⟩ := h6.2 i e he
    exact ⟨a1, a2, e10.symm ▸ a3, a4⟩
theorem MBook.congr {g g' : Nat → Int64} {k : Bk} (h : MBook g k) (hb : bn k ≤ 6) (h30 : H30 k) (e : ∀ j, j < 1114 → g' j = g j) : MBook g' k := by
  obtain ⟨⟨h0, h1, h2, h3, h4⟩, h5, h6⟩ := h
  refine ⟨⟨(e 0 (by omega)).trans h0, (e 1 (by omega)).trans h1, (e 2 (by omega)).trans h2, (e 3 (by omega)).trans h3, fun t ht => ?_⟩, fun x t hx ht => ?_, fun x t hx ht ht' => ?_⟩
  · obtain ⟨a1, a2, a3⟩ := h4 t ht
    exact ⟨(e _ (by omega)).trans a1, (e _ (by omega)).trans a2, (e _ (by omega)).trans a3⟩
  · have := mo_lim hx (show t < 6 by omega)
    exact (h5 x t hx ht).congr (h30 x t hx ht) fun j j1 j2 => e j (by omega)
  · have := mo_lim hx ht'
    exact (e _ (by omega)).trans (h6 x t hx ht ht')
section MWR
variable {F : Fr} {N : Nat} {w : Wd} {z : Nat} {k b : Bk} {s : St}
theorem m_keepState (A : CMod F w z) (M : MBook (aJ w (z + 1)) k) (G : GBook k) (h30 : H30 k) : ∃ g, fX9_keepState F N w z = some (sAJ w (z + 2) g) ∧ MBook g k := by
  unfold fX9_keepState
  rw [rdR_is A.p900.1 A.p900.2.1, rdR_is A.p901.1 A.p901.2.1]
  simp only [Option.bind_some]
  rw [z_0, z_1114, cpJ_any (by omega) (by omega) (by omega) (by rw [A.p900.2.2]; omega) (by rw [A.p901.2.2]; omega) (by omega) (by omega)]
  refine ⟨_, rfl, M.congr G.1 h30 fun j hj => ?_⟩
  rw [cpy_is, if_pos (by omega)]
  congr 1
  omega
theorem m_putBack (A : CMod F w z) (M : MBook (aJ w (z + 2)) k) (G : GBook k) (h30 : H30 k) : ∃ g, fX9_putBack F N w z = some (sAJ w (z + 1) g) ∧ MBook g k := by
  unfold fX9_putBack
  rw [rdR_is A.p900.1 A.p900.2.1, rdR_is A.p901.1 A.p901.2.1]
  simp only [Option.bind_some]
  rw [z_0, z_1114, cpJ_any (by omega) (by omega) (by omega) (by rw [A.p901.2.2]; omega) (by rw [A.p900.2.2]; omega) (by omega) (by omega)]
  refine ⟨_, rfl, M.congr G.1 h30 fun j hj => ?_⟩
  rw [cpy_is, if_pos (by omega)]
  congr 1
  omega
theorem m_change_37 (A : CMod F w z) (M : MBook (aJ w (z + 2)) b) (Gb : GBook b) (hb : H30 b) {P : List Bk} (H : MPs w z P) (V : ∀ k ∈ P, GBook k ∧ H30 k) (hl : P.length ≤ 7) : ∃ g, fX9_change_37 F N w z = some (sI (sAJ w (z + 4) g) 905 z (zI (P.length + 1 : Nat))) ∧ ∀ j k, (b :: P)[j]? = some k → MBook (fun q => g (1114 * (P.length - j) + q)) k := by
  unfold fX9_change_37
  rw [rdR_is A.p901.1 A.p901.2.1, rdR_is A.p904.1 A.p904.2.1]
  simp only [Option.bind_some]
  rw [H.1, z_0, z_1114, zI_mul, cpJ_any (by omega) (by omega) (by omega) (by rw [A.p901.2.2]; omega) (by rw [A.p904.2.2]; omega) (by omega) (by omega)]
  simp only [Option.bind_some, bnd]
  refine ⟨_, by rw [show gI (sAJ w (z + 4) _) 905 z = gI w 905 z from rfl, H.1, zI_succ], fun j k hj => ?_⟩
  have e1 : (1114 * (P.length : Int)).toNat = 1114 * P.length := by omega
  have e2 : (1114 : Int).toNat = 1114 := rfl
  have e3 : (0 : Int).toNat = 0 := rfl
  rw [e1, e2, e3]
  cases j with
  | zero =>
    have : b = k := by simpa using hj
    subst this
    refine M.congr Gb.1 hb fun q hq => ?_
    rw [cpy_is, if_pos (by omega)]
    congr 1
    omega
  | succ j =>
    have hj' : P[j]? = some k := by simpa using hj
    obtain ⟨hlt, he⟩ := List.getElem?_eq_some_iff.mp hj'
    have v := V k (he ▸ List.getElem_mem hlt)
    refine (H.2 j k hj').congr v.1.1 v.2 fun q hq => ?_
    rw [cpy_is, if_neg (by omega)]
    congr 1
    omega
theorem m_change (A : CMod F w z) (M : MBook (aJ w (z + 2)) b) (Gb : GBook b) (hb : H30 b) {P : List Bk} (H : MPs w z P) (V : ∀ k ∈ P, GBook k ∧ H30 k) (hl : P.length ≤ 8) : ∃ g, fX9_change F N w z = some (sI (sAJ w (z + 4) g) 905 z (zI (((b :: P).take 8).length : Nat))) ∧ ∀ j k, ((b :: P).take 8)[j]? = some k → MBook (fun q => g (1114 * (((b :: P).take 8).length - 1 - j) + q)) k := by
  unfold fX9_change
  by_cases c : P.length = 8
  · rw [H.1, if_pos (by rw [c]; rfl), rdR_is A.p904.1 A.p904.2.1]
    simp only [Option.bind_some]
    rw [z_0, z_1114, z_7798, cpJ_any (by omega) (by omega) (by omega) (by rw [A.p904.2.2]; omega) (by rw [A.p904.2.2]; omega) (by omega) (by omega)]
    simp only [Option.bind_some, bnd]
    have e1 : (1114 : Int).toNat = 1114 := rfl
    have e2 : (7798 : Int).toNat = 7798 := rfl
    have e3 : (0 : Int).toNat = 0 := rfl
    rw [e1, e2, e3]
    generalize hg : va_cpy (aJ w (z + 4)) (aJ w (z + 4)) 1114 0 7798 = g0
    have hw : sI (sAJ w (z + 4) g0) 905 z (gI (sAJ w (z + 4) g0) 905 z - 1) = sI (sAJ w (z + 4) g0) 905 z (zI (7 : Nat)) := by
      rw [show gI (sAJ w (z + 4) g0) 905 z = gI w 905 z from rfl, H.1, c]; rfl
    rw [hw]
    have eP : ∀ j, j < 7 → (P.take 7)[j]? = P[j]? := fun j hj => by rw [List.getElem?_take, if_pos hj]
    have lP : (P.take 7).length = 7 := by rw [List.length_take]; omega
    have M' : MBook (aJ (sI (sAJ w (z + 4) g0) 905 z (zI (7 : Nat))) (z + 2)) b := by
      rw [q_aJ_sI, q_aJ_sAJ, if_neg (by omega)]; exact M
    have H' : MPs (sI (sAJ w (z + 4) g0) 905 z (zI (7 : Nat))) z (P.take 7) := by
      refine ⟨by rw [lP]; exact (q_gI_sI _ _ _ _ _ _).trans (if_pos ⟨rfl, rfl⟩), fun j k hj => ?_⟩
      have hj7 : j < 7 := by
        obtain ⟨hlt, -⟩ := List.getElem?_eq_some_iff.mp hj
        omega
      rw [eP j hj7] at hj
      obtain ⟨hlt, he⟩ := List.getElem?_eq_some_iff.mp hj
      have v := V k (he ▸ List.getElem_mem hlt)
      refine (H.2 j k hj).congr v.1.1 v.2 fun q hq => ?_
      rw [q_aJ_sI, aJ_same, ← hg, cpy_is, if_pos (by omega), lP, c]
      congr 1
      omega
    obtain ⟨g, r1, r2⟩ := m_change_37 (N := N) (w := sI (sAJ w (z + 4) g0) 905 z (zI (7 : Nat))) A M' Gb hb H' (fun k hk => V k (List.mem_of_mem_take hk)) (by omega)
    have eT : (b :: P).take 8 = b :: P.take 7 := rfl
    refine ⟨g, ?_, fun j k hj => ?_⟩
    · rw [r1, eT, List.length_cons]
      rw [show sAJ (sI (sAJ w (z + 4) g0) 905 z (zI (7 : Nat))) (z + 4) g = sI (sAJ (sAJ w (z + 4) g0) (z + 4) g) 905 z (zI (7 : Nat)) from rfl, sAJ_sAJ, sI_sI]
    · rw [eT] at hj ⊢
      have r := r2 j k hj
      rw [List.length_cons]
      exact r
  · rw [H.1, if_neg (by simp (disch := omega) only [z_0, z_1, z_2, z_3, z_4, z_5, z_6, z_7, z_8, z_9, z_10, z_12, z_13, z_16, z_20, z_24, z_30, z_31, z_32, z_38, z_42, z_44, z_45, z_47, z_48, z_49, z_50, z_57, z_58, z_59, z_60, z_61, z_91, z_97, z_98, z_100, z_108, z_114, z_120, z_122, z_126, z_127, z_128, z_200, z_255, z_961, z_990, z_992, z_998, z_999, z_1000, z_1092, z_1114, z_7798, z_10000, z_1000000, zI_neg, zI_add, zI_sub, zI_mul, zI_lt, zI_le, zI_eq, if_pos, if_neg, if_true, if_false, Option.bind_some, bnd, ldI_is, ldJ_is, Int.toNat_natCast, ]; omega)]
    obtain ⟨g, r1, r2⟩ := m_change_37 (N := N) A M Gb hb H V (by omega)
    have eT : (b :: P).take 8 = b :: P := List.take_of_length_le (by rw [List.length_cons]; omega)
    refine ⟨g, ?_, fun j k hj => ?_⟩
    · rw [r1, eT, List.length_cons]
    · rw [eT] at hj ⊢
      rw [List.length_cons]
      exact r2 j k hj
def setps (s : St) (P : List Bk) : St := (snw s, ssv s, P, stx s, spt s, srf s, sbd s, sri s)
theorem MSt.change (h : MSt F w z s) (M : MBook (aJ w (z + 2)) b) (Gb : GBook b) (hb : H30 b) (V : ∀ k ∈ sps s, GBook k ∧ H30 k) (hl : (sps s).length ≤ 8) : ∃ w', fX9_change F N w z = some w' ∧ MSt F w' z (setps s ((b :: sps s).take 8)) ∧ Kp (Rg z 26) w w' ∧ gI w' 906 z = gI w 906 z := by
  obtain ⟨h1, h2, h3, h4, h5, h6, h7⟩ := h
  obtain ⟨g, r1, r2⟩ := m_change (N := N) h1 M Gb hb h4 V hl
  generalize hn : (zI (((b :: sps s).take 8).length : Nat)) = n at r1
  have e1 : aJ (sI (sAJ w (z + 4) g) 905 z n) (z + 1) = aJ w (z + 1) := by rw [q_aJ_sI, q_aJ_sAJ, if_neg (by omega)]
  have e3 : aJ (sI (sAJ w (z + 4) g) 905 z n) (z + 3) = aJ w (z + 3) := by rw [q_aJ_sI, q_aJ_sAJ, if_neg (by omega)]
  have e4 : aJ (sI (sAJ w (z + 4) g) 905 z n) (z + 4) = g := by rw [q_aJ_sI, aJ_same]
  have e10 : aJ (sI (sAJ w (z + 4) g) 905 z n) (z + 10) = aJ w (z + 10) := by rw [q_aJ_sI, q_aJ_sAJ, if_neg (by omega)]
  have eI : ∀ f, ¬ f = 905 → gI (sI (sAJ w (z + 4) g) 905 z n) f z = gI w f z := fun f hf => by rw [q_gI_sI, if_neg (fun c => hf c.1)]; rfl
  refine ⟨_, r1, ⟨h1, e1.symm ▸ h2, ⟨?_, e3.symm ▸ h3.2⟩, ⟨?_, ?_⟩, ⟨?_, h5.2⟩, ⟨?_, fun i e he => ?_⟩, ?_, ?_, ?_, ?_⟩, (kp_sAJ _ _ ⟨by omega, by omega⟩).trans (kp_sI _ _ ⟨Nat.le_refl _, by omega⟩), eI 906 (by omega)⟩
  · rw [eI 903 (by omega)]; exact h3.1
  · rw [q_gI_sI, if_pos ⟨rfl, rfl⟩, ← hn]; rfl
  · rw [e4]; exact r2
  · rw [eI 908 (by omega)]; exact h5.1
  · rw [eI 916 (by omega)]; exact h6.1
  · obtain ⟨a1, a2, a3, a4⟩ := h6.2 i e he
    exact ⟨a1, a2, e10.symm ▸ a3, a4⟩
  · rw [eI 912 (by omega)]; exact h7.1
  · rw [eI 913 (by omega)]; exact h7.2.1
  · rw [eI 911 (by omega)]; exact h7.2.2.1
  · rw [eI 946 (by omega)]; exact h7.2.2.2
end MWR
