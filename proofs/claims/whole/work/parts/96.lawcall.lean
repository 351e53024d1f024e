/-! the law: one call of both, compared -/
theorem MSt.kp {F : Fr} {S : Nat → Prop} {w w' : Wd} {z : Nat} {s : St} (h : MSt F w z s) (k : Kp S w w') (hs : ∀ x, z ≤ x → x < z + 26 → ¬ S x) : MSt F w' z s := by
  have n : ∀ o, o < 26 → ¬ S (z + o) := fun o ho => hs (z + o) (by omega) (by omega)
  have eg : ∀ f, gI w' f z = gI w f z := fun f => k.gI (n 0 (by omega)) f
  have er : ∀ f, gR w' f z = gR w f z := fun f => k.gR (n 0 (by omega)) f
  obtain ⟨h1, h2, h3, h4, h5, h6, h7⟩ := h
  refine ⟨?_, ?_, ?_, ?_, ?_, ?_, ?_⟩
  · unfold CMod MArr at *
    simp only [er]
    exact h1
  · rw [k.aJ (n 1 (by omega))]
    exact h2
  · unfold MSv at *
    rw [eg, k.aJ (n 3 (by omega))]
    exact h3
  · unfold MPs at *
    rw [eg, k.aJ (n 4 (by omega))]
    exact h4
  · unfold MTx at *
    rw [eg, k.aI (n 5 (by omega))]
    exact h5
  · unfold MPt MPe at *
    rw [eg, k.aI (n 8 (by omega)), k.aI (n 9 (by omega)), k.aJ (n 10 (by omega)), k.aI (n 11 (by omega))]
    exact h6
  · unfold MRe at *
    rw [eg, eg, eg, eg]
    exact h7
theorem CSt.off {F : Fr} {S : Nat → Prop} {w w' : Wd} {h : Nat} {s : St} (C : CSt F w h s) (k : Kp S w w') (hs : ∀ x, S x → h + 661 ≤ x ∧ x < h + 1000000) : CSt F w' h s := by
  obtain ⟨zp, zn, C⟩ := C
  exact ⟨zp, zn, C.upO k hs EqX.rf⟩
/-- what the law's catching call comes to -/
def pik : List Nat → Int → Nat × Wd → Option (Int32 × Wd)
  | [], _, _ => none
  | k :: K, c, e => if e.1 = k then some (zI c, e.2) else pik K (c + 1) e
def wrp (F : Fr) (l3 : Nat) (K : List Nat) (x : Option ((Int32 × Wd) ⊕ (Nat × Wd))) : Option (Int32 × Wd) :=
  x.bind (Sum.elim (fun p1 => (stJ F p1.2 l3 0 p1.1.toInt64).bind fun w3 => some (0, w3)) (fun e2 => pik K 1 e2))
def WK (h : Nat) : Nat → Prop := fun q => Rg h 661 q ∨ q = h + 687 ∨ q = h + 688
def LO (F : Fr) (h : Nat) (w : Wd) (r : Rs) (p : Int32 × Wd) : Prop := p.1 = zI r.1 ∧ (0 ≤ r.1 ∧ r.1 ≤ 100) ∧ (r.1 = 0 → aJ p.2 (h + 687) 0 = r.2.1.toInt64) ∧ CSt F p.2 h r.2.2 ∧ Kp (WK h) w p.2
/-- the law's own arrays -/
def LF (F : Fr) (h : Nat) : Prop := F.2.1 (h + 687) = 1 ∧ F.2.1 (h + 688) = 1
def Inv (F : Fr) (w : Wd) (h : Nat) (s : St) : Prop := VSt s ∧ CSt F w h s ∧ MSt F w (h + 661) s
theorem pik_is : ∀ (K : List Nat) (c0 : Int) (c : Nat) (e : Nat × Wd), K.Nodup → K[c]? = some e.1 → pik K c0 e = some (zI (c0 + (c : Int)), e.2) := by
  intro K
  induction K with
  | nil => intro c0 c e _ h; cases h
  | cons k K ih =>
    intro c0 c e nd h
    obtain ⟨nd1, nd2⟩ := List.nodup_cons.mp nd
    unfold pik
    cases c with
    | zero =>
      have e1 : k = e.1 := Option.some.inj h
      rw [if_pos e1.symm]
      congr 2
      congr 1
      omega
    | succ c =>
      have h2 : K[c]? = some e.1 := h
      have hm : e.1 ∈ K := List.mem_of_getElem? h2
      rw [if_neg (c := e.1 = k) (fun e1 => nd1 (e1 ▸ hm)), ih (c0 + 1) c e nd2 h2]
      congr 2
      congr 1
      omega
section LAWC
variable {F : Fr} {N : Nat} {w : Wd} {h : Nat} {s : St} {r : Rs} {K : List Nat}
theorem wrp_is (A : LF F h) {x : Option ((Int32 × Wd) ⊕ (Nat × Wd))} (nd : K.Nodup) (hl : K.length ≤ 99) (hx : Ev x (CO F h w K r)) : Ev (wrp F (h + 687) K x) (LO F h w r) := by
  obtain ⟨y, rfl, hy⟩ := hx
  cases y with
  | inl p =>
    obtain ⟨h1, h2, h3, h4⟩ := hy
    show Ev ((stJ F p.2 (h + 687) 0 p.1.toInt64).bind fun w3 => some ((0 : Int32), w3)) _
    refine ev_eq (stJ_is (i := 0) (v := p.1.toInt64) (Int.le_refl _) (by rw [A.1]; decide) (by decide)) (ev_some ⟨?_, ?_, ?_, ?_, ?_⟩)
    · rw [h1]; rfl
    · omega
    · intro _
      rw [← h2, aJ_same, updL_is]
      exact if_pos rfl
    · exact h3.off (S := fun q => q = h + 687) (kp_sAJ _ _ rfl) (fun x hx => by omega)
    · exact (h4.mono (fun a ha => Or.inl ha)).trans (kp_sAJ _ _ (Or.inr (Or.inl rfl)))
  | inr p =>
    obtain ⟨⟨c, h1, h2⟩, h3, h4⟩ := hy
    have hc := (List.getElem?_eq_some_iff.mp h2).1
    show Ev (pik K 1 p) _
    rw [pik_is K 1 c p nd h2]
    refine ev_some ⟨?_, ?_, ?_, h3, h4.mono (fun a ha => Or.inl ha)⟩
    · show zI (1 + (c : Int)) = zI r.1
      rw [h1]
      exact congrArg zI (by omega)
    · omega
    · intro e; omega
def tl (F : Fr) (N : Nat) (w1 : Wd) (l2 l3 : Nat) (k v : Int32) (C : Option Unit) : Option Unit :=
  (fX9_thrown F N w1 l2).bind fun x => if x = k then (if k = 0 then (ldJ F w1 l3 0).bind fun y => if (lg_cmp y v.toInt64) = 0 then C else none else C) else none
theorem tl_is (A : LF F h) {w1 : Wd} {v k : Int32} {C : Option Unit} {c : Int} {u : Int32} (h1 : gI w1 906 (h + 661) = zI c) (h2 : k = zI c) (hc : 0 ≤ c ∧ c ≤ 100) (h3 : c = 0 → v = u) (h4 : c = 0 → aJ w1 (h + 687) 0 = u.toInt64) (hC : C = some ()) : tl F N w1 (h + 661) (h + 687) k v C = some () := by
  unfold tl fX9_thrown
  rw [Option.bind_some, h1, h2, if_pos rfl]
  by_cases e : c = 0
  · rw [if_pos (by rw [e]; rfl), show ldJ F w1 (h + 687) 0 = some (aJ w1 (h + 687) 0) from ldJ_is (i := 0) (Int.le_refl _) (by rw [A.1]; decide) (by decide), Option.bind_some, h4 e, h3 e, if_pos (by rw [lg_cmp_eq]), hC]
  · rw [if_neg (by simp (disch := omega) only [z_0, z_1, z_2, z_3, z_4, z_5, z_6, z_7, z_8, z_9, z_10, z_12, z_13, z_16, z_20, z_24, z_30, z_31, z_32, z_38, z_42, z_44, z_45, z_47, z_48, z_49, z_50, z_57, z_58, z_59, z_60, z_61, z_91, z_97, z_98, z_100, z_108, z_114, z_120, z_122, z_126, z_127, z_128, z_200, z_255, z_961, z_990, z_992, z_998, z_999, z_1000, z_1092, z_1114, z_7798, z_10000, z_1000000, zI_neg, zI_add, zI_sub, zI_mul, zI_lt, zI_le, zI_eq, if_pos, if_neg, if_true, if_false, Option.bind_some, bnd, ldI_is, ldJ_is, Int.toNat_natCast, ]; exact e), hC]
theorem off_m {x : Nat} (hx : h + 661 ≤ x) (hy : x < h + 661 + 26) : ¬ WK h x := by
  unfold WK Rg
  omega
/-- one call of both -/
theorem stp (A : LF F h) (I : Inv F w h s) {x8 : Option ((Int32 × Wd) ⊕ (Nat × Wd))} {m9 : Wd → Option (Int32 × Wd)} (nd : K.Nodup) (hl : K.length ≤ 99) (hV : VSt r.2.2) (hx : Ev x8 (CO F h w K r)) (hm : ∀ w1, MSt F w1 (h + 661) s → Ev (m9 w1) (MO F (h + 661) w1 r))
    {k28 : Wd → Option Unit} (hk : ∀ w', Inv F w' h r.2.2 → k28 w' = some ()) :
    ((wrp F (h + 687) K x8).bind fun p => (m9 p.2).bind fun q => tl F N q.2 (h + 661) (h + 687) p.1 q.1 (k28 q.2)) = some () := by
  obtain ⟨p, hp, p1, p2, p3, p4, p5⟩ := wrp_is A nd hl hx
  rw [hp, Option.bind_some]
  obtain ⟨q, hq, q1, q2, q3, q4⟩ := hm p.2 (I.2.2.kp p5 (fun x h1 h2 => off_m h1 h2))
  rw [hq, Option.bind_some]
  refine tl_is A (c := r.1) (u := r.2.1) q1 p1 p2 q2 (fun e => ?_) (hk _ ⟨hV, ?_, q3⟩)
  · rw [q4.aJ (by unfold Rg; omega)]
    exact p3 e
  · exact p4.off q4 (fun x hx => by unfold Rg at hx; omega)
/-- a call that throws nothing, compared at once -/
theorem stp0 (I : Inv F w h s) {u : Int32} {s' : St} (hV : VSt s') {x8 : Option (Int32 × Wd)} {m9 : Wd → Option (Int32 × Wd)} (hx : Ev x8 (fun x => x.1 = u ∧ CSt F x.2 h s' ∧ Kp (Rg h 661) w x.2)) (hm : ∀ w1, MSt F w1 (h + 661) s → Ev (m9 w1) (fun x => x.1 = u ∧ MSt F x.2 (h + 661) s' ∧ Kp (Rg (h + 661) 26) w1 x.2))
    {k28 : Wd → Option Unit} (hk : ∀ w', Inv F w' h s' → k28 w' = some ()) :
    (x8.bind fun p => (m9 p.2).bind fun q => if p.1 = q.1 then k28 q.2 else none) = some () := by
  obtain ⟨p, hp, p1, p2, p3⟩ := hx
  rw [hp, Option.bind_some]
  obtain ⟨q, hq, q1, q2, q3⟩ := hm p.2 (I.2.2.kp p3 (fun x h1 h2 => by unfold Rg; omega))
  rw [hq, Option.bind_some, if_pos (p1.trans q1.symm)]
  exact hk _ ⟨hV, p2.off q3 (fun x hx => by unfold Rg at hx; omega), q2⟩
/-- the script, read -/
theorem ldS_is {L : Nat} {xs : Nat → Int32} {i : Nat} (h1 : i < L) (h2 : L ≤ 2560) : ∃ a : Int, I32 a ∧ ldS L xs (zI i) = some (zI a) := by
  obtain ⟨a, h3, h4, h5⟩ := zI_of (xs i)
  refine ⟨a, ⟨h3, h4⟩, ?_⟩
  unfold ldS
  have n1 : ¬ (zI (i : Int) < 0) := by simp (disch := omega) only [z_0, z_1, z_2, z_3, z_4, z_5, z_6, z_7, z_8, z_9, z_10, z_12, z_13, z_16, z_20, z_24, z_30, z_31, z_32, z_38, z_42, z_44, z_45, z_47, z_48, z_49, z_50, z_57, z_58, z_59, z_60, z_61, z_91, z_97, z_98, z_100, z_108, z_114, z_120, z_122, z_126, z_127, z_128, z_200, z_255, z_961, z_990, z_992, z_998, z_999, z_1000, z_1092, z_1114, z_7798, z_10000, z_1000000, zI_neg, zI_add, zI_sub, zI_mul, zI_lt, zI_le, zI_eq, if_pos, if_neg, if_true, if_false, Option.bind_some, bnd, ldI_is, ldJ_is, Int.toNat_natCast,  Int.not_lt]; omega
  have n2 : (zI (i : Int)).toNatClampNeg = i := by rw [zI_nat (by omega) (by omega), Int.toNat_natCast]
  rw [n2, if_neg (fun e => e.elim n1 (fun e2 => by omega)), h5]
theorem ite_tt {c : Prop} {dc : Decidable c} {x y : Option Unit} (h1 : c → x = some ()) (h2 : ¬ c → y = some ()) : (if c then x else y) = some () := by
  by_cases e : c
  · rw [if_pos e]; exact h1 e
  · rw [if_neg e]; exact h2 e
theorem zb_is {a : Int} (ha : I32 a) {α : Type} (x y : α) : (if zI a = 0 then x else y) = if (decide (a = 0)) = true then x else y := by
  by_cases e : a = 0
  · rw [if_pos (by rw [e]; rfl), if_pos (by rw [decide_eq_true_eq]; exact e)]
  · rw [if_neg (by simp (disch := omega) only [z_0, z_1, z_2, z_3, z_4, z_5, z_6, z_7, z_8, z_9, z_10, z_12, z_13, z_16, z_20, z_24, z_30, z_31, z_32, z_38, z_42, z_44, z_45, z_47, z_48, z_49, z_50, z_57, z_58, z_59, z_60, z_61, z_91, z_97, z_98, z_100, z_108, z_114, z_120, z_122, z_126, z_127, z_128, z_200, z_255, z_961, z_990, z_992, z_998, z_999, z_1000, z_1092, z_1114, z_7798, z_10000, z_1000000, zI_neg, zI_add, zI_sub, zI_mul, zI_lt, zI_le, zI_eq, if_pos, if_neg, if_true, if_false, Option.bind_some, bnd, ldI_is, ldJ_is, Int.toNat_natCast, ]; exact e), if_neg (by rw [decide_eq_true_eq]; exact e)]
end LAWC
theorem ldS_0 {L : Nat} {xs : Nat → Int32} {i : Nat} (h1 : i + 5 ≤ L) (h2 : L ≤ 2560) : ∃ a : Int, I32 a ∧ ldS L xs (zI i) = some (zI a) := ldS_is (by omega) h2
theorem ldS_1 {L : Nat} {xs : Nat → Int32} {i : Nat} (h1 : i + 5 ≤ L) (h2 : L ≤ 2560) : ∃ a : Int, I32 a ∧ ldS L xs (zI i + 1) = some (zI a) := by
  rw [show zI (i : Int) + 1 = zI ((i + 1 : Nat) : Int) from zI_add i 1]
  exact ldS_is (by omega) h2
theorem ldS_2 {L : Nat} {xs : Nat → Int32} {i : Nat} (h1 : i + 5 ≤ L) (h2 : L ≤ 2560) : ∃ a : Int, I32 a ∧ ldS L xs (zI i + 2) = some (zI a) := by
  rw [show zI (i : Int) + 2 = zI ((i + 2 : Nat) : Int) from zI_add i 2]
  exact ldS_is (by omega) h2
theorem ldS_3 {L : Nat} {xs : Nat → Int32} {i : Nat} (h1 : i + 5 ≤ L) (h2 : L ≤ 2560) : ∃ a : Int, I32 a ∧ ldS L xs (zI i + 3) = some (zI a) := by
  rw [show zI (i : Int) + 3 = zI ((i + 3 : Nat) : Int) from zI_add i 3]
  exact ldS_is (by omega) h2
theorem ldS_4 {L : Nat} {xs : Nat → Int32} {i : Nat} (h1 : i + 5 ≤ L) (h2 : L ≤ 2560) : ∃ a : Int, I32 a ∧ ldS L xs (zI i + 4) = some (zI a) := by
  rw [show zI (i : Int) + 4 = zI ((i + 4 : Nat) : Int) from zI_add i 4]
  exact ldS_is (by omega) h2
