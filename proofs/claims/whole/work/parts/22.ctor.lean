/-! making objects: the address behind the last is h, and moves -/
def zO (w : Wd) (h : Nat) : Wd := (fun f b => if b = h then 0 else w.1 f b, fun f b => if b = h then 0 else w.2.1 f b, fun f b => if b = h then none else w.2.2.1 f b, fun b => if b = h then (fun _ => 0) else w.2.2.2.1 b, fun b => if b = h then (fun _ => 0) else w.2.2.2.2.1 b, fun b => if b = h then (fun _ => none) else w.2.2.2.2.2.1 b, fun b => if b = h then (fun _ => 0) else w.2.2.2.2.2.2 b)
def sl0 : Sl := (fun _ => 0, fun _ => 0, fun _ => none, fun _ => 0, fun _ => 0, fun _ => none, fun _ => 0)
theorem slice_zO (w : Wd) (h : Nat) : slice (zO w h) h = sl0 := by simp [slice, zO, sl0]
theorem slice_zO_ne (w : Wd) {h b : Nat} (hb : b ≠ h) : slice (zO w h) b = slice w b := by simp [slice, zO, hb]
/-- room for c more cells below h0 + mc -/
def ckH (h0 h mc c : Nat) : Option Unit := if h0 ≤ h ∧ h + c ≤ h0 + mc then some () else none
/-- the next address has the kind k -/
def ckN (F : Fr) (h k : Nat) : Option Unit := if F.2.2.1 ≤ h ∧ F.1 h = k then some () else none
/-- .. and the length n -/
def ckL (F : Fr) (h k n : Nat) : Option Unit := if F.2.2.1 ≤ h ∧ F.1 h = k ∧ F.2.1 h = n then some () else none
def ckE (h h1 : Nat) : Option Unit := if h = h1 then some () else none
theorem okF_up {F : Fr} {h h' a k : Nat} (hh : h ≤ h') (o : okF (Fto F h) a k) : okF (Fto F h') a k := ⟨o.1, Nat.lt_of_lt_of_le o.2.1 hh, o.2.2⟩
section BDN
variable {ρ : Type} {g : Bd} {G : Gy} {F : Fr} {cc : ByteArray} {own : String} {nL : Nat} {R : Room} {Q : ρ → State → Prop} {k n : Nat} {den : Option ρ} {w : Wd} {pc : Nat} {lv : List (Nat × Value)} {st : List Value}
theorem bd_ckH {h0 h mc c : Nat} {kf : Unit → Option ρ} (h9 : h0 ≤ h → h + c ≤ h0 + mc → BD g G F nL Q k n (kf ()) w pc lv st) : BD g G F nL Q k n ((ckH h0 h mc c).bind kf) w pc lv st := by
  unfold ckH
  by_cases c9 : h0 ≤ h ∧ h + c ≤ h0 + mc
  · rw [if_pos c9]; exact h9 c9.1 c9.2
  · rw [if_neg c9]; exact bd_none
theorem bd_objInit (C : Cx g G F cc own nL R) {idx : Nat} (hl : WD (.methodLink own idx objectInit)) (hi : WD (.instanceMethod objectInit)) (hc : WD (.code objectInit ⟨#[0xb1]⟩ 1 none)) {a : Nat} (hd : decode cc pc = .ok (.invokespecial idx, 3)) (hR : 1 ≤ R.frames ∧ (st.map fun v => v.category).sum + 12 ≤ R.locals) (h : BD g G F nL Q k n den w (pc + 3) lv st) : BD g G F nL Q k n den w pc lv (.ref a :: st) := by
  intro r hr H locs ls hP hS hl'
  refine W.objInit C.exec C.code C.cls0 (C.wd hl) (C.wd hi) (C.wd hc) rfl (by rw [C.maxl]; exact hl'.1) rfl hd (by rw [C.room]; exact hR.1) (by rw [C.room]; show 2 * 0 + _ + 12 ≤ _; have := hR.2; omega) ?_
  exact h r hr H locs ls hP hS hl'
theorem HP.made {H H1 : Heap} {h : Nat} (hcm : F.2.2.2.2 = true) (hP : HP G (Fto F h) w H) (z1 : H1.size = H.size + 1) (o1 : ∀ q : Nat, q < H.size → H1[q]? = H[q]?) (he : va_at G.1 myCl (h, cellK G.2 (F.2.1 h) sl0 (F.1 h)) H1) : HP G (Fto F (h + 1)) (zO w h) H1 := by
  have hs : H.size = h := hP.2 hcm
  refine ⟨fun a h1 h2 => ?_, fun _ => by rw [z1, hs]; rfl⟩
  by_cases ha : a = h
  · subst ha
    rw [slice_zO]
    exact he
  · rw [slice_zO_ne w ha]
    have h3 : a < h := by
      have : a < h + 1 := h2
      omega
    exact (hP.1 a h1 h3).kept (o1 a (by rw [hs]; exact h3))
theorem va_S.made {A : Nat → Prop} {H0 H H1 : Heap} {locs : List Loc} (hS : va_S A H0 H locs) (z1 : H1.size = H.size + 1) (o1 : ∀ q : Nat, q < H.size → H1[q]? = H[q]?) : va_S A H0 H1 locs :=
  ⟨Nat.le_trans hS.1 (by omega), fun x h1 h2 => (o1 x (Nat.lt_of_lt_of_le h1 hS.1)).trans (hS.2.1 x h1 h2), hS.2.2⟩
theorem bd_newO {h h0 mc SB : Nat} (C : Cx g G (Fto F h) cc own nL R) (hcm : F.2.2.2.2 = true) {kk N index : Nat} {Cn : String} {T : u_T} {ty0 : Nat → FieldType} (hc : myCl[kk]? = some (Cn, T, N)) (hk : kk < 10) (hin : ∀ x ∈ u_ws Cn T N, WD x) (hT : FT T N ty0) (hfs : ∀ j, j < N → defaultValue (ty0 j) = vp_V (fieldsOf sl0 kk) j)
    (wc : WD (.classLink own index Cn)) (wi : WD (.instantiable Cn N)) (wz : WD (.initialized Cn)) (hd : decode cc pc = .ok (.new index, 3)) {kf : Wd → Option ρ} (hR : mc ≤ R.cells ∧ SB * mc ≤ R.slots ∧ N ≤ SB)
    (h9 : h0 ≤ h → okF (Fto F (h + 1)) h kk → (∀ a k, okF (Fto F h) a k → okF (Fto F (h + 1)) a k) → ∀ w1, BD g G (Fto F (h + 1)) nL Q (h + 1 - h0) (SB * (h + 1 - h0)) (kf w1) w1 (pc + 3) lv (.ref h :: st)) :
    BD g G (Fto F h) nL Q (h - h0) (SB * (h - h0)) ((ckH h0 h mc 1).bind fun _ => (ckN F h kk).bind fun _ => bnd (zO w h) kf) w pc lv st := by
  refine bd_ckH (fun c1 c2 => ?_)
  intro r hr H locs ls hP hS hl
  obtain ⟨u, hu, hr⟩ := Option.bind_eq_some_iff.mp hr
  unfold ckN at hu
  by_cases c3 : F.2.2.1 ≤ h ∧ F.1 h = kk
  · have hs : H.size = h := hP.2 hcm
    have hKn := C.kk.1 kk _ hc
    have hts : ∀ x ∈ u_ws Cn T N, x.before (ba g) (bs g) = true := fun x hx => C.wd (hin x hx)
    have e8 : h + 1 - h0 = (h - h0) + 1 := by omega
    have e7 : SB * (h + 1 - h0) = SB * (h - h0) + SB := by rw [e8]; exact Nat.mul_succ _ _
    refine W.widen (k := h - h0) (n := SB * (h - h0)) (Nat.le_refl _) (Nat.le_refl _) ?_
    refine W.newcK C.exec C.code C.cls0 (C.wd wc) (C.wd wi) (C.wd wz) rfl hd (by rw [C.room]; omega) (by
      rw [C.room]
      have h5 : SB * (h - h0 + 1) ≤ SB * mc := Nat.mul_le_mul_left SB (by omega)
      have h6 : SB * (h - h0 + 1) = SB * (h - h0) + SB := Nat.mul_succ _ _
      omega) hKn.2.1 rfl fun H1 kC hkC e1 z1 o1 => ?_
    refine W.widen (k := h + 1 - h0) (n := SB * (h + 1 - h0)) (by omega) (by omega) ?_
    have e1' := e1
    rw [hs] at e1'
    have he : va_at G.1 myCl (h, cellK G.2 (F.2.1 h) sl0 (F.1 h)) H1 := by
      rw [c3.2]
      have e : cellK G.2 (F.2.1 h) sl0 kk = .inr (kk, fieldsOf sl0 kk) := if_pos hk
      rw [e]
      exact ⟨_, hc, (u_born ty0 hts (fun _ h9 => h9) hKn hkC e1' hT.1).to hfs⟩
    have hkk := h9 c1 ⟨c3.1, Nat.lt_succ_self h, c3.2⟩ (fun a k o => okF_up (Nat.le_succ h) o) _ r hr H1 locs ls (hP.made hcm z1 o1 he) (hS.made z1 o1) hl
    show W _ _ _ _ _ _ _ _ _ _ _ _ _ _ _ (F0 (bm g) (pc + 3) ls (.ref H.size :: st))
    rw [hs]
    exact hkk
  · rw [if_neg c3] at hu; cases hu
theorem bd_newA {h h0 mc SB : Nat} (C : Cx g G (Fto F h) cc own nL R) (hcm : F.2.2.2.2 = true) {kk : Nat} (t0 : Nat) {atype : ArrayType} {ty : FieldType} (hty : newarray.typeOf atype = ty) (hk : ¬ kk < 10) (ht : (tysOf G.2)[t0]? = some (G.2 kk, ty)) (harr : WD (.arrayClass ty)) {i : Int32} {N : Nat} (hi : ¬ i < 0) (hN : i.toNatClampNeg = N) (hbytes : N * componentBytes ty ≤ 536870912)
    (hprim : va_RA (bs g) (G.2 kk) ty → (bs g).vm.findClass ("[" ++ ty.toString) = some (G.2 kk)) (hz : vp_cell (G.2 kk) (N, rowOf sl0 kk) = arrV (G.2 kk) N (fun _ => defaultValue ty))
    (hd : decode cc pc = .ok (.newarray atype, 2)) {kf : Wd → Option ρ} (hR : mc ≤ R.cells ∧ SB * mc ≤ R.slots ∧ N ≤ SB)
    (h9 : h0 ≤ h → okF (Fto F (h + 1)) h kk → (∀ a k, okF (Fto F h) a k → okF (Fto F (h + 1)) a k) → ∀ w1, BD g G (Fto F (h + 1)) nL Q (h + 1 - h0) (SB * (h + 1 - h0)) (kf w1) w1 (pc + 2) lv (.ref h :: st)) :
    BD g G (Fto F h) nL Q (h - h0) (SB * (h - h0)) ((ckH h0 h mc 1).bind fun _ => (ckL F h kk N).bind fun _ => bnd (zO w h) kf) w pc lv (.int i :: st) := by
  refine bd_ckH (fun c1 c2 => ?_)
  intro r hr H locs ls hP hS hl
  obtain ⟨u, hu, hr⟩ := Option.bind_eq_some_iff.mp hr
  unfold ckL at hu
  by_cases c3 : F.2.2.1 ≤ h ∧ F.1 h = kk ∧ F.2.1 h = N
  · have hs : H.size = h := hP.2 hcm
    have e8 : h + 1 - h0 = (h - h0) + 1 := by omega
    have e7 : SB * (h + 1 - h0) = SB * (h - h0) + SB := by rw [e8]; exact Nat.mul_succ _ _
    subst hty
    refine va_newaK C.exec C.code (C.wd harr) rfl hd rfl hi hN hbytes (by rw [C.room]; omega) (by
      rw [C.room]
      have h5 : SB * (h - h0 + 1) ≤ SB * mc := Nat.mul_le_mul_left SB (by omega)
      have h6 : SB * (h - h0 + 1) = SB * (h - h0) + SB := Nat.mul_succ _ _
      omega) rfl fun H1 cA e1 z1 o1 hAr hNm => ?_
    refine W.widen (k := h + 1 - h0) (n := SB * (h + 1 - h0)) (by omega) (by omega) ?_
    have hcA : cA = G.2 kk := Option.some.inj (hNm.symm.trans (hprim (C.kk.2 t0 _ ht).2))
    subst hcA
    rw [hs] at e1
    have he : va_at G.1 myCl (h, cellK G.2 (F.2.1 h) sl0 (F.1 h)) H1 := by
      rw [c3.2.1, c3.2.2]
      have e : cellK G.2 N sl0 kk = .inl (G.2 kk, N, rowOf sl0 kk) := if_neg hk
      rw [e]
      show H1[h]? = some (vp_cell (G.2 kk) (N, rowOf sl0 kk))
      rw [hz]
      exact e1
    have hkk := h9 c1 ⟨c3.1, Nat.lt_succ_self h, c3.2.1⟩ (fun a k o => okF_up (Nat.le_succ h) o) _ r hr H1 locs ls (hP.made hcm z1 o1 he) (hS.made z1 o1) hl
    show W _ _ _ _ _ _ _ _ _ _ _ _ _ _ _ (F0 (bm g) (pc + 2) ls (.ref H.size :: st))
    rw [hs]
    exact hkk
  · rw [if_neg c3] at hu; cases hu
end BDN
