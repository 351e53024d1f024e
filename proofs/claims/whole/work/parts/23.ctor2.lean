section BDN2
variable {ρ : Type} {g : Bd} {G : Gy} {F : Fr} {cc : ByteArray} {own : String} {nL : Nat} {R : Room} {Q : ρ → State → Prop} {k n : Nat} {den : Option ρ} {w : Wd} {pc : Nat} {lv : List (Nat × Value)} {st st0 : List Value}
theorem Cx.to {h : Nat} (C : Cx g G (Fto F h) cc own nL R) (h' : Nat) : Cx g G (Fto F h') cc own nL R := C
theorem bd_newR {h h0 mc SB : Nat} (C : Cx g G (Fto F h) cc own nL R) (hcm : F.2.2.2.2 = true) {kk : Nat} (t0 : Nat) {Cn : String} {index : Nat} (hk : ¬ kk < 10) (ht : (tysOf G.2)[t0]? = some (G.2 kk, .object Cn)) (hcl : WD (.classLink own index Cn)) (hov : va_AO Cn (bs g)) {i : Int32} {N : Nat} (hi : ¬ i < 0) (hN : i.toNatClampNeg = N) (hbytes : N * 4 ≤ 536870912)
    (hz : vp_cell (G.2 kk) (N, rowOf sl0 kk) = arrV (G.2 kk) N (fun _ => .null))
    (hd : decode cc pc = .ok (.anewarray index, 3)) {kf : Wd → Option ρ} (hR : mc ≤ R.cells ∧ SB * mc ≤ R.slots ∧ N ≤ SB)
    (h9 : h0 ≤ h → okF (Fto F (h + 1)) h kk → (∀ a k, okF (Fto F h) a k → okF (Fto F (h + 1)) a k) → ∀ w1, BD g G (Fto F (h + 1)) nL Q (h + 1 - h0) (SB * (h + 1 - h0)) (kf w1) w1 (pc + 3) lv (.ref h :: st)) :
    BD g G (Fto F h) nL Q (h - h0) (SB * (h - h0)) ((ckH h0 h mc 1).bind fun _ => (ckL F h kk N).bind fun _ => bnd (zO w h) kf) w pc lv (.int i :: st) := by
  refine bd_ckH (fun c1 c2 => ?_)
  intro r hr H locs ls hP hS hl
  obtain ⟨u, hu, hr2⟩ := Option.bind_eq_some_iff.mp hr
  unfold ckL at hu
  by_cases c3 : F.2.2.1 ≤ h ∧ F.1 h = kk ∧ F.2.1 h = N
  · have hs : H.size = h := hP.2 hcm
    have e8 : h + 1 - h0 = (h - h0) + 1 := by omega
    have e7 : SB * (h + 1 - h0) = SB * (h - h0) + SB := by rw [e8]; exact Nat.mul_succ _ _
    subst hN
    refine W.anew C.exec C.code C.cls0 (C.wd hcl) (va_AO.use hov) rfl hd rfl hi hbytes (by rw [C.room]; omega) (by
      rw [C.room]
      have h5 : SB * (h - h0 + 1) ≤ SB * mc := Nat.mul_le_mul_left SB (by omega)
      have h6 : SB * (h - h0 + 1) = SB * (h - h0) + SB := Nat.mul_succ _ _
      omega) fun cA kA comp f1 f2 f3 f4 => ?_
    refine W.widen (k := h + 1 - h0) (n := SB * (h + 1 - h0)) (by omega) (by omega) ?_
    generalize hH1 : H.push ({ cls := cA, slots := Array.replicate i.toNatClampNeg .null, vm := .none } : Cell) = H1
    have z1 : H1.size = H.size + 1 := by rw [← hH1, Array.size_push]
    have e1 : H1[H.size]? = some (arrV cA i.toNatClampNeg (fun _ => .null)) := by rw [← hH1, Array.getElem?_push_size, ← arrV_new]
    have o1 : ∀ q : Nat, q < H.size → H1[q]? = H[q]? := fun q hq => by rw [← hH1, Array.getElem?_push, if_neg (Nat.ne_of_lt hq)]
    have hcA : cA = G.2 kk := by
      obtain ⟨_, _, _, _, _, h4⟩ := (C.kk.2 t0 _ ht).2
      first
        | exact Option.some.inj (f4.symm.trans h4)
        | exact Option.some.inj (f1.symm.trans h4)
    subst hcA
    rw [hs] at e1
    have he : va_at G.1 myCl (h, cellK G.2 (F.2.1 h) sl0 (F.1 h)) H1 := by
      rw [c3.2.1, c3.2.2]
      have e : cellK G.2 i.toNatClampNeg sl0 kk = .inl (G.2 kk, i.toNatClampNeg, rowOf sl0 kk) := if_neg hk
      rw [e]
      show H1[h]? = some (vp_cell (G.2 kk) (i.toNatClampNeg, rowOf sl0 kk))
      rw [hz]
      exact e1
    have hkk := h9 c1 ⟨c3.1, Nat.lt_succ_self h, c3.2.1⟩ (fun a k o => okF_up (Nat.le_succ h) o) _ r hr2 H1 locs ls (hP.made hcm z1 o1 he) (hS.made z1 o1) hl
    show W _ _ _ _ _ _ _ _ _ _ _ _ _ _ _ (F0 (bm g) (pc + 3) ls (.ref H.size :: st))
    rw [hs]
    exact hkk
  · rw [if_neg c3] at hu; cases hu
theorem bd_aast (C : Cx g G F cc own nL R) {a v ka ci : Nat} {i : Int32} {Cn : String} {T : u_T} {N t0 : Nat} (hka : (¬ ka < 10) ∧ ka ≠ 12 ∧ ka ≠ 16 ∧ (ka = 14 ∨ ka = 15)) (hci : ci < 10) (hc : myCl[ci]? = some (Cn, T, N)) (ht : (tysOf G.2)[t0]? = some (G.2 ka, .object Cn)) {kf : Wd → Option ρ} (hd : decode cc pc = .ok (.aastore, 1)) (ha : okF F a ka) (hv : okF F v ci) (h : ∀ w1, BD g G F nL Q k n (kf w1) w1 (pc + 1) lv st) : BD g G F nL Q k n ((stR F w a i v).bind kf) w pc lv (.ref v :: .int i :: .ref a :: st) := by
  intro r hr H locs ls hP hS hl
  obtain ⟨w9, hw, hk⟩ := Option.bind_eq_some_iff.mp hr
  obtain ⟨h1, rfl⟩ := ck_spec hw
  have hlt : i.toNatClampNeg < F.2.1 a := Nat.not_le.mp fun q => h1 (Or.inr q)
  have h0 : ¬ i < 0 := fun q => h1 (Or.inl q)
  have hrow : ∀ sl : Sl, rowOf sl ka = .inr (.inr (.inr (.inr sl.2.2.2.2.2.1))) := by
    intro sl
    rcases hka.2.2.2 with rfl | rfl <;> rfl
  have hcell : H[a]? = some (vp_cell (G.2 ka) (F.2.1 a, .inr (.inr (.inr (.inr (aR w a)))))) := by
    have := hP.arr ha hka.1
    rw [hrow] at this
    exact this
  obtain ⟨r', hr', cellV, g1, g2, g3, -⟩ := hP.obj hv hci 0 _ rfl
  have hcls := (C.kk.1 ci _ hc).2
  obtain ⟨kA, comp, k1, k2, k3, -⟩ := (C.kk.2 t0 _ ht).2
  have hcomp : comp = G.1.1 ci := Option.some.inj (k3.symm.trans hcls.1)
  subst hcomp
  obtain ⟨kC, hkC, -⟩ := hcls.2
  refine W.aast C.exec C.code hcell (fun q h => by cases h) (fun h => by cases h) k1 k2 rfl hkC ⟨h0, by show _ < (arrV _ _ _).slots.size; rw [arrV_size]; exact hlt⟩ g1 (fun q h => by rw [g3] at h; cases h) (by rw [g2]; exact hkC) (by rw [g2]; exact va_assign hcls) rfl rfl hd fun H1 e z oq => ?_
  refine h _ r hk H1 _ ls (hP.set ha ?_ z oq (fun b hb => slice_sAR w _ hb)) (hS.put z oq ha.1) hl
  have e9 : cellK G.2 (F.2.1 a) (slice (sAR w a (va_up (aR w a) i.toNatClampNeg (some v))) a) ka = .inl (G.2 ka, F.2.1 a, .inr (.inr (.inr (.inr (va_up (aR w a) i.toNatClampNeg (some v)))))) := by
    rw [cellK, if_neg hka.1, hrow, row_sAR]
  rw [e9]
  show H1[a]? = some (vp_cell _ _)
  rw [e]
  rw [vp_cell_q, vp_cell_q, arrV_store]
  congr 2
  funext q
  by_cases hq : q = i.toNatClampNeg
  · subst hq
    simp [updV, va_up, va_rf]
  · simp [updV, va_up, hq]
theorem bd_metC {l : Launch} {y : MethodName} {maxL mc ms : Nat} {ret : Option FieldType} {rm : Room} {av : List Value} {r : Wd} {F1 F2 : Fr} {den : Option Wd} (hl : l.stackTraces = false) (hy : plainName y.cls = true) (hav : (lg_sl av).length ≤ maxL) (hA : AF F2 = AF F1) (hr : den = some r)
    (body : ∀ g, Cx g G F1 cc y.cls maxL rm → (bh g).sig.returnType = ret → (y.name = "<init>" → (bh g).name = "<init>") → BD g G F1 maxL (fun r => QM G F2 g mc ms none r) 0 0 den w 0 (lv_args 0 av) []) :
    Met l y [.code y cc maxL ret] rm (PcB G F1 w av) (QB G F2 none r) mc ms (AF F1) := by
  refine Met.ofW (cc := cc) (maxL := maxL) (ret := ret) hy rfl ?_
  intro p e s m args below meth c s₁ B hml hv
  obtain ⟨rfl, hP, hE⟩ := hv
  rw [lg_entry_eq, ← hA]
  exact body (p, l, e, _, s, m, _, below, meth, c) ⟨B.exec, B.bytes, findClass_of_methodNamed B.named, hml, hE, B.notSynchronized, hl, rfl⟩ B.returns (fun h => (name_of_methodNamed B.named B.method).1.trans h) r hr s.heap [] _ hP va_S.rf (lv_entry av hav)
/-- the end of a constructor: just mc cells have been made -/
theorem bd_cret {h h0 mc SB ms : Nat} (C : Cx g G (Fto F h) cc own nL R) {ty : Option FieldType} (hret : (bh g).sig.returnType = ty) (hn : ty = none) (hd : decode cc pc = .ok (.return_, 1)) (hm : SB * mc ≤ ms) : BD g G (Fto F h) nL (fun r => QM G (Fto F (h0 + mc)) g mc ms none r) (h - h0) (SB * (h - h0)) ((ckE h (h0 + mc)).bind fun _ => some w) w pc lv [] := by
  intro r hr H locs ls hP hS hl
  obtain ⟨u, hu, hr⟩ := Option.bind_eq_some_iff.mp hr
  unfold ckE at hu
  by_cases c3 : h = h0 + mc
  · cases hr
    subst c3
    have e : h0 + mc - h0 = mc := by omega
    rw [e]
    refine W.widen (Nat.le_refl _) hm ?_
    exact W.vret C.exec C.code (hret.trans hn) (fun t ht hW => ⟨rfl, by rw [ht]; exact hP, hS.F ht⟩) hS.2.2 hd (hlocks := C.locks)
  · rw [if_neg c3] at hu; cases hu
theorem bd_callI {h h0 mc SB mc' ms' : Nat} (C : Cx g G (Fto F h) cc own nL R) {y : MethodName} {bytes : ByteArray} {maxL index b : Nat} {rm : Room} {dc : Option Wd} {kf : Wd → Option ρ} (hM : ∀ r', dc = some r' → Met (bl g) y [.code y bytes maxL none] rm (PcB G (Fto F h) w [.ref b]) (QB G (Fto F (h + mc')) none r') mc' ms' (AF F)) (M : MW y bytes maxL none 0) (hin : WD (.instanceMethod y)) (hy : y.name = "<init>") (hl : WD (.methodLink own index y))
    (hst : st0 = .ref b :: st) (hW : (st.map fun v => v.category).sum ≤ 8) (hd : decode cc pc = .ok (.invokespecial index, 3)) (hR : mc ≤ R.cells ∧ SB * mc ≤ R.slots ∧ ms' ≤ SB * mc') (hR2 : rm.cells = mc' ∧ rm.slots = ms' ∧ rm.frames + 1 ≤ R.frames ∧ 8 + (maxL + 11) + rm.locals ≤ R.locals)
    (h9 : h0 ≤ h → (∀ a k, okF (Fto F h) a k → okF (Fto F (h + mc')) a k) → ∀ w1, BD g G (Fto F (h + mc')) nL Q (h + mc' - h0) (SB * (h + mc' - h0)) (kf w1) w1 (pc + 3) lv st) :
    BD g G (Fto F h) nL Q (h - h0) (SB * (h - h0)) ((ckH h0 h mc mc').bind fun _ => dc.bind kf) w pc lv st0 := by
  refine bd_ckH (fun c1 c2 => ?_)
  have e8 : h + mc' - h0 = (h - h0) + mc' := by omega
  have e7 : SB * (h + mc' - h0) = SB * (h - h0) + SB * mc' := by rw [e8]; exact Nat.mul_add _ _ _
  have e6 : SB * (h - h0) + SB * mc' ≤ SB * mc := by
    rw [← Nat.mul_add]
    exact Nat.mul_le_mul_left SB (by omega)
  have hRW : RW R rm maxL (h - h0) (SB * (h - h0)) mc' ms' := ⟨hR2.1, hR2.2.1, hR2.2.2.1, hR2.2.2.2, by have := hR.1; omega, by have := hR.2; omega⟩
  refine bd_run (F2 := Fto F (h + mc')) (vs := fun _ => none) (wf := fun r => r) (mc := mc') (ms := ms') rfl (fun r' hd' H locs ls hP hS hl' => va_runI (Ts := []) (As := []) C.fix (hM r' hd') ⟨C.callB M hl hRW, hy, C.wd hin⟩ ⟨PcB.blind, fun U hU hW => C.pre hP hS U hU hW⟩ rfl rfl hl'.1 hst (st_room hW) hd (by rw [C.room]; exact ⟨hRW.2.2.2.2.1, hRW.2.2.2.2.2⟩)) rfl (fun r' hd' r hk' H locs ls hP hS hl' => ?_)
  refine W.widen (k := h + mc' - h0) (n := SB * (h + mc' - h0)) (by omega) (by have := hR.2.2; omega) ?_
  exact h9 c1 (fun a k o => okF_up (Nat.le_add_right _ _) o) r' r hk' H locs ls hP hS hl'
theorem bd_callIN {h h0 mc SB mc' ms' : Nat} (C : Cx g G (Fto F h) cc own nL R) {y : MethodName} {bytes : ByteArray} {maxL index b : Nat} {rm : Room} {host : String} {dc : Option Wd} {kf : Wd → Option ρ} (hM : ∀ r', dc = some r' → Met (bl g) y [.code y bytes maxL none] rm (PcB G (Fto F h) w [.ref b]) (QB G (Fto F (h + mc')) none r') mc' ms' (AF F)) (M : MW y bytes maxL none 0) (hin : WD (.instanceMethod y)) (hy : y.name = "<init>") (hl : WD (.methodLinkNest own index y host))
    (hst : st0 = .ref b :: st) (hW : (st.map fun v => v.category).sum ≤ 8) (hd : decode cc pc = .ok (.invokespecial index, 3)) (hR : mc ≤ R.cells ∧ SB * mc ≤ R.slots ∧ ms' ≤ SB * mc') (hR2 : rm.cells = mc' ∧ rm.slots = ms' ∧ rm.frames + 1 ≤ R.frames ∧ 8 + (maxL + 11) + rm.locals ≤ R.locals)
    (h9 : h0 ≤ h → (∀ a k, okF (Fto F h) a k → okF (Fto F (h + mc')) a k) → ∀ w1, BD g G (Fto F (h + mc')) nL Q (h + mc' - h0) (SB * (h + mc' - h0)) (kf w1) w1 (pc + 3) lv st) :
    BD g G (Fto F h) nL Q (h - h0) (SB * (h - h0)) ((ckH h0 h mc mc').bind fun _ => dc.bind kf) w pc lv st0 := by
  refine bd_ckH (fun c1 c2 => ?_)
  have e8 : h + mc' - h0 = (h - h0) + mc' := by omega
  have e7 : SB * (h + mc' - h0) = SB * (h - h0) + SB * mc' := by rw [e8]; exact Nat.mul_add _ _ _
  have e6 : SB * (h - h0) + SB * mc' ≤ SB * mc := by
    rw [← Nat.mul_add]
    exact Nat.mul_le_mul_left SB (by omega)
  have hRW : RW R rm maxL (h - h0) (SB * (h - h0)) mc' ms' := ⟨hR2.1, hR2.2.1, hR2.2.2.1, hR2.2.2.2, by have := hR.1; omega, by have := hR.2; omega⟩
  refine bd_run (F2 := Fto F (h + mc')) (vs := fun _ => none) (wf := fun r => r) (mc := mc') (ms := ms') rfl (fun r' hd' H locs ls hP hS hl' => va_runIN (Ts := []) (As := []) C.fix (hM r' hd') ⟨C.callN M hl hRW, hy, C.wd hin⟩ ⟨PcB.blind, fun U hU hW => C.pre hP hS U hU hW⟩ rfl rfl hl'.1 hst (st_room hW) hd (by rw [C.room]; exact ⟨hRW.2.2.2.2.1, hRW.2.2.2.2.2⟩)) rfl (fun r' hd' r hk' H locs ls hP hS hl' => ?_)
  refine W.widen (k := h + mc' - h0) (n := SB * (h + mc' - h0)) (by omega) (by have := hR.2.2; omega) ?_
  exact h9 c1 (fun a k o => okF_up (Nat.le_add_right _ _) o) r' r hk' H locs ls hP hS hl'
end BDN2
