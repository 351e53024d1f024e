/-! THE CLAIM OUT OF ONE WALK OF THE LAW'S BODY. Your part is whole_start (and what it stands on); all else here is the same for every law, but numbers. -/
def R_law : String := "LessonTiersLaw"
def lw_P (b : Addr) (xs : List Int32) (args : Array Value) (s : State) : Prop := args = #[.ref b] ∧ s.IntsAt b xs ∧ xs.length ≤ 2560 ∧ (Jvm.Cond.and given_1 narrow_1).before args s = true
/-- what a walk over the start with the record d0 says of its end, said of the start itself -/
theorem lw_closed {s t : State} {o : Outcome} {d0 : Drawn} {L : List Loc} {k n : Nat} (hd0 : s.drawn.sameBut d0 lw_cs) (hv : ∃ v, o = .returned v) (hW : (s.setDrawn d0).WarmedH t.vm) (hs : (s.setDrawn d0).sameButNew ({ t with vm := s.vm } : State) L k n) : State.butDraws s t lw_cs (fun t1 => Framed s o t1 L k n) := by
  have h2 : t.drawn = d0 := congrArg State.drawn hs.1
  refine ⟨⟨hv, hW, State.sameButNew.setDrawn hs s.drawn⟩, ?_, by decide⟩
  rw [h2]
  exact hd0
def lw_Q (_ : Array Value) (s : State) (o : Outcome) (t : State) : Prop := o = .returned (some (.int 1)) ∧ State.butDraws s t lw_cs (fun t1 => Framed s o t1 [] 603072 7211114)
def lw_Z (below : List Frame) (a : Array Value) (s : State) : State → Prop := fun t => ∃ o, t.status = .running ∧ Ended t below o ∧ lw_Q a s o t
/-- the law's own end, with 1 on the stack, nothing written that was there before, its room as the claim has it; d0: the record of draws at this point (at the entry s.drawn: begin with 'refine W.base ?_' and 'have hd0 := Drawn.sameBut.refl s.drawn lw_cs') -/
theorem lw_ret {p : Program} {l : Launch} {e : Env} {s : State} {m : MethodId} {below : List Frame} {meth : Method} {c : Code} {b : Nat} {d0 : Drawn} (hd0 : s.drawn.sameBut d0 lw_cs) (hx : p.tables.exec = Jvm.exec) (hb : c.code = code) (hr : meth.sig.returnType = ret) (hlocks : meth.locks = false) {pc : Nat} {H : Heap} {ls : Array Slot} (hdg : decode code pc = .ok (.ireturn, 1)) : W p l e room_1 (s.setDrawn d0) m #[Value.ref b] below meth c H [] 603072 7211114 (lw_Z below #[Value.ref b] s) (F0 m pc ls [.int 1]) := by
  intro T hT X
  obtain ⟨fs, hret, hrun, hended, hW, hframe⟩ := X.leave (v := some (.int 1)) (hlocks := hlocks) (fun h => by rw [hr] at h; cases h)
  have hmeth' : T.vm.method? m = some meth := X.method'
  refine ⟨T.setFrames fs, ?_, .returned (some (.int 1)), hrun, hended, rfl, lw_closed hd0 ⟨_, rfl⟩ hW hframe⟩
  jvm_step X.here [X.here.top, hx, hb, hdg, hmeth', hr, ret, narrow_b1]
  (try refine ⟨rfl, ?_⟩); (try refine ⟨rfl, ?_⟩)
  first | (intro acts; rw [hret _ acts rfl rfl rfl]) | rw [hret _ _ rfl rfl rfl]
  exact Steps.refl _
/-- what holds at the law's entry: the machine, the code, the tables' words (any of lw_tbl by 'hts w (by decide +kernel)'), the script of L ints xs at the cell b, what the Statement gives of the start (any of its parts by flat_of_before) -/
def lw_At (p : Program) (s : State) (m : MethodId) (meth : Method) (c : Code) (b L : Nat) (xs : Nat → Int32) : Prop :=
  p.tables.exec = Jvm.exec ∧ c.code = code ∧ meth.sig.returnType = ret ∧ c.maxLocals = 9 ∧ s.vm.findClass R_law = some m.cls ∧ (∀ w ∈ lw_tbl, w.before #[Value.ref b] s = true) ∧ va_X b L xs s s.heap ∧ b < s.heap.size ∧ meth.locks = false ∧ (Jvm.Cond.and given_1 narrow_1).before #[Value.ref b] s = true
/-! rows of the law's body -/
def Fnc (F : Fr) (h : Nat) : Fr := (F.1, F.2.1, F.2.2.1, h, false)
def ldS (L : Nat) (xs : Nat → Int32) (i : Int32) : Option Int32 := if i < 0 ∨ L ≤ i.toNatClampNeg then none else some (xs i.toNatClampNeg)
def ckJ (j : Nat) : Option Unit := if j < 600 then some () else none
/-- the script, no cell of the worlds -/
def SX (g : Bd) (F : Fr) (b L : Nat) (xs : Nat → Int32) : Prop := va_X b L xs (bs g) (bs g).heap ∧ b < (bs g).heap.size ∧ ¬ AF F b
section BDLW
variable {ρ : Type} {g : Bd} {G : Gy} {F : Fr} {cc : ByteArray} {own : String} {nL : Nat} {R : Room} {Q : ρ → State → Prop} {k n mc ms : Nat} {den : Option ρ} {w : Wd} {pc : Nat} {lv : List (Nat × Value)} {st st0 : List Value}
theorem bd_ckJ {j : Nat} {kf : Unit → Option ρ} (h : j < 600 → BD g G F nL Q k n (kf ()) w pc lv st) : BD g G F nL Q k n ((ckJ j).bind kf) w pc lv st := by
  unfold ckJ
  by_cases c : j < 600
  · rw [if_pos c]; exact h c
  · rw [if_neg c]; exact bd_none
theorem bd_slen (C : Cx g G F cc own nL R) {b L : Nat} {xs : Nat → Int32} (X : SX g F b L xs) (hd : decode cc pc = .ok (.arraylength, 1)) (h : BD g G F nL Q k n den w (pc + 1) lv (.int (nI L) :: st)) : BD g G F nL Q k n den w pc lv (.ref b :: st) :=
  fun r hr H locs ls hP hS hl => va_slen C.exec C.code X.1 X.2.1 X.2.2 hS hd (h r hr H locs ls hP hS hl)
theorem bd_sld (C : Cx g G F cc own nL R) {b L : Nat} {xs : Nat → Int32} (X : SX g F b L xs) {i : Int32} {kf : Int32 → Option ρ} (hd : decode cc pc = .ok (.iaload, 1)) (h : ∀ x, BD g G F nL Q k n (kf x) w (pc + 1) lv (.int x :: st)) : BD g G F nL Q k n ((ldS L xs i).bind kf) w pc lv (.int i :: .ref b :: st) := by
  intro r hr H locs ls hP hS hl
  obtain ⟨x, hx, hk⟩ := Option.bind_eq_some_iff.mp hr
  unfold ldS at hx
  by_cases c : i < 0 ∨ L ≤ i.toNatClampNeg
  · rw [if_pos c] at hx; cases hx
  · rw [if_neg c] at hx
    cases hx
    exact va_sld C.exec C.code X.1 X.2.1 X.2.2 hS c hd (h _ r hk H locs ls hP hS hl)
theorem bd_callH (C : Cx g G F cc own nL R) (hNC : NC (bs g)) {σ : Type} {dc : Option σ} {kf : σ → Option ρ} {vs : σ → Option Value} {wf : σ → Wd} {y : MethodName} {bytes : ByteArray} {maxL np index : Nat} {ret : Option FieldType} {hh : List (Nat × Nat × Nat × Nat)} {rm : Room} (As : List Value) (hM : ∀ r', dc = some r' → Met (bl g) y [.codeWith y bytes maxL ret hh] rm (PcL G F w As) (QB G F (vs r') (wf r')) mc ms (AF F)) (M : MWH y bytes maxL ret hh np) (hl : WD (.methodLink own index y))
    (hn : As.length = np) (hst : st0 = As.reverse ++ st) (hW : (st.map fun v => v.category).sum ≤ 8) (hd : decode cc pc = .ok (.invokestatic index, 3)) (hR : RW R rm maxL k n mc ms)
    {st1 : σ → List Value} (hs1 : ∀ r', (vs r').toList ++ st = st1 r') (h : ∀ r', dc = some r' → BD g G F nL Q (k + mc) (n + ms) (kf r') (wf r') (pc + 3) lv (st1 r')) : BD g G F nL Q k n (dc.bind kf) w pc lv st0 :=
  bd_run (F2 := F) rfl (fun r' hd' H locs ls hP hS hl' => vx_runSW (Ts := []) C.fix (hM r' hd')
    ⟨⟨hR.1, hR.2.1, by rw [C.room]; exact hR.2.2.1, by rw [C.room]; exact hR.2.2.2.1, wd_code rfl rfl (C.wd M.1 (a := ba g)), List.mem_cons_self⟩, C.wd M.1, C.wd M.2.1, M.2.2.1, fun sig h => by
      have h2 := M.2.2.2.1
      rw [h] at h2
      exact (Option.some.inj h2).symm, C.wd hl, C.wd M.2.2.2.2⟩
    ⟨PcL.blind, fun U hU hW => ⟨rfl, ⟨by rw [hU]; exact hP, C.env.moved hW hU hS⟩, hNC.moved hW.alike⟩⟩ rfl hn hl'.1 hst (st_room hW) hd (by rw [C.room]; exact ⟨hR.2.2.2.2.1, hR.2.2.2.2.2⟩)) rfl (fun r' hd' r hk' H locs ls hP hS hl' => by rw [hs1]; exact h r' hd' r hk' H locs ls hP hS hl')
theorem bd_nc {h : Nat} (h9 : BD g G (Fnc F h) nL Q k n den w pc lv st) : BD g G (Fto F h) nL Q k n den w pc lv st :=
  fun r hr H locs ls hP hS hl => h9 r hr H locs ls ⟨hP.1, fun c => by cases c⟩ hS hl
end BDLW
theorem bd_lawret {p : Program} {l : Launch} {e : Env} {s : State} {m : MethodId} {below : List Frame} {meth : Method} {c : Code} {b : Nat} {G : Gy} {F : Fr} {own : String} {R : Room} {k n : Nat} {w : Wd} {pc : Nat} {lv : List (Nat × Value)}
    (C : Cx (p, l, e, room_1, s, m, #[Value.ref b], below, meth, c) G F code own 9 R) (hr9 : meth.sig.returnType = ret) (hlo : s.heap.size ≤ F.2.2.1) (hd : decode code pc = .ok (.ireturn, 1)) (hk : k ≤ 603072) (hn : n ≤ 7211114) :
    BD (p, l, e, room_1, s, m, #[Value.ref b], below, meth, c) G F 9 (fun _ : Unit => lw_Z below #[Value.ref b] s) k n (some ()) w pc lv [.int 1] := by
  intro r hr H locs ls hP hS hl
  show W p l e room_1 s m #[Value.ref b] below meth c H locs k n (lw_Z below #[Value.ref b] s) (F0 m pc ls [.int 1])
  refine va_forget (fun q hq => Nat.le_trans hlo (hS.2.2 q hq)) ?_
  refine W.widen (k := 603072) (n := 7211114) hk hn ?_
  exact lw_ret (d0 := s.drawn) (Drawn.sameBut.refl s.drawn lw_cs) C.exec C.code hr9 C.locks hd
