/-! the law's own methods: a call that may throw, and what catches it -/
/-- no exception of ours is one of another class -/
def NC (U : State) : Prop := ∀ a b : Nat, a < 6 → b < 6 → a ≠ b → va_Nc (exN a) (exN b) U
theorem NC.moved {s U : State} (hvm : s.vm.Alike U.vm) (h : NC s) : NC U := fun a b h1 h2 h3 => (h a b h1 h2 h3).moved hvm
def PcL (G : Gy) (F : Fr) (w : Wd) (av : List Value) : Array Value → State → Prop := va_Pc av (fun U => (HP G F w U.heap ∧ Env2 G F U) ∧ NC U)
theorem PcL.blind {G : Gy} {F : Fr} {w : Wd} {av : List Value} : FrameBlind (PcL G F w av) := fun a U g mk q => by
  obtain ⟨q0, ⟨q1, q2, q3, q4, q5, q6⟩, q7⟩ := q
  have hW : U.WarmedH (U.calling g mk a).vm := State.WarmedH.refl U
  exact ⟨q0, ⟨q1, q2.moved hW.alike, q3.warm hW, q4, q5.moved hW.alike, q6.moved hW.alike⟩, q7.moved hW.alike⟩
def BDT {ρ : Type} (g : Bd) (G : Gy) (F : Fr) (nL : Nat) (Q : ρ → State → Prop) (k n : Nat) (E : String) (den : Option ρ) (w : Wd) (pc : Nat) (lv : List (Nat × Value)) (st : List Value) : Prop :=
  ∀ r, den = some r → ∀ (H : Heap) (locs : List Loc) (ls : Array Slot) (q : Nat) (ce : Cell), HP G F w H → va_S (AF F) (bs g).heap H locs → lv_has ls nL lv → H[q]? = some ce → ce.vm = .none → (bs g).vm.findClass E = some ce.cls →
    vx_W (bp g) (bl g) (be g) (bR g) (bs g) (bm g) (ba g) (bb g) (bh g) (bc g) H locs k n (Q r) (F0 (bm g) pc ls st) q
section BDL
variable {ρ α : Type} {g : Bd} {G : Gy} {F : Fr} {cc : ByteArray} {own : String} {nL : Nat} {R : Room} {Q : ρ → State → Prop} {k n mc ms : Nat} {den : Option ρ} {w : Wd} {pc : Nat} {lv : List (Nat × Value)} {st st0 : List Value} {E : String}
theorem bdt_none : BDT g G F nL Q k n E none w pc lv st := fun _ h => by cases h
theorem bdt_ite {c : Prop} {dc : Decidable c} {X Y : Option ρ} (h1 : c → BDT g G F nL Q k n E X w pc lv st) (h2 : ¬ c → BDT g G F nL Q k n E Y w pc lv st) : BDT g G F nL Q k n E (if c then X else Y) w pc lv st := by
  by_cases c9 : c
  · rw [if_pos c9]; exact h1 c9
  · rw [if_neg c9]; exact h2 c9
theorem bdt_catch (C : Cx g G F cc own nL R) (hNC : NC (bs g)) {hh : List (Nat × Nat × Nat × Nat)} (hxt : (bc g).exceptionTable.toList = tableOf hh) {e : Nat} (he : e < 6) (hE : E = exN e) (pre : List ExceptionTableEntry) (x : ExceptionTableEntry) (suf : List ExceptionTableEntry) (hsplit : tableOf hh = pre ++ x :: suf)
    (hpass : ∀ z ∈ pre, z.catchType ≠ 0 ∧ ∃ e' : Nat, e' < 6 ∧ e ≠ e' ∧ WD (.classLink own z.catchType (exN e'))) (hx : covers x pc = true) (h0 : x.catchType ≠ 0) (hl : WD (.classLink own x.catchType (exN e))) (hc : WD (.castable (exN e) (exN e)))
    (h : ∀ q, BD g G F nL Q k n den w x.handlerPc lv [.ref q]) : BDT g G F nL Q k n E den w pc lv st := by
  intro r hr H locs ls q ce hP hS hl' hq hv hcl
  subst hE
  refine vx_catch C.cls0 pre x suf (hxt.trans hsplit) (fun z hz => ?_) hx h0 (C.wd hl) (C.wd hc) hq hv hcl (h q r hr H locs ls hP hS hl')
  obtain ⟨h1, e', h2, h3, h4⟩ := hpass z hz
  exact Or.inr ⟨h1, _, C.wd h4, hNC e e' he h2 h3⟩
theorem bd_callX (C : Cx g G F cc own nL R) {y : MethodName} {bytes : ByteArray} {maxL np index kk N b : Nat} {ret : Option FieldType} {rm : Room} {T : u_T} {dc : Option ((α × Wd) ⊕ (Nat × Wd))} {vx : (α × Wd) ⊕ (Nat × Wd) → (Option Value × Wd) ⊕ (String × Wd)} {mk : α → Value} (hvx : ∀ v, vx (.inl v) = .inl (some (mk v.1), v.2)) (hve : ∀ e, vx (.inr e) = .inr (exN e.1, e.2)) {kI : α × Wd → Option ρ} {kX : Nat × Wd → Option ρ} (As : List Value)
    (hM : ∀ r', dc = some r' → vx_Met (bl g) y [.code y bytes maxL ret] rm (PcB G F w (.ref b :: As)) (QBx G F (vx r')) (XBx G F (vx r')) mc ms (AF F)) (M : MW y bytes maxL ret np) (hin : WD (.instanceMethod y) ∧ WD (.selects y.cls y y)) (hl : WD (.methodLink own index y))
    (hb : okF F b kk) (hk : kk < 10) (hc : myCl[kk]? = some (y.cls, T, N)) (hn : As.length = np) (hst : st0 = As.reverse ++ .ref b :: st) (hW : (st.map fun v => v.category).sum ≤ 8) (hd : decode cc pc = .ok (.invokevirtual index, 3)) (hR : RW R rm maxL k n mc ms)
    (hI : ∀ v, BD g G F nL Q (k + mc) (n + ms) (kI v) v.2 (pc + 3) lv (mk v.1 :: st)) (hX : ∀ e, BDT g G F nL Q (k + mc) (n + ms) (exN e.1) (kX e) e.2 pc lv st) : BD g G F nL Q k n (dc.bind (Sum.elim kI kX)) w pc lv st0 := by
  intro r hr H locs ls hP hS hl'
  obtain ⟨r', hd', hk'⟩ := Option.bind_eq_some_iff.mp hr
  have hrun := vx_runV (e := be g) (below := bb g) (meth := bh g) (Ts := []) (H := H) (locs := locs) (cells := k) (slots := n) (g := F0 (bm g) pc ls st0) (rest := st) C.fix (hM r' hd') ⟨C.callB M hl hR, C.wd hin.1, C.wd hin.2⟩ ⟨PcB.blind, hP.recv C hb hk hc, fun U hU hW => C.pre hP hS U hU hW⟩ rfl hn hl'.1 hst (st_room hW) hd (by rw [C.room]; exact ⟨hR.2.2.2.2.1, hR.2.2.2.2.2⟩)
  intro T hT X
  rcases hrun T hT X with ⟨v, st₀, t, T', L, h0, X', hL, e1, e2, ⟨v9, hv9, hv, hp, hF⟩, st9⟩ | ⟨q, st₀, t, T', L, E, ce, h0, X', hL, e1, e2, ⟨e9, he9, hE, hp, hF⟩, hce, hcv, hcl, st9⟩
  · cases r' with
    | inr e => rw [hve] at hv9; cases hv9
    | inl u =>
      rw [hvx] at hv9
      cases hv9
      cases hv
      obtain ⟨-, -, k3⟩ := vx_keep h0 e1 hS (fun q _ h => h) (fun q h => h) hL hF
      obtain ⟨t2, a1, b1⟩ := hI u r hk' T'.heap (locs ++ L) ls (by rw [e1]; exact hp) k3 hl' T' rfl X'
      exact ⟨t2, st9 t2 a1, b1⟩
  · cases r' with
    | inl u => rw [hvx] at he9; cases he9
    | inr e =>
      rw [hve] at he9
      cases he9
      subst hE
      obtain ⟨-, -, k3⟩ := vx_keep h0 e1 hS (fun q _ h => h) (fun q h => h) hL hF
      obtain ⟨t2, a1, b1⟩ := hX e r hk' T'.heap (locs ++ L) ls q ce (by rw [e1]; exact hp) k3 hl' (by rw [e1]; exact hce) hcv hcl T' rfl X'
      exact ⟨t2, st9.trans a1, b1⟩
theorem bd_metH {l : Launch} {y : MethodName} {maxL : Nat} {ret : Option FieldType} {hh : List (Nat × Nat × Nat × Nat)} {rm : Room} {av : List Value} {vs : ρ → Option Value} {wf : ρ → Wd} {r : ρ} (hl : l.stackTraces = false) (hy : plainName y.cls = true) (hav : (lg_sl av).length ≤ maxL) (hr : den = some r)
    (body : ∀ g, Cx g G F cc y.cls maxL rm → (bh g).sig.returnType = ret → (bc g).exceptionTable.toList = tableOf hh → NC (bs g) → BD g G F maxL (fun r => QM G F g mc ms (vs r) (wf r)) 0 0 den w 0 (lv_args 0 av) []) :
    Met l y [.codeWith y cc maxL ret hh] rm (PcL G F w av) (QB G F (vs r) (wf r)) mc ms (AF F) := by
  refine va_MetW (cc := cc) (maxL := maxL) (ret := ret) (hh := hh) hy rfl ?_
  intro p e s m args below meth c s₁ B hml hv
  obtain ⟨rfl, ⟨hP, hE⟩, hN⟩ := hv
  have hx := vx_table (x := y) B (atoms_spec (ws := [.codeWith y cc maxL ret hh]) B.pre _ List.mem_cons_self)
  rw [lg_entry_eq]
  exact body (p, l, e, _, s, m, _, below, meth, c) ⟨B.exec, B.bytes, findClass_of_methodNamed B.named, hml, hE, B.notSynchronized, hl, rfl⟩ B.returns hx hN r hr s.heap [] _ hP va_S.rf (lv_entry av hav)
end BDL
/-- the words of a static method with a table of its own -/
def MWH (y : MethodName) (bytes : ByteArray) (maxL : Nat) (ret : Option FieldType) (hh : List (Nat × Nat × Nat × Nat)) (np : Nat) : Prop := WD (.codeWith y bytes maxL ret hh) ∧ WD (.initialized y.cls) ∧ (y.cls ≠ "java/lang/invoke/MethodHandle" ∧ y.cls ≠ "java/lang/invoke/VarHandle") ∧ (parseMethodDescriptor y.desc).map (fun d => d.parameters.length) = some np ∧ WD (.static y)
