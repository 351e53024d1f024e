/-! calls of methods by their contracts -/
section BDC
variable {ρ σ : Type} {g : Bd} {G : Gy} {F : Fr} {cc : ByteArray} {own : String} {nL : Nat} {R : Room} {Q : ρ → State → Prop} {k n mc ms : Nat} {den : Option ρ} {w : Wd} {pc : Nat} {lv : List (Nat × Value)} {st st0 : List Value}
variable {dc : Option σ} {kf : σ → Option ρ} {vs : σ → Option Value} {wf : σ → Wd} {F2 : Fr} {a9 : Array Value}
/-- behind a call that returns -/
theorem bd_run {AF2 : Nat → Prop} (hA : AF2 = AF F) (hrun : ∀ r', dc = some r' → ∀ (H : Heap) (locs : List Loc) (ls : Array Slot), HP G F w H → va_S (AF F) (bs g).heap H locs → lv_has ls nL lv → va_Run (bp g) (bl g) (be g) (bR g) (bs g) (bm g) (ba g) (bb g) (bh g) (bc g) H locs k n mc ms (F0 (bm g) pc ls st0) st (QB G F2 (vs r') (wf r') a9) AF2) (hA2 : AF F2 = AF F)
    (h : ∀ r', dc = some r' → ∀ r, kf r' = some r → ∀ (H : Heap) (locs : List Loc) (ls : Array Slot), HP G F2 (wf r') H → va_S (AF F) (bs g).heap H locs → lv_has ls nL lv → WG g H locs (k + mc) (n + ms) (Q r) (pc + 3) ls ((vs r').toList ++ st)) : BD g G F nL Q k n (dc.bind kf) w pc lv st0 := by
  intro r hr H locs ls hP hS hl
  obtain ⟨r', hd', hk'⟩ := Option.bind_eq_some_iff.mp hr
  intro T hT X
  obtain ⟨v, st₀, t, T', L, h0, X', hL, e1, e2, ⟨hv, hp, hF⟩, st⟩ := hrun r' hd' H locs ls hP hS hl T hT X
  cases hv
  rw [hA2] at hF
  rw [hA] at hL
  obtain ⟨-, -, k3⟩ := vx_keep h0 e1 hS (fun q _ h => h) (fun q h => h) hL hF
  obtain ⟨t2, a1, b1⟩ := h r' hd' r hk' T'.heap (locs ++ L) ls (by rw [e1]; exact hp) k3 hl T' rfl X'
  exact ⟨t2, st t2 a1, b1⟩
/-- the words of a method -/
def MW (y : MethodName) (bytes : ByteArray) (maxL : Nat) (ret : Option FieldType) (np : Nat) : Prop := WD (.code y bytes maxL ret) ∧ WD (.initialized y.cls) ∧ (y.cls ≠ "java/lang/invoke/MethodHandle" ∧ y.cls ≠ "java/lang/invoke/VarHandle") ∧ (parseMethodDescriptor y.desc).map (fun d => d.parameters.length) = some np
/-- the room of a call -/
def RW (R rm : Room) (maxL k n mc ms : Nat) : Prop := rm.cells = mc ∧ rm.slots = ms ∧ rm.frames + 1 ≤ R.frames ∧ 8 + (maxL + 11) + rm.locals ≤ R.locals ∧ k + mc ≤ R.cells ∧ n + ms ≤ R.slots
theorem wd_code {x : Cond} (h : x.onTables = true) (h2 : x.keeps = true) {s : State} {a : Array Value} (hb : x.before a s = true) : ∀ w ∈ [x], ∀ (a' : Array Value) (U : State), s.WarmedH U.vm → w.before a' U = true := by
  intro w hw a' U hW
  rw [List.mem_singleton] at hw
  subst hw
  exact word_at hW (Or.inl (by rw [h, h2]; rfl)) hb
theorem Cx.callB (C : Cx g G F cc own nL R) {y : MethodName} {bytes : ByteArray} {maxL np index : Nat} {ret : Option FieldType} {rm : Room} (M : MW y bytes maxL ret np) (hl : WD (.methodLink own index y)) (hR : RW R rm maxL k n mc ms) :
    CallB (bR g) (bs g) (ba g) own index y bytes maxL ret [.code y bytes maxL ret] rm mc ms np :=
  ⟨hR.1, hR.2.1, by rw [C.room]; exact hR.2.2.1, by rw [C.room]; exact hR.2.2.2.1, wd_code rfl rfl (C.wd M.1 (a := ba g)), List.mem_cons_self, C.wd M.1, C.wd M.2.1, M.2.2.1, fun sig h => by
    have h2 := M.2.2.2
    rw [h] at h2
    exact (Option.some.inj h2).symm, C.wd hl⟩
theorem Cx.callN (C : Cx g G F cc own nL R) {y : MethodName} {bytes : ByteArray} {maxL np index : Nat} {host : String} {ret : Option FieldType} {rm : Room} (M : MW y bytes maxL ret np) (hl : WD (.methodLinkNest own index y host)) (hR : RW R rm maxL k n mc ms) :
    va_CN (bR g) (bs g) (ba g) own index y host bytes maxL ret [.code y bytes maxL ret] rm mc ms np :=
  ⟨⟨hR.1, hR.2.1, by rw [C.room]; exact hR.2.2.1, by rw [C.room]; exact hR.2.2.2.1, wd_code rfl rfl (C.wd M.1 (a := ba g)), List.mem_cons_self⟩, C.wd M.1, C.wd M.2.1, M.2.2.1, fun sig h => by
    have h2 := M.2.2.2
    rw [h] at h2
    exact (Option.some.inj h2).symm, C.wd hl⟩
theorem Cx.fix (C : Cx g G F cc own nL R) : CallFix (bp g) (bm g) (bc g) cc nL (bs g) (ba g) [] own := ⟨C.exec, C.code, C.maxl, C.cls0, fun _ h => by cases h⟩
theorem Cx.pre (C : Cx g G F cc own nL R) {H : Heap} {locs : List Loc} (hP : HP G F w H) (hS : va_S (AF F) (bs g).heap H locs) {av : List Value} (U : State) (hU : U.heap = H) (hW : (bs g).WarmedH U.vm) : PcB G F w av av.toArray U :=
  ⟨rfl, by rw [hU]; exact hP, C.env.moved hW hU hS⟩
theorem HP.recv {H : Heap} (C : Cx g G F cc own nL R) (hP : HP G F w H) {b kk N : Nat} {Cn : String} {T : u_T} (hb : okF F b kk) (hk : kk < 10) (hc : myCl[kk]? = some (Cn, T, N)) : ∃ cell : Cell, H[b]? = some cell ∧ cell.vm.isStatics = false ∧ (bs g).vm.findClass Cn = some cell.cls :=
  va_recv C.kk (hP.obj hb hk) hc (q0 := 0) rfl
theorem st_room {m : MethodId} {ls : Array Slot} (h : (st.map fun v => v.category).sum ≤ 8) : 2 * (F0 m pc ls st0).monitorRoom + (st.map fun v => v.category).sum ≤ 8 := by
  have e : (F0 m pc ls st0).monitorRoom = 0 := rfl
  rw [e]
  omega
theorem bd_callV (C : Cx g G F cc own nL R) {y : MethodName} {bytes : ByteArray} {maxL np index kk N b : Nat} {ret : Option FieldType} {rm : Room} {T : u_T} (As : List Value) (hM : ∀ r', dc = some r' → Met (bl g) y [.code y bytes maxL ret] rm (PcB G F w (.ref b :: As)) (QB G F (vs r') (wf r')) mc ms (AF F)) (M : MW y bytes maxL ret np) (hin : WD (.instanceMethod y) ∧ WD (.selects y.cls y y)) (hl : WD (.methodLink own index y))
    (hb : okF F b kk) (hk : kk < 10) (hc : myCl[kk]? = some (y.cls, T, N)) (hn : As.length = np) (hst : st0 = As.reverse ++ .ref b :: st) (hW : (st.map fun v => v.category).sum ≤ 8) (hd : decode cc pc = .ok (.invokevirtual index, 3)) (hR : RW R rm maxL k n mc ms)
    {st1 : σ → List Value} (hs1 : ∀ r', (vs r').toList ++ st = st1 r') (h : ∀ r', dc = some r' → BD g G F nL Q (k + mc) (n + ms) (kf r') (wf r') (pc + 3) lv (st1 r')) : BD g G F nL Q k n (dc.bind kf) w pc lv st0 :=
  bd_run (F2 := F) rfl (fun r' hd' H locs ls hP hS hl' => va_runV (Ts := []) C.fix (hM r' hd') ⟨C.callB M hl hR, C.wd hin.1, C.wd hin.2⟩ ⟨PcB.blind, hP.recv C hb hk hc, fun U hU hW => C.pre hP hS U hU hW⟩ rfl hn hl'.1 hst (st_room hW) hd (by rw [C.room]; exact ⟨hR.2.2.2.2.1, hR.2.2.2.2.2⟩)) rfl (fun r' hd' r hk' H locs ls hP hS hl' => by rw [hs1]; exact h r' hd' r hk' H locs ls hP hS hl')
theorem bd_callS (C : Cx g G F cc own nL R) {y : MethodName} {bytes : ByteArray} {maxL np index : Nat} {ret : Option FieldType} {rm : Room} (As : List Value) (hM : ∀ r', dc = some r' → Met (bl g) y [.code y bytes maxL ret] rm (PcB G F w As) (QB G F (vs r') (wf r')) mc ms (AF F)) (M : MW y bytes maxL ret np) (hin : WD (.static y)) (hl : WD (.methodLink own index y))
    (hn : As.length = np) (hst : st0 = As.reverse ++ st) (hW : (st.map fun v => v.category).sum ≤ 8) (hd : decode cc pc = .ok (.invokestatic index, 3)) (hR : RW R rm maxL k n mc ms)
    {st1 : σ → List Value} (hs1 : ∀ r', (vs r').toList ++ st = st1 r') (h : ∀ r', dc = some r' → BD g G F nL Q (k + mc) (n + ms) (kf r') (wf r') (pc + 3) lv (st1 r')) : BD g G F nL Q k n (dc.bind kf) w pc lv st0 :=
  bd_run (F2 := F) rfl (fun r' hd' H locs ls hP hS hl' => va_runS (Ts := []) C.fix (hM r' hd') ⟨C.callB M hl hR, C.wd hin⟩ ⟨PcB.blind, fun U hU hW => C.pre hP hS U hU hW⟩ rfl hn hl'.1 hst (st_room hW) hd (by rw [C.room]; exact ⟨hR.2.2.2.2.1, hR.2.2.2.2.2⟩)) rfl (fun r' hd' r hk' H locs ls hP hS hl' => by rw [hs1]; exact h r' hd' r hk' H locs ls hP hS hl')
theorem bd_callSN (C : Cx g G F cc own nL R) {y : MethodName} {bytes : ByteArray} {maxL np index : Nat} {host : String} {ret : Option FieldType} {rm : Room} (As : List Value) (hM : ∀ r', dc = some r' → Met (bl g) y [.code y bytes maxL ret] rm (PcB G F w As) (QB G F (vs r') (wf r')) mc ms (AF F)) (M : MW y bytes maxL ret np) (hin : WD (.static y)) (hl : WD (.methodLinkNest own index y host))
    (hn : As.length = np) (hst : st0 = As.reverse ++ st) (hW : (st.map fun v => v.category).sum ≤ 8) (hd : decode cc pc = .ok (.invokestatic index, 3)) (hR : RW R rm maxL k n mc ms)
    {st1 : σ → List Value} (hs1 : ∀ r', (vs r').toList ++ st = st1 r') (h : ∀ r', dc = some r' → BD g G F nL Q (k + mc) (n + ms) (kf r') (wf r') (pc + 3) lv (st1 r')) : BD g G F nL Q k n (dc.bind kf) w pc lv st0 :=
  bd_run (F2 := F) rfl (fun r' hd' H locs ls hP hS hl' => va_runSN (Ts := []) C.fix (hM r' hd') ⟨C.callN M hl hR, C.wd hin, trivial⟩ ⟨PcB.blind, fun U hU hW => C.pre hP hS U hU hW⟩ rfl hn hl'.1 hst (st_room hW) hd (by rw [C.room]; exact ⟨hR.2.2.2.2.1, hR.2.2.2.2.2⟩)) rfl (fun r' hd' r hk' H locs ls hP hS hl' => by rw [hs1]; exact h r' hd' r hk' H locs ls hP hS hl')
theorem bd_callVN (C : Cx g G F cc own nL R) {y : MethodName} {bytes : ByteArray} {maxL np index kk N b : Nat} {host : String} {ret : Option FieldType} {rm : Room} {T : u_T} (As : List Value) (hM : ∀ r', dc = some r' → Met (bl g) y [.code y bytes maxL ret] rm (PcB G F w (.ref b :: As)) (QB G F (vs r') (wf r')) mc ms (AF F)) (M : MW y bytes maxL ret np) (hin : WD (.instanceMethod y) ∧ WD (.selects y.cls y y)) (hl : WD (.methodLinkNest own index y host))
    (hb : okF F b kk) (hk : kk < 10) (hc : myCl[kk]? = some (y.cls, T, N)) (hn : As.length = np) (hst : st0 = As.reverse ++ .ref b :: st) (hW : (st.map fun v => v.category).sum ≤ 8) (hd : decode cc pc = .ok (.invokevirtual index, 3)) (hR : RW R rm maxL k n mc ms)
    {st1 : σ → List Value} (hs1 : ∀ r', (vs r').toList ++ st = st1 r') (h : ∀ r', dc = some r' → BD g G F nL Q (k + mc) (n + ms) (kf r') (wf r') (pc + 3) lv (st1 r')) : BD g G F nL Q k n (dc.bind kf) w pc lv st0 :=
  bd_run (F2 := F) rfl (fun r' hd' H locs ls hP hS hl' => va_runVN (Ts := []) C.fix (hM r' hd') ⟨C.callN M hl hR, C.wd hin.1, C.wd hin.2⟩ ⟨PcB.blind, hP.recv C hb hk hc, fun U hU hW => C.pre hP hS U hU hW⟩ rfl hn hl'.1 hst (st_room hW) hd (by rw [C.room]; exact ⟨hR.2.2.2.2.1, hR.2.2.2.2.2⟩)) rfl (fun r' hd' r hk' H locs ls hP hS hl' => by rw [hs1]; exact h r' hd' r hk' H locs ls hP hS hl')
end BDC
/-! smaller rows -/
theorem okO_some {F : Fr} {z k : Nat} (h : okF F z k) : okO F (some z) k := fun y hy => by cases hy; exact h
theorem okO_none {F : Fr} {k : Nat} : okO F none k := fun y hy => by cases hy
def ckZ (x : Int32) : Option Int32 := if x = 0 ∨ x = 1 then some x else none
def ckC (x : Int32) : Option Int32 := if vp_nar .char x = x then some x else none
def ckF (F : Fr) (a k : Nat) : Option Nat := if F.2.2.1 ≤ a ∧ a < F.2.2.2.1 ∧ F.1 a = k then some a else none
def nnF (r : UInt32) : Option UInt32 := if r &&& 0x7fffffff ≤ 0x7f800000 then some r else none
def nnD (r : UInt64) : Option UInt64 := if r &&& 0x7fffffffffffffff ≤ 0x7ff0000000000000 then some r else none
theorem nar_z {x : Int32} (h : x = 0 ∨ x = 1) : narrow .boolean (.int x) = .int x := by
  rcases h with rfl | rfl <;> rfl
theorem fit_z {x : Int32} (h : x = 0 ∨ x = 1) : fits .boolean (.int x) = true := by
  rcases h with rfl | rfl <;> rfl
theorem nar_c {x : Int32} (h : vp_nar .char x = x) : narrow .char (.int x) = .int x := by
  have e : narrow .char (.int x) = .int (vp_nar .char x) := rfl
  rw [e, h]
section BDS
variable {ρ σ : Type} {g : Bd} {G : Gy} {F : Fr} {cc : ByteArray} {own : String} {nL : Nat} {R : Room} {Q : ρ → State → Prop} {k n mc ms : Nat} {den : Option ρ} {w : Wd} {pc : Nat} {lv : List (Nat × Value)} {st : List Value}
theorem bd_ckZ {x : Int32} {kf : Int32 → Option ρ} (h : x = 0 ∨ x = 1 → BD g G F nL Q k n (kf x) w pc lv st) : BD g G F nL Q k n ((ckZ x).bind kf) w pc lv st := by
  unfold ckZ
  by_cases c : x = 0 ∨ x = 1
  · rw [if_pos c]; exact h c
  · rw [if_neg c]; exact bd_none
theorem bd_ckC {x : Int32} {kf : Int32 → Option ρ} (h : vp_nar .char x = x → BD g G F nL Q k n (kf x) w pc lv st) : BD g G F nL Q k n ((ckC x).bind kf) w pc lv st := by
  unfold ckC
  by_cases c : vp_nar .char x = x
  · rw [if_pos c]; exact h c
  · rw [if_neg c]; exact bd_none
theorem bd_ckF {x k2 : Nat} {kf : Nat → Option ρ} (h : okF F x k2 → BD g G F nL Q k n (kf x) w pc lv st) : BD g G F nL Q k n ((ckF F x k2).bind kf) w pc lv st := by
  unfold ckF
  by_cases c : F.2.2.1 ≤ x ∧ x < F.2.2.2.1 ∧ F.1 x = k2
  · rw [if_pos c]; exact h c
  · rw [if_neg c]; exact bd_none
theorem nnF_spec {x y : UInt32} (h : nnF x = some y) : vf_n32 x ∧ x = y := by
  unfold nnF at h
  by_cases c : x &&& 0x7fffffff ≤ 0x7f800000
  · rw [if_pos c] at h; exact ⟨c, Option.some.inj h⟩
  · rw [if_neg c] at h; cases h
theorem nnD_spec {x y : UInt64} (h : nnD x = some y) : vf_n64 x ∧ x = y := by
  unfold nnD at h
  by_cases c : x &&& 0x7fffffffffffffff ≤ 0x7ff0000000000000
  · rw [if_pos c] at h; exact ⟨c, Option.some.inj h⟩
  · rw [if_neg c] at h; cases h
theorem bd_fdiv (C : Cx g G F cc own nL R) {x y : UInt32} {kf : UInt32 → Option ρ} (hd : decode cc pc = .ok (.fdiv, 1)) (h : ∀ v, BD g G F nL Q k n (kf v) w (pc + 1) lv (.float v :: st)) : BD g G F nL Q k n ((nnF (FP.fdiv x y)).bind kf) w pc lv (.float y :: .float x :: st) := by
  intro r hr H locs ls hP hS hl
  obtain ⟨z, hz, hk⟩ := Option.bind_eq_some_iff.mp hr
  obtain ⟨h1, rfl⟩ := nnF_spec hz
  exact lv_fdiv C.exec C.code hd h1 (h _ r hk H locs ls hP hS hl)
theorem bd_ddiv (C : Cx g G F cc own nL R) {x y : UInt64} {kf : UInt64 → Option ρ} (hd : decode cc pc = .ok (.ddiv, 1)) (h : ∀ v, BD g G F nL Q k n (kf v) w (pc + 1) lv (.double v :: st)) : BD g G F nL Q k n ((nnD (FP.ddiv x y)).bind kf) w pc lv (.double y :: .double x :: st) := by
  intro r hr H locs ls hP hS hl
  obtain ⟨z, hz, hk⟩ := Option.bind_eq_some_iff.mp hr
  obtain ⟨h1, rfl⟩ := nnD_spec hz
  exact lv_ddiv C.exec C.code hd h1 (h _ r hk H locs ls hP hS hl)
theorem bd_dsub (C : Cx g G F cc own nL R) {x y : UInt64} {kf : UInt64 → Option ρ} (hd : decode cc pc = .ok (.dsub, 1)) (h : ∀ v, BD g G F nL Q k n (kf v) w (pc + 1) lv (.double v :: st)) : BD g G F nL Q k n ((nnD (FP.dsub x y)).bind kf) w pc lv (.double y :: .double x :: st) := by
  intro r hr H locs ls hP hS hl
  obtain ⟨z, hz, hk⟩ := Option.bind_eq_some_iff.mp hr
  obtain ⟨h1, rfl⟩ := nnD_spec hz
  exact lv_dsub C.exec C.code hd h1 (h _ r hk H locs ls hP hS hl)
theorem bd_f2d (C : Cx g G F cc own nL R) {x : UInt32} {kf : UInt64 → Option ρ} (hd : decode cc pc = .ok (.f2d, 1)) (h : ∀ v, BD g G F nL Q k n (kf v) w (pc + 1) lv (.double v :: st)) : BD g G F nL Q k n ((nnD (FP.f2d x)).bind kf) w pc lv (.float x :: st) := by
  intro r hr H locs ls hP hS hl
  obtain ⟨z, hz, hk⟩ := Option.bind_eq_some_iff.mp hr
  obtain ⟨h1, rfl⟩ := nnD_spec hz
  exact lv_f2d C.exec C.code hd h1 (h _ r hk H locs ls hP hS hl)
theorem bd_ldcw (C : Cx g G F cc own nL R) {i : Nat} {v : Int32} (hw : WD (.constant own i v)) (hd : decode cc pc = .ok (.ldc_w i, 3)) (h : BD g G F nL Q k n den w (pc + 3) lv (.int v :: st)) : BD g G F nL Q k n den w pc lv st :=
  fun r hr H locs ls hP hS hl => lv_ldcw C.exec C.code C.cls0 (C.wd hw) hd (h r hr H locs ls hP hS hl)
theorem bd_lookup (C : Cx g G F cc own nL R) {dflt : Int} {ps : Array (Int × Int)} {len : Nat} {x : Int32} {off : Int} (tgt : Nat) (hd : decode cc pc = .ok (.lookupswitch dflt ps, len)) (hp : (ps.toList.zip (ps.toList.drop 1)).all (fun (a, next) => a.1 < next.1) = true) (ho : Op.lookupswitch.offset ps.toList dflt x.toInt = off) (ht : (pc : Int) + off = (tgt : Int)) (h : BD g G F nL Q k n den w tgt lv st) : BD g G F nL Q k n den w pc lv (.int x :: st) :=
  fun r hr H locs ls hP hS hl => lv_lookup C.exec C.code hd hp ho ht (h r hr H locs ls hP hS hl)
theorem bd_aret (C : Cx g G F cc own nL R) {ty : Option FieldType} (hret : (bh g).sig.returnType = ty) {cn : String} (hn : ty = some (.object cn)) (vs : ρ → Option Value) (wf : ρ → Wd) {r0 : ρ} {x : Nat} (hv : vs r0 = some (.ref x)) (hw : wf r0 = w) (hd : decode cc pc = .ok (.areturn, 1)) (hk : k ≤ mc) (hm : n ≤ ms) : BD g G F nL (fun r => QM G F g mc ms (vs r) (wf r)) k n (some r0) w pc lv [.ref x] := by
  intro r hr H locs ls hP hS hl
  cases hr
  refine W.widen hk hm ?_
  refine W.aret C.exec C.code (hret.trans hn) (Or.inl ⟨_, rfl⟩) (Or.inr ⟨_, rfl⟩) (fun t ht hW => ⟨by rw [hv], by rw [hw, ht]; exact hP, hS.F ht⟩) hS.2.2 hd (hlocks := C.locks)
end BDS
/-! methods that may throw -/
def exN : Nat → String
  | 0 => "java/lang/IllegalArgumentException"
  | 1 => "java/lang/IndexOutOfBoundsException"
  | 2 => "java/lang/IllegalStateException"
  | 3 => "java/lang/UnsupportedOperationException"
  | 4 => "java/util/NoSuchElementException"
  | _ => "java/lang/ArithmeticException"
def vxint (r : (Int32 × Wd) ⊕ (Nat × Wd)) : (Option Value × Wd) ⊕ (String × Wd) := match r with
  | .inl v => .inl (some (.int v.1), v.2)
  | .inr e => .inr (exN e.1, e.2)
def vxfloat (r : (UInt32 × Wd) ⊕ (Nat × Wd)) : (Option Value × Wd) ⊕ (String × Wd) := match r with
  | .inl v => .inl (some (.float v.1), v.2)
  | .inr e => .inr (exN e.1, e.2)
def vxdouble (r : (UInt64 × Wd) ⊕ (Nat × Wd)) : (Option Value × Wd) ⊕ (String × Wd) := match r with
  | .inl v => .inl (some (.double v.1), v.2)
  | .inr e => .inr (exN e.1, e.2)
def QBx (G : Gy) (F : Fr) (r : (Option Value × Wd) ⊕ (String × Wd)) : Array Value → State → Outcome → State → Prop := fun a st o t => ∃ v, r = .inl v ∧ QB G F v.1 v.2 a st o t
def XBx (G : Gy) (F : Fr) (r : (Option Value × Wd) ⊕ (String × Wd)) : String → State → State → Prop := fun E st t => ∃ e, r = .inr e ∧ XB G F e.1 e.2 E st t
def QX (G : Gy) (F : Fr) (g : Bd) (mc ms : Nat) (r : (Option Value × Wd) ⊕ (String × Wd)) : State → Prop := vx_MQ (bb g) (QBx G F r) (XBx G F r) (ba g) (bs g) mc ms (AF F)
/-- the words of a throw -/
def XA (own : String) (ic : Nat) (cls : String) (names : List String) : Prop := (∀ w ∈ vx_at0 own ic cls names, WD w ∧ vx_ot w = true) ∧ Bundle.fit cls = true ∧ ∀ n ∈ names, Bundle.fit n = true
section BDX
variable {ρ σ : Type} {g : Bd} {G : Gy} {F : Fr} {cc : ByteArray} {own : String} {nL : Nat} {R : Room} {Q : ρ → State → Prop} {k n mc ms : Nat} {den : Option ρ} {w : Wd} {pc : Nat} {lv : List (Nat × Value)} {st : List Value}
theorem bd_vmet {l : Launch} {y : MethodName} {maxL : Nat} {ret : Option FieldType} {rm : Room} {av : List Value} {vx : ρ → (Option Value × Wd) ⊕ (String × Wd)} {r : ρ} (hl : l.stackTraces = false) (hy : plainName y.cls = true) (hav : (lg_sl av).length ≤ maxL) (hr : den = some r)
    (body : ∀ g, Cx g G F cc y.cls maxL rm → (bh g).sig.returnType = ret → (∀ x ∈ (bc g).exceptionTable.toList, False) → BD g G F maxL (fun r => QX G F g mc ms (vx r)) 0 0 den w 0 (lv_args 0 av) []) :
    vx_Met l y [.code y cc maxL ret] rm (PcB G F w av) (QBx G F (vx r)) (XBx G F (vx r)) mc ms (AF F) := by
  refine vx_ofW (cc := cc) (maxL := maxL) (ret := ret) hy rfl ?_
  intro p e s m args below meth c s₁ B hml ht hv
  obtain ⟨rfl, hP, hE⟩ := hv
  rw [lg_entry_eq]
  exact body (p, l, e, _, s, m, _, below, meth, c) ⟨B.exec, B.bytes, findClass_of_methodNamed B.named, hml, hE, B.notSynchronized, hl, rfl⟩ B.returns ht r hr s.heap [] _ hP va_S.rf (lv_entry av hav)
theorem bd_xiret (C : Cx g G F cc own nL R) {ty : Option FieldType} (hret : (bh g).sig.returnType = ty) (hn : ty = some .int) {vx : ρ → (Option Value × Wd) ⊕ (String × Wd)} {r0 : ρ} {x : Int32} (hv : vx r0 = .inl (some (.int x), w)) (hd : decode cc pc = .ok (.ireturn, 1)) (hk : k ≤ mc) (hm : n ≤ ms) : BD g G F nL (fun r => QX G F g mc ms (vx r)) k n (some r0) w pc lv [.int x] := by
  intro r hr H locs ls hP hS hl
  cases hr
  refine vx_ret (W.widen hk hm ?_)
  exact W.iret C.exec C.code (hret.trans hn) (fun t ht hW => ⟨_, hv, rfl, by rw [ht]; exact hP, hS.F ht⟩) hS.2.2 hd (hlocks := C.locks)
theorem bd_xzret (C : Cx g G F cc own nL R) {ty : Option FieldType} (hret : (bh g).sig.returnType = ty) {t1 : FieldType} (hn : ty = some t1) {vx : ρ → (Option Value × Wd) ⊕ (String × Wd)} {r0 : ρ} {x : Int32} (hx : narrow t1 (.int x) = .int x) (hv : vx r0 = .inl (some (.int x), w)) (hd : decode cc pc = .ok (.ireturn, 1)) (hk : k ≤ mc) (hm : n ≤ ms) : BD g G F nL (fun r => QX G F g mc ms (vx r)) k n (some r0) w pc lv [.int x] := by
  intro r hr H locs ls hP hS hl
  cases hr
  refine vx_ret (W.widen hk hm ?_)
  exact W.zret C.exec C.code (hret.trans hn) hx (fun t ht hW => ⟨_, hv, rfl, by rw [ht]; exact hP, hS.F ht⟩) hS.2.2 hd (hlocks := C.locks)
theorem bd_xfret (C : Cx g G F cc own nL R) {ty : Option FieldType} (hret : (bh g).sig.returnType = ty) (hn : ty = some .float) {vx : ρ → (Option Value × Wd) ⊕ (String × Wd)} {r0 : ρ} {x : UInt32} (hv : vx r0 = .inl (some (.float x), w)) (hd : decode cc pc = .ok (.freturn, 1)) (hk : k ≤ mc) (hm : n ≤ ms) : BD g G F nL (fun r => QX G F g mc ms (vx r)) k n (some r0) w pc lv [.float x] := by
  intro r hr H locs ls hP hS hl
  cases hr
  refine vx_ret (W.widen hk hm ?_)
  exact W.fret C.exec C.code (hret.trans hn) (fun t ht hW => ⟨_, hv, rfl, by rw [ht]; exact hP, hS.F ht⟩) hS.2.2 hd (hlocks := C.locks)
theorem bd_xdret (C : Cx g G F cc own nL R) {ty : Option FieldType} (hret : (bh g).sig.returnType = ty) (hn : ty = some .double) {vx : ρ → (Option Value × Wd) ⊕ (String × Wd)} {r0 : ρ} {x : UInt64} (hv : vx r0 = .inl (some (.double x), w)) (hd : decode cc pc = .ok (.dreturn, 1)) (hk : k ≤ mc) (hm : n ≤ ms) : BD g G F nL (fun r => QX G F g mc ms (vx r)) k n (some r0) w pc lv [.double x] := by
  intro r hr H locs ls hP hS hl
  cases hr
  refine vx_ret (W.widen hk hm ?_)
  exact W.dret C.exec C.code (hret.trans hn) (fun t ht hW => ⟨_, hv, rfl, by rw [ht]; exact hP, hS.F ht⟩) hS.2.2 hd (hlocks := C.locks)
theorem bd_fret (C : Cx g G F cc own nL R) {ty : Option FieldType} (hret : (bh g).sig.returnType = ty) (hn : ty = some .float) (vs : ρ → Option Value) (wf : ρ → Wd) {r0 : ρ} {x : UInt32} (hv : vs r0 = some (.float x)) (hw : wf r0 = w) (hd : decode cc pc = .ok (.freturn, 1)) (hk : k ≤ mc) (hm : n ≤ ms) : BD g G F nL (fun r => QM G F g mc ms (vs r) (wf r)) k n (some r0) w pc lv [.float x] := by
  intro r hr H locs ls hP hS hl
  cases hr
  refine W.widen hk hm ?_
  refine W.fret C.exec C.code (hret.trans hn) (fun t ht hW => ⟨by rw [hv], by rw [hw, ht]; exact hP, hS.F ht⟩) hS.2.2 hd (hlocks := C.locks)
theorem bd_dret (C : Cx g G F cc own nL R) {ty : Option FieldType} (hret : (bh g).sig.returnType = ty) (hn : ty = some .double) (vs : ρ → Option Value) (wf : ρ → Wd) {r0 : ρ} {x : UInt64} (hv : vs r0 = some (.double x)) (hw : wf r0 = w) (hd : decode cc pc = .ok (.dreturn, 1)) (hk : k ≤ mc) (hm : n ≤ ms) : BD g G F nL (fun r => QM G F g mc ms (vs r) (wf r)) k n (some r0) w pc lv [.double x] := by
  intro r hr H locs ls hP hS hl
  cases hr
  refine W.widen hk hm ?_
  refine W.dret C.exec C.code (hret.trans hn) (fun t ht hW => ⟨by rw [hv], by rw [hw, ht]; exact hP, hS.F ht⟩) hS.2.2 hd (hlocks := C.locks)
theorem bd_dconst0 (C : Cx g G F cc own nL R) (hd : decode cc pc = .ok (.dconst 0, 1)) (h : BD g G F nL Q k n den w (pc + 1) lv (.double FP.dconst0 :: st)) : BD g G F nL Q k n den w pc lv st :=
  fun r hr H locs ls hP hS hl => lv_dconst0 C.exec C.code hd (h r hr H locs ls hP hS hl)
theorem bd_dconst1 (C : Cx g G F cc own nL R) (hd : decode cc pc = .ok (.dconst 1, 1)) (h : BD g G F nL Q k n den w (pc + 1) lv (.double FP.dconst1 :: st)) : BD g G F nL Q k n den w pc lv st :=
  fun r hr H locs ls hP hS hl => lv_dconst1 C.exec C.code hd (h r hr H locs ls hP hS hl)
theorem bd_fconst0 (C : Cx g G F cc own nL R) (hd : decode cc pc = .ok (.fconst 0, 1)) (h : BD g G F nL Q k n den w (pc + 1) lv (.float FP.fconst0 :: st)) : BD g G F nL Q k n den w pc lv st :=
  fun r hr H locs ls hP hS hl => lv_fconst0 C.exec C.code hd (h r hr H locs ls hP hS hl)
theorem bd_fconst1 (C : Cx g G F cc own nL R) (hd : decode cc pc = .ok (.fconst 1, 1)) (h : BD g G F nL Q k n den w (pc + 1) lv (.float FP.fconst1 :: st)) : BD g G F nL Q k n den w pc lv st :=
  fun r hr H locs ls hP hS hl => lv_fconst1 C.exec C.code hd (h r hr H locs ls hP hS hl)
theorem HP.lt {H : Heap} (hP : HP G F w H) {a : Nat} (h1 : F.2.2.1 ≤ a) (h2 : a < F.2.2.2.1) : a < H.size := (hP.1 a h1 h2).lt
/-- a heap that has only grown -/
theorem HP.grown {H H1 : Heap} (hcm : F.2.2.2.2 = false) (hP : HP G F w H) (hq : ∀ q : Nat, q < H.size → H1[q]? = H[q]?) : HP G F w H1 :=
  ⟨fun a h1 h2 => (hP.1 a h1 h2).kept (hq a (hP.lt h1 h2)), fun h => by rw [hcm] at h; cases h⟩
theorem bd_throw (C : Cx g G F cc own nL R) (hxt : ∀ x ∈ (bc g).exceptionTable.toList, False) (hcm : F.2.2.2.2 = false) {e : Nat} {cls : String} (he : exN e = cls) {names : List String} {ik ic : Nat} {vx : ρ → (Option Value × Wd) ⊕ (String × Wd)} {r0 : ρ} (wk : WD (.classLink own ik cls)) (wi : WD (.initialized cls)) (xa : XA own ic cls names)
    (d0 : decode cc pc = .ok (.new ik, 3)) (d3 : decode cc (pc + 3) = .ok (.dup, 1)) (d4 : decode cc (pc + 4) = .ok (.invokespecial ic, 3)) (d7 : decode cc (pc + 7) = .ok (.athrow, 1))
    (hR : names.length + 4 ≤ R.frames ∧ (st.map fun v => v.category).sum + (13 * (names.length + 1) + 42) ≤ R.locals ∧ k + 1 ≤ R.cells ∧ n + 6 ≤ R.slots) (hm : k + 1 ≤ mc ∧ n + 6 ≤ ms) (hv : vx r0 = .inr (exN e, w)) :
    BD g G F nL (fun r => QX G F g mc ms (vx r)) k n (some r0) w pc lv st := by
  intro r hr H locs ls hP hS hl
  cases hr
  subst he
  refine vx_throw0 C.exec C.code C.flag C.cls0 xa.2.1 xa.2.2 (C.wd wk) (C.wd wi) (fun x hx => C.wd (xa.1 x hx).1) ?_ C.env.2.2.2.1 C.env.2.2.2.2 hS (hl.1.trans C.maxl.symm) d0 d3 d4 d7 (fun x hx => (hxt x hx).elim) (by rw [C.room]; exact hR.1) (by rw [C.room]; exact hR.2.1) (by rw [C.room]; exact hR.2.2.1) (by rw [C.room]; exact hR.2.2.2) C.locks ?_ hS.2.2 hm.1 hm.2
  · intro x hx
    rcases List.mem_cons.mp hx with rfl | hx
    · rfl
    · rcases List.mem_cons.mp hx with rfl | hx
      · rfl
      · exact (xa.1 x hx).2
  · intro t hvm hz hq
    refine ⟨_, hv, rfl, hP.grown hcm hq, Nat.le_trans hS.1 hz, fun q h1 h2 => ?_⟩
    rw [hq q (Nat.lt_of_lt_of_le h1 hS.1)]
    exact hS.2.1 q h1 h2
end BDX
