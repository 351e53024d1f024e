/-! worlds as functions of a field's number and an address; arrays by address; their cells -/
abbrev Wd : Type := (Nat → Nat → Int32) × (Nat → Nat → Int64) × (Nat → Nat → Option Nat) × (Nat → Nat → Int32) × (Nat → Nat → Int64) × (Nat → Nat → Option Nat) × (Nat → Nat → UInt64)
def gI (w : Wd) (f a : Nat) : Int32 := w.1 f a
def gJ (w : Wd) (f a : Nat) : Int64 := w.2.1 f a
def gR (w : Wd) (f a : Nat) : Option Nat := w.2.2.1 f a
def aI (w : Wd) (a : Nat) : Nat → Int32 := w.2.2.2.1 a
def aJ (w : Wd) (a : Nat) : Nat → Int64 := w.2.2.2.2.1 a
def aR (w : Wd) (a : Nat) : Nat → Option Nat := w.2.2.2.2.2.1 a
def aD (w : Wd) (a : Nat) : Nat → UInt64 := w.2.2.2.2.2.2 a
def up2 {α : Type} (f : Nat → Nat → α) (i a : Nat) (v : α) : Nat → Nat → α := fun j b => if j = i ∧ b = a then v else f j b
def up1 {α : Type} (f : Nat → α) (a : Nat) (v : α) : Nat → α := fun b => if b = a then v else f b
def sI (w : Wd) (f a : Nat) (v : Int32) : Wd := (up2 w.1 f a v, w.2)
def sJ (w : Wd) (f a : Nat) (v : Int64) : Wd := (w.1, up2 w.2.1 f a v, w.2.2)
def sR (w : Wd) (f a : Nat) (v : Option Nat) : Wd := (w.1, w.2.1, up2 w.2.2.1 f a v, w.2.2.2)
def sAI (w : Wd) (a : Nat) (v : Nat → Int32) : Wd := (w.1, w.2.1, w.2.2.1, up1 w.2.2.2.1 a v, w.2.2.2.2)
def sAJ (w : Wd) (a : Nat) (v : Nat → Int64) : Wd := (w.1, w.2.1, w.2.2.1, w.2.2.2.1, up1 w.2.2.2.2.1 a v, w.2.2.2.2.2)
def sAR (w : Wd) (a : Nat) (v : Nat → Option Nat) : Wd := (w.1, w.2.1, w.2.2.1, w.2.2.2.1, w.2.2.2.2.1, up1 w.2.2.2.2.2.1 a v, w.2.2.2.2.2.2)
def sAD (w : Wd) (a : Nat) (v : Nat → UInt64) : Wd := (w.1, w.2.1, w.2.2.1, w.2.2.2.1, w.2.2.2.2.1, w.2.2.2.2.2.1, up1 w.2.2.2.2.2.2 a v)
/-- what a world says of one address -/
abbrev Sl : Type := (Nat → Int32) × (Nat → Int64) × (Nat → Option Nat) × (Nat → Int32) × (Nat → Int64) × (Nat → Option Nat) × (Nat → UInt64)
def slice (w : Wd) (b : Nat) : Sl := (fun f => w.1 f b, fun f => w.2.1 f b, fun f => w.2.2.1 f b, w.2.2.2.1 b, w.2.2.2.2.1 b, w.2.2.2.2.2.1 b, w.2.2.2.2.2.2 b)
theorem up2_ne {α : Type} (f : Nat → Nat → α) {i a : Nat} (v : α) {b : Nat} (h : b ≠ a) (j : Nat) : up2 f i a v j b = f j b := by simp [up2, h]
theorem up1_ne {α : Type} (f : Nat → α) {a : Nat} (v : α) {b : Nat} (h : b ≠ a) : up1 f a v b = f b := by simp [up1, h]
theorem slice_sI (w : Wd) {f a : Nat} (v : Int32) {b : Nat} (h : b ≠ a) : slice (sI w f a v) b = slice w b := by simp [slice, sI, up2_ne _ _ h]
theorem slice_sJ (w : Wd) {f a : Nat} (v : Int64) {b : Nat} (h : b ≠ a) : slice (sJ w f a v) b = slice w b := by simp [slice, sJ, up2_ne _ _ h]
theorem slice_sR (w : Wd) {f a : Nat} (v : Option Nat) {b : Nat} (h : b ≠ a) : slice (sR w f a v) b = slice w b := by simp [slice, sR, up2_ne _ _ h]
theorem slice_sAI (w : Wd) {a : Nat} (v : Nat → Int32) {b : Nat} (h : b ≠ a) : slice (sAI w a v) b = slice w b := by simp [slice, sAI, up1_ne _ _ h]
theorem slice_sAJ (w : Wd) {a : Nat} (v : Nat → Int64) {b : Nat} (h : b ≠ a) : slice (sAJ w a v) b = slice w b := by simp [slice, sAJ, up1_ne _ _ h]
theorem slice_sAR (w : Wd) {a : Nat} (v : Nat → Option Nat) {b : Nat} (h : b ≠ a) : slice (sAR w a v) b = slice w b := by simp [slice, sAR, up1_ne _ _ h]
theorem slice_sAD (w : Wd) {a : Nat} (v : Nat → UInt64) {b : Nat} (h : b ≠ a) : slice (sAD w a v) b = slice w b := by simp [slice, sAD, up1_ne _ _ h]
def imax (x y : Int32) : Int32 := if x < y then y else x
def imin (x y : Int32) : Int32 := if y < x then y else x
def iabs (x : Int32) : Int32 := if 0 ≤ x then x else 0 - x
abbrev myCl : List vw_C := [(RX0, TX0, 4), (RX1, TX1, 9), (RX2, TX2, 3), (RX3, TX3, 7), (RX4, TX4, 7), (RX5, TX5, 7), (RX6, TX6, 2), (RX7, TX7, 4), (RX8, TX8, 13), (RX9, TX9, 47)]
/-- the fields of an object of a kind, in the order of the slots -/
def fieldsOf (sl : Sl) : Nat → List Value
  | 0 => [va_rf (sl.2.2.1 0), va_rf (sl.2.2.1 1), .int (sl.1 2), .int (sl.1 3)]
  | 1 => [va_rf (sl.2.2.1 100), va_rf (sl.2.2.1 101), va_rf (sl.2.2.1 102), va_rf (sl.2.2.1 103), va_rf (sl.2.2.1 104), .int (sl.1 105), .int (sl.1 106), .int (sl.1 107), .int (sl.1 108)]
  | 2 => [va_rf (sl.2.2.1 200), .int (sl.1 201), .int (sl.1 202)]
  | 3 => [va_rf (sl.2.2.1 300), .int (sl.1 301), .int (sl.1 302), .int (sl.1 303), .int (sl.1 304), .int (sl.1 305), .long (sl.2.1 306)]
  | 4 => [va_rf (sl.2.2.1 400), va_rf (sl.2.2.1 401), va_rf (sl.2.2.1 402), va_rf (sl.2.2.1 403), .int (sl.1 404), .int (sl.1 405), .int (sl.1 406)]
  | 5 => [va_rf (sl.2.2.1 500), va_rf (sl.2.2.1 501), va_rf (sl.2.2.1 502), va_rf (sl.2.2.1 503), va_rf (sl.2.2.1 504), va_rf (sl.2.2.1 505), .int (sl.1 506)]
  | 6 => [.int (sl.1 600), .int (sl.1 601)]
  | 7 => [va_rf (sl.2.2.1 700), va_rf (sl.2.2.1 701), va_rf (sl.2.2.1 702), .int (sl.1 703)]
  | 8 => [va_rf (sl.2.2.1 800), va_rf (sl.2.2.1 801), va_rf (sl.2.2.1 802), va_rf (sl.2.2.1 803), va_rf (sl.2.2.1 804), va_rf (sl.2.2.1 805), va_rf (sl.2.2.1 806), va_rf (sl.2.2.1 807), va_rf (sl.2.2.1 808), va_rf (sl.2.2.1 809), .int (sl.1 810), .int (sl.1 811), .int (sl.1 812)]
  | 9 => [va_rf (sl.2.2.1 900), va_rf (sl.2.2.1 901), va_rf (sl.2.2.1 902), .int (sl.1 903), va_rf (sl.2.2.1 904), .int (sl.1 905), .int (sl.1 906), va_rf (sl.2.2.1 907), .int (sl.1 908), .int (sl.1 909), .int (sl.1 910), .int (sl.1 911), .int (sl.1 912), .int (sl.1 913), va_rf (sl.2.2.1 914), va_rf (sl.2.2.1 915), .int (sl.1 916), va_rf (sl.2.2.1 917), va_rf (sl.2.2.1 918), va_rf (sl.2.2.1 919), va_rf (sl.2.2.1 920), va_rf (sl.2.2.1 921), va_rf (sl.2.2.1 922), va_rf (sl.2.2.1 923), .int (sl.1 924), va_rf (sl.2.2.1 925), va_rf (sl.2.2.1 926), .int (sl.1 927), .int (sl.1 928), va_rf (sl.2.2.1 929), va_rf (sl.2.2.1 930), va_rf (sl.2.2.1 931), va_rf (sl.2.2.1 932), .int (sl.1 933), .int (sl.1 934), .int (sl.1 935), va_rf (sl.2.2.1 936), .int (sl.1 937), .int (sl.1 938), .int (sl.1 939), .int (sl.1 940), va_rf (sl.2.2.1 941), va_rf (sl.2.2.1 942), va_rf (sl.2.2.1 943), va_rf (sl.2.2.1 944), .int (sl.1 945), .int (sl.1 946)]
  | _ => []
/-- the contents of an array of a kind: 10 chars, 11 ints, 12 longs, 13 booleans, 14 and 15 references, 16 doubles -/
def rowOf (sl : Sl) : Nat → (Nat → Int32) ⊕ (Nat → Int64) ⊕ (Nat → UInt32) ⊕ (Nat → UInt64) ⊕ (Nat → Option Nat)
  | 12 => .inr (.inl sl.2.2.2.2.1)
  | 14 => .inr (.inr (.inr (.inr sl.2.2.2.2.2.1)))
  | 15 => .inr (.inr (.inr (.inr sl.2.2.2.2.2.1)))
  | 16 => .inr (.inr (.inr (.inl sl.2.2.2.2.2.2)))
  | _ => .inl sl.2.2.2.1
def cellK (cy : Nat → ClassId) (n : Nat) (sl : Sl) (k : Nat) : va_E := if k < 10 then .inr (k, fieldsOf sl k) else .inl (cy k, n, rowOf sl k)
/-- the frame of the worlds: kinds, lengths, the first address, the address behind the last, whether it is still being made -/
abbrev Fr : Type := (Nat → Nat) × (Nat → Nat) × Nat × Nat × Bool
abbrev Gy : Type := va_G × (Nat → ClassId)
def okF (F : Fr) (a k : Nat) : Prop := F.2.2.1 ≤ a ∧ a < F.2.2.2.1 ∧ F.1 a = k
def AF (F : Fr) : Nat → Prop := fun q => F.2.2.1 ≤ q
def Fto (F : Fr) (h : Nat) : Fr := (F.1, F.2.1, F.2.2.1, h, F.2.2.2.2)
def HP (G : Gy) (F : Fr) (w : Wd) (H : Heap) : Prop := (∀ a, F.2.2.1 ≤ a → a < F.2.2.2.1 → va_at G.1 myCl (a, cellK G.2 (F.2.1 a) (slice w a) (F.1 a)) H) ∧ (F.2.2.2.2 = true → H.size = F.2.2.2.1)
theorem HP.get {G : Gy} {F : Fr} {w : Wd} {H : Heap} (h : HP G F w H) {a k : Nat} (ha : okF F a k) : va_at G.1 myCl (a, cellK G.2 (F.2.1 a) (slice w a) k) H := by
  have h1 := h.1 a ha.1 ha.2.1
  rw [ha.2.2] at h1
  exact h1
theorem HP.set {G : Gy} {F : Fr} {w w' : Wd} {H H1 : Heap} (h : HP G F w H) {a k : Nat} (ha : okF F a k) (he : va_at G.1 myCl (a, cellK G.2 (F.2.1 a) (slice w' a) k) H1) (z : H1.size = H.size) (oq : ∀ q : Nat, q ≠ a → H1[q]? = H[q]?) (hs : ∀ b, b ≠ a → slice w' b = slice w b) : HP G F w' H1 := by
  refine ⟨fun b h1 h2 => ?_, fun c => z.trans (h.2 c)⟩
  by_cases hb : b = a
  · subst hb
    rw [ha.2.2]
    exact he
  · rw [hs b hb]
    exact (h.1 b h1 h2).kept (oq b hb)
/-- the array classes of the kinds -/
def tysOf (cy : Nat → ClassId) : List (ClassId × FieldType) := [(cy 10, .char), (cy 11, .int), (cy 12, .long), (cy 13, .boolean), (cy 14, .object "LessonTiers$Book"), (cy 15, .object "LessonTiers$Row"), (cy 16, .double)]
/-- words that stay, whatever is noted -/
def xw2 : Cond → Bool
  | .castable .. => true
  | .methodLinkNest .. => true
  | .fieldLinkNest .. => true
  | .declares .. => true
  | _ => false
def xw (w : Cond) : Bool := goodWord w || xw2 w
def WD (w : Cond) : Prop := w ∈ lw_tbl ∧ xw w = true
def TW (U : State) : Prop := (∀ w ∈ lw_tbl, xw w = true → ∀ a : Array Value, w.before a U = true) ∧ va_AO "LessonTiers$Row" U ∧ va_AO "LessonTiers$Book" U
theorem TW.use {U : State} (h : TW U) {w : Cond} (hw : WD w) {a : Array Value} : w.before a U = true := h.1 w hw.1 hw.2 a
theorem xw_warm {w : Cond} (hx : xw w = true) {s U : State} (hW : s.WarmedH U.vm) {a a' : Array Value} (h : w.before a s = true) : w.before a' U = true := by
  by_cases hg : goodWord w = true
  · exact word_at hW (good_of_word hg) h
  · have hx2 : xw2 w = true := by
      unfold xw at hx
      rw [Bool.eq_false_iff.mpr hg, Bool.false_or] at hx
      exact hx
    clear hx hg
    cases w <;> first | (cases hx2; done) | skip
    all_goals first
      | exact va_Nw.use rfl (va_Nw.warmC hW (va_Nw.of rfl h))
      | exact va_Nw.use rfl (va_Nw.warmM hW (va_Nw.of rfl h))
      | exact va_Nw.use rfl (va_Nw.warmF hW (va_Nw.of rfl h))
      | exact va_Nw.use rfl (va_Nw.warmD hW (va_Nw.of rfl h))
theorem TW.warm {s U : State} (hW : s.WarmedH U.vm) (h : TW s) : TW U :=
  ⟨fun w hw hx _ => xw_warm hx hW (h.1 w hw hx #[]), h.2.1.moved hW.alike, h.2.2.moved hW.alike⟩
/-- what a method's start and every point behind it has -/
def Env2 (G : Gy) (F : Fr) (U : State) : Prop := va_K G.1 myCl (tysOf G.2) U ∧ TW U ∧ F.2.2.1 ≤ U.heap.size ∧ vx_Zq Bundle.tN "UNASSIGNED_STACK" Bundle.steD (AF F) U U.heap ∧ vx_Zq Bundle.tN "SUPPRESSED_SENTINEL" Bundle.listD (AF F) U U.heap
theorem Env2.moved {G : Gy} {F : Fr} {s U : State} {H : Heap} {locs : List Loc} (h : Env2 G F s) (hW : s.WarmedH U.vm) (hH : U.heap = H) (hS : va_S (AF F) s.heap H locs) : Env2 G F U := by
  obtain ⟨h1, h2, h3, h4, h5⟩ := h
  have hq : ∀ a : Nat, a < s.heap.size → ¬ AF F a → U.heap[a]? = s.heap[a]? := fun a h1 h2 => by rw [hH]; exact hS.2.1 a h1 h2
  exact ⟨h1.moved hW.alike, h2.warm hW, by rw [hH]; exact Nat.le_trans h3 hS.1, (h4.moved hW.alike).kept hq, (h5.moved hW.alike).kept hq⟩
/-- the base of a walk -/
abbrev Bd : Type := Program × Launch × Env × Room × State × MethodId × Array Value × List Frame × Method × Code
abbrev bp (g : Bd) : Program := g.1
abbrev bl (g : Bd) : Launch := g.2.1
abbrev be (g : Bd) : Env := g.2.2.1
abbrev bR (g : Bd) : Room := g.2.2.2.1
abbrev bs (g : Bd) : State := g.2.2.2.2.1
abbrev bm (g : Bd) : MethodId := g.2.2.2.2.2.1
abbrev ba (g : Bd) : Array Value := g.2.2.2.2.2.2.1
abbrev bb (g : Bd) : List Frame := g.2.2.2.2.2.2.2.1
abbrev bh (g : Bd) : Method := g.2.2.2.2.2.2.2.2.1
abbrev bc (g : Bd) : Code := g.2.2.2.2.2.2.2.2.2
abbrev WG (g : Bd) (H : Heap) (locs : List Loc) (k n : Nat) (Q : State → Prop) (pc : Nat) (ls : Array Slot) (st : List Value) : Prop :=
  W (bp g) (bl g) (be g) (bR g) (bs g) (bm g) (ba g) (bb g) (bh g) (bc g) H locs k n Q (F0 (bm g) pc ls st)
def Cx (g : Bd) (G : Gy) (F : Fr) (cc : ByteArray) (own : String) (nL : Nat) (R : Room) : Prop :=
  (bp g).tables.exec = Jvm.exec ∧ (bc g).code = cc ∧ (bs g).vm.findClass own = some (bm g).cls ∧ (bc g).maxLocals = nL ∧ Env2 G F (bs g) ∧ (bh g).locks = false ∧ (bl g).stackTraces = false ∧ bR g = R
/-- THE GOAL: from here on the walk comes to what the function says, if it says anything -/
def BD {ρ : Type} (g : Bd) (G : Gy) (F : Fr) (nL : Nat) (Q : ρ → State → Prop) (k n : Nat) (den : Option ρ) (w : Wd) (pc : Nat) (lv : List (Nat × Value)) (st : List Value) : Prop :=
  ∀ r, den = some r → ∀ (H : Heap) (locs : List Loc) (ls : Array Slot), HP G F w H → va_S (AF F) (bs g).heap H locs → lv_has ls nL lv → WG g H locs k n (Q r) pc ls st
section BDR
variable {ρ : Type} {g : Bd} {G : Gy} {F : Fr} {cc : ByteArray} {own : String} {nL : Nat} {R : Room} {Q : ρ → State → Prop} {k n : Nat} {den : Option ρ} {w : Wd} {pc : Nat} {lv : List (Nat × Value)} {st : List Value}
theorem bd_none : BD g G F nL Q k n none w pc lv st := fun _ h => by cases h
theorem bd_eq {d' : Option ρ} (e : den = d') (h : BD g G F nL Q k n d' w pc lv st) : BD g G F nL Q k n den w pc lv st := e ▸ h
theorem bd_sub {lv' : List (Nat × Value)} (h : BD g G F nL Q k n den w pc lv' st) (ks : List Nat) (e : lv_pick lv ks = lv') : BD g G F nL Q k n den w pc lv st :=
  fun r hr H locs ls hP hS hl => h r hr H locs ls hP hS (lv_sub hl ks e)
theorem bd_wide {k' n' : Nat} (hk : k ≤ k') (hn : n ≤ n') (h : BD g G F nL Q k' n' den w pc lv st) : BD g G F nL Q k n den w pc lv st :=
  fun r hr H locs ls hP hS hl => W.widen hk hn (h r hr H locs ls hP hS hl)
theorem bd_iconst (C : Cx g G F cc own nL R) {i : Int} {v : Int32} (hd : decode cc pc = .ok (.iconst i, 1)) (hv : Int32.ofInt i = v) (h : BD g G F nL Q k n den w (pc + 1) lv (.int v :: st)) : BD g G F nL Q k n den w pc lv st :=
  fun r hr H locs ls hP hS hl => lv_iconst C.1 C.2.1 hd hv (h r hr H locs ls hP hS hl)
theorem bd_bipush (C : Cx g G F cc own nL R) {i : Int} {v : Int32} (hd : decode cc pc = .ok (.bipush i, 2)) (hv : (Int8.ofInt i).toInt32 = v) (h : BD g G F nL Q k n den w (pc + 2) lv (.int v :: st)) : BD g G F nL Q k n den w pc lv st :=
  fun r hr H locs ls hP hS hl => lv_bipush C.1 C.2.1 hd hv (h r hr H locs ls hP hS hl)
theorem bd_sipush (C : Cx g G F cc own nL R) {i : Int} {v : Int32} (hd : decode cc pc = .ok (.sipush i, 3)) (hv : (Int16.ofInt i).toInt32 = v) (h : BD g G F nL Q k n den w (pc + 3) lv (.int v :: st)) : BD g G F nL Q k n den w pc lv st :=
  fun r hr H locs ls hP hS hl => lv_sipush C.1 C.2.1 hd hv (h r hr H locs ls hP hS hl)
theorem bd_lconst (C : Cx g G F cc own nL R) {i : Fin 2} {v : Int64} (hd : decode cc pc = .ok (.lconst i, 1)) (hv : Int64.ofNat (i : Nat) = v) (h : BD g G F nL Q k n den w (pc + 1) lv (.long v :: st)) : BD g G F nL Q k n den w pc lv st :=
  fun r hr H locs ls hP hS hl => lv_lconst C.1 C.2.1 hd hv (h r hr H locs ls hP hS hl)
theorem bd_ldc (C : Cx g G F cc own nL R) {i : Nat} {v : Int32} (hw : WD (.constant own i v)) (hd : decode cc pc = .ok (.ldc i, 2)) (h : BD g G F nL Q k n den w (pc + 2) lv (.int v :: st)) : BD g G F nL Q k n den w pc lv st :=
  fun r hr H locs ls hP hS hl => lv_ldc C.1 C.2.1 C.2.2.1 (C.2.2.2.2.1.2.1.use hw) hd (h r hr H locs ls hP hS hl)
theorem bd_ldc2 (C : Cx g G F cc own nL R) {i : Nat} {v : Int64} (hw : WD (.constantLong own i v)) (hd : decode cc pc = .ok (.ldc2_w i, 3)) (h : BD g G F nL Q k n den w (pc + 3) lv (.long v :: st)) : BD g G F nL Q k n den w pc lv st :=
  fun r hr H locs ls hP hS hl => lv_ldc2 C.1 C.2.1 C.2.2.1 (C.2.2.2.2.1.2.1.use hw) hd (h r hr H locs ls hP hS hl)
theorem bd_null (C : Cx g G F cc own nL R) (hd : decode cc pc = .ok (.aconst_null, 1)) (h : BD g G F nL Q k n den w (pc + 1) lv (va_rf none :: st)) : BD g G F nL Q k n den w pc lv st :=
  fun r hr H locs ls hP hS hl => lv_null C.1 C.2.1 hd (h r hr H locs ls hP hS hl)
theorem bd_iload_n (C : Cx g G F cc own nL R) {j : Fin 4} {i : Nat} {x : Int32} (q : Nat) (hd : decode cc pc = .ok (.iload_n j, 1)) (hi : (j : Nat) = i) (hq : lv[q]? = some (i, .int x)) (h : BD g G F nL Q k n den w (pc + 1) lv (.int x :: st)) : BD g G F nL Q k n den w pc lv st :=
  fun r hr H locs ls hP hS hl => lv_iload_n C.1 C.2.1 hd hi (lv_at hl q hq) (h r hr H locs ls hP hS hl)
theorem bd_iload (C : Cx g G F cc own nL R) {i : Nat} {x : Int32} (q : Nat) (hd : decode cc pc = .ok (.iload i, 2)) (hq : lv[q]? = some (i, .int x)) (h : BD g G F nL Q k n den w (pc + 2) lv (.int x :: st)) : BD g G F nL Q k n den w pc lv st :=
  fun r hr H locs ls hP hS hl => lv_iload C.1 C.2.1 hd (lv_at hl q hq) (h r hr H locs ls hP hS hl)
theorem bd_lload_n (C : Cx g G F cc own nL R) {j : Fin 4} {i : Nat} {x : Int64} (q : Nat) (hd : decode cc pc = .ok (.lload_n j, 1)) (hi : (j : Nat) = i) (hq : lv[q]? = some (i, .long x)) (h : BD g G F nL Q k n den w (pc + 1) lv (.long x :: st)) : BD g G F nL Q k n den w pc lv st :=
  fun r hr H locs ls hP hS hl => lv_lload_n C.1 C.2.1 hd hi (lv_at hl q hq) (h r hr H locs ls hP hS hl)
theorem bd_lload (C : Cx g G F cc own nL R) {i : Nat} {x : Int64} (q : Nat) (hd : decode cc pc = .ok (.lload i, 2)) (hq : lv[q]? = some (i, .long x)) (h : BD g G F nL Q k n den w (pc + 2) lv (.long x :: st)) : BD g G F nL Q k n den w pc lv st :=
  fun r hr H locs ls hP hS hl => lv_lload C.1 C.2.1 hd (lv_at hl q hq) (h r hr H locs ls hP hS hl)
theorem bd_aload_n (C : Cx g G F cc own nL R) {j : Fin 4} {i : Nat} {x : Nat} (q : Nat) (hd : decode cc pc = .ok (.aload_n j, 1)) (hi : (j : Nat) = i) (hq : lv[q]? = some (i, .ref x)) (h : BD g G F nL Q k n den w (pc + 1) lv (.ref x :: st)) : BD g G F nL Q k n den w pc lv st :=
  fun r hr H locs ls hP hS hl => lv_aload_n C.1 C.2.1 hd hi (lv_at hl q hq) (h r hr H locs ls hP hS hl)
theorem bd_aload (C : Cx g G F cc own nL R) {i : Nat} {x : Nat} (q : Nat) (hd : decode cc pc = .ok (.aload i, 2)) (hq : lv[q]? = some (i, .ref x)) (h : BD g G F nL Q k n den w (pc + 2) lv (.ref x :: st)) : BD g G F nL Q k n den w pc lv st :=
  fun r hr H locs ls hP hS hl => lv_aload C.1 C.2.1 hd (lv_at hl q hq) (h r hr H locs ls hP hS hl)
/-- a local that may be null -/
theorem bd_aload_nq (C : Cx g G F cc own nL R) {j : Fin 4} {i : Nat} {x : Option Nat} (q : Nat) (hd : decode cc pc = .ok (.aload_n j, 1)) (hi : (j : Nat) = i) (hq : lv[q]? = some (i, va_rf x)) (h : BD g G F nL Q k n den w (pc + 1) lv (va_rf x :: st)) : BD g G F nL Q k n den w pc lv st := by
  intro r hr H locs ls hP hS hl
  cases x with
  | none => exact lv_aload_nN C.1 C.2.1 hd hi (lv_at hl q hq) (h r hr H locs ls hP hS hl)
  | some x => exact lv_aload_n C.1 C.2.1 hd hi (lv_at hl q hq) (h r hr H locs ls hP hS hl)
theorem bd_aloadq (C : Cx g G F cc own nL R) {i : Nat} {x : Option Nat} (q : Nat) (hd : decode cc pc = .ok (.aload i, 2)) (hq : lv[q]? = some (i, va_rf x)) (h : BD g G F nL Q k n den w (pc + 2) lv (va_rf x :: st)) : BD g G F nL Q k n den w pc lv st := by
  intro r hr H locs ls hP hS hl
  cases x with
  | none => exact lv_aloadN C.1 C.2.1 hd (lv_at hl q hq) (h r hr H locs ls hP hS hl)
  | some x => exact lv_aload C.1 C.2.1 hd (lv_at hl q hq) (h r hr H locs ls hP hS hl)
theorem bd_istore_n (C : Cx g G F cc own nL R) {j : Fin 4} {i : Nat} {x : Int32} (lv' : List (Nat × Value)) (hd : decode cc pc = .ok (.istore_n j, 1)) (hi : (j : Nat) = i) (hn : i < nL) (e : (i, Value.int x) :: lv.filter (fun q => !(q.1 == i) && !(q.1 + 1 == i && q.2.category == 2)) = lv') (h : BD g G F nL Q k n den w (pc + 1) lv' st) : BD g G F nL Q k n den w pc lv (.int x :: st) :=
  fun r hr H locs ls hP hS hl => lv_istore_n C.1 C.2.1 hd hi hl hn e (fun ls' hl' => h r hr H locs ls' hP hS hl')
theorem bd_istore (C : Cx g G F cc own nL R) {i : Nat} {x : Int32} (lv' : List (Nat × Value)) (hd : decode cc pc = .ok (.istore i, 2)) (hn : i < nL) (e : (i, Value.int x) :: lv.filter (fun q => !(q.1 == i) && !(q.1 + 1 == i && q.2.category == 2)) = lv') (h : BD g G F nL Q k n den w (pc + 2) lv' st) : BD g G F nL Q k n den w pc lv (.int x :: st) :=
  fun r hr H locs ls hP hS hl => lv_istore C.1 C.2.1 hd hl hn e (fun ls' hl' => h r hr H locs ls' hP hS hl')
theorem bd_lstore_n (C : Cx g G F cc own nL R) {j : Fin 4} {i : Nat} {x : Int64} (lv' : List (Nat × Value)) (hd : decode cc pc = .ok (.lstore_n j, 1)) (hi : (j : Nat) = i) (hn : i + 1 < nL) (e : (i, Value.long x) :: lv.filter (fun q => !(q.1 == i) && (!(q.1 == i + 1) && !(q.1 + 1 == i && q.2.category == 2))) = lv') (h : BD g G F nL Q k n den w (pc + 1) lv' st) : BD g G F nL Q k n den w pc lv (.long x :: st) :=
  fun r hr H locs ls hP hS hl => lv_lstore_n C.1 C.2.1 hd hi hl hn e (fun ls' hl' => h r hr H locs ls' hP hS hl')
theorem bd_lstore (C : Cx g G F cc own nL R) {i : Nat} {x : Int64} (lv' : List (Nat × Value)) (hd : decode cc pc = .ok (.lstore i, 2)) (hn : i + 1 < nL) (e : (i, Value.long x) :: lv.filter (fun q => !(q.1 == i) && (!(q.1 == i + 1) && !(q.1 + 1 == i && q.2.category == 2))) = lv') (h : BD g G F nL Q k n den w (pc + 2) lv' st) : BD g G F nL Q k n den w pc lv (.long x :: st) :=
  fun r hr H locs ls hP hS hl => lv_lstore C.1 C.2.1 hd hl hn e (fun ls' hl' => h r hr H locs ls' hP hS hl')
theorem bd_dstore (C : Cx g G F cc own nL R) {i : Nat} {x : UInt64} (lv' : List (Nat × Value)) (hd : decode cc pc = .ok (.dstore i, 2)) (hn : i + 1 < nL) (e : (i, Value.double x) :: lv.filter (fun q => !(q.1 == i) && (!(q.1 == i + 1) && !(q.1 + 1 == i && q.2.category == 2))) = lv') (h : BD g G F nL Q k n den w (pc + 2) lv' st) : BD g G F nL Q k n den w pc lv (.double x :: st) :=
  fun r hr H locs ls hP hS hl => lv_dstore C.1 C.2.1 hd hl hn e (fun ls' hl' => h r hr H locs ls' hP hS hl')
theorem bd_dload (C : Cx g G F cc own nL R) {i : Nat} {x : UInt64} (q : Nat) (hd : decode cc pc = .ok (.dload i, 2)) (hq : lv[q]? = some (i, .double x)) (h : BD g G F nL Q k n den w (pc + 2) lv (.double x :: st)) : BD g G F nL Q k n den w pc lv st :=
  fun r hr H locs ls hP hS hl => lv_dload C.1 C.2.1 hd (lv_at hl q hq) (h r hr H locs ls hP hS hl)
theorem bd_astore_n (C : Cx g G F cc own nL R) {j : Fin 4} {i : Nat} {x : Nat} (lv' : List (Nat × Value)) (hd : decode cc pc = .ok (.astore_n j, 1)) (hi : (j : Nat) = i) (hn : i < nL) (e : (i, Value.ref x) :: lv.filter (fun q => !(q.1 == i) && !(q.1 + 1 == i && q.2.category == 2)) = lv') (h : BD g G F nL Q k n den w (pc + 1) lv' st) : BD g G F nL Q k n den w pc lv (.ref x :: st) :=
  fun r hr H locs ls hP hS hl => lv_astore_n C.1 C.2.1 hd hi hl hn e (fun ls' hl' => h r hr H locs ls' hP hS hl')
theorem bd_astore (C : Cx g G F cc own nL R) {i : Nat} {x : Nat} (lv' : List (Nat × Value)) (hd : decode cc pc = .ok (.astore i, 2)) (hn : i < nL) (e : (i, Value.ref x) :: lv.filter (fun q => !(q.1 == i) && !(q.1 + 1 == i && q.2.category == 2)) = lv') (h : BD g G F nL Q k n den w (pc + 2) lv' st) : BD g G F nL Q k n den w pc lv (.ref x :: st) :=
  fun r hr H locs ls hP hS hl => lv_astore C.1 C.2.1 hd hl hn e (fun ls' hl' => h r hr H locs ls' hP hS hl')
theorem bd_astore_nq (C : Cx g G F cc own nL R) {j : Fin 4} {i : Nat} {x : Option Nat} (lv' : List (Nat × Value)) (hd : decode cc pc = .ok (.astore_n j, 1)) (hi : (j : Nat) = i) (hn : i < nL) (e : (i, va_rf x) :: lv.filter (fun q => !(q.1 == i) && !(q.1 + 1 == i && q.2.category == 2)) = lv') (h : BD g G F nL Q k n den w (pc + 1) lv' st) : BD g G F nL Q k n den w pc lv (va_rf x :: st) := by
  intro r hr H locs ls hP hS hl
  cases x with
  | none => exact lv_astore_nN C.1 C.2.1 hd hi hl hn e (fun ls' hl' => h r hr H locs ls' hP hS hl')
  | some x => exact lv_astore_n C.1 C.2.1 hd hi hl hn e (fun ls' hl' => h r hr H locs ls' hP hS hl')
theorem bd_astoreq (C : Cx g G F cc own nL R) {i : Nat} {x : Option Nat} (lv' : List (Nat × Value)) (hd : decode cc pc = .ok (.astore i, 2)) (hn : i < nL) (e : (i, va_rf x) :: lv.filter (fun q => !(q.1 == i) && !(q.1 + 1 == i && q.2.category == 2)) = lv') (h : BD g G F nL Q k n den w (pc + 2) lv' st) : BD g G F nL Q k n den w pc lv (va_rf x :: st) := by
  intro r hr H locs ls hP hS hl
  cases x with
  | none => exact lv_astoreN C.1 C.2.1 hd hl hn e (fun ls' hl' => h r hr H locs ls' hP hS hl')
  | some x => exact lv_astore C.1 C.2.1 hd hl hn e (fun ls' hl' => h r hr H locs ls' hP hS hl')
theorem bd_iinc (C : Cx g G F cc own nL R) {i : Nat} {j : Int} {x v : Int32} (q : Nat) (lv' : List (Nat × Value)) (hd : decode cc pc = .ok (.iinc i j, 3)) (hq : lv[q]? = some (i, .int x)) (hv : x + Int32.ofInt j = v) (hn : i < nL) (e : (i, Value.int v) :: lv.filter (fun q => !(q.1 == i) && !(q.1 + 1 == i && q.2.category == 2)) = lv') (h : BD g G F nL Q k n den w (pc + 3) lv' st) : BD g G F nL Q k n den w pc lv st :=
  fun r hr H locs ls hP hS hl => lv_iinc C.1 C.2.1 hd hl hq hv hn e (fun ls' hl' => h r hr H locs ls' hP hS hl')
theorem bd_goto (C : Cx g G F cc own nL R) {off : Int} (tgt : Nat) (hd : decode cc pc = .ok (.goto off, 3)) (ht : (pc : Int) + off = (tgt : Int)) (h : BD g G F nL Q k n den w tgt lv st) : BD g G F nL Q k n den w pc lv st :=
  fun r hr H locs ls hP hS hl => lv_goto C.1 C.2.1 hd ht (h r hr H locs ls hP hS hl)
theorem bd_dup (C : Cx g G F cc own nL R) {v : Value} (hd : decode cc pc = .ok (.dup, 1)) (hv : v.category = 1) (h : BD g G F nL Q k n den w (pc + 1) lv (v :: v :: st)) : BD g G F nL Q k n den w pc lv (v :: st) :=
  fun r hr H locs ls hP hS hl => lv_dup C.1 C.2.1 hd hv (h r hr H locs ls hP hS hl)
theorem bd_dup_x1 (C : Cx g G F cc own nL R) {v u : Value} (hd : decode cc pc = .ok (.dup_x1, 1)) (hv : v.category = 1) (hu : u.category = 1) (h : BD g G F nL Q k n den w (pc + 1) lv (v :: u :: v :: st)) : BD g G F nL Q k n den w pc lv (v :: u :: st) :=
  fun r hr H locs ls hP hS hl => lv_dup_x1 C.1 C.2.1 hd hv hu (h r hr H locs ls hP hS hl)
theorem bd_dup2 (C : Cx g G F cc own nL R) {v u : Value} (hd : decode cc pc = .ok (.dup2, 1)) (hv : v.category = 1) (hu : u.category = 1) (h : BD g G F nL Q k n den w (pc + 1) lv (v :: u :: v :: u :: st)) : BD g G F nL Q k n den w pc lv (v :: u :: st) :=
  fun r hr H locs ls hP hS hl => lv_dup2_11 C.1 C.2.1 hd hv hu (h r hr H locs ls hP hS hl)
theorem bd_pop (C : Cx g G F cc own nL R) {v : Value} (hd : decode cc pc = .ok (.pop, 1)) (hv : v.category = 1) (h : BD g G F nL Q k n den w (pc + 1) lv st) : BD g G F nL Q k n den w pc lv (v :: st) :=
  fun r hr H locs ls hP hS hl => lv_pop C.1 C.2.1 hd hv (h r hr H locs ls hP hS hl)
theorem bd_pop2 (C : Cx g G F cc own nL R) {v : Value} (hd : decode cc pc = .ok (.pop2, 1)) (hv : v.category = 2) (h : BD g G F nL Q k n den w (pc + 1) lv st) : BD g G F nL Q k n den w pc lv (v :: st) :=
  fun r hr H locs ls hP hS hl => lv_pop2_2 C.1 C.2.1 hd hv (h r hr H locs ls hP hS hl)
theorem bd_iadd (C : Cx g G F cc own nL R) {x : Int32} {y : Int32} (hd : decode cc pc = .ok (.iadd, 1)) (h : BD g G F nL Q k n den w (pc + 1) lv (.int (x + y) :: st)) : BD g G F nL Q k n den w pc lv (.int y :: .int x :: st) :=
  fun r hr H locs ls hP hS hl => lv_iadd C.1 C.2.1 hd (h r hr H locs ls hP hS hl)
theorem bd_isub (C : Cx g G F cc own nL R) {x : Int32} {y : Int32} (hd : decode cc pc = .ok (.isub, 1)) (h : BD g G F nL Q k n den w (pc + 1) lv (.int (x - y) :: st)) : BD g G F nL Q k n den w pc lv (.int y :: .int x :: st) :=
  fun r hr H locs ls hP hS hl => lv_isub C.1 C.2.1 hd (h r hr H locs ls hP hS hl)
theorem bd_imul (C : Cx g G F cc own nL R) {x : Int32} {y : Int32} (hd : decode cc pc = .ok (.imul, 1)) (h : BD g G F nL Q k n den w (pc + 1) lv (.int (x * y) :: st)) : BD g G F nL Q k n den w pc lv (.int y :: .int x :: st) :=
  fun r hr H locs ls hP hS hl => lv_imul C.1 C.2.1 hd (h r hr H locs ls hP hS hl)
theorem bd_iand (C : Cx g G F cc own nL R) {x : Int32} {y : Int32} (hd : decode cc pc = .ok (.iand, 1)) (h : BD g G F nL Q k n den w (pc + 1) lv (.int (x &&& y) :: st)) : BD g G F nL Q k n den w pc lv (.int y :: .int x :: st) :=
  fun r hr H locs ls hP hS hl => lv_iand C.1 C.2.1 hd (h r hr H locs ls hP hS hl)
theorem bd_ior (C : Cx g G F cc own nL R) {x : Int32} {y : Int32} (hd : decode cc pc = .ok (.ior, 1)) (h : BD g G F nL Q k n den w (pc + 1) lv (.int (x ||| y) :: st)) : BD g G F nL Q k n den w pc lv (.int y :: .int x :: st) :=
  fun r hr H locs ls hP hS hl => lv_ior C.1 C.2.1 hd (h r hr H locs ls hP hS hl)
theorem bd_ixor (C : Cx g G F cc own nL R) {x : Int32} {y : Int32} (hd : decode cc pc = .ok (.ixor, 1)) (h : BD g G F nL Q k n den w (pc + 1) lv (.int (x ^^^ y) :: st)) : BD g G F nL Q k n den w pc lv (.int y :: .int x :: st) :=
  fun r hr H locs ls hP hS hl => lv_ixor C.1 C.2.1 hd (h r hr H locs ls hP hS hl)
theorem bd_ishl (C : Cx g G F cc own nL R) {x : Int32} {y : Int32} (hd : decode cc pc = .ok (.ishl, 1)) (h : BD g G F nL Q k n den w (pc + 1) lv (.int (x <<< (y &&& 31)) :: st)) : BD g G F nL Q k n den w pc lv (.int y :: .int x :: st) :=
  fun r hr H locs ls hP hS hl => lv_ishl C.1 C.2.1 hd (h r hr H locs ls hP hS hl)
theorem bd_ishr (C : Cx g G F cc own nL R) {x : Int32} {y : Int32} (hd : decode cc pc = .ok (.ishr, 1)) (h : BD g G F nL Q k n den w (pc + 1) lv (.int (x >>> (y &&& 31)) :: st)) : BD g G F nL Q k n den w pc lv (.int y :: .int x :: st) :=
  fun r hr H locs ls hP hS hl => lv_ishr C.1 C.2.1 hd (h r hr H locs ls hP hS hl)
theorem bd_iushr (C : Cx g G F cc own nL R) {x : Int32} {y : Int32} (hd : decode cc pc = .ok (.iushr, 1)) (h : BD g G F nL Q k n den w (pc + 1) lv (.int ((x.toUInt32 >>> (y.toUInt32 &&& Int32.toUInt32 31)).toInt32) :: st)) : BD g G F nL Q k n den w pc lv (.int y :: .int x :: st) :=
  fun r hr H locs ls hP hS hl => lv_iushr C.1 C.2.1 hd rfl (h r hr H locs ls hP hS hl)
theorem bd_ladd (C : Cx g G F cc own nL R) {x : Int64} {y : Int64} (hd : decode cc pc = .ok (.ladd, 1)) (h : BD g G F nL Q k n den w (pc + 1) lv (.long (x + y) :: st)) : BD g G F nL Q k n den w pc lv (.long y :: .long x :: st) :=
  fun r hr H locs ls hP hS hl => lv_ladd C.1 C.2.1 hd (h r hr H locs ls hP hS hl)
theorem bd_lsub (C : Cx g G F cc own nL R) {x : Int64} {y : Int64} (hd : decode cc pc = .ok (.lsub, 1)) (h : BD g G F nL Q k n den w (pc + 1) lv (.long (x - y) :: st)) : BD g G F nL Q k n den w pc lv (.long y :: .long x :: st) :=
  fun r hr H locs ls hP hS hl => lv_lsub C.1 C.2.1 hd (h r hr H locs ls hP hS hl)
theorem bd_lmul (C : Cx g G F cc own nL R) {x : Int64} {y : Int64} (hd : decode cc pc = .ok (.lmul, 1)) (h : BD g G F nL Q k n den w (pc + 1) lv (.long (x * y) :: st)) : BD g G F nL Q k n den w pc lv (.long y :: .long x :: st) :=
  fun r hr H locs ls hP hS hl => lv_lmul C.1 C.2.1 hd (h r hr H locs ls hP hS hl)
theorem bd_land (C : Cx g G F cc own nL R) {x : Int64} {y : Int64} (hd : decode cc pc = .ok (.land, 1)) (h : BD g G F nL Q k n den w (pc + 1) lv (.long (x &&& y) :: st)) : BD g G F nL Q k n den w pc lv (.long y :: .long x :: st) :=
  fun r hr H locs ls hP hS hl => lv_land C.1 C.2.1 hd (h r hr H locs ls hP hS hl)
theorem bd_lor (C : Cx g G F cc own nL R) {x : Int64} {y : Int64} (hd : decode cc pc = .ok (.lor, 1)) (h : BD g G F nL Q k n den w (pc + 1) lv (.long (x ||| y) :: st)) : BD g G F nL Q k n den w pc lv (.long y :: .long x :: st) :=
  fun r hr H locs ls hP hS hl => lv_lor C.1 C.2.1 hd (h r hr H locs ls hP hS hl)
theorem bd_lxor (C : Cx g G F cc own nL R) {x : Int64} {y : Int64} (hd : decode cc pc = .ok (.lxor, 1)) (h : BD g G F nL Q k n den w (pc + 1) lv (.long (x ^^^ y) :: st)) : BD g G F nL Q k n den w pc lv (.long y :: .long x :: st) :=
  fun r hr H locs ls hP hS hl => lv_lxor C.1 C.2.1 hd (h r hr H locs ls hP hS hl)
theorem bd_lushr (C : Cx g G F cc own nL R) {x : Int64} {y : Int32} (hd : decode cc pc = .ok (.lushr, 1)) (h : BD g G F nL Q k n den w (pc + 1) lv (.long ((x.toUInt64 >>> (y.toInt64.toUInt64 &&& Int64.toUInt64 63)).toInt64) :: st)) : BD g G F nL Q k n den w pc lv (.int y :: .long x :: st) :=
  fun r hr H locs ls hP hS hl => lv_lushr C.1 C.2.1 hd rfl (h r hr H locs ls hP hS hl)
theorem bd_lshl (C : Cx g G F cc own nL R) {x : Int64} {y : Int32} (hd : decode cc pc = .ok (.lshl, 1)) (h : BD g G F nL Q k n den w (pc + 1) lv (.long (x <<< (y.toInt64 &&& 63)) :: st)) : BD g G F nL Q k n den w pc lv (.int y :: .long x :: st) :=
  fun r hr H locs ls hP hS hl => lv_lshl C.1 C.2.1 hd rfl (h r hr H locs ls hP hS hl)
theorem bd_ineg (C : Cx g G F cc own nL R) {x : Int32} (hd : decode cc pc = .ok (.ineg, 1)) (h : BD g G F nL Q k n den w (pc + 1) lv (.int (-x) :: st)) : BD g G F nL Q k n den w pc lv (.int x :: st) :=
  fun r hr H locs ls hP hS hl => lv_ineg C.1 C.2.1 hd (h r hr H locs ls hP hS hl)
theorem bd_lneg (C : Cx g G F cc own nL R) {x : Int64} (hd : decode cc pc = .ok (.lneg, 1)) (h : BD g G F nL Q k n den w (pc + 1) lv (.long (-x) :: st)) : BD g G F nL Q k n den w pc lv (.long x :: st) :=
  fun r hr H locs ls hP hS hl => lv_lneg C.1 C.2.1 hd (h r hr H locs ls hP hS hl)
theorem bd_i2l (C : Cx g G F cc own nL R) {x : Int32} (hd : decode cc pc = .ok (.i2l, 1)) (h : BD g G F nL Q k n den w (pc + 1) lv (.long (x.toInt64) :: st)) : BD g G F nL Q k n den w pc lv (.int x :: st) :=
  fun r hr H locs ls hP hS hl => lv_i2l C.1 C.2.1 hd rfl (h r hr H locs ls hP hS hl)
theorem bd_l2i (C : Cx g G F cc own nL R) {x : Int64} (hd : decode cc pc = .ok (.l2i, 1)) (h : BD g G F nL Q k n den w (pc + 1) lv (.int (x.toInt32) :: st)) : BD g G F nL Q k n den w pc lv (.long x :: st) :=
  fun r hr H locs ls hP hS hl => lv_l2i C.1 C.2.1 hd rfl (h r hr H locs ls hP hS hl)
theorem bd_i2c (C : Cx g G F cc own nL R) {x : Int32} (hd : decode cc pc = .ok (.i2c, 1)) (h : BD g G F nL Q k n den w (pc + 1) lv (.int ((x.toUInt32 % 65536).toInt32) :: st)) : BD g G F nL Q k n den w pc lv (.int x :: st) :=
  fun r hr H locs ls hP hS hl => lv_i2c C.1 C.2.1 hd rfl (h r hr H locs ls hP hS hl)
theorem bd_i2f (C : Cx g G F cc own nL R) {x : Int32} (hd : decode cc pc = .ok (.i2f, 1)) (h : BD g G F nL Q k n den w (pc + 1) lv (.float (FP.i2f x) :: st)) : BD g G F nL Q k n den w pc lv (.int x :: st) :=
  fun r hr H locs ls hP hS hl => lv_i2f C.1 C.2.1 hd (h r hr H locs ls hP hS hl)
theorem bd_i2d (C : Cx g G F cc own nL R) {x : Int32} (hd : decode cc pc = .ok (.i2d, 1)) (h : BD g G F nL Q k n den w (pc + 1) lv (.double (FP.i2d x) :: st)) : BD g G F nL Q k n den w pc lv (.int x :: st) :=
  fun r hr H locs ls hP hS hl => lv_i2d C.1 C.2.1 hd (h r hr H locs ls hP hS hl)
theorem bd_ldiv (C : Cx g G F cc own nL R) {x y : Int64} (hd : decode cc pc = .ok (.ldiv, 1)) (hne : ¬ y = 0) (h : BD g G F nL Q k n den w (pc + 1) lv (.long (x / y) :: st)) : BD g G F nL Q k n den w pc lv (.long y :: .long x :: st) :=
  fun r hr H locs ls hP hS hl => lv_ldiv C.1 C.2.1 hd hne (h r hr H locs ls hP hS hl)
theorem bd_lcmp (C : Cx g G F cc own nL R) {x y : Int64} (hd : decode cc pc = .ok (.lcmp, 1)) (h : BD g G F nL Q k n den w (pc + 1) lv (.int (lg_cmp x y) :: st)) : BD g G F nL Q k n den w pc lv (.long y :: .long x :: st) :=
  fun r hr H locs ls hP hS hl => W.lcmp C.1 C.2.1 hd (h r hr H locs ls hP hS hl)
theorem bd_dcmp (C : Cx g G F cc own nL R) {x y : UInt64} {op : CmpOp} (hd : decode cc pc = .ok (.dcmp op, 1)) (h : BD g G F nL Q k n den w (pc + 1) lv (.int (Op.cmpValue (FP.dcmp x y) op) :: st)) : BD g G F nL Q k n den w pc lv (.double y :: .double x :: st) :=
  fun r hr H locs ls hP hS hl => lv_dcmp C.1 C.2.1 hd (h r hr H locs ls hP hS hl)
theorem bd_ldc2d (C : Cx g G F cc own nL R) {i : Nat} {v : UInt64} (hw : WD (.constantDouble own i v)) (hd : decode cc pc = .ok (.ldc2_w i, 3)) (h : BD g G F nL Q k n den w (pc + 3) lv (.double v :: st)) : BD g G F nL Q k n den w pc lv st :=
  fun r hr H locs ls hP hS hl => lv_ldc2d C.1 C.2.1 C.2.2.1 (C.2.2.2.2.1.2.1.use hw) hd (h r hr H locs ls hP hS hl)
theorem bd_if_eq (C : Cx g G F cc own nL R) {X Y : Option ρ} {x : Int32} {off : Int} (tgt : Nat) (hd : decode cc pc = .ok (.ifCond .eq off, 3)) (ht : (pc : Int) + off = (tgt : Int)) (h1 : x = 0 → BD g G F nL Q k n X w tgt lv st) (h2 : ¬ x = 0 → BD g G F nL Q k n Y w (pc + 3) lv st) : BD g G F nL Q k n (if x = 0 then X else Y) w pc lv (.int x :: st) := by
  intro r hr H locs ls hP hS hl
  refine lv_if_eq C.1 C.2.1 hd ht (fun c => h1 c r ?_ H locs ls hP hS hl) (fun c => h2 c r ?_ H locs ls hP hS hl)
  · rw [← hr]; exact (if_pos c).symm
  · rw [← hr]; exact (if_neg c).symm
theorem bd_icmp_eq (C : Cx g G F cc own nL R) {X Y : Option ρ} {x y : Int32} {off : Int} (tgt : Nat) (hd : decode cc pc = .ok (.if_icmp .eq off, 3)) (ht : (pc : Int) + off = (tgt : Int)) (h1 : x = y → BD g G F nL Q k n X w tgt lv st) (h2 : ¬ x = y → BD g G F nL Q k n Y w (pc + 3) lv st) : BD g G F nL Q k n (if x = y then X else Y) w pc lv (.int y :: .int x :: st) := by
  intro r hr H locs ls hP hS hl
  refine lv_icmp_eq C.1 C.2.1 hd ht (fun c => h1 c r ?_ H locs ls hP hS hl) (fun c => h2 c r ?_ H locs ls hP hS hl)
  · rw [← hr]; exact (if_pos c).symm
  · rw [← hr]; exact (if_neg c).symm
theorem bd_if_ne (C : Cx g G F cc own nL R) {X Y : Option ρ} {x : Int32} {off : Int} (tgt : Nat) (hd : decode cc pc = .ok (.ifCond .ne off, 3)) (ht : (pc : Int) + off = (tgt : Int)) (h1 : ¬ x = 0 → BD g G F nL Q k n Y w tgt lv st) (h2 : x = 0 → BD g G F nL Q k n X w (pc + 3) lv st) : BD g G F nL Q k n (if x = 0 then X else Y) w pc lv (.int x :: st) := by
  intro r hr H locs ls hP hS hl
  refine lv_if_ne C.1 C.2.1 hd ht (fun c => h1 c r ?_ H locs ls hP hS hl) (fun c => h2 c r ?_ H locs ls hP hS hl)
  · rw [← hr]; exact (if_neg c).symm
  · rw [← hr]; exact (if_pos c).symm
theorem bd_icmp_ne (C : Cx g G F cc own nL R) {X Y : Option ρ} {x y : Int32} {off : Int} (tgt : Nat) (hd : decode cc pc = .ok (.if_icmp .ne off, 3)) (ht : (pc : Int) + off = (tgt : Int)) (h1 : ¬ x = y → BD g G F nL Q k n Y w tgt lv st) (h2 : x = y → BD g G F nL Q k n X w (pc + 3) lv st) : BD g G F nL Q k n (if x = y then X else Y) w pc lv (.int y :: .int x :: st) := by
  intro r hr H locs ls hP hS hl
  refine lv_icmp_ne C.1 C.2.1 hd ht (fun c => h1 c r ?_ H locs ls hP hS hl) (fun c => h2 c r ?_ H locs ls hP hS hl)
  · rw [← hr]; exact (if_neg c).symm
  · rw [← hr]; exact (if_pos c).symm
theorem bd_if_lt (C : Cx g G F cc own nL R) {X Y : Option ρ} {x : Int32} {off : Int} (tgt : Nat) (hd : decode cc pc = .ok (.ifCond .lt off, 3)) (ht : (pc : Int) + off = (tgt : Int)) (h1 : x < 0 → BD g G F nL Q k n X w tgt lv st) (h2 : ¬ x < 0 → BD g G F nL Q k n Y w (pc + 3) lv st) : BD g G F nL Q k n (if x < 0 then X else Y) w pc lv (.int x :: st) := by
  intro r hr H locs ls hP hS hl
  refine lv_if_lt C.1 C.2.1 hd ht (fun c => h1 c r ?_ H locs ls hP hS hl) (fun c => h2 c r ?_ H locs ls hP hS hl)
  · rw [← hr]; exact (if_pos c).symm
  · rw [← hr]; exact (if_neg c).symm
theorem bd_icmp_lt (C : Cx g G F cc own nL R) {X Y : Option ρ} {x y : Int32} {off : Int} (tgt : Nat) (hd : decode cc pc = .ok (.if_icmp .lt off, 3)) (ht : (pc : Int) + off = (tgt : Int)) (h1 : x < y → BD g G F nL Q k n X w tgt lv st) (h2 : ¬ x < y → BD g G F nL Q k n Y w (pc + 3) lv st) : BD g G F nL Q k n (if x < y then X else Y) w pc lv (.int y :: .int x :: st) := by
  intro r hr H locs ls hP hS hl
  refine lv_icmp_lt C.1 C.2.1 hd ht (fun c => h1 c r ?_ H locs ls hP hS hl) (fun c => h2 c r ?_ H locs ls hP hS hl)
  · rw [← hr]; exact (if_pos c).symm
  · rw [← hr]; exact (if_neg c).symm
theorem bd_if_ge (C : Cx g G F cc own nL R) {X Y : Option ρ} {x : Int32} {off : Int} (tgt : Nat) (hd : decode cc pc = .ok (.ifCond .ge off, 3)) (ht : (pc : Int) + off = (tgt : Int)) (h1 : 0 ≤ x → BD g G F nL Q k n X w tgt lv st) (h2 : ¬ 0 ≤ x → BD g G F nL Q k n Y w (pc + 3) lv st) : BD g G F nL Q k n (if 0 ≤ x then X else Y) w pc lv (.int x :: st) := by
  intro r hr H locs ls hP hS hl
  refine lv_if_ge C.1 C.2.1 hd ht (fun c => h1 c r ?_ H locs ls hP hS hl) (fun c => h2 c r ?_ H locs ls hP hS hl)
  · rw [← hr]; exact (if_pos c).symm
  · rw [← hr]; exact (if_neg c).symm
theorem bd_icmp_ge (C : Cx g G F cc own nL R) {X Y : Option ρ} {x y : Int32} {off : Int} (tgt : Nat) (hd : decode cc pc = .ok (.if_icmp .ge off, 3)) (ht : (pc : Int) + off = (tgt : Int)) (h1 : y ≤ x → BD g G F nL Q k n X w tgt lv st) (h2 : ¬ y ≤ x → BD g G F nL Q k n Y w (pc + 3) lv st) : BD g G F nL Q k n (if y ≤ x then X else Y) w pc lv (.int y :: .int x :: st) := by
  intro r hr H locs ls hP hS hl
  refine lv_icmp_ge C.1 C.2.1 hd ht (fun c => h1 c r ?_ H locs ls hP hS hl) (fun c => h2 c r ?_ H locs ls hP hS hl)
  · rw [← hr]; exact (if_pos c).symm
  · rw [← hr]; exact (if_neg c).symm
theorem bd_if_gt (C : Cx g G F cc own nL R) {X Y : Option ρ} {x : Int32} {off : Int} (tgt : Nat) (hd : decode cc pc = .ok (.ifCond .gt off, 3)) (ht : (pc : Int) + off = (tgt : Int)) (h1 : 0 < x → BD g G F nL Q k n X w tgt lv st) (h2 : ¬ 0 < x → BD g G F nL Q k n Y w (pc + 3) lv st) : BD g G F nL Q k n (if 0 < x then X else Y) w pc lv (.int x :: st) := by
  intro r hr H locs ls hP hS hl
  refine lv_if_gt C.1 C.2.1 hd ht (fun c => h1 c r ?_ H locs ls hP hS hl) (fun c => h2 c r ?_ H locs ls hP hS hl)
  · rw [← hr]; exact (if_pos c).symm
  · rw [← hr]; exact (if_neg c).symm
theorem bd_icmp_gt (C : Cx g G F cc own nL R) {X Y : Option ρ} {x y : Int32} {off : Int} (tgt : Nat) (hd : decode cc pc = .ok (.if_icmp .gt off, 3)) (ht : (pc : Int) + off = (tgt : Int)) (h1 : y < x → BD g G F nL Q k n X w tgt lv st) (h2 : ¬ y < x → BD g G F nL Q k n Y w (pc + 3) lv st) : BD g G F nL Q k n (if y < x then X else Y) w pc lv (.int y :: .int x :: st) := by
  intro r hr H locs ls hP hS hl
  refine lv_icmp_gt C.1 C.2.1 hd ht (fun c => h1 c r ?_ H locs ls hP hS hl) (fun c => h2 c r ?_ H locs ls hP hS hl)
  · rw [← hr]; exact (if_pos c).symm
  · rw [← hr]; exact (if_neg c).symm
theorem bd_if_le (C : Cx g G F cc own nL R) {X Y : Option ρ} {x : Int32} {off : Int} (tgt : Nat) (hd : decode cc pc = .ok (.ifCond .le off, 3)) (ht : (pc : Int) + off = (tgt : Int)) (h1 : x ≤ 0 → BD g G F nL Q k n X w tgt lv st) (h2 : ¬ x ≤ 0 → BD g G F nL Q k n Y w (pc + 3) lv st) : BD g G F nL Q k n (if x ≤ 0 then X else Y) w pc lv (.int x :: st) := by
  intro r hr H locs ls hP hS hl
  refine lv_if_le C.1 C.2.1 hd ht (fun c => h1 c r ?_ H locs ls hP hS hl) (fun c => h2 c r ?_ H locs ls hP hS hl)
  · rw [← hr]; exact (if_pos c).symm
  · rw [← hr]; exact (if_neg c).symm
theorem bd_icmp_le (C : Cx g G F cc own nL R) {X Y : Option ρ} {x y : Int32} {off : Int} (tgt : Nat) (hd : decode cc pc = .ok (.if_icmp .le off, 3)) (ht : (pc : Int) + off = (tgt : Int)) (h1 : x ≤ y → BD g G F nL Q k n X w tgt lv st) (h2 : ¬ x ≤ y → BD g G F nL Q k n Y w (pc + 3) lv st) : BD g G F nL Q k n (if x ≤ y then X else Y) w pc lv (.int y :: .int x :: st) := by
  intro r hr H locs ls hP hS hl
  refine lv_icmp_le C.1 C.2.1 hd ht (fun c => h1 c r ?_ H locs ls hP hS hl) (fun c => h2 c r ?_ H locs ls hP hS hl)
  · rw [← hr]; exact (if_pos c).symm
  · rw [← hr]; exact (if_neg c).symm
/-- a name for what is on top -/
def bnd {α β : Type} (x : α) (f : α → β) : β := f x
theorem bd_bnd {α : Type} {x : α} {f : α → Option ρ} {tp : α → Value} (h : ∀ y, y = x → BD g G F nL Q k n (f y) w pc lv (tp y :: st)) : BD g G F nL Q k n (bnd x f) w pc lv (tp x :: st) := h x rfl
theorem bd_ite {c : Prop} {dc : Decidable c} {X Y : Option ρ} (h1 : c → BD g G F nL Q k n X w pc lv st) (h2 : ¬ c → BD g G F nL Q k n Y w pc lv st) : BD g G F nL Q k n (if c then X else Y) w pc lv st := by
  by_cases c9 : c
  · rw [if_pos c9]; exact h1 c9
  · rw [if_neg c9]; exact h2 c9
theorem bd_tableIn (C : Cx g G F cc own nL R) {dflt lo hi : Int} {offs : Array Int} {len : Nat} {x : Int32} {off : Int} (tgt : Nat) (hd : decode cc pc = .ok (.tableswitch dflt lo hi offs, len)) (h1 : ¬ x.toInt < lo) (h2 : ¬ hi < x.toInt) (ho : offs[(x.toInt - lo).toNat]? = some off) (ht : (pc : Int) + off = (tgt : Int)) (h : BD g G F nL Q k n den w tgt lv st) : BD g G F nL Q k n den w pc lv (.int x :: st) :=
  fun r hr H locs ls hP hS hl => lv_tableIn C.1 C.2.1 hd h1 h2 ho ht (h r hr H locs ls hP hS hl)
theorem bd_tableOut (C : Cx g G F cc own nL R) {dflt lo hi : Int} {offs : Array Int} {len : Nat} {x : Int32} (tgt : Nat) (hd : decode cc pc = .ok (.tableswitch dflt lo hi offs, len)) (h1 : x.toInt < lo ∨ hi < x.toInt) (ht : (pc : Int) + dflt = (tgt : Int)) (h : BD g G F nL Q k n den w tgt lv st) : BD g G F nL Q k n den w pc lv (.int x :: st) :=
  fun r hr H locs ls hP hS hl => lv_tableOut C.1 C.2.1 hd h1 ht (h r hr H locs ls hP hS hl)
/-- a table from 0 on: what is none of its numbers is outside -/
theorem tbl_out (m : Nat) (x : Int32) (h : ∀ j : Nat, j < m → ¬ x = Int32.ofNat j) (hm : m < 100) : x.toInt < 0 ∨ (m : Int) - 1 < x.toInt := by
  by_cases h0 : x.toInt < 0
  · exact Or.inl h0
  · refine Or.inr ?_
    by_cases h1 : (m : Int) - 1 < x.toInt
    · exact h1
    · exfalso
      refine h x.toInt.toNat (by omega) ?_
      apply Int32.toInt_inj.mp
      rw [Int32.toInt_ofNat_of_lt (by omega)]
      omega
theorem bd_ifnull (C : Cx g G F cc own nL R) {x : Option Nat} {X : Option ρ} {Y : Nat → Option ρ} {off : Int} (tgt : Nat) (hd : decode cc pc = .ok (.ifnull off, 3)) (ht : (pc : Int) + off = (tgt : Int)) (h1 : x = none → BD g G F nL Q k n X w tgt lv st) (h2 : ∀ z, x = some z → BD g G F nL Q k n (Y z) w (pc + 3) lv st) : BD g G F nL Q k n (x.elim X Y) w pc lv (va_rf x :: st) := by
  intro r hr H locs ls hP hS hl
  cases x with
  | none => exact lv_ifnullN C.1 C.2.1 hd ht (h1 rfl r hr H locs ls hP hS hl)
  | some z => exact lv_ifnull C.1 C.2.1 hd (h2 z rfl r hr H locs ls hP hS hl)
theorem bd_ifnonnull (C : Cx g G F cc own nL R) {x : Option Nat} {X : Option ρ} {Y : Nat → Option ρ} {off : Int} (tgt : Nat) (hd : decode cc pc = .ok (.ifnonnull off, 3)) (ht : (pc : Int) + off = (tgt : Int)) (h1 : x = none → BD g G F nL Q k n X w (pc + 3) lv st) (h2 : ∀ z, x = some z → BD g G F nL Q k n (Y z) w tgt lv st) : BD g G F nL Q k n (x.elim X Y) w pc lv (va_rf x :: st) := by
  intro r hr H locs ls hP hS hl
  cases x with
  | none => exact lv_ifnonnullN C.1 C.2.1 hd (h1 rfl r hr H locs ls hP hS hl)
  | some z => exact lv_ifnonnull C.1 C.2.1 hd ht (h2 z rfl r hr H locs ls hP hS hl)
end BDR
section BDH
variable {ρ : Type} {g : Bd} {G : Gy} {F : Fr} {cc : ByteArray} {own : String} {nL : Nat} {R : Room} {Q : ρ → State → Prop} {k n : Nat} {den : Option ρ} {w : Wd} {pc : Nat} {lv : List (Nat × Value)} {st : List Value}
theorem Cx.exec (C : Cx g G F cc own nL R) : (bp g).tables.exec = Jvm.exec := C.1
theorem Cx.code (C : Cx g G F cc own nL R) : (bc g).code = cc := C.2.1
theorem Cx.cls0 (C : Cx g G F cc own nL R) : (bs g).vm.findClass own = some (bm g).cls := C.2.2.1
theorem Cx.maxl (C : Cx g G F cc own nL R) : (bc g).maxLocals = nL := C.2.2.2.1
theorem Cx.env (C : Cx g G F cc own nL R) : Env2 G F (bs g) := C.2.2.2.2.1
theorem Cx.locks (C : Cx g G F cc own nL R) : (bh g).locks = false := C.2.2.2.2.2.1
theorem Cx.flag (C : Cx g G F cc own nL R) : (bl g).stackTraces = false := C.2.2.2.2.2.2.1
theorem Cx.room (C : Cx g G F cc own nL R) : bR g = R := C.2.2.2.2.2.2.2
theorem Cx.kk (C : Cx g G F cc own nL R) : va_K G.1 myCl (tysOf G.2) (bs g) := C.env.1
theorem Cx.tw (C : Cx g G F cc own nL R) : TW (bs g) := C.env.2.1
theorem Cx.wd (C : Cx g G F cc own nL R) {x : Cond} (h : WD x) {a : Array Value} : x.before a (bs g) = true := C.tw.use h
/-- where a field lies -/
def FI (kk : Nat) (Cn : String) (T : u_T) (N kp : Nat) : Prop := myCl[kk]? = some (Cn, T, N) ∧ kk < 10 ∧ (∀ x ∈ u_ws Cn T N, WD x) ∧ kp < N
theorem HP.obj {H : Heap} (hP : HP G F w H) {a kk : Nat} (ha : okF F a kk) (hk : kk < 10) : va_P G.1 myCl [(a, .inr (kk, fieldsOf (slice w a) kk))] H := by
  have h1 := hP.get ha
  have e : cellK G.2 (F.2.1 a) (slice w a) kk = .inr (kk, fieldsOf (slice w a) kk) := if_pos hk
  rw [e] at h1
  intro j q hj
  cases j with
  | zero => cases hj; exact h1
  | succ j => simp at hj
theorem HP.arr {H : Heap} (hP : HP G F w H) {a kk : Nat} (ha : okF F a kk) (hk : ¬ kk < 10) : H[a]? = some (vp_cell (G.2 kk) (F.2.1 a, rowOf (slice w a) kk)) := by
  have h1 := hP.get ha
  have e : cellK G.2 (F.2.1 a) (slice w a) kk = .inl (G.2 kk, F.2.1 a, rowOf (slice w a) kk) := if_neg hk
  rw [e] at h1
  exact h1
theorem HP.arrP {H : Heap} (hP : HP G F w H) {a kk : Nat} (ha : okF F a kk) (hk : ¬ kk < 10) : va_P G.1 myCl [(a, .inl (G.2 kk, F.2.1 a, rowOf (slice w a) kk))] H := by
  intro j q hj
  cases j with
  | zero => cases hj; exact hP.arr ha hk
  | succ j => simp at hj
def rdR (F : Fr) (w : Wd) (f a k : Nat) : Option Nat := (gR w f a).bind fun q => if F.2.2.1 ≤ q ∧ q < F.2.2.2.1 ∧ F.1 q = k then some q else none
theorem rdR_spec {f a kk q : Nat} (h : rdR F w f a kk = some q) : gR w f a = some q ∧ okF F q kk := by
  unfold rdR at h
  obtain ⟨q', h1, h2⟩ := Option.bind_eq_some_iff.mp h
  by_cases c : F.2.2.1 ≤ q' ∧ q' < F.2.2.2.1 ∧ F.1 q' = kk
  · rw [if_pos c] at h2
    cases h2
    exact ⟨h1, c⟩
  · rw [if_neg c] at h2
    cases h2
theorem bd_get (C : Cx g G F cc own nL R) {kk N kp index : Nat} {Cn : String} {T : u_T} (hf : FI kk Cn T N kp) {v : Value} {a : Nat} (hv : (fieldsOf (slice w a) kk)[kp]? = some v) (hl : WD (.fieldLink own index (T kp).1 (T kp).2.1 (T kp).2.2.1)) (hd : decode cc pc = .ok (.getfield index, 3)) (ha : okF F a kk)
    (h : BD g G F nL Q k n den w (pc + 3) lv (v :: st)) : BD g G F nL Q k n den w pc lv (.ref a :: st) :=
  fun r hr H locs ls hP hS hl' => va_get C.exec C.code (Ts := u_ws Cn T N) (fun x hx => C.wd (hf.2.2.1 x hx)) (fun _ h9 => h9) C.cls0 C.kk (hP.obj ha hf.2.1) 0 rfl hf.1 kp hf.2.2.2 (C.wd hl) (fun _ h9 => h9) hv hd (h r hr H locs ls hP hS hl')
theorem bd_getN (C : Cx g G F cc own nL R) {kk N kp index : Nat} {Cn host : String} {T : u_T} (hf : FI kk Cn T N kp) {v : Value} {a : Nat} (hv : (fieldsOf (slice w a) kk)[kp]? = some v) (hl : WD (.fieldLinkNest own index (T kp).1 (T kp).2.1 (T kp).2.2.1 host)) (hd : decode cc pc = .ok (.getfield index, 3)) (ha : okF F a kk)
    (h : BD g G F nL Q k n den w (pc + 3) lv (v :: st)) : BD g G F nL Q k n den w pc lv (.ref a :: st) :=
  fun r hr H locs ls hP hS hl' => va_getN C.exec C.code (Ts := u_ws Cn T N) (fun x hx => C.wd (hf.2.2.1 x hx)) (fun _ h9 => h9) C.cls0 C.kk (hP.obj ha hf.2.1) 0 rfl hf.1 kp hf.2.2.2 (C.wd hl) (fun _ h9 => h9) hv hd (h r hr H locs ls hP hS hl')

theorem bd_gI (C : Cx g G F cc own nL R) {kk N kp index : Nat} {Cn : String} {T : u_T} {f : Nat} (hf : FI kk Cn T N kp) (hv : ∀ sl : Sl, (fieldsOf sl kk)[kp]? = some (.int (sl.1 f))) (hl : WD (.fieldLink own index (T kp).1 (T kp).2.1 (T kp).2.2.1)) (hd : decode cc pc = .ok (.getfield index, 3)) {a : Nat} (ha : okF F a kk)
    (h : BD g G F nL Q k n den w (pc + 3) lv (.int (gI w f a) :: st)) : BD g G F nL Q k n den w pc lv (.ref a :: st) := bd_get C hf (hv _) hl hd ha h
theorem bd_gJ (C : Cx g G F cc own nL R) {kk N kp index : Nat} {Cn : String} {T : u_T} {f : Nat} (hf : FI kk Cn T N kp) (hv : ∀ sl : Sl, (fieldsOf sl kk)[kp]? = some (.long (sl.2.1 f))) (hl : WD (.fieldLink own index (T kp).1 (T kp).2.1 (T kp).2.2.1)) (hd : decode cc pc = .ok (.getfield index, 3)) {a : Nat} (ha : okF F a kk)
    (h : BD g G F nL Q k n den w (pc + 3) lv (.long (gJ w f a) :: st)) : BD g G F nL Q k n den w pc lv (.ref a :: st) := bd_get C hf (hv _) hl hd ha h
theorem bd_gR (C : Cx g G F cc own nL R) {kk N kp index : Nat} {Cn : String} {T : u_T} {f k2 : Nat} {kf : Nat → Option ρ} (hf : FI kk Cn T N kp) (hv : ∀ sl : Sl, (fieldsOf sl kk)[kp]? = some (va_rf (sl.2.2.1 f))) (hl : WD (.fieldLink own index (T kp).1 (T kp).2.1 (T kp).2.2.1)) (hd : decode cc pc = .ok (.getfield index, 3)) {a : Nat} (ha : okF F a kk)
    (h : ∀ q, gR w f a = some q → okF F q k2 → BD g G F nL Q k n (kf q) w (pc + 3) lv (.ref q :: st)) : BD g G F nL Q k n ((rdR F w f a k2).bind kf) w pc lv (.ref a :: st) := by
  intro r hr
  obtain ⟨q, hq, hk⟩ := Option.bind_eq_some_iff.mp hr
  obtain ⟨h1, h2⟩ := rdR_spec hq
  exact bd_get C hf (v := .ref q) (by rw [hv]; show some (va_rf (gR w f a)) = _; rw [h1]; rfl) hl hd ha (h q h1 h2) r hk

theorem bd_gIN (C : Cx g G F cc own nL R) {kk N kp index : Nat} {Cn : String} {T : u_T} {f : Nat} (hf : FI kk Cn T N kp) (hv : ∀ sl : Sl, (fieldsOf sl kk)[kp]? = some (.int (sl.1 f))) {host : String} (hl : WD (.fieldLinkNest own index (T kp).1 (T kp).2.1 (T kp).2.2.1 host)) (hd : decode cc pc = .ok (.getfield index, 3)) {a : Nat} (ha : okF F a kk)
    (h : BD g G F nL Q k n den w (pc + 3) lv (.int (gI w f a) :: st)) : BD g G F nL Q k n den w pc lv (.ref a :: st) := bd_getN C hf (hv _) hl hd ha h
theorem bd_gJN (C : Cx g G F cc own nL R) {kk N kp index : Nat} {Cn : String} {T : u_T} {f : Nat} (hf : FI kk Cn T N kp) (hv : ∀ sl : Sl, (fieldsOf sl kk)[kp]? = some (.long (sl.2.1 f))) {host : String} (hl : WD (.fieldLinkNest own index (T kp).1 (T kp).2.1 (T kp).2.2.1 host)) (hd : decode cc pc = .ok (.getfield index, 3)) {a : Nat} (ha : okF F a kk)
    (h : BD g G F nL Q k n den w (pc + 3) lv (.long (gJ w f a) :: st)) : BD g G F nL Q k n den w pc lv (.ref a :: st) := bd_getN C hf (hv _) hl hd ha h
theorem bd_gRN (C : Cx g G F cc own nL R) {kk N kp index : Nat} {Cn : String} {T : u_T} {f k2 : Nat} {kf : Nat → Option ρ} (hf : FI kk Cn T N kp) (hv : ∀ sl : Sl, (fieldsOf sl kk)[kp]? = some (va_rf (sl.2.2.1 f))) {host : String} (hl : WD (.fieldLinkNest own index (T kp).1 (T kp).2.1 (T kp).2.2.1 host)) (hd : decode cc pc = .ok (.getfield index, 3)) {a : Nat} (ha : okF F a kk)
    (h : ∀ q, gR w f a = some q → okF F q k2 → BD g G F nL Q k n (kf q) w (pc + 3) lv (.ref q :: st)) : BD g G F nL Q k n ((rdR F w f a k2).bind kf) w pc lv (.ref a :: st) := by
  intro r hr
  obtain ⟨q, hq, hk⟩ := Option.bind_eq_some_iff.mp hr
  obtain ⟨h1, h2⟩ := rdR_spec hq
  exact bd_getN C hf (v := .ref q) (by rw [hv]; show some (va_rf (gR w f a)) = _; rw [h1]; rfl) hl hd ha (h q h1 h2) r hk

def upSI (sl : Sl) (f : Nat) (v : Int32) : Sl := (fun j => if j = f then v else sl.1 j, sl.2)
def upSJ (sl : Sl) (f : Nat) (v : Int64) : Sl := (sl.1, fun j => if j = f then v else sl.2.1 j, sl.2.2)
def upSR (sl : Sl) (f : Nat) (v : Option Nat) : Sl := (sl.1, sl.2.1, fun j => if j = f then v else sl.2.2.1 j, sl.2.2.2)
theorem slice_sI_s (w : Wd) (f a : Nat) (v : Int32) : slice (sI w f a v) a = upSI (slice w a) f v := by simp [slice, sI, upSI, up2]
theorem slice_sJ_s (w : Wd) (f a : Nat) (v : Int64) : slice (sJ w f a v) a = upSJ (slice w a) f v := by simp [slice, sJ, upSJ, up2]
theorem slice_sR_s (w : Wd) (f a : Nat) (v : Option Nat) : slice (sR w f a v) a = upSR (slice w a) f v := by simp [slice, sR, upSR, up2]
/-- what the tables say of a class's fields -/
def FT (T : u_T) (N : Nat) (ty0 : Nat → FieldType) : Prop := (∀ k, k < N → parseFieldDescriptor (T k).2.2.1 = some (ty0 k)) ∧ ∀ a, a < N → ∀ b, b < N → a ≠ b → (T a).2.1 ≠ (T b).2.1

theorem pt_core (C : Cx g G F cc own nL R) {kk N kp index : Nat} {Cn : String} {T : u_T} {ty0 : Nat → FieldType} {H : Heap} {locs : List Loc} {ls : Array Slot} {Qs : State → Prop} (hf : FI kk Cn T N kp) (hT : FT T N ty0) (hl : WD (.fieldLink own index (T kp).1 (T kp).2.1 (T kp).2.2.1)) (hfin : (T kp).2.2.2 = false) {v : Value} (hn : narrow (ty0 kp) v = v) (hfit : fits (ty0 kp) v = true) (hdg : decode cc pc = .ok (.putfield index, 3)) {a : Nat} {fs : List Value} (hat : va_at G.1 myCl (a, .inr (kk, fs)) H) (hlen : kp < fs.length)
    (kk9 : ∀ (H1 : Heap) (j : Nat), va_at G.1 myCl (a, .inr (kk, fs.set kp v)) H1 → H1.size = H.size → (∀ q : Nat, q ≠ a → H1[q]? = H[q]?) → WG g H1 (locs ++ [⟨a, j⟩]) k n Qs (pc + 3) ls st) : WG g H locs k n Qs pc ls (v :: .ref a :: st) := by
  have hts : ∀ x ∈ u_ws Cn T N, x.before (ba g) (bs g) = true := fun x hx => C.wd (hf.2.2.1 x hx)
  have hin : ∀ x ∈ u_ws Cn T N, x ∈ u_ws Cn T N := fun _ h9 => h9
  have hap := va_apart (own := own) hts hin ty0 hT.1 hT.2 C.kk hf.1
  obtain ⟨r9, h1, cell, q1, q2, q3, q4⟩ := hat
  have hr9 : r9 = (Cn, T, N) := Option.some.inj (h1.symm.trans hf.1)
  subst hr9
  obtain ⟨hS9, hfc, kC, hkC, hkind⟩ := C.kk.1 kk _ hf.1
  obtain ⟨cf, kf, fi, f, hi, hsl⟩ := hS9 kp hf.2.2.2
  have hlay := hts _ (hin _ (u_in_lay hf.2.2.2))
  unfold u_lay at hlay
  rw [if_neg (by rw [hfin]; decide)] at hlay
  have hst := (u_facts hfc hkC (u_lays hts hin hf.2.2.2) hi).1
  have h6 := u_store hfc hkC hkind hlay hi (hT.1 kp hf.2.2.2) hn hfit
  refine W.putK C.exec C.code (f := f) ⟨C.cls0, C.wd hl, ⟨_, _, _, hi⟩, hst⟩ (by rw [q2]; exact h6) q1 q3 (by rw [hsl]; exact k2_hasslot (q4 kp hf.2.2.2)) rfl rfl hdg fun H' e1 e2 e3 => ?_
  rw [hsl] at e1 ⊢
  exact kk9 H' _ ⟨_, hf.1, t_OB.to (V := updV (vp_V fs) kp v) ⟨_, e1, q2, q3, t_set q4 hap hf.2.2.2 v⟩ (fun j _ => vp_updV_set hlen v j)⟩ e2 e3

theorem pt_coreN (C : Cx g G F cc own nL R) {kk N kp index : Nat} {Cn : String} {T : u_T} {ty0 : Nat → FieldType} {H : Heap} {locs : List Loc} {ls : Array Slot} {Qs : State → Prop} (hf : FI kk Cn T N kp) (hT : FT T N ty0) {host : String} (hl : WD (.fieldLinkNest own index (T kp).1 (T kp).2.1 (T kp).2.2.1 host)) (hfin : (T kp).2.2.2 = false) {v : Value} (hn : narrow (ty0 kp) v = v) (hfit : fits (ty0 kp) v = true) (hdg : decode cc pc = .ok (.putfield index, 3)) {a : Nat} {fs : List Value} (hat : va_at G.1 myCl (a, .inr (kk, fs)) H) (hlen : kp < fs.length)
    (kk9 : ∀ (H1 : Heap) (j : Nat), va_at G.1 myCl (a, .inr (kk, fs.set kp v)) H1 → H1.size = H.size → (∀ q : Nat, q ≠ a → H1[q]? = H[q]?) → WG g H1 (locs ++ [⟨a, j⟩]) k n Qs (pc + 3) ls st) : WG g H locs k n Qs pc ls (v :: .ref a :: st) := by
  have hts : ∀ x ∈ u_ws Cn T N, x.before (ba g) (bs g) = true := fun x hx => C.wd (hf.2.2.1 x hx)
  have hin : ∀ x ∈ u_ws Cn T N, x ∈ u_ws Cn T N := fun _ h9 => h9
  have hap := va_apart (own := own) hts hin ty0 hT.1 hT.2 C.kk hf.1
  obtain ⟨r9, h1, cell, q1, q2, q3, q4⟩ := hat
  have hr9 : r9 = (Cn, T, N) := Option.some.inj (h1.symm.trans hf.1)
  subst hr9
  obtain ⟨hS9, hfc, kC, hkC, hkind⟩ := C.kk.1 kk _ hf.1
  obtain ⟨cf, kf, fi, f, hi, hsl⟩ := hS9 kp hf.2.2.2
  have hlay := hts _ (hin _ (u_in_lay hf.2.2.2))
  unfold u_lay at hlay
  rw [if_neg (by rw [hfin]; decide)] at hlay
  have hst := (u_facts hfc hkC (u_lays hts hin hf.2.2.2) hi).1
  have h6 := u_store hfc hkC hkind hlay hi (hT.1 kp hf.2.2.2) hn hfit
  refine va_WputK C.exec C.code (f := f) C.cls0 (C.wd hl) hi hst (by rw [q2]; exact h6) q1 q3 (by rw [hsl]; exact k2_hasslot (q4 kp hf.2.2.2)) rfl rfl hdg fun H' e1 e2 e3 => ?_
  rw [hsl] at e1 ⊢
  exact kk9 H' _ ⟨_, hf.1, t_OB.to (V := updV (vp_V fs) kp v) ⟨_, e1, q2, q3, t_set q4 hap hf.2.2.2 v⟩ (fun j _ => vp_updV_set hlen v j)⟩ e2 e3

theorem pt_coreF (C : Cx g G F cc own nL R) {kk N kp index : Nat} {Cn : String} {T : u_T} {ty0 : Nat → FieldType} {H : Heap} {locs : List Loc} {ls : Array Slot} {Qs : State → Prop} (hf : FI kk Cn T N kp) (hT : FT T N ty0) (hl : WD (.fieldLink own index (T kp).1 (T kp).2.1 (T kp).2.2.1)) (hfin : (T kp).2.2.2 = true) (hin2 : (bh g).name = "<init>") (hdecl : (T kp).1 = own) {v : Value} (hn : narrow (ty0 kp) v = v) (hfit : fits (ty0 kp) v = true) (hdg : decode cc pc = .ok (.putfield index, 3)) {a : Nat} {fs : List Value} (hat : va_at G.1 myCl (a, .inr (kk, fs)) H) (hlen : kp < fs.length)
    (kk9 : ∀ (H1 : Heap) (j : Nat), va_at G.1 myCl (a, .inr (kk, fs.set kp v)) H1 → H1.size = H.size → (∀ q : Nat, q ≠ a → H1[q]? = H[q]?) → WG g H1 (locs ++ [⟨a, j⟩]) k n Qs (pc + 3) ls st) : WG g H locs k n Qs pc ls (v :: .ref a :: st) := by
  have hts : ∀ x ∈ u_ws Cn T N, x.before (ba g) (bs g) = true := fun x hx => C.wd (hf.2.2.1 x hx)
  have hin : ∀ x ∈ u_ws Cn T N, x ∈ u_ws Cn T N := fun _ h9 => h9
  have hap := va_apart (own := own) hts hin ty0 hT.1 hT.2 C.kk hf.1
  obtain ⟨r9, h1, cell, q1, q2, q3, q4⟩ := hat
  have hr9 : r9 = (Cn, T, N) := Option.some.inj (h1.symm.trans hf.1)
  subst hr9
  obtain ⟨hS9, hfc, kC, hkC, hkind⟩ := C.kk.1 kk _ hf.1
  obtain ⟨cf, kf, fi, f, hi, hsl⟩ := hS9 kp hf.2.2.2
  have hlay := hts _ (hin _ (u_in_lay hf.2.2.2))
  unfold u_lay at hlay
  rw [if_pos hfin] at hlay
  have hst := (u_facts hfc hkC (u_lays hts hin hf.2.2.2) hi).1
  have hcf : (bm g).cls = cf := by
    obtain ⟨_, _, c', _, _, _, -, -, hf', -, -, -, hown2, -⟩ := Cond.laysFinal_spec hlay
    have e1 : c' = cf := by have := hi.symm.trans hf'; simp at this; exact this.1.symm
    rw [hdecl] at hown2
    rw [← e1]; exact Option.some.inj (C.cls0.symm.trans hown2)
  have h6 := u_fits hfc hkC hkind (Or.inr hlay) hi (hT.1 kp hf.2.2.2) hn hfit
  refine W.putFinK C.exec C.code C.cls0 (C.wd hl) hi hst hcf hin2 (by rw [q2]; exact h6) q1 q3 (by rw [hsl]; exact k2_hasslot (q4 kp hf.2.2.2)) rfl rfl hdg fun H' e1 e2 e3 => ?_
  rw [hsl] at e1 ⊢
  exact kk9 H' _ ⟨_, hf.1, t_OB.to (V := updV (vp_V fs) kp v) ⟨_, e1, q2, q3, t_set q4 hap hf.2.2.2 v⟩ (fun j _ => vp_updV_set hlen v j)⟩ e2 e3

theorem bd_pI (C : Cx g G F cc own nL R) {kk N kp index : Nat} {Cn : String} {T : u_T} {ty0 : Nat → FieldType} {f : Nat} (hf : FI kk Cn T N kp) (hT : FT T N ty0) (hu : ∀ (sl : Sl) (v : Int32), fieldsOf (upSI sl f v) kk = (fieldsOf sl kk).set kp (.int v) ∧ kp < (fieldsOf sl kk).length) (hl : WD (.fieldLink own index (T kp).1 (T kp).2.1 (T kp).2.2.1)) (hfin : (T kp).2.2.2 = false) {v : Int32} (hn : narrow (ty0 kp) (.int v) = .int v) (hfit : fits (ty0 kp) (.int v) = true) (hd : decode cc pc = .ok (.putfield index, 3)) {a : Nat} (ha : okF F a kk)
    {kf9 : Wd → Option ρ} (h : ∀ w1, BD g G F nL Q k n (kf9 w1) w1 (pc + 3) lv st) : BD g G F nL Q k n (bnd (sI w f a v) kf9) w pc lv (.int v :: .ref a :: st) := by
  intro r hr H locs ls hP hS hl'
  refine pt_core C hf hT hl hfin hn hfit hd (hP.obj ha hf.2.1 0 _ rfl) (hu _ v).2 fun H1 j e1 e2 e3 => ?_
  refine h _ r hr H1 _ ls (hP.set ha ?_ e2 e3 (fun b hb => slice_sI w _ hb)) (hS.put e2 e3 ha.1) hl'
  have e : cellK G.2 (F.2.1 a) (slice (sI w f a v) a) kk = .inr (kk, (fieldsOf (slice w a) kk).set kp (.int v)) := by
    rw [cellK, if_pos hf.2.1, slice_sI_s, (hu _ _).1]
    try rfl
  rw [e]
  exact e1

theorem bd_pJ (C : Cx g G F cc own nL R) {kk N kp index : Nat} {Cn : String} {T : u_T} {ty0 : Nat → FieldType} {f : Nat} (hf : FI kk Cn T N kp) (hT : FT T N ty0) (hu : ∀ (sl : Sl) (v : Int64), fieldsOf (upSJ sl f v) kk = (fieldsOf sl kk).set kp (.long v) ∧ kp < (fieldsOf sl kk).length) (hl : WD (.fieldLink own index (T kp).1 (T kp).2.1 (T kp).2.2.1)) (hfin : (T kp).2.2.2 = false) {v : Int64} (hn : narrow (ty0 kp) (.long v) = .long v) (hfit : fits (ty0 kp) (.long v) = true) (hd : decode cc pc = .ok (.putfield index, 3)) {a : Nat} (ha : okF F a kk)
    {kf9 : Wd → Option ρ} (h : ∀ w1, BD g G F nL Q k n (kf9 w1) w1 (pc + 3) lv st) : BD g G F nL Q k n (bnd (sJ w f a v) kf9) w pc lv (.long v :: .ref a :: st) := by
  intro r hr H locs ls hP hS hl'
  refine pt_core C hf hT hl hfin hn hfit hd (hP.obj ha hf.2.1 0 _ rfl) (hu _ v).2 fun H1 j e1 e2 e3 => ?_
  refine h _ r hr H1 _ ls (hP.set ha ?_ e2 e3 (fun b hb => slice_sJ w _ hb)) (hS.put e2 e3 ha.1) hl'
  have e : cellK G.2 (F.2.1 a) (slice (sJ w f a v) a) kk = .inr (kk, (fieldsOf (slice w a) kk).set kp (.long v)) := by
    rw [cellK, if_pos hf.2.1, slice_sJ_s, (hu _ _).1]
    try rfl
  rw [e]
  exact e1

theorem bd_pR (C : Cx g G F cc own nL R) {kk N kp index : Nat} {Cn : String} {T : u_T} {ty0 : Nat → FieldType} {f : Nat} (hf : FI kk Cn T N kp) (hT : FT T N ty0) (hu : ∀ (sl : Sl) (v : Option Nat), fieldsOf (upSR sl f v) kk = (fieldsOf sl kk).set kp (va_rf v) ∧ kp < (fieldsOf sl kk).length) (hl : WD (.fieldLink own index (T kp).1 (T kp).2.1 (T kp).2.2.1)) (hfin : (T kp).2.2.2 = false) {v : Nat} (hn : narrow (ty0 kp) (.ref v) = .ref v) (hfit : fits (ty0 kp) (.ref v) = true) (hd : decode cc pc = .ok (.putfield index, 3)) {a : Nat} (ha : okF F a kk)
    {kf9 : Wd → Option ρ} (h : ∀ w1, BD g G F nL Q k n (kf9 w1) w1 (pc + 3) lv st) : BD g G F nL Q k n (bnd (sR w f a (some v)) kf9) w pc lv (.ref v :: .ref a :: st) := by
  intro r hr H locs ls hP hS hl'
  refine pt_core C hf hT hl hfin hn hfit hd (hP.obj ha hf.2.1 0 _ rfl) (hu _ (some v)).2 fun H1 j e1 e2 e3 => ?_
  refine h _ r hr H1 _ ls (hP.set ha ?_ e2 e3 (fun b hb => slice_sR w _ hb)) (hS.put e2 e3 ha.1) hl'
  have e : cellK G.2 (F.2.1 a) (slice (sR w f a (some v)) a) kk = .inr (kk, (fieldsOf (slice w a) kk).set kp (.ref v)) := by
    rw [cellK, if_pos hf.2.1, slice_sR_s, (hu _ _).1]
    try rfl
  rw [e]
  exact e1

theorem bd_pIN (C : Cx g G F cc own nL R) {kk N kp index : Nat} {Cn : String} {T : u_T} {ty0 : Nat → FieldType} {f : Nat} (hf : FI kk Cn T N kp) (hT : FT T N ty0) (hu : ∀ (sl : Sl) (v : Int32), fieldsOf (upSI sl f v) kk = (fieldsOf sl kk).set kp (.int v) ∧ kp < (fieldsOf sl kk).length) {host : String} (hl : WD (.fieldLinkNest own index (T kp).1 (T kp).2.1 (T kp).2.2.1 host)) (hfin : (T kp).2.2.2 = false) {v : Int32} (hn : narrow (ty0 kp) (.int v) = .int v) (hfit : fits (ty0 kp) (.int v) = true) (hd : decode cc pc = .ok (.putfield index, 3)) {a : Nat} (ha : okF F a kk)
    {kf9 : Wd → Option ρ} (h : ∀ w1, BD g G F nL Q k n (kf9 w1) w1 (pc + 3) lv st) : BD g G F nL Q k n (bnd (sI w f a v) kf9) w pc lv (.int v :: .ref a :: st) := by
  intro r hr H locs ls hP hS hl'
  refine pt_coreN C hf hT hl hfin hn hfit hd (hP.obj ha hf.2.1 0 _ rfl) (hu _ v).2 fun H1 j e1 e2 e3 => ?_
  refine h _ r hr H1 _ ls (hP.set ha ?_ e2 e3 (fun b hb => slice_sI w _ hb)) (hS.put e2 e3 ha.1) hl'
  have e : cellK G.2 (F.2.1 a) (slice (sI w f a v) a) kk = .inr (kk, (fieldsOf (slice w a) kk).set kp (.int v)) := by
    rw [cellK, if_pos hf.2.1, slice_sI_s, (hu _ _).1]
    try rfl
  rw [e]
  exact e1

theorem bd_pJN (C : Cx g G F cc own nL R) {kk N kp index : Nat} {Cn : String} {T : u_T} {ty0 : Nat → FieldType} {f : Nat} (hf : FI kk Cn T N kp) (hT : FT T N ty0) (hu : ∀ (sl : Sl) (v : Int64), fieldsOf (upSJ sl f v) kk = (fieldsOf sl kk).set kp (.long v) ∧ kp < (fieldsOf sl kk).length) {host : String} (hl : WD (.fieldLinkNest own index (T kp).1 (T kp).2.1 (T kp).2.2.1 host)) (hfin : (T kp).2.2.2 = false) {v : Int64} (hn : narrow (ty0 kp) (.long v) = .long v) (hfit : fits (ty0 kp) (.long v) = true) (hd : decode cc pc = .ok (.putfield index, 3)) {a : Nat} (ha : okF F a kk)
    {kf9 : Wd → Option ρ} (h : ∀ w1, BD g G F nL Q k n (kf9 w1) w1 (pc + 3) lv st) : BD g G F nL Q k n (bnd (sJ w f a v) kf9) w pc lv (.long v :: .ref a :: st) := by
  intro r hr H locs ls hP hS hl'
  refine pt_coreN C hf hT hl hfin hn hfit hd (hP.obj ha hf.2.1 0 _ rfl) (hu _ v).2 fun H1 j e1 e2 e3 => ?_
  refine h _ r hr H1 _ ls (hP.set ha ?_ e2 e3 (fun b hb => slice_sJ w _ hb)) (hS.put e2 e3 ha.1) hl'
  have e : cellK G.2 (F.2.1 a) (slice (sJ w f a v) a) kk = .inr (kk, (fieldsOf (slice w a) kk).set kp (.long v)) := by
    rw [cellK, if_pos hf.2.1, slice_sJ_s, (hu _ _).1]
    try rfl
  rw [e]
  exact e1

theorem bd_pRN (C : Cx g G F cc own nL R) {kk N kp index : Nat} {Cn : String} {T : u_T} {ty0 : Nat → FieldType} {f : Nat} (hf : FI kk Cn T N kp) (hT : FT T N ty0) (hu : ∀ (sl : Sl) (v : Option Nat), fieldsOf (upSR sl f v) kk = (fieldsOf sl kk).set kp (va_rf v) ∧ kp < (fieldsOf sl kk).length) {host : String} (hl : WD (.fieldLinkNest own index (T kp).1 (T kp).2.1 (T kp).2.2.1 host)) (hfin : (T kp).2.2.2 = false) {v : Nat} (hn : narrow (ty0 kp) (.ref v) = .ref v) (hfit : fits (ty0 kp) (.ref v) = true) (hd : decode cc pc = .ok (.putfield index, 3)) {a : Nat} (ha : okF F a kk)
    {kf9 : Wd → Option ρ} (h : ∀ w1, BD g G F nL Q k n (kf9 w1) w1 (pc + 3) lv st) : BD g G F nL Q k n (bnd (sR w f a (some v)) kf9) w pc lv (.ref v :: .ref a :: st) := by
  intro r hr H locs ls hP hS hl'
  refine pt_coreN C hf hT hl hfin hn hfit hd (hP.obj ha hf.2.1 0 _ rfl) (hu _ (some v)).2 fun H1 j e1 e2 e3 => ?_
  refine h _ r hr H1 _ ls (hP.set ha ?_ e2 e3 (fun b hb => slice_sR w _ hb)) (hS.put e2 e3 ha.1) hl'
  have e : cellK G.2 (F.2.1 a) (slice (sR w f a (some v)) a) kk = .inr (kk, (fieldsOf (slice w a) kk).set kp (.ref v)) := by
    rw [cellK, if_pos hf.2.1, slice_sR_s, (hu _ _).1]
    try rfl
  rw [e]
  exact e1

theorem bd_pIF (C : Cx g G F cc own nL R) {kk N kp index : Nat} {Cn : String} {T : u_T} {ty0 : Nat → FieldType} {f : Nat} (hf : FI kk Cn T N kp) (hT : FT T N ty0) (hu : ∀ (sl : Sl) (v : Int32), fieldsOf (upSI sl f v) kk = (fieldsOf sl kk).set kp (.int v) ∧ kp < (fieldsOf sl kk).length) (hl : WD (.fieldLink own index (T kp).1 (T kp).2.1 (T kp).2.2.1)) (hfin : (T kp).2.2.2 = true) (hin2 : (bh g).name = "<init>") (hdecl : (T kp).1 = own) {v : Int32} (hn : narrow (ty0 kp) (.int v) = .int v) (hfit : fits (ty0 kp) (.int v) = true) (hd : decode cc pc = .ok (.putfield index, 3)) {a : Nat} (ha : okF F a kk)
    {kf9 : Wd → Option ρ} (h : ∀ w1, BD g G F nL Q k n (kf9 w1) w1 (pc + 3) lv st) : BD g G F nL Q k n (bnd (sI w f a v) kf9) w pc lv (.int v :: .ref a :: st) := by
  intro r hr H locs ls hP hS hl'
  refine pt_coreF C hf hT hl hfin hin2 hdecl hn hfit hd (hP.obj ha hf.2.1 0 _ rfl) (hu _ v).2 fun H1 j e1 e2 e3 => ?_
  refine h _ r hr H1 _ ls (hP.set ha ?_ e2 e3 (fun b hb => slice_sI w _ hb)) (hS.put e2 e3 ha.1) hl'
  have e : cellK G.2 (F.2.1 a) (slice (sI w f a v) a) kk = .inr (kk, (fieldsOf (slice w a) kk).set kp (.int v)) := by
    rw [cellK, if_pos hf.2.1, slice_sI_s, (hu _ _).1]
    try rfl
  rw [e]
  exact e1

theorem bd_pJF (C : Cx g G F cc own nL R) {kk N kp index : Nat} {Cn : String} {T : u_T} {ty0 : Nat → FieldType} {f : Nat} (hf : FI kk Cn T N kp) (hT : FT T N ty0) (hu : ∀ (sl : Sl) (v : Int64), fieldsOf (upSJ sl f v) kk = (fieldsOf sl kk).set kp (.long v) ∧ kp < (fieldsOf sl kk).length) (hl : WD (.fieldLink own index (T kp).1 (T kp).2.1 (T kp).2.2.1)) (hfin : (T kp).2.2.2 = true) (hin2 : (bh g).name = "<init>") (hdecl : (T kp).1 = own) {v : Int64} (hn : narrow (ty0 kp) (.long v) = .long v) (hfit : fits (ty0 kp) (.long v) = true) (hd : decode cc pc = .ok (.putfield index, 3)) {a : Nat} (ha : okF F a kk)
    {kf9 : Wd → Option ρ} (h : ∀ w1, BD g G F nL Q k n (kf9 w1) w1 (pc + 3) lv st) : BD g G F nL Q k n (bnd (sJ w f a v) kf9) w pc lv (.long v :: .ref a :: st) := by
  intro r hr H locs ls hP hS hl'
  refine pt_coreF C hf hT hl hfin hin2 hdecl hn hfit hd (hP.obj ha hf.2.1 0 _ rfl) (hu _ v).2 fun H1 j e1 e2 e3 => ?_
  refine h _ r hr H1 _ ls (hP.set ha ?_ e2 e3 (fun b hb => slice_sJ w _ hb)) (hS.put e2 e3 ha.1) hl'
  have e : cellK G.2 (F.2.1 a) (slice (sJ w f a v) a) kk = .inr (kk, (fieldsOf (slice w a) kk).set kp (.long v)) := by
    rw [cellK, if_pos hf.2.1, slice_sJ_s, (hu _ _).1]
    try rfl
  rw [e]
  exact e1

theorem bd_pRF (C : Cx g G F cc own nL R) {kk N kp index : Nat} {Cn : String} {T : u_T} {ty0 : Nat → FieldType} {f : Nat} (hf : FI kk Cn T N kp) (hT : FT T N ty0) (hu : ∀ (sl : Sl) (v : Option Nat), fieldsOf (upSR sl f v) kk = (fieldsOf sl kk).set kp (va_rf v) ∧ kp < (fieldsOf sl kk).length) (hl : WD (.fieldLink own index (T kp).1 (T kp).2.1 (T kp).2.2.1)) (hfin : (T kp).2.2.2 = true) (hin2 : (bh g).name = "<init>") (hdecl : (T kp).1 = own) {v : Nat} (hn : narrow (ty0 kp) (.ref v) = .ref v) (hfit : fits (ty0 kp) (.ref v) = true) (hd : decode cc pc = .ok (.putfield index, 3)) {a : Nat} (ha : okF F a kk)
    {kf9 : Wd → Option ρ} (h : ∀ w1, BD g G F nL Q k n (kf9 w1) w1 (pc + 3) lv st) : BD g G F nL Q k n (bnd (sR w f a (some v)) kf9) w pc lv (.ref v :: .ref a :: st) := by
  intro r hr H locs ls hP hS hl'
  refine pt_coreF C hf hT hl hfin hin2 hdecl hn hfit hd (hP.obj ha hf.2.1 0 _ rfl) (hu _ (some v)).2 fun H1 j e1 e2 e3 => ?_
  refine h _ r hr H1 _ ls (hP.set ha ?_ e2 e3 (fun b hb => slice_sR w _ hb)) (hS.put e2 e3 ha.1) hl'
  have e : cellK G.2 (F.2.1 a) (slice (sR w f a (some v)) a) kk = .inr (kk, (fieldsOf (slice w a) kk).set kp (.ref v)) := by
    rw [cellK, if_pos hf.2.1, slice_sR_s, (hu _ _).1]
    try rfl
  rw [e]
  exact e1
end BDH
section BDA
variable {ρ : Type} {g : Bd} {G : Gy} {F : Fr} {cc : ByteArray} {own : String} {nL : Nat} {R : Room} {Q : ρ → State → Prop} {k n : Nat} {den : Option ρ} {w : Wd} {pc : Nat} {lv : List (Nat × Value)} {st : List Value}
/-- in range, or nothing is said -/
def ck {α : Type} (F : Fr) (a : Nat) (i : Int32) (x : α) : Option α := if i < 0 ∨ F.2.1 a ≤ i.toNatClampNeg then none else some x
theorem ck_spec {α : Type} {F : Fr} {a : Nat} {i : Int32} {x y : α} (h : ck F a i x = some y) : vp_in i (F.2.1 a) ∧ x = y := by
  unfold ck at h
  by_cases c : i < 0 ∨ F.2.1 a ≤ i.toNatClampNeg
  · rw [if_pos c] at h; cases h
  · rw [if_neg c] at h; exact ⟨c, Option.some.inj h⟩
def ldI (F : Fr) (w : Wd) (a : Nat) (i : Int32) : Option Int32 := ck F a i (aI w a i.toNatClampNeg)
def ldJ (F : Fr) (w : Wd) (a : Nat) (i : Int32) : Option Int64 := ck F a i (aJ w a i.toNatClampNeg)
def ldD (F : Fr) (w : Wd) (a : Nat) (i : Int32) : Option UInt64 := ck F a i (aD w a i.toNatClampNeg)
def okO (F : Fr) (q : Option Nat) (k : Nat) : Prop := ∀ z, q = some z → okF F z k
def ldR (F : Fr) (w : Wd) (a : Nat) (i : Int32) (k : Nat) : Option (Option Nat) := (ck F a i (aR w a i.toNatClampNeg)).bind fun q => match q with
  | none => some none
  | some z => if F.2.2.1 ≤ z ∧ z < F.2.2.2.1 ∧ F.1 z = k then some (some z) else none
theorem ldR_spec {a : Nat} {i : Int32} {kk : Nat} {q : Option Nat} (h : ldR F w a i kk = some q) : vp_in i (F.2.1 a) ∧ aR w a i.toNatClampNeg = q ∧ okO F q kk := by
  unfold ldR at h
  obtain ⟨q', h1, h2⟩ := Option.bind_eq_some_iff.mp h
  obtain ⟨h3, h4⟩ := ck_spec h1
  subst h4
  cases hq : aR w a i.toNatClampNeg with
  | none =>
    rw [hq] at h2
    cases h2
    exact ⟨h3, rfl, fun z hz => by cases hz⟩
  | some z =>
    rw [hq] at h2
    dsimp only at h2
    by_cases c : F.2.2.1 ≤ z ∧ z < F.2.2.2.1 ∧ F.1 z = kk
    · rw [if_pos c] at h2
      cases h2
      exact ⟨h3, rfl, fun y hy => by cases hy; exact c⟩
    · rw [if_neg c] at h2; cases h2
def stI (F : Fr) (w : Wd) (a : Nat) (i : Int32) (v : Int32) : Option Wd := ck F a i (sAI w a (upd (aI w a) i.toNatClampNeg v))
def stJ (F : Fr) (w : Wd) (a : Nat) (i : Int32) (v : Int64) : Option Wd := ck F a i (sAJ w a (vp_updL (aJ w a) i.toNatClampNeg v))
def stD (F : Fr) (w : Wd) (a : Nat) (i : Int32) (v : UInt64) : Option Wd := ck F a i (sAD w a (vf_upd (aD w a) i.toNatClampNeg v))
def stR (F : Fr) (w : Wd) (a : Nat) (i : Int32) (v : Nat) : Option Wd := ck F a i (sAR w a (va_up (aR w a) i.toNatClampNeg (some v)))
theorem row_sAI (w : Wd) (a : Nat) (v : Nat → Int32) : (slice (sAI w a v) a).2.2.2.1 = v := by simp [slice, sAI, up1]
theorem row_sAJ (w : Wd) (a : Nat) (v : Nat → Int64) : (slice (sAJ w a v) a).2.2.2.2.1 = v := by simp [slice, sAJ, up1]
theorem row_sAR (w : Wd) (a : Nat) (v : Nat → Option Nat) : (slice (sAR w a v) a).2.2.2.2.2.1 = v := by simp [slice, sAR, up1]
theorem row_sAD (w : Wd) (a : Nat) (v : Nat → UInt64) : (slice (sAD w a v) a).2.2.2.2.2.2 = v := by simp [slice, sAD, up1]
theorem bd_alen (C : Cx g G F cc own nL R) {kk : Nat} {a : Nat} (hd : decode cc pc = .ok (.arraylength, 1)) (ha : okF F a kk) (hk : ¬ kk < 10) (t0 : Nat) {ty : FieldType} (ht : (tysOf G.2)[t0]? = some (G.2 kk, ty)) (h : BD g G F nL Q k n den w (pc + 1) lv (.int (nI (F.2.1 a)) :: st)) : BD g G F nL Q k n den w pc lv (.ref a :: st) :=
  fun r hr H locs ls hP hS hl => va_alen C.exec C.code C.kk (hP.arrP ha hk) 0 t0 rfl ht rfl hd (h r hr H locs ls hP hS hl)

theorem bd_iald (C : Cx g G F cc own nL R) {a : Nat} {i : Int32} {kf : Int32 → Option ρ} (hd : decode cc pc = .ok (.iaload, 1)) (ha : okF F a 11) (h : ∀ x, BD g G F nL Q k n (kf x) w (pc + 1) lv (.int x :: st)) : BD g G F nL Q k n ((ldI F w a i).bind kf) w pc lv (.int i :: .ref a :: st) := by
  intro r hr H locs ls hP hS hl
  obtain ⟨x, hx, hk⟩ := Option.bind_eq_some_iff.mp hr
  obtain ⟨h1, rfl⟩ := ck_spec hx
  exact va_iald C.exec C.code C.kk (hP.arrP ha (by decide)) 0 1 rfl rfl h1 hd (h _ r hk H locs ls hP hS hl)
theorem bd_cald (C : Cx g G F cc own nL R) {a : Nat} {i : Int32} {kf : Int32 → Option ρ} (hd : decode cc pc = .ok (.caload, 1)) (ha : okF F a 10) (h : ∀ x, BD g G F nL Q k n (kf x) w (pc + 1) lv (.int x :: st)) : BD g G F nL Q k n ((ldI F w a i).bind kf) w pc lv (.int i :: .ref a :: st) := by
  intro r hr H locs ls hP hS hl
  obtain ⟨x, hx, hk⟩ := Option.bind_eq_some_iff.mp hr
  obtain ⟨h1, rfl⟩ := ck_spec hx
  exact va_cald C.exec C.code C.kk (hP.arrP ha (by decide)) 0 0 rfl rfl h1 hd (h _ r hk H locs ls hP hS hl)
theorem bd_zald (C : Cx g G F cc own nL R) {a : Nat} {i : Int32} {kf : Int32 → Option ρ} (hd : decode cc pc = .ok (.baload, 1)) (ha : okF F a 13) (h : ∀ x, BD g G F nL Q k n (kf x) w (pc + 1) lv (.int x :: st)) : BD g G F nL Q k n ((ldI F w a i).bind kf) w pc lv (.int i :: .ref a :: st) := by
  intro r hr H locs ls hP hS hl
  obtain ⟨x, hx, hk⟩ := Option.bind_eq_some_iff.mp hr
  obtain ⟨h1, rfl⟩ := ck_spec hx
  exact va_zald C.exec C.code C.kk (hP.arrP ha (by decide)) 0 3 rfl rfl h1 hd (h _ r hk H locs ls hP hS hl)
theorem bd_lald (C : Cx g G F cc own nL R) {a : Nat} {i : Int32} {kf : Int64 → Option ρ} (hd : decode cc pc = .ok (.laload, 1)) (ha : okF F a 12) (h : ∀ x, BD g G F nL Q k n (kf x) w (pc + 1) lv (.long x :: st)) : BD g G F nL Q k n ((ldJ F w a i).bind kf) w pc lv (.int i :: .ref a :: st) := by
  intro r hr H locs ls hP hS hl
  obtain ⟨x, hx, hk⟩ := Option.bind_eq_some_iff.mp hr
  obtain ⟨h1, rfl⟩ := ck_spec hx
  exact va_lald C.exec C.code C.kk (hP.arrP ha (by decide)) 0 2 rfl rfl h1 hd (h _ r hk H locs ls hP hS hl)
theorem bd_dald (C : Cx g G F cc own nL R) {a : Nat} {i : Int32} {kf : UInt64 → Option ρ} (hd : decode cc pc = .ok (.daload, 1)) (ha : okF F a 16) (h : ∀ x, BD g G F nL Q k n (kf x) w (pc + 1) lv (.double x :: st)) : BD g G F nL Q k n ((ldD F w a i).bind kf) w pc lv (.int i :: .ref a :: st) := by
  intro r hr H locs ls hP hS hl
  obtain ⟨x, hx, hk⟩ := Option.bind_eq_some_iff.mp hr
  obtain ⟨h1, rfl⟩ := ck_spec hx
  exact va_dald C.exec C.code C.kk (hP.arrP ha (by decide)) 0 6 rfl rfl h1 hd (h _ r hk H locs ls hP hS hl)
theorem bd_aald14 (C : Cx g G F cc own nL R) {a k2 : Nat} {i : Int32} {kf : Option Nat → Option ρ} (hd : decode cc pc = .ok (.aaload, 1)) (ha : okF F a 14) (h : ∀ q, okO F q k2 → BD g G F nL Q k n (kf q) w (pc + 1) lv (va_rf q :: st)) : BD g G F nL Q k n ((ldR F w a i k2).bind kf) w pc lv (.int i :: .ref a :: st) := by
  intro r hr H locs ls hP hS hl
  obtain ⟨x, hx, hk⟩ := Option.bind_eq_some_iff.mp hr
  obtain ⟨h1, h2, h3⟩ := ldR_spec hx
  refine va_aldq C.exec C.code C.kk (hP.arrP ha (by decide)) 0 4 (C := "LessonTiers$Book") rfl rfl h1 hd ?_
  show WG g H locs k n (Q r) (pc + 1) ls (va_rf (aR w a i.toNatClampNeg) :: st)
  rw [h2]
  exact h x h3 r hk H locs ls hP hS hl
theorem bd_aald15 (C : Cx g G F cc own nL R) {a k2 : Nat} {i : Int32} {kf : Option Nat → Option ρ} (hd : decode cc pc = .ok (.aaload, 1)) (ha : okF F a 15) (h : ∀ q, okO F q k2 → BD g G F nL Q k n (kf q) w (pc + 1) lv (va_rf q :: st)) : BD g G F nL Q k n ((ldR F w a i k2).bind kf) w pc lv (.int i :: .ref a :: st) := by
  intro r hr H locs ls hP hS hl
  obtain ⟨x, hx, hk⟩ := Option.bind_eq_some_iff.mp hr
  obtain ⟨h1, h2, h3⟩ := ldR_spec hx
  refine va_aldq C.exec C.code C.kk (hP.arrP ha (by decide)) 0 5 (C := "LessonTiers$Row") rfl rfl h1 hd ?_
  show WG g H locs k n (Q r) (pc + 1) ls (va_rf (aR w a i.toNatClampNeg) :: st)
  rw [h2]
  exact h x h3 r hk H locs ls hP hS hl
theorem bd_iast (C : Cx g G F cc own nL R) {a : Nat} {i : Int32} {x : Int32} {kf : Wd → Option ρ} (hd : decode cc pc = .ok (.iastore, 1)) (ha : okF F a 11) (h : ∀ w1, BD g G F nL Q k n (kf w1) w1 (pc + 1) lv st) : BD g G F nL Q k n ((stI F w a i x).bind kf) w pc lv (.int x :: .int i :: .ref a :: st) := by
  intro r hr H locs ls hP hS hl
  obtain ⟨w9, hw, hk⟩ := Option.bind_eq_some_iff.mp hr
  obtain ⟨h1, rfl⟩ := ck_spec hw
  refine W.iast C.exec C.code (hP.arr ha (by decide)) ((C.kk.2 1 _ rfl).1 (F.2.1 a) (fun j => .int (aI w a j))) (fun q => by cases q) (by show ¬ (i < 0 ∨ (arrV _ _ _).slots.size ≤ _); rw [arrV_size]; exact h1) rfl rfl hd fun H1 e z oq => ?_
  refine h _ r hk H1 _ ls (hP.set ha ?_ z oq (fun b hb => slice_sAI w _ hb)) (hS.put z oq ha.1) hl
  show H1[a]? = some (vp_cell (G.2 11) (F.2.1 a, .inl (slice (sAI w a _) a).2.2.2.1))
  rw [e, row_sAI]
  show some ((arrV (G.2 11) (F.2.1 a) (fun j => .int (aI w a j))).setSlot _ _) = some (arrV (G.2 11) (F.2.1 a) (fun j => .int (upd (aI w a) i.toNatClampNeg x j)))
  rw [arrV_store]
  congr 2
  funext q
  by_cases hq : q = i.toNatClampNeg
  · subst hq
    simp [updV, upd, vp_nar]
    try rfl
  · simp [updV, upd, hq]
    try rfl
theorem bd_cast (C : Cx g G F cc own nL R) {a : Nat} {i : Int32} {x : Int32} {kf : Wd → Option ρ} (hd : decode cc pc = .ok (.castore, 1)) (ha : okF F a 10) (h : ∀ w1, BD g G F nL Q k n (kf w1) w1 (pc + 1) lv st) : BD g G F nL Q k n ((stI F w a i (vp_nar .char x)).bind kf) w pc lv (.int x :: .int i :: .ref a :: st) := by
  intro r hr H locs ls hP hS hl
  obtain ⟨w9, hw, hk⟩ := Option.bind_eq_some_iff.mp hr
  obtain ⟨h1, rfl⟩ := ck_spec hw
  refine W.cast C.exec C.code (hP.arr ha (by decide)) ((C.kk.2 0 _ rfl).1 (F.2.1 a) (fun j => .int (aI w a j))) (fun q => by cases q) (by show ¬ (i < 0 ∨ (arrV _ _ _).slots.size ≤ _); rw [arrV_size]; exact h1) rfl rfl hd fun H1 e z oq => ?_
  refine h _ r hk H1 _ ls (hP.set ha ?_ z oq (fun b hb => slice_sAI w _ hb)) (hS.put z oq ha.1) hl
  show H1[a]? = some (vp_cell (G.2 10) (F.2.1 a, .inl (slice (sAI w a _) a).2.2.2.1))
  rw [e, row_sAI]
  show some ((arrV (G.2 10) (F.2.1 a) (fun j => .int (aI w a j))).setSlot _ _) = some (arrV (G.2 10) (F.2.1 a) (fun j => .int (upd (aI w a) i.toNatClampNeg (vp_nar .char x) j)))
  rw [arrV_store]
  congr 2
  funext q
  by_cases hq : q = i.toNatClampNeg
  · subst hq
    simp [updV, upd, vp_nar]
    try rfl
  · simp [updV, upd, hq]
    try rfl
theorem bd_zast (C : Cx g G F cc own nL R) {a : Nat} {i : Int32} {x : Int32} {kf : Wd → Option ρ} (hd : decode cc pc = .ok (.bastore, 1)) (ha : okF F a 13) (h : ∀ w1, BD g G F nL Q k n (kf w1) w1 (pc + 1) lv st) : BD g G F nL Q k n ((stI F w a i (vp_nar .boolean x)).bind kf) w pc lv (.int x :: .int i :: .ref a :: st) := by
  intro r hr H locs ls hP hS hl
  obtain ⟨w9, hw, hk⟩ := Option.bind_eq_some_iff.mp hr
  obtain ⟨h1, rfl⟩ := ck_spec hw
  refine W.zast C.exec C.code (hP.arr ha (by decide)) ((C.kk.2 3 _ rfl).1 (F.2.1 a) (fun j => .int (aI w a j))) (fun q => by cases q) (by show ¬ (i < 0 ∨ (arrV _ _ _).slots.size ≤ _); rw [arrV_size]; exact h1) rfl rfl hd fun H1 e z oq => ?_
  refine h _ r hk H1 _ ls (hP.set ha ?_ z oq (fun b hb => slice_sAI w _ hb)) (hS.put z oq ha.1) hl
  show H1[a]? = some (vp_cell (G.2 13) (F.2.1 a, .inl (slice (sAI w a _) a).2.2.2.1))
  rw [e, row_sAI]
  show some ((arrV (G.2 13) (F.2.1 a) (fun j => .int (aI w a j))).setSlot _ _) = some (arrV (G.2 13) (F.2.1 a) (fun j => .int (upd (aI w a) i.toNatClampNeg (vp_nar .boolean x) j)))
  rw [arrV_store]
  congr 2
  funext q
  by_cases hq : q = i.toNatClampNeg
  · subst hq
    simp [updV, upd, vp_nar]
    try rfl
  · simp [updV, upd, hq]
    try rfl
theorem bd_last (C : Cx g G F cc own nL R) {a : Nat} {i : Int32} {x : Int64} {kf : Wd → Option ρ} (hd : decode cc pc = .ok (.lastore, 1)) (ha : okF F a 12) (h : ∀ w1, BD g G F nL Q k n (kf w1) w1 (pc + 1) lv st) : BD g G F nL Q k n ((stJ F w a i x).bind kf) w pc lv (.long x :: .int i :: .ref a :: st) := by
  intro r hr H locs ls hP hS hl
  obtain ⟨w9, hw, hk⟩ := Option.bind_eq_some_iff.mp hr
  obtain ⟨h1, rfl⟩ := ck_spec hw
  refine W.last C.exec C.code (hP.arr ha (by decide)) ((C.kk.2 2 _ rfl).1 (F.2.1 a) (fun j => .long (aJ w a j))) (fun q => by cases q) (by show ¬ (i < 0 ∨ (arrV _ _ _).slots.size ≤ _); rw [arrV_size]; exact h1) rfl rfl hd fun H1 e z oq => ?_
  refine h _ r hk H1 _ ls (hP.set ha ?_ z oq (fun b hb => slice_sAJ w _ hb)) (hS.put z oq ha.1) hl
  show H1[a]? = some (vp_cell (G.2 12) (F.2.1 a, .inr (.inl (slice (sAJ w a _) a).2.2.2.2.1)))
  rw [e, row_sAJ]
  show some ((arrV (G.2 12) (F.2.1 a) (fun j => .long (aJ w a j))).setSlot _ _) = some (arrV (G.2 12) (F.2.1 a) (fun j => .long (vp_updL (aJ w a) i.toNatClampNeg x j)))
  rw [arrV_store]
  congr 2
  funext q
  by_cases hq : q = i.toNatClampNeg
  · subst hq
    simp [updV, vp_updL, vp_nar]
    try rfl
  · simp [updV, vp_updL, hq]
    try rfl
theorem bd_dast (C : Cx g G F cc own nL R) {a : Nat} {i : Int32} {x : UInt64} {kf : Wd → Option ρ} (hd : decode cc pc = .ok (.dastore, 1)) (ha : okF F a 16) (h : ∀ w1, BD g G F nL Q k n (kf w1) w1 (pc + 1) lv st) : BD g G F nL Q k n ((stD F w a i x).bind kf) w pc lv (.double x :: .int i :: .ref a :: st) := by
  intro r hr H locs ls hP hS hl
  obtain ⟨w9, hw, hk⟩ := Option.bind_eq_some_iff.mp hr
  obtain ⟨h1, rfl⟩ := ck_spec hw
  refine W.dast C.exec C.code (hP.arr ha (by decide)) ((C.kk.2 6 _ rfl).1 (F.2.1 a) (fun j => .double (aD w a j))) (fun q => by cases q) (by show ¬ (i < 0 ∨ (arrV _ _ _).slots.size ≤ _); rw [arrV_size]; exact h1) rfl rfl hd fun H1 e z oq => ?_
  refine h _ r hk H1 _ ls (hP.set ha ?_ z oq (fun b hb => slice_sAD w _ hb)) (hS.put z oq ha.1) hl
  show H1[a]? = some (vp_cell (G.2 16) (F.2.1 a, .inr (.inr (.inr (.inl (slice (sAD w a _) a).2.2.2.2.2.2)))))
  rw [e, row_sAD]
  show some ((arrV (G.2 16) (F.2.1 a) (fun j => .double (aD w a j))).setSlot _ _) = some (arrV (G.2 16) (F.2.1 a) (fun j => .double (vf_upd (aD w a) i.toNatClampNeg x j)))
  rw [arrV_store]
  congr 2
  funext q
  by_cases hq : q = i.toNatClampNeg
  · subst hq
    simp [updV, vf_upd, vp_nar]
    try rfl
  · simp [updV, vf_upd, hq]
    try rfl
def cpI (F : Fr) (w : Wd) (a0 : Nat) (sp : Int32) (a : Nat) (dp m : Int32) : Option Wd := if sp < 0 ∨ dp < 0 ∨ m < 0 ∨ F.2.1 a0 < sp.toNatClampNeg + m.toNatClampNeg ∨ F.2.1 a < dp.toNatClampNeg + m.toNatClampNeg then none else some (sAI w a (va_cpy (aI w a0) (aI w a) sp.toNatClampNeg dp.toNatClampNeg m.toNatClampNeg))
theorem bd_copyI (C : Cx g G F cc own nL R) {index : Nat} (hlink : WD (.methodLink own index arraycopyName)) (hnat : WD (.native arraycopyName)) (hstat : WD (.static arraycopyName)) (hini : WD (.initialized "java/lang/System")) {a0 a : Nat} {sp dp m : Int32} {kf : Wd → Option ρ} (hd : decode cc pc = .ok (.invokestatic index, 3)) (ha0 : okF F a0 11) (ha : okF F a 11)
    (hR : 1 ≤ R.frames ∧ (st.map fun v => v.category).sum + (nativeFrameWords "java/lang/System" "arraycopy" 5 + 11) ≤ R.locals) (h : ∀ w1, BD g G F nL Q k n (kf w1) w1 (pc + 3) lv st) :
    BD g G F nL Q k n ((cpI F w a0 sp a dp m).bind kf) w pc lv (.int m :: .int dp :: .ref a :: .int sp :: .ref a0 :: st) := by
  intro r hr H locs ls hP hS hl
  obtain ⟨w9, hw, hk⟩ := Option.bind_eq_some_iff.mp hr
  unfold cpI at hw
  by_cases c9 : sp < 0 ∨ dp < 0 ∨ m < 0 ∨ F.2.1 a0 < sp.toNatClampNeg + m.toNatClampNeg ∨ F.2.1 a < dp.toNatClampNeg + m.toNatClampNeg
  · rw [if_pos c9] at hw; cases hw
  rw [if_neg c9] at hw
  cases hw
  have h1 : ¬ sp < 0 := fun q => c9 (Or.inl q)
  have h2 : ¬ dp < 0 := fun q => c9 (Or.inr (Or.inl q))
  have h3 : ¬ m < 0 := fun q => c9 (Or.inr (Or.inr (Or.inl q)))
  have h4 : sp.toNatClampNeg + m.toNatClampNeg ≤ F.2.1 a0 := Nat.not_lt.mp fun q => c9 (Or.inr (Or.inr (Or.inr (Or.inl q))))
  have h5 : dp.toNatClampNeg + m.toNatClampNeg ≤ F.2.1 a := Nat.not_lt.mp fun q => c9 (Or.inr (Or.inr (Or.inr (Or.inr q))))
  have nn : ∀ z : Int32, ¬ z < 0 → z.toInt = (z.toNatClampNeg : Int) := by
    intro z hz
    have hz0 : (0 : Int) ≤ z.toInt := by
      have := Int32.not_lt.mp hz
      simpa using Int32.le_iff_toInt_le.mp this
    show z.toInt = ((z.toInt.toNat : Nat) : Int)
    omega
  have hc0 : H[a0]? = some (vp_cell (G.2 11) (F.2.1 a0, .inl (aI w a0))) := hP.arr ha0 (by decide)
  have hc1 : H[a]? = some (vp_cell (G.2 11) (F.2.1 a, .inl (aI w a))) := hP.arr ha (by decide)
  intro T hT X
  obtain ⟨-, k0, hk0, cm0, hkk0⟩ := (C.kk.2 1 _ rfl).1 (F.2.1 a0) (fun j => .int (aI w a0 j))
  obtain ⟨-, k1, hk1, cm1, hkk1⟩ := (C.kk.2 1 _ rfl).1 (F.2.1 a) (fun j => .int (aI w a j))
  obtain ⟨vm', X', step⟩ := X.arraycopy C.exec C.cls0 (C.wd hlink) (C.wd hnat) (C.wd hstat) (C.wd hini) (src := a0) (dst := a) (cs := vp_cell (G.2 11) (F.2.1 a0, .inl (aI w a0))) (cd := vp_cell (G.2 11) (F.2.1 a, .inl (aI w a))) (srcPos := sp) (destPos := dp) (n := m) (by rw [hT]; exact hc0) (by rw [hT]; exact hc1)
    (fun _ h => by cases h) (fun _ h => by cases h) (fun h => by cases h) (fun h => by cases h) hk0 hk1 hkk0 hkk1 (by simp [refKind]) h1 h2 h3
    (by rw [nn sp h1, nn m h3]; show ¬ _ > ((arrV (G.2 11) (F.2.1 a0) (fun j => .int (aI w a0 j))).slots.size : Int); rw [arrV_size]; omega)
    (by rw [nn dp h2, nn m h3]; show ¬ _ > ((arrV (G.2 11) (F.2.1 a) (fun j => .int (aI w a j))).slots.size : Int); rw [arrV_size]; omega)
    (fun vm₁ _ i hi => by
      have e : (vp_cell (G.2 11) (F.2.1 a0, .inl (aI w a0))).slots.getD (sp.toNatClampNeg + i) .null = .int (aI w a0 (sp.toNatClampNeg + i)) := by
        show (arrV (G.2 11) (F.2.1 a0) (fun j => .int (aI w a0 j))).slots.getD _ _ = _
        rw [Array.getD_eq_getD_getElem?, arrV_read _ _ (by omega)]
        rfl
      refine ⟨?_, ?_⟩
      · rw [e]
        rfl
      · rw [e]
        exact trivial)
    (g := F0 (bm g) pc ls (.int m :: .int dp :: .ref a :: .int sp :: .ref a0 :: st)) rfl (by rw [C.maxl]; exact hl.1) (rest := st) rfl (by rw [C.code]; exact hd) (by rw [C.room]; exact hR.1) (by rw [C.room]; show 2 * 0 + _ + _ ≤ _; have := hR.2; omega)
  have e1 : copied (vp_cell (G.2 11) (F.2.1 a0, .inl (aI w a0))) (vp_cell (G.2 11) (F.2.1 a, .inl (aI w a))) sp dp m = vp_cell (G.2 11) (F.2.1 a, .inl (va_cpy (aI w a0) (aI w a) sp.toNatClampNeg dp.toNatClampNeg m.toNatClampNeg)) := va_copied (fun z => .int z) (G.2 11) (G.2 11) (aI w a0) (aI w a) h4
  rw [e1] at X' step
  generalize hv9 : va_cpy (aI w a0) (aI w a) sp.toNatClampNeg dp.toNatClampNeg m.toNatClampNeg = v9 at X' step hk
  have hl9 : a < H.size := (Array.getElem?_eq_some_iff.mp hc1).1
  have hheap : ((T.setVm vm').setCell a (vp_cell (G.2 11) (F.2.1 a, .inl v9))).heap = H.setIfInBounds a (vp_cell (G.2 11) (F.2.1 a, .inl v9)) := by rw [← hT]; rfl
  have oq : ∀ q : Nat, q ≠ a → (H.setIfInBounds a (vp_cell (G.2 11) (F.2.1 a, .inl v9)))[q]? = H[q]? := fun q hq => by simp [Array.getElem?_setIfInBounds, Ne.symm hq]
  obtain ⟨t, a1, b1⟩ := h _ r hk _ _ ls (hP.set ha (by
      show (H.setIfInBounds a _)[a]? = some (vp_cell (G.2 11) (F.2.1 a, .inl (slice (sAI w a v9) a).2.2.2.1))
      rw [row_sAI]
      simp [Array.getElem?_setIfInBounds, hl9]) (by simp) oq (fun b hb => slice_sAI w _ hb)) ⟨by simp; exact hS.1, fun q g1 g2 => by
      rw [oq q (fun e => g2 (by rw [e]; exact ha.1))]
      exact hS.2.1 q g1 g2, fun q hq => by
      rcases List.mem_append.mp hq with h | h
      · exact hS.2.2 q h
      · obtain ⟨z, -, hz⟩ := List.mem_map.mp h
        rw [← hz]
        exact ha.1⟩ hl _ hheap X'
  exact ⟨t, step t a1, b1⟩

def cpJ (F : Fr) (w : Wd) (a0 : Nat) (sp : Int32) (a : Nat) (dp m : Int32) : Option Wd := if sp < 0 ∨ dp < 0 ∨ m < 0 ∨ F.2.1 a0 < sp.toNatClampNeg + m.toNatClampNeg ∨ F.2.1 a < dp.toNatClampNeg + m.toNatClampNeg then none else some (sAJ w a (va_cpy (aJ w a0) (aJ w a) sp.toNatClampNeg dp.toNatClampNeg m.toNatClampNeg))
theorem bd_copyJ (C : Cx g G F cc own nL R) {index : Nat} (hlink : WD (.methodLink own index arraycopyName)) (hnat : WD (.native arraycopyName)) (hstat : WD (.static arraycopyName)) (hini : WD (.initialized "java/lang/System")) {a0 a : Nat} {sp dp m : Int32} {kf : Wd → Option ρ} (hd : decode cc pc = .ok (.invokestatic index, 3)) (ha0 : okF F a0 12) (ha : okF F a 12)
    (hR : 1 ≤ R.frames ∧ (st.map fun v => v.category).sum + (nativeFrameWords "java/lang/System" "arraycopy" 5 + 11) ≤ R.locals) (h : ∀ w1, BD g G F nL Q k n (kf w1) w1 (pc + 3) lv st) :
    BD g G F nL Q k n ((cpJ F w a0 sp a dp m).bind kf) w pc lv (.int m :: .int dp :: .ref a :: .int sp :: .ref a0 :: st) := by
  intro r hr H locs ls hP hS hl
  obtain ⟨w9, hw, hk⟩ := Option.bind_eq_some_iff.mp hr
  unfold cpJ at hw
  by_cases c9 : sp < 0 ∨ dp < 0 ∨ m < 0 ∨ F.2.1 a0 < sp.toNatClampNeg + m.toNatClampNeg ∨ F.2.1 a < dp.toNatClampNeg + m.toNatClampNeg
  · rw [if_pos c9] at hw; cases hw
  rw [if_neg c9] at hw
  cases hw
  have h1 : ¬ sp < 0 := fun q => c9 (Or.inl q)
  have h2 : ¬ dp < 0 := fun q => c9 (Or.inr (Or.inl q))
  have h3 : ¬ m < 0 := fun q => c9 (Or.inr (Or.inr (Or.inl q)))
  have h4 : sp.toNatClampNeg + m.toNatClampNeg ≤ F.2.1 a0 := Nat.not_lt.mp fun q => c9 (Or.inr (Or.inr (Or.inr (Or.inl q))))
  have h5 : dp.toNatClampNeg + m.toNatClampNeg ≤ F.2.1 a := Nat.not_lt.mp fun q => c9 (Or.inr (Or.inr (Or.inr (Or.inr q))))
  have nn : ∀ z : Int32, ¬ z < 0 → z.toInt = (z.toNatClampNeg : Int) := by
    intro z hz
    have hz0 : (0 : Int) ≤ z.toInt := by
      have := Int32.not_lt.mp hz
      simpa using Int32.le_iff_toInt_le.mp this
    show z.toInt = ((z.toInt.toNat : Nat) : Int)
    omega
  have hc0 : H[a0]? = some (vp_cell (G.2 12) (F.2.1 a0, .inr (.inl (aJ w a0)))) := hP.arr ha0 (by decide)
  have hc1 : H[a]? = some (vp_cell (G.2 12) (F.2.1 a, .inr (.inl (aJ w a)))) := hP.arr ha (by decide)
  intro T hT X
  obtain ⟨-, k0, hk0, cm0, hkk0⟩ := (C.kk.2 2 _ rfl).1 (F.2.1 a0) (fun j => .long (aJ w a0 j))
  obtain ⟨-, k1, hk1, cm1, hkk1⟩ := (C.kk.2 2 _ rfl).1 (F.2.1 a) (fun j => .long (aJ w a j))
  obtain ⟨vm', X', step⟩ := X.arraycopy C.exec C.cls0 (C.wd hlink) (C.wd hnat) (C.wd hstat) (C.wd hini) (src := a0) (dst := a) (cs := vp_cell (G.2 12) (F.2.1 a0, .inr (.inl (aJ w a0)))) (cd := vp_cell (G.2 12) (F.2.1 a, .inr (.inl (aJ w a)))) (srcPos := sp) (destPos := dp) (n := m) (by rw [hT]; exact hc0) (by rw [hT]; exact hc1)
    (fun _ h => by cases h) (fun _ h => by cases h) (fun h => by cases h) (fun h => by cases h) hk0 hk1 hkk0 hkk1 (by simp [refKind]) h1 h2 h3
    (by rw [nn sp h1, nn m h3]; show ¬ _ > ((arrV (G.2 12) (F.2.1 a0) (fun j => .long (aJ w a0 j))).slots.size : Int); rw [arrV_size]; omega)
    (by rw [nn dp h2, nn m h3]; show ¬ _ > ((arrV (G.2 12) (F.2.1 a) (fun j => .long (aJ w a j))).slots.size : Int); rw [arrV_size]; omega)
    (fun vm₁ _ i hi => by
      have e : (vp_cell (G.2 12) (F.2.1 a0, .inr (.inl (aJ w a0)))).slots.getD (sp.toNatClampNeg + i) .null = .long (aJ w a0 (sp.toNatClampNeg + i)) := by
        show (arrV (G.2 12) (F.2.1 a0) (fun j => .long (aJ w a0 j))).slots.getD _ _ = _
        rw [Array.getD_eq_getD_getElem?, arrV_read _ _ (by omega)]
        rfl
      refine ⟨?_, ?_⟩
      · rw [e]
        rfl
      · rw [e]
        exact trivial)
    (g := F0 (bm g) pc ls (.int m :: .int dp :: .ref a :: .int sp :: .ref a0 :: st)) rfl (by rw [C.maxl]; exact hl.1) (rest := st) rfl (by rw [C.code]; exact hd) (by rw [C.room]; exact hR.1) (by rw [C.room]; show 2 * 0 + _ + _ ≤ _; have := hR.2; omega)
  have e1 : copied (vp_cell (G.2 12) (F.2.1 a0, .inr (.inl (aJ w a0)))) (vp_cell (G.2 12) (F.2.1 a, .inr (.inl (aJ w a)))) sp dp m = vp_cell (G.2 12) (F.2.1 a, .inr (.inl (va_cpy (aJ w a0) (aJ w a) sp.toNatClampNeg dp.toNatClampNeg m.toNatClampNeg))) := va_copied (fun z => .long z) (G.2 12) (G.2 12) (aJ w a0) (aJ w a) h4
  rw [e1] at X' step
  generalize hv9 : va_cpy (aJ w a0) (aJ w a) sp.toNatClampNeg dp.toNatClampNeg m.toNatClampNeg = v9 at X' step hk
  have hl9 : a < H.size := (Array.getElem?_eq_some_iff.mp hc1).1
  have hheap : ((T.setVm vm').setCell a (vp_cell (G.2 12) (F.2.1 a, .inr (.inl v9)))).heap = H.setIfInBounds a (vp_cell (G.2 12) (F.2.1 a, .inr (.inl v9))) := by rw [← hT]; rfl
  have oq : ∀ q : Nat, q ≠ a → (H.setIfInBounds a (vp_cell (G.2 12) (F.2.1 a, .inr (.inl v9))))[q]? = H[q]? := fun q hq => by simp [Array.getElem?_setIfInBounds, Ne.symm hq]
  obtain ⟨t, a1, b1⟩ := h _ r hk _ _ ls (hP.set ha (by
      show (H.setIfInBounds a _)[a]? = some (vp_cell (G.2 12) (F.2.1 a, .inr (.inl (slice (sAJ w a v9) a).2.2.2.2.1)))
      rw [row_sAJ]
      simp [Array.getElem?_setIfInBounds, hl9]) (by simp) oq (fun b hb => slice_sAJ w _ hb)) ⟨by simp; exact hS.1, fun q g1 g2 => by
      rw [oq q (fun e => g2 (by rw [e]; exact ha.1))]
      exact hS.2.1 q g1 g2, fun q hq => by
      rcases List.mem_append.mp hq with h | h
      · exact hS.2.2 q h
      · obtain ⟨z, -, hz⟩ := List.mem_map.mp h
        rw [← hz]
        exact ha.1⟩ hl _ hheap X'
  exact ⟨t, step t a1, b1⟩

theorem bd_mmax (C : Cx g G F cc own nL R) {index : Nat} (hlink : WD (.methodLink own index Lib.Math.max.name)) (hstat : WD (.static Lib.Math.max.name)) (hini : WD (.initialized "java/lang/Math")) (hcode : WD (.code Lib.Math.max.name Lib.Math.max.code 2 (some .int))) {x y : Int32} (hd : decode cc pc = .ok (.invokestatic index, 3)) (hR : 1 ≤ R.frames ∧ (st.map fun v => v.category).sum + 13 ≤ R.locals ∧ k ≤ R.cells ∧ n ≤ R.slots)
    (h : BD g G F nL Q k n den w (pc + 3) lv (.int (imax x y) :: st)) : BD g G F nL Q k n den w pc lv (.int y :: .int x :: st) :=
  fun r hr H locs ls hP hS hl => va_mmax C.exec C.code (by rw [C.maxl]; exact hl.1.symm) C.cls0 (C.wd hlink) (C.wd hstat) (C.wd hini) (C.wd hcode) (by rw [C.room]; exact hR.1) (by rw [C.room]; exact hR.2.1) (by rw [C.room]; exact hR.2.2.1) (by rw [C.room]; exact hR.2.2.2) hd (h r hr H locs ls hP hS hl)

theorem bd_mmin (C : Cx g G F cc own nL R) {index : Nat} (hlink : WD (.methodLink own index Lib.Math.min.name)) (hstat : WD (.static Lib.Math.min.name)) (hini : WD (.initialized "java/lang/Math")) (hcode : WD (.code Lib.Math.min.name Lib.Math.min.code 2 (some .int))) {x y : Int32} (hd : decode cc pc = .ok (.invokestatic index, 3)) (hR : 1 ≤ R.frames ∧ (st.map fun v => v.category).sum + 13 ≤ R.locals ∧ k ≤ R.cells ∧ n ≤ R.slots)
    (h : BD g G F nL Q k n den w (pc + 3) lv (.int (imin x y) :: st)) : BD g G F nL Q k n den w pc lv (.int y :: .int x :: st) :=
  fun r hr H locs ls hP hS hl => va_mmin C.exec C.code (by rw [C.maxl]; exact hl.1.symm) C.cls0 (C.wd hlink) (C.wd hstat) (C.wd hini) (C.wd hcode) (by rw [C.room]; exact hR.1) (by rw [C.room]; exact hR.2.1) (by rw [C.room]; exact hR.2.2.1) (by rw [C.room]; exact hR.2.2.2) hd (h r hr H locs ls hP hS hl)

theorem bd_mabs (C : Cx g G F cc own nL R) {index : Nat} (hlink : WD (.methodLink own index Lib.Math.abs.name)) (hstat : WD (.static Lib.Math.abs.name)) (hini : WD (.initialized "java/lang/Math")) (hcode : WD (.code Lib.Math.abs.name Lib.Math.abs.code 1 (some .int))) {x : Int32} (hd : decode cc pc = .ok (.invokestatic index, 3)) (hR : 1 ≤ R.frames ∧ (st.map fun v => v.category).sum + 13 ≤ R.locals ∧ k ≤ R.cells ∧ n ≤ R.slots)
    (h : BD g G F nL Q k n den w (pc + 3) lv (.int (iabs x) :: st)) : BD g G F nL Q k n den w pc lv (.int x :: st) :=
  fun r hr H locs ls hP hS hl => va_mabs C.exec C.code (by rw [C.maxl]; exact hl.1.symm) C.cls0 (C.wd hlink) (C.wd hstat) (C.wd hini) (C.wd hcode) (by rw [C.room]; exact hR.1) (by rw [C.room]; exact hR.2.1) (by rw [C.room]; exact hR.2.2.1) (by rw [C.room]; exact hR.2.2.2) hd (h r hr H locs ls hP hS hl)

end BDA
/-! a method's start and end -/
def PcB (G : Gy) (F : Fr) (w : Wd) (av : List Value) : Array Value → State → Prop := va_Pc av (fun U => HP G F w U.heap ∧ Env2 G F U)
def QB (G : Gy) (F : Fr) (v : Option Value) (w : Wd) : Array Value → State → Outcome → State → Prop := fun _ st o t => o = .returned v ∧ HP G F w t.heap ∧ va_F (AF F) st t
def XB (G : Gy) (F : Fr) (E : String) (w : Wd) : String → State → State → Prop := fun E' st t => E' = E ∧ HP G F w t.heap ∧ va_F (AF F) st t
theorem PcB.blind {G : Gy} {F : Fr} {w : Wd} {av : List Value} : FrameBlind (PcB G F w av) := fun a U g mk q => by
  obtain ⟨q0, q1, q2, q3, q4, q5, q6⟩ := q
  have hW : U.WarmedH (U.calling g mk a).vm := State.WarmedH.refl U
  exact ⟨q0, q1, q2.moved hW.alike, q3.warm hW, q4, q5.moved hW.alike, q6.moved hW.alike⟩
/-- the ends of a method that returns, and of one that may throw -/
def QM (G : Gy) (F : Fr) (g : Bd) (mc ms : Nat) (v : Option Value) (w : Wd) : State → Prop := MQ (bb g) (QB G F v w) (ba g) (bs g) mc ms (AF F)
section BDM
variable {ρ : Type} {g : Bd} {G : Gy} {F : Fr} {cc : ByteArray} {own : String} {nL : Nat} {R : Room} {Q : ρ → State → Prop} {k n mc ms : Nat} {den : Option ρ} {w : Wd} {pc : Nat} {lv : List (Nat × Value)} {st : List Value}
theorem bd_met {l : Launch} {y : MethodName} {maxL : Nat} {ret : Option FieldType} {rm : Room} {av : List Value} {vs : ρ → Option Value} {wf : ρ → Wd} {r : ρ} (hl : l.stackTraces = false) (hy : plainName y.cls = true) (hav : (lg_sl av).length ≤ maxL) (hr : den = some r)
    (body : ∀ g, Cx g G F cc y.cls maxL rm → (bh g).sig.returnType = ret → (y.name = "<init>" → (bh g).name = "<init>") → BD g G F maxL (fun r => QM G F g mc ms (vs r) (wf r)) 0 0 den w 0 (lv_args 0 av) []) :
    Met l y [.code y cc maxL ret] rm (PcB G F w av) (QB G F (vs r) (wf r)) mc ms (AF F) := by
  refine Met.ofW (cc := cc) (maxL := maxL) (ret := ret) hy rfl ?_
  intro p e s m args below meth c s₁ B hml hv
  obtain ⟨rfl, hP, hE⟩ := hv
  rw [lg_entry_eq]
  exact body (p, l, e, _, s, m, _, below, meth, c) ⟨B.exec, B.bytes, findClass_of_methodNamed B.named, hml, hE, B.notSynchronized, hl, rfl⟩ B.returns (fun h => (name_of_methodNamed B.named B.method).1.trans h) r hr s.heap [] _ hP va_S.rf (lv_entry av hav)
theorem bd_vret (C : Cx g G F cc own nL R) {ty : Option FieldType} (hret : (bh g).sig.returnType = ty) (hn : ty = none) (vs : ρ → Option Value) (wf : ρ → Wd) {r0 : ρ} (hv : vs r0 = none) (hw : wf r0 = w) (hd : decode cc pc = .ok (.return_, 1)) (hk : k ≤ mc) (hm : n ≤ ms) : BD g G F nL (fun r => QM G F g mc ms (vs r) (wf r)) k n (some r0) w pc lv [] := by
  intro r hr H locs ls hP hS hl
  cases hr
  refine W.widen hk hm ?_
  refine W.vret C.exec C.code (hret.trans hn) (fun t ht hW => ⟨by rw [hv], by rw [hw, ht]; exact hP, hS.F ht⟩) hS.2.2 hd (hlocks := C.locks)
theorem bd_iret (C : Cx g G F cc own nL R) {ty : Option FieldType} (hret : (bh g).sig.returnType = ty) (hn : ty = some .int) (vs : ρ → Option Value) (wf : ρ → Wd) {r0 : ρ} {x : Int32} (hv : vs r0 = some (.int x)) (hw : wf r0 = w) (hd : decode cc pc = .ok (.ireturn, 1)) (hk : k ≤ mc) (hm : n ≤ ms) : BD g G F nL (fun r => QM G F g mc ms (vs r) (wf r)) k n (some r0) w pc lv [.int x] := by
  intro r hr H locs ls hP hS hl
  cases hr
  refine W.widen hk hm ?_
  refine W.iret C.exec C.code (hret.trans hn) (fun t ht hW => ⟨by rw [hv], by rw [hw, ht]; exact hP, hS.F ht⟩) hS.2.2 hd (hlocks := C.locks)
theorem bd_zret (C : Cx g G F cc own nL R) {ty : Option FieldType} (hret : (bh g).sig.returnType = ty) {t1 : FieldType} (hn : ty = some t1) (vs : ρ → Option Value) (wf : ρ → Wd) {r0 : ρ} {x : Int32} (hx : narrow t1 (.int x) = .int x) (hv : vs r0 = some (.int x)) (hw : wf r0 = w) (hd : decode cc pc = .ok (.ireturn, 1)) (hk : k ≤ mc) (hm : n ≤ ms) : BD g G F nL (fun r => QM G F g mc ms (vs r) (wf r)) k n (some r0) w pc lv [.int x] := by
  intro r hr H locs ls hP hS hl
  cases hr
  refine W.widen hk hm ?_
  refine W.zret C.exec C.code (hret.trans hn) hx (fun t ht hW => ⟨by rw [hv], by rw [hw, ht]; exact hP, hS.F ht⟩) hS.2.2 hd (hlocks := C.locks)
theorem bd_lret (C : Cx g G F cc own nL R) {ty : Option FieldType} (hret : (bh g).sig.returnType = ty) (hn : ty = some .long) (vs : ρ → Option Value) (wf : ρ → Wd) {r0 : ρ} {x : Int64} (hv : vs r0 = some (.long x)) (hw : wf r0 = w) (hd : decode cc pc = .ok (.lreturn, 1)) (hk : k ≤ mc) (hm : n ≤ ms) : BD g G F nL (fun r => QM G F g mc ms (vs r) (wf r)) k n (some r0) w pc lv [.long x] := by
  intro r hr H locs ls hP hS hl
  cases hr
  refine W.widen hk hm ?_
  refine W.lret C.exec C.code (hret.trans hn) (fun t ht hW => ⟨by rw [hv], by rw [hw, ht]; exact hP, hS.F ht⟩) hS.2.2 hd (hlocks := C.locks)
end BDM

