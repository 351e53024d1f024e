theorem law_G {s : State} (hts : ∀ w ∈ lw_tbl, xw w = true → ∀ a : Array Value, w.before a s = true) (hR : va_AO "LessonTiers$Row" s) (hB : va_AO "LessonTiers$Book" s) : ∃ G : Gy, va_K G.1 myCl (tysOf G.2) s := by
  have ho : ∀ (C : String) (T : u_T) (N n : Nat), (∀ w ∈ u_ws C T N, WD w) → WD (.instantiable C n) → ∃ (cC : ClassId) (iS : Nat → Nat), u_Kn s C T N cC iS := by
    intro C T N n h1 h2
    exact u_known (ws := u_ws C T N) (args := #[]) (fun w hw => hts w (h1 w hw).1 (h1 w hw).2 #[]) (fun w hw => hw) (hts _ h2.1 h2.2 #[])
  have hp : ∀ ty : FieldType, WD (.arrayClass ty) → ∃ c : ClassId, (∀ (n : Nat) (z : Nat → Value), (∀ C, ty ≠ .object C) → s.isArrayOf (arrV c n z) ty) ∧ s.vm.findClass ("[" ++ ty.toString) = some c := by
    intro ty h
    obtain ⟨c, k, comp, h1, h2, h3⟩ := Cond.arrayClass_spec (hts _ h.1 h.2 #[])
    exact ⟨c, fun n z _ => ⟨fun k h => (by cases h), k, h2, comp, h3⟩, h1⟩
  have hq : ∀ C : String, va_AO C s → ∃ c : ClassId, ArrOfT s c (.object C) ∧ va_RA s c (.object C) := by
    intro C h
    obtain ⟨comp, c, k, h1, h2, h3, h4, h5⟩ := Cond.arrayOver_spec h
    exact ⟨c, fun N z => ⟨(fun k h => by cases h), k, h3, comp, h4⟩, k, comp, h3, h4, h1, h5⟩
  obtain ⟨c0, i0, k0⟩ := ho RX0 TX0 4 4 inX0 wd_255
  obtain ⟨c1, i1, k1⟩ := ho RX1 TX1 9 9 inX1 wd_117
  obtain ⟨c2, i2, k2⟩ := ho RX2 TX2 3 3 inX2 wd_185
  obtain ⟨c3, i3, k3⟩ := ho RX3 TX3 7 7 inX3 wd_205
  obtain ⟨c4, i4, k4⟩ := ho RX4 TX4 7 7 inX4 wd_276
  obtain ⟨c5, i5, k5⟩ := ho RX5 TX5 7 7 inX5 wd_307
  obtain ⟨c6, i6, k6⟩ := ho RX6 TX6 2 2 inX6 wd_240
  obtain ⟨c7, i7, k7⟩ := ho RX7 TX7 4 4 inX7 wd_124
  obtain ⟨c8, i8, k8⟩ := ho RX8 TX8 13 13 inX8 wd_109
  obtain ⟨c9, i9, k9⟩ := ho RX9 TX9 47 47 inX9 wd_1230
  obtain ⟨a0, b0, d0⟩ := hp .char wd_238
  obtain ⟨a1, b1, d1⟩ := hp .int wd_147
  obtain ⟨a2, b2, d2⟩ := hp .long wd_148
  obtain ⟨a3, b3, d3⟩ := hp .boolean wd_337
  obtain ⟨a4, b4, d4⟩ := hq _ hB
  obtain ⟨a5, b5, d5⟩ := hq _ hR
  obtain ⟨a6, b6, d6⟩ := hp .double wd_1775
  refine ⟨(((fun k => match k with | 0 => c0 | 1 => c1 | 2 => c2 | 3 => c3 | 4 => c4 | 5 => c5 | 6 => c6 | 7 => c7 | 8 => c8 | _ => c9), fun k => match k with | 0 => i0 | 1 => i1 | 2 => i2 | 3 => i3 | 4 => i4 | 5 => i5 | 6 => i6 | 7 => i7 | 8 => i8 | _ => i9), fun k => match k with | 10 => a0 | 11 => a1 | 12 => a2 | 13 => a3 | 14 => a4 | 15 => a5 | _ => a6), ?_, ?_⟩
  · intro c q hq
    match c, hq with
    | 0, hq => cases hq; exact k0
    | 1, hq => cases hq; exact k1
    | 2, hq => cases hq; exact k2
    | 3, hq => cases hq; exact k3
    | 4, hq => cases hq; exact k4
    | 5, hq => cases hq; exact k5
    | 6, hq => cases hq; exact k6
    | 7, hq => cases hq; exact k7
    | 8, hq => cases hq; exact k8
    | 9, hq => cases hq; exact k9
    | c + 10, hq => cases hq
  · intro c q hq
    match c, hq with
    | 0, hq => cases hq; exact ⟨fun n z => b0 n z (fun C h => by cases h), d0⟩
    | 1, hq => cases hq; exact ⟨fun n z => b1 n z (fun C h => by cases h), d1⟩
    | 2, hq => cases hq; exact ⟨fun n z => b2 n z (fun C h => by cases h), d2⟩
    | 3, hq => cases hq; exact ⟨fun n z => b3 n z (fun C h => by cases h), d3⟩
    | 4, hq => cases hq; exact ⟨b4, d4⟩
    | 5, hq => cases hq; exact ⟨b5, d5⟩
    | 6, hq => cases hq; exact ⟨fun n z => b6 n z (fun C h => by cases h), d6⟩
    | c + 7, hq => cases hq
theorem law_NC {s : State} {args : Array Value} (h : ∀ c ∈ flatC (Jvm.Cond.and given_1 narrow_1), c.before args s = true) : NC s := by
  have hall : ∀ q ∈ ([0, 1, 2, 3, 4, 5].flatMap fun a => [0, 1, 2, 3, 4, 5].map fun b => (a, b)), q.1 ≠ q.2 → Cond.not (.castable (exN q.1) (exN q.2)) ∈ flatC (Jvm.Cond.and given_1 narrow_1) := by decide +kernel
  intro a b ha hb hab
  refine va_Nc.of (h _ (hall (a, b) ?_ hab))
  match a, ha, b, hb with
  | 0, _, 0, _ | 0, _, 1, _ | 0, _, 2, _ | 0, _, 3, _ | 0, _, 4, _ | 0, _, 5, _ => decide
  | 1, _, 0, _ | 1, _, 1, _ | 1, _, 2, _ | 1, _, 3, _ | 1, _, 4, _ | 1, _, 5, _ => decide
  | 2, _, 0, _ | 2, _, 1, _ | 2, _, 2, _ | 2, _, 3, _ | 2, _, 4, _ | 2, _, 5, _ => decide
  | 3, _, 0, _ | 3, _, 1, _ | 3, _, 2, _ | 3, _, 3, _ | 3, _, 4, _ | 3, _, 5, _ => decide
  | 4, _, 0, _ | 4, _, 1, _ | 4, _, 2, _ | 4, _, 3, _ | 4, _, 4, _ | 4, _, 5, _ => decide
  | 5, _, 0, _ | 5, _, 1, _ | 5, _, 2, _ | 5, _, 3, _ | 5, _, 4, _ | 5, _, 5, _ => decide
/-- THE LAW'S WALK, whole: where its value is some () for some layout, the run ends with 1 -/
theorem law_walk {p : Program} {e : Env} {s : State} {m : MethodId} {below : List Frame} {meth : Method} {c : Code} (l : Launch) (hflags : l.flags = flags0) {b L : Nat} {xs : Nat → Int32} (C0 : lw_At p s m meth c b L xs) (K len : Nat → Nat) (N : Nat) (w : Wd)
    (hv : fLaw (K, len, s.heap.size, s.heap.size, true) N L xs w s.heap.size = some ()) :
    W p l e room_1 s m #[Value.ref b] below meth c s.heap [] 0 0 (lw_Z below #[Value.ref b] s) (entryFrame m ([Value.ref b] : List Value).toArray 9) := by
  obtain ⟨hx, hb, hr, hml, hown, hts, hX, hbl, hlocks, hgv⟩ := id C0
  have hst : l.stackTraces = false := by
    unfold Launch.stackTraces
    rw [hflags]
    decide +kernel
  have hfl := flat_of_before _ hgv
  have hT : ∀ w ∈ lw_tbl, xw w = true → ∀ a : Array Value, w.before a s = true := fun w hw h a => xw_warm h (State.WarmedH.refl s) (hts w hw)
  have hRow : va_AO "LessonTiers$Row" s := hts (.arrayOver (.object "LessonTiers$Row")) (by decide +kernel)
  have hBook : va_AO "LessonTiers$Book" s := hts (.arrayOver (.object "LessonTiers$Book")) (by decide +kernel)
  obtain ⟨G, hK⟩ := law_G hT hRow hBook
  have hA : ∀ a : Nat, a < s.heap.size → ¬ (fun q : Nat => s.heap.size ≤ q) a := fun a h h2 => absurd h (Nat.not_lt.mpr h2)
  have z1 : vx_Zq Bundle.tN "UNASSIGNED_STACK" Bundle.steD (fun q : Nat => s.heap.size ≤ q) s s.heap := vx_Zqof (args := #[Value.ref b]) (hts _ (by decide +kernel)) (hts _ (by decide +kernel)) (hfl _ (by decide +kernel)) hA
  have z2 : vx_Zq Bundle.tN "SUPPRESSED_SENTINEL" Bundle.listD (fun q : Nat => s.heap.size ≤ q) s s.heap := vx_Zqof (args := #[Value.ref b]) (hts _ (by decide +kernel)) (hts _ (by decide +kernel)) (hfl _ (by decide +kernel)) hA
  have hNC : NC s := law_NC hfl
  have hE : Env2 G (K, len, s.heap.size, s.heap.size, true) s := ⟨hK, ⟨hT, hRow, hBook⟩, Nat.le_refl _, z1, z2⟩
  have C : Cx (p, l, e, room_1, s, m, #[Value.ref b], below, meth, c) G (K, len, s.heap.size, s.heap.size, true) code RL 9 room_1 := ⟨hx, hb, hown, hml, hE, hlocks, hst, rfl⟩
  rw [lg_entry_eq]
  refine mL_start (g := (p, l, e, room_1, s, m, #[Value.ref b], below, meth, c)) (F := (K, len, s.heap.size, s.heap.size, true)) (Q := fun _ : Unit => lw_Z below #[Value.ref b] s) (b9 := b) N w C rfl (fun w l1 l2 l3 l4 o1 o2 o3 o4 => ?_) () hv s.heap [] _ ⟨fun a h1 h2 => absurd h2 (Nat.not_lt.mpr h1), fun _ => rfl⟩ va_S.rf (lv_entry [.ref b] (n := 9) (Nat.le_of_ble_eq_true rfl))
  exact mL_loop (F := Fnc (K, len, s.heap.size, s.heap.size, true) (s.heap.size + 689)) N C hNC rfl hr (Nat.le_refl _) ⟨hX, hbl, hA b hbl⟩ N 0 w l1 l2 l3 l4 0 o1 o2 o3 o4
