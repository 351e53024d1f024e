/-! frames counted one by one, and span by span -/
theorem sumN_zero {g : Nat → Int} : ∀ n, (∀ j, j < n → g j = 0) → sumN g n = 0 := by
  intro n
  induction n with
  | zero => intro _; rfl
  | succ n ih => intro h; rw [← sumN_succ, ih (fun j hj => h j (by omega)), h n (by omega)]; rfl
theorem sumN_one {g : Nat → Int} {i : Nat} : ∀ n, i < n → (∀ j, j < n → ¬ j = i → g j = 0) → sumN g n = g i := by
  intro n
  induction n with
  | zero => intro h; omega
  | succ n ih =>
    intro hi h
    rw [← sumN_succ]
    by_cases c : i = n
    · rw [sumN_zero n (fun j hj => h j (by omega) (by omega)), c, Int.zero_add]
    · rw [ih (by omega) (fun j hj => h j (by omega)), h n (by omega) (by omega), Int.add_zero]
theorem sumN_add (g h : Nat → Int) : ∀ n, sumN (fun j => g j + h j) n = sumN g n + sumN h n := by
  intro n
  induction n with
  | zero => rfl
  | succ n ih => rw [← sumN_succ, ← sumN_succ, ← sumN_succ, ih]; omega
theorem sumN_sub (g h : Nat → Int) : ∀ n, sumN (fun j => g j - h j) n = sumN g n - sumN h n := by
  intro n
  induction n with
  | zero => rfl
  | succ n ih => rw [← sumN_succ, ← sumN_succ, ← sumN_succ, ih]; omega
theorem sumN_swap (h : Nat → Nat → Int) (m : Nat) : ∀ n, sumN (fun f => sumN (h f) m) n = sumN (fun i => sumN (fun f => h f i) n) m := by
  intro n
  induction n with
  | zero => exact (sumN_zero m fun j _ => rfl).symm
  | succ n ih =>
    rw [← sumN_succ, ih, ← sumN_add]
    exact sumN_congr m fun j _ => rfl
theorem sumN_iv {a b : Int} (ha : 0 ≤ a) : ∀ n : Nat, sumN (fun f => if a ≤ (f : Int) ∧ (f : Int) < b then 1 else 0) n = max 0 (min b n - a) := by
  intro n
  induction n with
  | zero => show (0 : Int) = _; omega
  | succ n ih =>
    rw [← sumN_succ, ih]
    split <;> omega
theorem sumN_k (c : Int) : ∀ n : Nat, sumN (fun _ => c) n = c * n := by
  intro n
  induction n with
  | zero => show (0 : Int) = _; simp
  | succ n ih => rw [← sumN_succ, ih, show ((n + 1 : Nat) : Int) = n + 1 from rfl, Int.mul_add]; omega
/-- the span of a frame -/
def ix (r : Rw) (f : Nat) : Int := fnd (fun j => decide (rf r j ≤ f ∧ (f : Int) < re r j)) (rn r) 0
def labF (r : Rw) (f : Nat) : Int64 := if ix r f = -1 then 0 else mL (rl r (ix r f).toNat)
def inS (r : Rw) (i f : Nat) : Prop := rf r i ≤ f ∧ (f : Int) < re r i
theorem ix_cases {r : Rw} (hs : SRow r) (f : Nat) : (ix r f = -1 ∧ ∀ i, i < rn r → ¬ inS r i f) ∨ ∃ i, i < rn r ∧ ix r f = (i : Nat) ∧ inS r i f ∧ ∀ j, j < rn r → ¬ j = i → ¬ inS r j f := by
  unfold ix
  rcases fnd_cases (fun j => decide (rf r j ≤ f ∧ (f : Int) < re r j)) (rn r) 0 with ⟨h1, h2⟩ | ⟨i, h1, h2, h3, h4, h5⟩
  · exact Or.inl ⟨h1, fun i hi => (of_decide_eq_false (h2 i (by omega) (by omega)) : ¬ (rf r i ≤ (f : Int) ∧ (f : Int) < re r i))⟩
  · have h4 : inS r i f := (of_decide_eq_true h4 : rf r i ≤ (f : Int) ∧ (f : Int) < re r i)
    refine Or.inr ⟨i, by omega, h1, h4, fun j hj hn hh => ?_⟩
    unfold inS at h4 hh
    rcases Nat.lt_or_gt_of_ne hn with c | c
    · have := hs.lt c (show i < rn r by omega); omega
    · have := hs.lt c hj; omega
def covS (r : Rw) (i f : Nat) : Int := if rf r i ≤ (f : Int) ∧ (f : Int) < re r i then 1 else 0
def cmFS (b : Bool) (r q : Rw) (f i j : Nat) : Int := if (b = false ∨ rl r i = rl q j) ∧ (rf r i ≤ (f : Int) ∧ (f : Int) < re r i) ∧ (rf q j ≤ (f : Int) ∧ (f : Int) < re q j) then 1 else 0
theorem cov0 {r : Rw} {i f : Nat} (h : ¬ inS r i f) : covS r i f = 0 := if_neg (c := rf r i ≤ (f : Int) ∧ (f : Int) < re r i) h
theorem cov1 {r : Rw} {i f : Nat} (h : inS r i f) : covS r i f = 1 := if_pos (c := rf r i ≤ (f : Int) ∧ (f : Int) < re r i) h
theorem cm0a {b : Bool} {r q : Rw} {f i j : Nat} (h : ¬ inS r i f) : cmFS b r q f i j = 0 := if_neg fun x => h x.2.1
theorem cm0b {b : Bool} {r q : Rw} {f i j : Nat} (h : ¬ inS q j f) : cmFS b r q f i j = 0 := if_neg fun x => h x.2.2
def cmF (b : Bool) (r q : Rw) (f : Nat) : Int := sumN (fun i => sumN (cmFS b r q f i) (rn q)) (rn r)
def onF (r : Rw) (f : Nat) : Int := if ix r f = -1 then 0 else 1
def smF (b : Bool) (r q : Rw) (f : Nat) : Int := if ¬ ix r f = -1 ∧ ¬ ix q f = -1 ∧ (b = false ∨ rl r (ix r f).toNat = rl q (ix q f).toNat) then 1 else 0
theorem on_sum {r : Rw} (hs : SRow r) (f : Nat) : onF r f = sumN (fun i => covS r i f) (rn r) := by
  unfold onF
  rcases ix_cases hs f with ⟨h1, h2⟩ | ⟨i, hi, h1, h2, h3⟩
  · rw [if_pos h1]
    exact (sumN_zero _ fun j hj => cov0 (h2 j hj)).symm
  · rw [if_neg (by omega), sumN_one _ hi (fun j hj hn => cov0 (h3 j hj hn))]
    exact (cov1 h2).symm
theorem fsum_on {r : Rw} (g : GRow r) (hs : SRow r) : sumN (onF r) 1000 = fsum r := by
  rw [sumN_congr (h := fun f => sumN (fun i => covS r i f) (rn r)) 1000 (fun f _ => on_sum hs f), sumN_swap (fun f i => covS r i f)]
  refine sumN_congr _ fun i hi => ?_
  have b := g.2 i hi
  have c := hs.1 i hi
  have e := sumN_iv (a := rf r i) (b := re r i) b.1 1000
  have e2 : sumN (fun f => covS r i f) 1000 = max 0 (min (re r i) (1000 : Nat) - rf r i) := e
  rw [e2]
  omega
theorem cm_sm {r q : Rw} (hs : SRow r) (ht : SRow q) (b : Bool) (f : Nat) : cmF b r q f = smF b r q f := by
  unfold cmF smF
  rcases ix_cases hs f with ⟨h1, h2⟩ | ⟨i, hi, h1, h2, h3⟩
  · rw [if_neg (fun x => x.1 h1)]
    exact sumN_zero _ fun j hj => sumN_zero _ fun l hl => cm0a (h2 j hj)
  · rw [sumN_one _ hi (fun j hj hn => sumN_zero _ fun l hl => cm0a (h3 j hj hn))]
    rcases ix_cases ht f with ⟨k1, k2⟩ | ⟨j, hj, k1, k2, k3⟩
    · rw [if_neg (fun x => x.2.1 k1)]
      exact sumN_zero _ fun l hl => cm0b (k2 l hl)
    · rw [sumN_one _ hj (fun l hl hn => cm0b (k3 l hl hn)), h1, k1]
      unfold cmFS
      by_cases c : b = false ∨ rl r i = rl q j
      · rw [if_pos ⟨c, h2, k2⟩, if_pos ⟨by omega, by omega, by rw [Int.toNat_natCast, Int.toNat_natCast]; exact c⟩]
      · rw [if_neg (fun x => c x.1), if_neg (fun x => c (by have := x.2.2; rw [Int.toNat_natCast, Int.toNat_natCast] at this; exact this))]
theorem com_cm {r q : Rw} (g : GRow r) (g2 : GRow q) (b : Bool) : sumN (cmF b r q) 1000 = com b r q := by
  have e1 : sumN (cmF b r q) 1000 = sumN (fun i => sumN (fun f => sumN (cmFS b r q f i) (rn q)) 1000) (rn r) := sumN_swap (fun f i => sumN (cmFS b r q f i) (rn q)) (rn r) 1000
  rw [e1]
  refine sumN_congr _ fun i hi => ?_
  have e2 : sumN (fun f => sumN (cmFS b r q f i) (rn q)) 1000 = sumN (fun j => sumN (fun f => cmFS b r q f i j) 1000) (rn q) := sumN_swap (fun f j => cmFS b r q f i j) (rn q) 1000
  rw [e2]
  refine sumN_congr _ fun j hj => ?_
  have b1 := g.2 i hi
  have b2 := g2.2 j hj
  unfold comS
  by_cases c : b = false ∨ rl r i = rl q j
  · rw [if_pos c]
    have e := sumN_iv (a := max (rf r i) (rf q j)) (b := min (re r i) (re q j)) (by omega) 1000
    have e3 : sumN (fun f => cmFS b r q f i j) 1000 = sumN (fun f => if max (rf r i) (rf q j) ≤ (f : Int) ∧ (f : Int) < min (re r i) (re q j) then 1 else 0) 1000 := sumN_congr _ fun f _ => by
      unfold cmFS
      by_cases d : max (rf r i) (rf q j) ≤ (f : Int) ∧ (f : Int) < min (re r i) (re q j)
      · rw [if_pos d, if_pos ⟨c, by omega, by omega⟩]
      · rw [if_neg d, if_neg (fun x => d (by omega))]
    rw [e3, e]
    omega
  · rw [if_neg c]
    exact sumN_zero _ fun f _ => if_neg (fun x => c x.1)
theorem sm_com {r q : Rw} (g : GRow r) (g2 : GRow q) (hs : SRow r) (ht : SRow q) (b : Bool) : sumN (smF b r q) 1000 = com b r q := by
  rw [← com_cm g g2 b]
  exact sumN_congr _ fun f _ => (cm_sm hs ht b f).symm
def anF (r q : Rw) (f : Nat) : Int := if ix r f = -1 ∧ ix q f = -1 then 0 else 1
theorem an_sum {r q : Rw} (g : GRow r) (g2 : GRow q) (hs : SRow r) (ht : SRow q) : sumN (anF r q) 1000 = fsum r + fsum q - com false r q := by
  rw [← fsum_on g hs, ← fsum_on g2 ht, ← sm_com g g2 hs ht, ← sumN_add, ← sumN_sub]
  refine sumN_congr _ fun f _ => ?_
  unfold anF onF smF
  by_cases c : ix r f = -1
  · by_cases d : ix q f = -1
    · rw [if_pos ⟨c, d⟩, if_pos c, if_pos d, if_neg (fun x => x.1 c)]; rfl
    · rw [if_neg (fun x => d x.2), if_pos c, if_neg d, if_neg (fun x => x.1 c)]; rfl
  · by_cases d : ix q f = -1
    · rw [if_neg (fun x => c x.1), if_neg c, if_pos d, if_neg (fun x => x.2.1 d)]; rfl
    · rw [if_neg (fun x => c x.1), if_neg c, if_neg d, if_pos ⟨c, d, Or.inl rfl⟩]; rfl
def alF (r q : Rw) (f : Nat) : Int := if labF r f = labF q f then 1 else 0
theorem lab_cases {r : Rw} (g : GRow r) (hs : SRow r) (f : Nat) : (ix r f = -1 ∧ labF r f = 0) ∨ (¬ ix r f = -1 ∧ labF r f = mL (rl r (ix r f).toNat) ∧ VL (rl r (ix r f).toNat) ∧ ¬ labF r f = 0) := by
  rcases ix_cases hs f with ⟨h1, h2⟩ | ⟨i, hi, h1, h2, h3⟩
  · exact Or.inl ⟨h1, if_pos h1⟩
  · have v := (g.2 i hi).2.2.2.2
    have e : labF r f = mL (rl r (ix r f).toNat) := if_neg (by omega)
    have v2 : VL (rl r (ix r f).toNat) := by rw [h1, Int.toNat_natCast]; exact v
    exact Or.inr ⟨by omega, e, v2, by rw [e]; exact mL_ne v2⟩
theorem al_sum {r q : Rw} (g : GRow r) (g2 : GRow q) (hs : SRow r) (ht : SRow q) : sumN (alF r q) 1000 = com true r q + 1000 - (fsum r + fsum q - com false r q) := by
  have e1000 : (1000 : Int) = sumN (fun _ => 1) 1000 := by rw [sumN_k]; rfl
  rw [← an_sum g g2 hs ht, ← sm_com g g2 hs ht]
  rw [e1000, ← sumN_add, ← sumN_sub]
  refine sumN_congr _ fun f _ => ?_
  unfold alF anF smF
  rcases lab_cases g hs f with ⟨c, e⟩ | ⟨c, e, v, n⟩
  · rcases lab_cases g2 ht f with ⟨d, e'⟩ | ⟨d, e', v', n'⟩
    · rw [e, e', if_pos rfl, if_neg (fun x => x.1 c), if_pos ⟨c, d⟩]; rfl
    · rw [e, if_neg (fun x => n' x.symm), if_neg (fun x => x.1 c), if_neg (fun x => d x.2)]; rfl
  · rcases lab_cases g2 ht f with ⟨d, e'⟩ | ⟨d, e', v', n'⟩
    · rw [e', if_neg n, if_neg (fun x => x.2.1 d), if_neg (fun x => c x.1)]; rfl
    · rw [e, e', if_neg (c := ix r f = -1 ∧ ix q f = -1) (fun x => c x.1)]
      by_cases h : rl r (ix r f).toNat = rl q (ix q f).toNat
      · rw [if_pos (by rw [h]), if_pos ⟨c, d, Or.inr h⟩]; rfl
      · rw [if_neg (by rw [mL_inj v v']; exact h), if_neg (fun x => by rcases x.2.2 with y | y; exact absurd y (by decide); exact h y)]; rfl
