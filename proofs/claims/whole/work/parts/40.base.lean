/-! THE MATHEMATICS: base. Numbers as Int, options that come to something, worlds that keep what they are not told to change. -/
def zI (a : Int) : Int32 := Int32.ofInt a
def zJ (a : Int) : Int64 := Int64.ofInt a
theorem zI_add (a b : Int) : zI a + zI b = zI (a + b) := (Int32.ofInt_add a b).symm
theorem zI_sub (a b : Int) : zI a - zI b = zI (a - b) := (Int32.ofInt_sub a b).symm
theorem zI_mul (a b : Int) : zI a * zI b = zI (a * b) := (Int32.ofInt_mul a b).symm
theorem zI_neg (a : Int) : -zI a = zI (-a) := (Int32.ofInt_neg a).symm
theorem zJ_neg (a : Int) : -zJ a = zJ (-a) := (Int64.ofInt_neg a).symm
theorem zJ_add (a b : Int) : zJ a + zJ b = zJ (a + b) := (Int64.ofInt_add a b).symm
theorem zJ_sub (a b : Int) : zJ a - zJ b = zJ (a - b) := (Int64.ofInt_sub a b).symm
theorem zJ_mul (a b : Int) : zJ a * zJ b = zJ (a * b) := (Int64.ofInt_mul a b).symm
theorem zI_int {a : Int} (h1 : -2147483648 ≤ a) (h2 : a < 2147483648) : (zI a).toInt = a := Int32.toInt_ofInt_of_le h1 h2
theorem zJ_int {a : Int} (h1 : -9223372036854775808 ≤ a) (h2 : a < 9223372036854775808) : (zJ a).toInt = a := Int64.toInt_ofInt_of_le h1 h2
theorem zI_lt {a b : Int} (h1 : -2147483648 ≤ a) (h2 : a < 2147483648) (h3 : -2147483648 ≤ b) (h4 : b < 2147483648) : (zI a < zI b) = (a < b) := by
  rw [Int32.lt_iff_toInt_lt, zI_int h1 h2, zI_int h3 h4]
theorem zI_le {a b : Int} (h1 : -2147483648 ≤ a) (h2 : a < 2147483648) (h3 : -2147483648 ≤ b) (h4 : b < 2147483648) : (zI a ≤ zI b) = (a ≤ b) := by
  rw [Int32.le_iff_toInt_le, zI_int h1 h2, zI_int h3 h4]
theorem zI_eq {a b : Int} (h1 : -2147483648 ≤ a) (h2 : a < 2147483648) (h3 : -2147483648 ≤ b) (h4 : b < 2147483648) : (zI a = zI b) = (a = b) := by
  apply propext
  constructor
  · intro h
    have h9 := congrArg Int32.toInt h
    rwa [zI_int h1 h2, zI_int h3 h4] at h9
  · intro h; rw [h]
theorem zJ_lt {a b : Int} (h1 : -9223372036854775808 ≤ a) (h2 : a < 9223372036854775808) (h3 : -9223372036854775808 ≤ b) (h4 : b < 9223372036854775808) : (zJ a < zJ b) = (a < b) := by
  rw [Int64.lt_iff_toInt_lt, zJ_int h1 h2, zJ_int h3 h4]
theorem zJ_le {a b : Int} (h1 : -9223372036854775808 ≤ a) (h2 : a < 9223372036854775808) (h3 : -9223372036854775808 ≤ b) (h4 : b < 9223372036854775808) : (zJ a ≤ zJ b) = (a ≤ b) := by
  rw [Int64.le_iff_toInt_le, zJ_int h1 h2, zJ_int h3 h4]
theorem zJ_eq {a b : Int} (h1 : -9223372036854775808 ≤ a) (h2 : a < 9223372036854775808) (h3 : -9223372036854775808 ≤ b) (h4 : b < 9223372036854775808) : (zJ a = zJ b) = (a = b) := by
  apply propext
  constructor
  · intro h
    have h9 := congrArg Int64.toInt h
    rwa [zJ_int h1 h2, zJ_int h3 h4] at h9
  · intro h; rw [h]
theorem zI_of (x : Int32) : ∃ a : Int, -2147483648 ≤ a ∧ a < 2147483648 ∧ x = zI a :=
  ⟨x.toInt, by have := Int32.minValue_le_toInt x; simpa using this, by have := Int32.toInt_lt x; simpa using this, (Int32.ofInt_toInt x).symm⟩
theorem zI_nat {a : Int} (h1 : 0 ≤ a) (h2 : a < 2147483648) : (zI a).toNatClampNeg = a.toNat := by
  show (zI a).toInt.toNat = a.toNat
  rw [zI_int (by omega) h2]
theorem zJ_32 (a : Int) : (zJ a).toInt32 = zI a := by
  unfold zJ zI
  exact Int64.toInt32_ofInt
theorem zI_64 {a : Int} (h1 : -2147483648 ≤ a) (h2 : a < 2147483648) : (zI a).toInt64 = zJ a := by
  apply Int64.toInt_inj.mp
  rw [Int32.toInt_toInt64, zI_int h1 h2, zJ_int (by omega) (by omega)]
theorem nI_z (n : Nat) : nI n = zI n := by
  unfold nI zI
  exact (Int32.ofInt_eq_ofNat).symm
/-- it comes to something that .. -/
def Ev {α : Type} (x : Option α) (P : α → Prop) : Prop := ∃ a, x = some a ∧ P a
section EV
variable {α β : Type}
theorem ev_some {a : α} {P : α → Prop} (h : P a) : Ev (some a) P := ⟨a, rfl, h⟩
theorem ev_bind {x : Option α} {f : α → Option β} {P : β → Prop} (h : Ev x fun a => Ev (f a) P) : Ev (x.bind f) P := by
  obtain ⟨a, rfl, b, h1, h2⟩ := h
  exact ⟨b, h1, h2⟩
theorem ev_then {x : Option α} {f : α → Option β} {Q : α → Prop} {P : β → Prop} (h : Ev x Q) (k : ∀ a, Q a → Ev (f a) P) : Ev (x.bind f) P := by
  obtain ⟨a, rfl, h2⟩ := h
  exact k a h2
theorem ev_eq {x : Option α} {a : α} {f : α → Option β} {P : β → Prop} (h : x = some a) (k : Ev (f a) P) : Ev (x.bind f) P := by
  subst h
  exact k
theorem ev_bnd {x : α} {f : α → Option β} {P : β → Prop} (k : Ev (f x) P) : Ev (bnd x f) P := k
theorem ev_if {c : Prop} {dc : Decidable c} {x y : Option α} {P : α → Prop} (h1 : c → Ev x P) (h2 : ¬ c → Ev y P) : Ev (if c then x else y) P := by
  by_cases h : c
  · rw [if_pos h]; exact h1 h
  · rw [if_neg h]; exact h2 h
theorem ev_pos {c : Prop} {dc : Decidable c} {x y : Option α} {P : α → Prop} (h : c) (h1 : Ev x P) : Ev (if c then x else y) P := by
  rw [if_pos h]; exact h1
theorem ev_neg {c : Prop} {dc : Decidable c} {x y : Option α} {P : α → Prop} (h : ¬ c) (h1 : Ev y P) : Ev (if c then x else y) P := by
  rw [if_neg h]; exact h1
theorem ev_mono {x : Option α} {P Q : α → Prop} (h : Ev x P) (k : ∀ a, P a → Q a) : Ev x Q := by
  obtain ⟨a, h1, h2⟩ := h
  exact ⟨a, h1, k a h2⟩
theorem ev_is {x : Option α} {a : α} (h : Ev x (fun b => b = a)) : x = some a := by
  obtain ⟨b, h1, h2⟩ := h
  rw [h1, h2]
end EV
