/-! labels: a list of characters; the class's number has the first one lowest, the reference's number has it highest -/
theorem z_0 : (0 : Int32) = zI 0 := rfl
theorem z_1 : (1 : Int32) = zI 1 := rfl
theorem z_2 : (2 : Int32) = zI 2 := rfl
theorem z_3 : (3 : Int32) = zI 3 := rfl
theorem z_4 : (4 : Int32) = zI 4 := rfl
theorem z_5 : (5 : Int32) = zI 5 := rfl
theorem z_6 : (6 : Int32) = zI 6 := rfl
theorem z_7 : (7 : Int32) = zI 7 := rfl
theorem z_8 : (8 : Int32) = zI 8 := rfl
theorem z_9 : (9 : Int32) = zI 9 := rfl
theorem z_10 : (10 : Int32) = zI 10 := rfl
theorem z_12 : (12 : Int32) = zI 12 := rfl
theorem z_13 : (13 : Int32) = zI 13 := rfl
theorem z_16 : (16 : Int32) = zI 16 := rfl
theorem z_20 : (20 : Int32) = zI 20 := rfl
theorem z_24 : (24 : Int32) = zI 24 := rfl
theorem z_30 : (30 : Int32) = zI 30 := rfl
theorem z_31 : (31 : Int32) = zI 31 := rfl
theorem z_32 : (32 : Int32) = zI 32 := rfl
theorem z_38 : (38 : Int32) = zI 38 := rfl
theorem z_42 : (42 : Int32) = zI 42 := rfl
theorem z_44 : (44 : Int32) = zI 44 := rfl
theorem z_45 : (45 : Int32) = zI 45 := rfl
theorem z_47 : (47 : Int32) = zI 47 := rfl
theorem z_48 : (48 : Int32) = zI 48 := rfl
theorem z_49 : (49 : Int32) = zI 49 := rfl
theorem z_50 : (50 : Int32) = zI 50 := rfl
theorem z_57 : (57 : Int32) = zI 57 := rfl
theorem z_58 : (58 : Int32) = zI 58 := rfl
theorem z_59 : (59 : Int32) = zI 59 := rfl
theorem z_60 : (60 : Int32) = zI 60 := rfl
theorem z_61 : (61 : Int32) = zI 61 := rfl
theorem z_91 : (91 : Int32) = zI 91 := rfl
theorem z_97 : (97 : Int32) = zI 97 := rfl
theorem z_98 : (98 : Int32) = zI 98 := rfl
theorem z_100 : (100 : Int32) = zI 100 := rfl
theorem z_108 : (108 : Int32) = zI 108 := rfl
theorem z_114 : (114 : Int32) = zI 114 := rfl
theorem z_120 : (120 : Int32) = zI 120 := rfl
theorem z_122 : (122 : Int32) = zI 122 := rfl
theorem z_126 : (126 : Int32) = zI 126 := rfl
theorem z_127 : (127 : Int32) = zI 127 := rfl
theorem z_128 : (128 : Int32) = zI 128 := rfl
theorem z_200 : (200 : Int32) = zI 200 := rfl
theorem z_255 : (255 : Int32) = zI 255 := rfl
theorem z_961 : (961 : Int32) = zI 961 := rfl
theorem z_990 : (990 : Int32) = zI 990 := rfl
theorem z_992 : (992 : Int32) = zI 992 := rfl
theorem z_998 : (998 : Int32) = zI 998 := rfl
theorem z_999 : (999 : Int32) = zI 999 := rfl
theorem z_1000 : (1000 : Int32) = zI 1000 := rfl
theorem z_1092 : (1092 : Int32) = zI 1092 := rfl
theorem z_1114 : (1114 : Int32) = zI 1114 := rfl
theorem z_7798 : (7798 : Int32) = zI 7798 := rfl
theorem z_10000 : (10000 : Int32) = zI 10000 := rfl
theorem z_1000000 : (1000000 : Int32) = zI 1000000 := rfl
theorem z_m1 : (-1 : Int32) = zI (-1) := rfl
theorem z_m8 : (-8 : Int32) = zI (-8) := rfl
def dig (B : Nat) : List Nat → Nat
  | [] => 0
  | c :: l => c + B * dig B l
theorem dig_inj {B : Nat} : ∀ (l k : List Nat), (∀ c ∈ l, 0 < c ∧ c < B) → (∀ c ∈ k, 0 < c ∧ c < B) → dig B l = dig B k → l = k := by
  intro l
  induction l with
  | nil =>
    intro k _ hk h
    cases k with
    | nil => rfl
    | cons c k =>
      have := hk c List.mem_cons_self
      simp only [dig] at h
      omega
  | cons c l ih =>
    intro k hl hk h
    have h1 := hl c List.mem_cons_self
    cases k with
    | nil =>
      simp only [dig] at h
      omega
    | cons d k =>
      have h2 := hk d List.mem_cons_self
      simp only [dig] at h
      have e1 : c = d := by
        have := congrArg (· % B) h
        simp only [Nat.add_mul_mod_self_left, Nat.mod_eq_of_lt h1.2, Nat.mod_eq_of_lt h2.2] at this
        exact this
      subst e1
      have e2 : B * dig B l = B * dig B k := by omega
      have e3 := Nat.eq_of_mul_eq_mul_left (by omega) e2
      rw [ih k (fun c hc => hl c (List.mem_cons_of_mem _ hc)) (fun c hc => hk c (List.mem_cons_of_mem _ hc)) e3]
theorem dig_lt {B : Nat} : ∀ (l : List Nat), (∀ c ∈ l, c < B) → dig B l < B ^ l.length := by
  intro l
  induction l with
  | nil => intro _; simp [dig]
  | cons c l ih =>
    intro h
    have h1 := h c List.mem_cons_self
    have h2 := ih (fun c hc => h c (List.mem_cons_of_mem _ hc))
    simp only [dig, List.length_cons, Nat.pow_succ]
    have h3 : B * (dig B l + 1) ≤ B * B ^ l.length := Nat.mul_le_mul_left B h2
    rw [Nat.mul_add, Nat.mul_one] at h3
    rw [Nat.mul_comm (B ^ l.length) B]
    omega
theorem dig_lt2 : ∀ (l : List Nat), (∀ c ∈ l, c < 128) → 2 * dig 256 l < 256 ^ l.length := by
  intro l
  induction l with
  | nil => intro _; simp [dig]
  | cons c l ih =>
    intro h
    have h1 := h c List.mem_cons_self
    have h2 := ih (fun c hc => h c (List.mem_cons_of_mem _ hc))
    simp only [dig, List.length_cons, Nat.pow_succ]
    omega
/-- a label that there can be -/
def VL (l : List Nat) : Prop := 1 ≤ l.length ∧ l.length ≤ 8 ∧ ∀ c ∈ l, 48 ≤ c ∧ c ≤ 122
def cL (l : List Nat) : Int64 := zJ (dig 256 l)
def mL (l : List Nat) : Int64 := zJ (dig 128 l.reverse)
theorem cL_lt {l : List Nat} (h : VL l) : dig 256 l < 9223372036854775808 := by
  have h1 := dig_lt2 l (fun c hc => by have := h.2.2 c hc; omega)
  have h2 : 256 ^ l.length ≤ 256 ^ 8 := Nat.pow_le_pow_right (by omega) h.2.1
  omega
theorem mL_lt {l : List Nat} (h : VL l) : dig 128 l.reverse < 72057594037927936 := by
  have h1 := dig_lt (B := 128) l.reverse (fun c hc => by have := h.2.2 c (List.mem_reverse.mp hc); omega)
  have h2 : 128 ^ l.reverse.length ≤ 128 ^ 8 := Nat.pow_le_pow_right (by omega) (by rw [List.length_reverse]; exact h.2.1)
  omega
theorem cL_inj {l k : List Nat} (h : VL l) (h' : VL k) : (cL l = cL k) = (l = k) := by
  unfold cL
  have h1 := cL_lt h
  have h2 := cL_lt h'
  rw [zJ_eq (by omega) (by omega) (by omega) (by omega)]
  apply propext
  constructor
  · intro e
    exact dig_inj (B := 256) l k (fun c hc => by have := h.2.2 c hc; omega) (fun c hc => by have := h'.2.2 c hc; omega) (by omega)
  · intro e; rw [e]
theorem mL_inj {l k : List Nat} (h : VL l) (h' : VL k) : (mL l = mL k) = (l = k) := by
  unfold mL
  have h1 := mL_lt h
  have h2 := mL_lt h'
  rw [zJ_eq (by omega) (by omega) (by omega) (by omega)]
  apply propext
  constructor
  · intro e
    have := dig_inj (B := 128) l.reverse k.reverse (fun c hc => by have := h.2.2 c (List.mem_reverse.mp hc); omega) (fun c hc => by have := h'.2.2 c (List.mem_reverse.mp hc); omega) (by omega)
    exact List.reverse_inj.mp this
  · intro e; rw [e]
