/-! reads of written worlds -/
theorem q_gI_sI (w : Wd) (f a : Nat) (v : Int32) (g b : Nat) : gI (sI w f a v) g b = if g = f ∧ b = a then v else gI w g b := rfl
theorem q_gJ_sI (w : Wd) (f a : Nat) (v : Int32) (g b : Nat) : gJ (sI w f a v) g b = gJ w g b := rfl
theorem q_gR_sI (w : Wd) (f a : Nat) (v : Int32) (g b : Nat) : gR (sI w f a v) g b = gR w g b := rfl
theorem q_aI_sI (w : Wd) (f a : Nat) (v : Int32) (b : Nat) : aI (sI w f a v) b = aI w b := rfl
theorem q_aJ_sI (w : Wd) (f a : Nat) (v : Int32) (b : Nat) : aJ (sI w f a v) b = aJ w b := rfl
theorem q_aR_sI (w : Wd) (f a : Nat) (v : Int32) (b : Nat) : aR (sI w f a v) b = aR w b := rfl
theorem q_aD_sI (w : Wd) (f a : Nat) (v : Int32) (b : Nat) : aD (sI w f a v) b = aD w b := rfl
theorem q_gI_sJ (w : Wd) (f a : Nat) (v : Int64) (g b : Nat) : gI (sJ w f a v) g b = gI w g b := rfl
theorem q_gJ_sJ (w : Wd) (f a : Nat) (v : Int64) (g b : Nat) : gJ (sJ w f a v) g b = if g = f ∧ b = a then v else gJ w g b := rfl
theorem q_gR_sJ (w : Wd) (f a : Nat) (v : Int64) (g b : Nat) : gR (sJ w f a v) g b = gR w g b := rfl
theorem q_aI_sJ (w : Wd) (f a : Nat) (v : Int64) (b : Nat) : aI (sJ w f a v) b = aI w b := rfl
theorem q_aJ_sJ (w : Wd) (f a : Nat) (v : Int64) (b : Nat) : aJ (sJ w f a v) b = aJ w b := rfl
theorem q_aR_sJ (w : Wd) (f a : Nat) (v : Int64) (b : Nat) : aR (sJ w f a v) b = aR w b := rfl
theorem q_aD_sJ (w : Wd) (f a : Nat) (v : Int64) (b : Nat) : aD (sJ w f a v) b = aD w b := rfl
theorem q_gI_sR (w : Wd) (f a : Nat) (v : Option Nat) (g b : Nat) : gI (sR w f a v) g b = gI w g b := rfl
theorem q_gJ_sR (w : Wd) (f a : Nat) (v : Option Nat) (g b : Nat) : gJ (sR w f a v) g b = gJ w g b := rfl
theorem q_gR_sR (w : Wd) (f a : Nat) (v : Option Nat) (g b : Nat) : gR (sR w f a v) g b = if g = f ∧ b = a then v else gR w g b := rfl
theorem q_aI_sR (w : Wd) (f a : Nat) (v : Option Nat) (b : Nat) : aI (sR w f a v) b = aI w b := rfl
theorem q_aJ_sR (w : Wd) (f a : Nat) (v : Option Nat) (b : Nat) : aJ (sR w f a v) b = aJ w b := rfl
theorem q_aR_sR (w : Wd) (f a : Nat) (v : Option Nat) (b : Nat) : aR (sR w f a v) b = aR w b := rfl
theorem q_aD_sR (w : Wd) (f a : Nat) (v : Option Nat) (b : Nat) : aD (sR w f a v) b = aD w b := rfl
theorem q_gI_sAI (w : Wd) (a : Nat) (v : Nat → Int32) (g b : Nat) : gI (sAI w a v) g b = gI w g b := rfl
theorem q_gJ_sAI (w : Wd) (a : Nat) (v : Nat → Int32) (g b : Nat) : gJ (sAI w a v) g b = gJ w g b := rfl
theorem q_gR_sAI (w : Wd) (a : Nat) (v : Nat → Int32) (g b : Nat) : gR (sAI w a v) g b = gR w g b := rfl
theorem q_aI_sAI (w : Wd) (a : Nat) (v : Nat → Int32) (b : Nat) : aI (sAI w a v) b = if b = a then v else aI w b := rfl
theorem q_aJ_sAI (w : Wd) (a : Nat) (v : Nat → Int32) (b : Nat) : aJ (sAI w a v) b = aJ w b := rfl
theorem q_aR_sAI (w : Wd) (a : Nat) (v : Nat → Int32) (b : Nat) : aR (sAI w a v) b = aR w b := rfl
theorem q_aD_sAI (w : Wd) (a : Nat) (v : Nat → Int32) (b : Nat) : aD (sAI w a v) b = aD w b := rfl
theorem q_gI_sAJ (w : Wd) (a : Nat) (v : Nat → Int64) (g b : Nat) : gI (sAJ w a v) g b = gI w g b := rfl
theorem q_gJ_sAJ (w : Wd) (a : Nat) (v : Nat → Int64) (g b : Nat) : gJ (sAJ w a v) g b = gJ w g b := rfl
theorem q_gR_sAJ (w : Wd) (a : Nat) (v : Nat → Int64) (g b : Nat) : gR (sAJ w a v) g b = gR w g b := rfl
theorem q_aI_sAJ (w : Wd) (a : Nat) (v : Nat → Int64) (b : Nat) : aI (sAJ w a v) b = aI w b := rfl
theorem q_aJ_sAJ (w : Wd) (a : Nat) (v : Nat → Int64) (b : Nat) : aJ (sAJ w a v) b = if b = a then v else aJ w b := rfl
theorem q_aR_sAJ (w : Wd) (a : Nat) (v : Nat → Int64) (b : Nat) : aR (sAJ w a v) b = aR w b := rfl
theorem q_aD_sAJ (w : Wd) (a : Nat) (v : Nat → Int64) (b : Nat) : aD (sAJ w a v) b = aD w b := rfl
theorem q_gI_sAR (w : Wd) (a : Nat) (v : Nat → Option Nat) (g b : Nat) : gI (sAR w a v) g b = gI w g b := rfl
theorem q_gJ_sAR (w : Wd) (a : Nat) (v : Nat → Option Nat) (g b : Nat) : gJ (sAR w a v) g b = gJ w g b := rfl
theorem q_gR_sAR (w : Wd) (a : Nat) (v : Nat → Option Nat) (g b : Nat) : gR (sAR w a v) g b = gR w g b := rfl
theorem q_aI_sAR (w : Wd) (a : Nat) (v : Nat → Option Nat) (b : Nat) : aI (sAR w a v) b = aI w b := rfl
theorem q_aJ_sAR (w : Wd) (a : Nat) (v : Nat → Option Nat) (b : Nat) : aJ (sAR w a v) b = aJ w b := rfl
theorem q_aR_sAR (w : Wd) (a : Nat) (v : Nat → Option Nat) (b : Nat) : aR (sAR w a v) b = if b = a then v else aR w b := rfl
theorem q_aD_sAR (w : Wd) (a : Nat) (v : Nat → Option Nat) (b : Nat) : aD (sAR w a v) b = aD w b := rfl
theorem q_gI_sAD (w : Wd) (a : Nat) (v : Nat → UInt64) (g b : Nat) : gI (sAD w a v) g b = gI w g b := rfl
theorem q_gJ_sAD (w : Wd) (a : Nat) (v : Nat → UInt64) (g b : Nat) : gJ (sAD w a v) g b = gJ w g b := rfl
theorem q_gR_sAD (w : Wd) (a : Nat) (v : Nat → UInt64) (g b : Nat) : gR (sAD w a v) g b = gR w g b := rfl
theorem q_aI_sAD (w : Wd) (a : Nat) (v : Nat → UInt64) (b : Nat) : aI (sAD w a v) b = aI w b := rfl
theorem q_aJ_sAD (w : Wd) (a : Nat) (v : Nat → UInt64) (b : Nat) : aJ (sAD w a v) b = aJ w b := rfl
theorem q_aR_sAD (w : Wd) (a : Nat) (v : Nat → UInt64) (b : Nat) : aR (sAD w a v) b = aR w b := rfl
theorem q_aD_sAD (w : Wd) (a : Nat) (v : Nat → UInt64) (b : Nat) : aD (sAD w a v) b = if b = a then v else aD w b := rfl
/-- nothing outside S is another -/
def Kp (S : Nat → Prop) (w w' : Wd) : Prop := ∀ a, ¬ S a → slice w' a = slice w a
theorem Kp.refl {S : Nat → Prop} (w : Wd) : Kp S w w := fun _ _ => rfl
theorem Kp.trans {S : Nat → Prop} {u v w : Wd} (h : Kp S u v) (k : Kp S v w) : Kp S u w := fun a ha => (k a ha).trans (h a ha)
theorem Kp.mono {S T : Nat → Prop} {u v : Wd} (h : Kp S u v) (hs : ∀ a, S a → T a) : Kp T u v := fun a ha => h a (fun c => ha (hs a c))
theorem Kp.gI {S : Nat → Prop} {w w' : Wd} (h : Kp S w w') {a : Nat} (ha : ¬ S a) (f : Nat) : gI w' f a = gI w f a := congrFun (congrArg (fun s : Sl => s.1) (h a ha)) f
theorem Kp.gJ {S : Nat → Prop} {w w' : Wd} (h : Kp S w w') {a : Nat} (ha : ¬ S a) (f : Nat) : gJ w' f a = gJ w f a := congrFun (congrArg (fun s : Sl => s.2.1) (h a ha)) f
theorem Kp.gR {S : Nat → Prop} {w w' : Wd} (h : Kp S w w') {a : Nat} (ha : ¬ S a) (f : Nat) : gR w' f a = gR w f a := congrFun (congrArg (fun s : Sl => s.2.2.1) (h a ha)) f
theorem Kp.aI {S : Nat → Prop} {w w' : Wd} (h : Kp S w w') {a : Nat} (ha : ¬ S a) : aI w' a = aI w a := congrArg (fun s : Sl => s.2.2.2.1) (h a ha)
theorem Kp.aJ {S : Nat → Prop} {w w' : Wd} (h : Kp S w w') {a : Nat} (ha : ¬ S a) : aJ w' a = aJ w a := congrArg (fun s : Sl => s.2.2.2.2.1) (h a ha)
theorem Kp.aR {S : Nat → Prop} {w w' : Wd} (h : Kp S w w') {a : Nat} (ha : ¬ S a) : aR w' a = aR w a := congrArg (fun s : Sl => s.2.2.2.2.2.1) (h a ha)
theorem Kp.aD {S : Nat → Prop} {w w' : Wd} (h : Kp S w w') {a : Nat} (ha : ¬ S a) : aD w' a = aD w a := congrArg (fun s : Sl => s.2.2.2.2.2.2) (h a ha)
theorem kp_sI {S : Nat → Prop} (w : Wd) {f a : Nat} (v : Int32) (h : S a) : Kp S w (sI w f a v) := fun b hb => slice_sI w v (fun e => hb (e ▸ h))
theorem kp_sJ {S : Nat → Prop} (w : Wd) {f a : Nat} (v : Int64) (h : S a) : Kp S w (sJ w f a v) := fun b hb => slice_sJ w v (fun e => hb (e ▸ h))
theorem kp_sR {S : Nat → Prop} (w : Wd) {f a : Nat} (v : Option Nat) (h : S a) : Kp S w (sR w f a v) := fun b hb => slice_sR w v (fun e => hb (e ▸ h))
theorem kp_sAI {S : Nat → Prop} (w : Wd) {a : Nat} (v : Nat → Int32) (h : S a) : Kp S w (sAI w a v) := fun b hb => slice_sAI w v (fun e => hb (e ▸ h))
theorem kp_sAJ {S : Nat → Prop} (w : Wd) {a : Nat} (v : Nat → Int64) (h : S a) : Kp S w (sAJ w a v) := fun b hb => slice_sAJ w v (fun e => hb (e ▸ h))
theorem kp_sAR {S : Nat → Prop} (w : Wd) {a : Nat} (v : Nat → Option Nat) (h : S a) : Kp S w (sAR w a v) := fun b hb => slice_sAR w v (fun e => hb (e ▸ h))
theorem kp_sAD {S : Nat → Prop} (w : Wd) {a : Nat} (v : Nat → UInt64) (h : S a) : Kp S w (sAD w a v) := fun b hb => slice_sAD w v (fun e => hb (e ▸ h))
/-- the cells from a on, n of them -/
def Rg (a n : Nat) : Nat → Prop := fun x => a ≤ x ∧ x < a + n
section EVH
variable {β : Type} {F : Fr} {w : Wd} {P : β → Prop}
theorem rdR_is {f a k q : Nat} (h : gR w f a = some q) (o : okF F q k) : rdR F w f a k = some q := by
  unfold rdR
  rw [h]
  exact if_pos o
theorem ev_rdR {f a k q : Nat} {kf : Nat → Option β} (h : gR w f a = some q) (o : okF F q k) (n : Ev (kf q) P) : Ev ((rdR F w f a k).bind kf) P := ev_eq (rdR_is h o) n
theorem ck_is {α : Type} {a : Nat} {i : Int} {x : α} (h0 : 0 ≤ i) (h1 : i < F.2.1 a) (h2 : i < 2147483648) : ck F a (zI i) x = some x := by
  unfold ck
  rw [if_neg]
  rw [zI_nat h0 h2, show (0 : Int32) = zI 0 from rfl, zI_lt (by omega) (by omega) (by omega) (by omega)]
  omega
theorem ldI_is {a : Nat} {i : Int} (h0 : 0 ≤ i) (h1 : i < F.2.1 a) (h2 : i < 2147483648) : ldI F w a (zI i) = some (aI w a i.toNat) := by
  unfold ldI
  rw [ck_is h0 h1 h2, zI_nat h0 h2]
theorem ldJ_is {a : Nat} {i : Int} (h0 : 0 ≤ i) (h1 : i < F.2.1 a) (h2 : i < 2147483648) : ldJ F w a (zI i) = some (aJ w a i.toNat) := by
  unfold ldJ
  rw [ck_is h0 h1 h2, zI_nat h0 h2]
theorem ldD_is {a : Nat} {i : Int} (h0 : 0 ≤ i) (h1 : i < F.2.1 a) (h2 : i < 2147483648) : ldD F w a (zI i) = some (aD w a i.toNat) := by
  unfold ldD
  rw [ck_is h0 h1 h2, zI_nat h0 h2]
theorem ldR_is {a k q : Nat} {i : Int} (h0 : 0 ≤ i) (h1 : i < F.2.1 a) (h2 : i < 2147483648) (hq : aR w a i.toNat = some q) (o : okF F q k) : ldR F w a (zI i) k = some (some q) := by
  unfold ldR
  rw [ck_is h0 h1 h2, zI_nat h0 h2, hq]
  exact if_pos o
theorem stI_is {a : Nat} {i : Int} {v : Int32} (h0 : 0 ≤ i) (h1 : i < F.2.1 a) (h2 : i < 2147483648) : stI F w a (zI i) v = some (sAI w a (upd (aI w a) i.toNat v)) := by
  unfold stI
  rw [ck_is h0 h1 h2, zI_nat h0 h2]
theorem stJ_is {a : Nat} {i : Int} {v : Int64} (h0 : 0 ≤ i) (h1 : i < F.2.1 a) (h2 : i < 2147483648) : stJ F w a (zI i) v = some (sAJ w a (vp_updL (aJ w a) i.toNat v)) := by
  unfold stJ
  rw [ck_is h0 h1 h2, zI_nat h0 h2]
theorem stD_is {a : Nat} {i : Int} {v : UInt64} (h0 : 0 ≤ i) (h1 : i < F.2.1 a) (h2 : i < 2147483648) : stD F w a (zI i) v = some (sAD w a (vf_upd (aD w a) i.toNat v)) := by
  unfold stD
  rw [ck_is h0 h1 h2, zI_nat h0 h2]
theorem stR_is {a v : Nat} {i : Int} (h0 : 0 ≤ i) (h1 : i < F.2.1 a) (h2 : i < 2147483648) : stR F w a (zI i) v = some (sAR w a (va_up (aR w a) i.toNat (some v))) := by
  unfold stR
  rw [ck_is h0 h1 h2, zI_nat h0 h2]
theorem ckF_is {a k : Nat} (o : okF F a k) : ckF F a k = some a := if_pos o
theorem ckZ0 : ckZ 0 = some 0 := by decide
theorem ckZ1 : ckZ 1 = some 1 := by decide
end EVH
theorem upd_is (g : Nat → Int32) (i : Nat) (v : Int32) (j : Nat) : upd g i v j = if j = i then v else g j := by
  unfold upd; split <;> simp_all
theorem updL_is (g : Nat → Int64) (i : Nat) (v : Int64) (j : Nat) : vp_updL g i v j = if j = i then v else g j := by
  unfold vp_updL; split <;> simp_all
theorem zI_succ (i : Nat) : zI (i : Int) + 1 = zI ((i + 1 : Nat) : Int) := zI_add i 1
theorem zI_pred (i : Nat) : zI ((i + 1 : Nat) : Int) + (-1) = zI (i : Int) := by
  rw [show (-1 : Int32) = zI (-1) from rfl, zI_add]
  congr 1
  omega
/-- the first of the k numbers from i on that is p, or -1 -/
def fnd (p : Nat → Bool) : Nat → Nat → Int
  | 0, _ => -1
  | k + 1, i => if p i then i else fnd p k (i + 1)
def sumN (g : Nat → Int) : Nat → Int
  | 0 => 0
  | n + 1 => sumN g n + g n
theorem fnd_congr {p q : Nat → Bool} : ∀ (k i : Nat), (∀ j, i ≤ j → j < i + k → p j = q j) → fnd p k i = fnd q k i := by
  intro k
  induction k with
  | zero => intro i _; rfl
  | succ k ih =>
    intro i h
    unfold fnd
    rw [h i (by omega) (by omega), ih (i + 1) (fun j h1 h2 => h j (by omega) (by omega))]
theorem fnd_neg {p : Nat → Bool} : ∀ (k i : Nat), (∀ j, i ≤ j → j < i + k → p j = false) → fnd p k i = -1 := by
  intro k
  induction k with
  | zero => intro i _; rfl
  | succ k ih =>
    intro i h
    unfold fnd
    rw [h i (by omega) (by omega), ih (i + 1) (fun j h1 h2 => h j (by omega) (by omega))]
    rfl
theorem fnd_cases (p : Nat → Bool) : ∀ (k i : Nat), (fnd p k i = -1 ∧ ∀ j, i ≤ j → j < i + k → p j = false) ∨ ∃ j : Nat, fnd p k i = j ∧ i ≤ j ∧ j < i + k ∧ p j = true ∧ ∀ q, i ≤ q → q < j → p q = false := by
  intro k
  induction k with
  | zero => intro i; exact Or.inl ⟨rfl, fun j h1 h2 => by omega⟩
  | succ k ih =>
    intro i
    unfold fnd
    by_cases c : p i = true
    · exact Or.inr ⟨i, by rw [if_pos c], by omega, by omega, c, fun q h1 h2 => by omega⟩
    · rw [if_neg c]
      rcases ih (i + 1) with ⟨h1, h2⟩ | ⟨j, h1, h2, h3, h4, h5⟩
      · refine Or.inl ⟨h1, fun j h3 h4 => ?_⟩
        by_cases e : j = i
        · subst e; exact Bool.eq_false_iff.mpr c
        · exact h2 j (by omega) (by omega)
      · refine Or.inr ⟨j, h1, by omega, by omega, h4, fun q h6 h7 => ?_⟩
        by_cases e : q = i
        · subst e; exact Bool.eq_false_iff.mpr c
        · exact h5 q (by omega) h7
theorem sumN_congr {g h : Nat → Int} : ∀ n, (∀ j, j < n → g j = h j) → sumN g n = sumN h n := by
  intro n
  induction n with
  | zero => intro _; rfl
  | succ n ih =>
    intro hh
    unfold sumN
    rw [ih (fun j hj => hh j (by omega)), hh n (by omega)]
