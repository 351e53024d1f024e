/-! what changes keep: books in order, all spans with their hosts -/
def Hst (k : Bk) (x t : Nat) (f e : Int) : Prop := brl k t = 0 ∨ ∃ j, j < rn (brw k x (bpr k t).toNat) ∧ hstP (brl k t) (brw k x (bpr k t).toNat) f e j = true
theorem fnd_iff {p : Nat → Bool} {n : Nat} : fnd p n 0 = -1 ↔ ∀ j, j < n → p j = false := by
  constructor
  · intro h j hj
    rcases fnd_cases p n 0 with ⟨-, h2⟩ | ⟨i, h1, -⟩
    · exact h2 j (by omega) (by omega)
    · omega
  · intro h
    exact fnd_neg n 0 fun j _ hj => h j (by omega)
theorem lack_iff {k : Bk} {x t : Nat} {f e : Int} : lack k x t f e = false ↔ Hst k x t f e := by
  unfold lack Hst hostB
  rw [decide_eq_false_iff_not]
  by_cases c : brl k t = 0
  · exact ⟨fun _ => Or.inl c, fun _ h => h.1 c⟩
  · rw [if_neg c]
    unfold hst
    rw [fnd_iff]
    constructor
    · intro h
      refine Or.inr ?_
      by_cases d : ∃ j, j < rn (brw k x (bpr k t).toNat) ∧ hstP (brl k t) (brw k x (bpr k t).toNat) f e j = true
      · exact d
      · exact absurd ⟨c, fun j hj => by
          cases hb : hstP (brl k t) (brw k x (bpr k t).toNat) f e j
          · rfl
          · exact absurd ⟨j, hj, hb⟩ d⟩ h
    · rintro (h | ⟨j, hj, hb⟩) ⟨_, h2⟩
      · exact c h
      · rw [h2 j hj] at hb; exact absurd hb (by decide)
theorem orp_iff {k : Bk} {x t : Nat} : orp k x t = false ↔ ∀ i, i < rn (brw k x t) → Hst k x t (rf (brw k x t) i) (re (brw k x t) i) := by
  unfold orp
  rw [decide_eq_false_iff_not, Classical.not_not, fnd_iff]
  exact ⟨fun h i hi => lack_iff.mp (h i hi), fun h i hi => lack_iff.mpr (h i hi)⟩
theorem SRow.mono {r : Rw} (h : SRow r) {i j : Nat} (hi : i < j) (hj : j < rn r) : rf r i < rf r j := by
  have := h.lt hi hj
  have := h.1 i (by omega)
  omega
theorem fnd_skip {p : Nat → Bool} (n : Nat) : ∀ m i, (∀ j, i ≤ j → j < i + m → p j = false) → fnd p (m + n) i = fnd p n (i + m) := by
  intro m
  induction m with
  | zero => intro i _; rw [Nat.zero_add, Nat.add_zero]
  | succ m ih =>
    intro i h
    rw [show m + 1 + n = (m + n) + 1 from by omega, fnd_succ, h i (by omega) (by omega), if_neg (by decide), ih (i + 1) (fun j h1 h2 => h j (by omega) (by omega)), show i + 1 + m = i + (m + 1) from by omega]
def insP (r : Rw) (f : Int) : Nat := if fnd (fun j => decide (f < rf r j)) (rn r) 0 = -1 then rn r else (fnd (fun j => decide (f < rf r j)) (rn r) 0).toNat
theorem insP_is {r : Rw} (h : SRow r) (f : Int) : InsAt r (insP r f) f := by
  unfold insP
  rcases fnd_cases (fun j => decide (f < rf r j)) (rn r) 0 with ⟨h1, h2⟩ | ⟨j, h1, h2, h3, h4, h5⟩
  · rw [if_pos h1]
    refine ⟨Nat.le_refl _, fun hp => ?_, fun j j1 j2 => by omega⟩
    have := h2 (rn r - 1) (by omega) (by omega)
    have := of_decide_eq_false this
    omega
  · rw [h1, if_neg (by omega), Int.toNat_natCast]
    have h4 := of_decide_eq_true h4
    refine ⟨by omega, fun hp => ?_, fun i i1 i2 => ?_⟩
    · have := of_decide_eq_false (h5 (j - 1) (by omega) (by omega))
      omega
    · by_cases c : i = j
      · rw [c]; exact h4
      · have := h.mono (show j < i by omega) i2
        omega
theorem SRow.of {r : Rw} (h : ∀ i, i < rn r → (rs r i).1 < (rs r i).2.1) (k : ∀ i, i + 1 < rn r → (rs r i).2.1 ≤ (rs r (i + 1)).1) : SRow r := ⟨h, k⟩
theorem SRow.ins {r : Rw} (h : SRow r) {p : Nat} {f e : Int} (hp : InsAt r p f) (hfe : f < e) (hm : ∀ j, j < rn r → ¬ (rf r j < e ∧ f < re r j)) (l : List Nat) : SRow (insR r p (f, e, l)) := by
  have hp1 := hp.1
  have e0 : rn (insR r p (f, e, l)) = rn r + 1 := rfl
  refine SRow.of (fun i hi => ?_) fun i hi => ?_
  · rw [e0] at hi
    rw [rs_ins]
    by_cases c : i < p
    · rw [if_pos c]; exact h.1 i (by omega)
    · rw [if_neg c]
      by_cases d : i = p
      · rw [if_pos d]; exact hfe
      · rw [if_neg d]; exact h.1 (i - 1) (by omega)
  · rw [e0] at hi
    rw [rs_ins, rs_ins]
    by_cases c : i + 1 < p
    · rw [if_pos (by omega), if_pos c]; exact h.2 i (by omega)
    · by_cases c1 : i + 1 = p
      · rw [if_pos (by omega), if_neg c, if_pos c1]
        have h1 := hp.2.1 (by omega)
        rw [show p - 1 = i from by omega] at h1
        have h2 := hm i (by omega)
        show re r i ≤ f
        omega
      · by_cases c2 : i = p
        · rw [if_neg (by omega), if_pos c2, if_neg (by omega), if_neg (by omega)]
          have h1 := hp.2.2 i (by omega) (by omega)
          have h2 := hm i (by omega)
          have h3 := h.1 i (by omega)
          rw [Nat.add_sub_cancel]
          show e ≤ rf r i
          omega
        · rw [if_neg (by omega), if_neg c2, if_neg (by omega), if_neg (by omega)]
          have := h.2 (i - 1) (by omega)
          rw [show i - 1 + 1 = i from by omega] at this
          rw [Nat.add_sub_cancel]
          exact this
theorem SRow.del {r : Rw} (h : SRow r) {p : Nat} (hp : p < rn r) : SRow (delR r p) := by
  have e0 : rn (delR r p) = rn r - 1 := rfl
  refine SRow.of (fun i hi => ?_) fun i hi => ?_
  · rw [e0] at hi
    rw [rs_del]
    split
    · exact h.1 i (by omega)
    · exact h.1 (i + 1) (by omega)
  · rw [e0] at hi
    rw [rs_del, rs_del]
    by_cases c : i + 1 < p
    · rw [if_pos (by omega), if_pos c]; exact h.2 i (by omega)
    · rw [if_neg c]
      by_cases c1 : i < p
      · rw [if_pos c1]
        have h1 := h.2 i (by omega)
        have h2 := h.1 (i + 1) (by omega)
        have h3 := h.2 (i + 1) (by omega)
        show re r i ≤ rf r (i + 1 + 1)
        omega
      · rw [if_neg c1]; exact h.2 (i + 1) (by omega)
theorem SRow.sR {r : Rw} (h : SRow r) {s : Nat} {f e : Int} (hs : s < rn r) (hfe : f < e) (h1 : 0 < s → re r (s - 1) ≤ f) (h2 : s + 1 < rn r → e ≤ rf r (s + 1)) : SRow (setR r s f e) := by
  have e0 : rn (setR r s f e) = rn r := rfl
  refine SRow.of (fun i hi => ?_) fun i hi => ?_
  · rw [e0] at hi
    rw [rs_setR]
    split
    · exact hfe
    · exact h.1 i hi
  · rw [e0] at hi
    rw [rs_setR, rs_setR]
    by_cases c : i = s
    · rw [if_pos c, if_neg (by omega), c]
      exact h2 (by omega)
    · rw [if_neg c]
      by_cases c1 : i + 1 = s
      · rw [if_pos c1]
        have := h1 (by omega)
        rw [show s - 1 = i from by omega] at this
        exact this
      · rw [if_neg c1]; exact h.2 i hi
theorem GRow.ins {r : Rw} (h : GRow r) (hn : rn r ≤ 30) {p : Nat} (hp : p ≤ rn r) {f e : Int} {l : List Nat} (hf : 0 ≤ f ∧ f ≤ 1000) (he : 0 ≤ e ∧ e ≤ 1000) (hl : VL l) : GRow (insR r p (f, e, l)) := by
  refine GRow.of (by show rn r + 1 ≤ 31; omega) fun i hi => ?_
  have hi : i < rn r + 1 := hi
  rw [rs_ins]
  by_cases c : i < p
  · rw [if_pos c]; exact h.rs (by omega)
  · rw [if_neg c]
    by_cases d : i = p
    · rw [if_pos d]; exact ⟨hf.1, hf.2, he.1, he.2, hl⟩
    · rw [if_neg d]; exact h.rs (by omega)
theorem GRow.del {r : Rw} (h : GRow r) {p : Nat} : GRow (delR r p) := by
  refine GRow.of (by show rn r - 1 ≤ 31; have := h.1; omega) fun i hi => ?_
  have hi : i < rn r - 1 := hi
  rw [rs_del]
  split
  · exact h.rs (by omega)
  · exact h.rs (by omega)
theorem GRow.sR {r : Rw} (h : GRow r) {s : Nat} {f e : Int} (hf : 0 ≤ f ∧ f ≤ 1000) (he : 0 ≤ e ∧ e ≤ 1000) : GRow (setR r s f e) := by
  refine GRow.of h.1 fun i hi => ?_
  rw [rs_setR]
  split
  · exact ⟨hf.1, hf.2, he.1, he.2, (h.rs hi).2.2.2.2⟩
  · exact h.rs hi
theorem GRow.sL {r : Rw} (h : GRow r) {s : Nat} {l : List Nat} (hl : VL l) : GRow (setL r s l) := by
  refine GRow.of h.1 fun i hi => ?_
  rw [rs_setL]
  split
  · have := h.rs hi
    exact ⟨this.1, this.2.1, this.2.2.1, this.2.2.2.1, hl⟩
  · exact h.rs hi
/-- a span that was there is there -/
theorem ins_old {r : Rw} {p : Nat} (s : Int × Int × List Nat) {j : Nat} (hj : j < rn r) : ∃ i, i < rn (insR r p s) ∧ rs (insR r p s) i = rs r j := by
  by_cases c : j < p
  · exact ⟨j, by show j < rn r + 1; omega, by rw [rs_ins, if_pos c]⟩
  · exact ⟨j + 1, by show j + 1 < rn r + 1; omega, by rw [rs_ins, if_neg (by omega), if_neg (by omega), Nat.add_sub_cancel]⟩
theorem hstP_rs {u f e : Int} {r q : Rw} {i j : Nat} (h : rs r i = rs q j) : hstP u r f e i = hstP u q f e j := by
  have h1 : rf r i = rf q j := congrArg (fun s : Int × Int × List Nat => s.1) h
  have h2 : re r i = re q j := congrArg (fun s : Int × Int × List Nat => s.2.1) h
  unfold hstP
  rw [h1, h2]
theorem Hst.of_bset {k : Bk} (h : GBook k) {x t : Nat} {r : Rw} {x' c : Nat} (hc : c < bn k) (hn : ¬ (x' = x ∧ bpr k c = t)) (f e : Int) : Hst (bset k x t r) x' c f e ↔ Hst k x' c f e := by
  have g := h.2.2.2.2 c hc
  show (brl k c = 0 ∨ ∃ j, j < rn (if x' = x ∧ (bpr k c).toNat = t then r else brw k x' (bpr k c).toNat) ∧ hstP (brl k c) (if x' = x ∧ (bpr k c).toNat = t then r else brw k x' (bpr k c).toNat) f e j = true) ↔ _
  by_cases c0 : brl k c = 0
  · exact ⟨fun _ => Or.inl c0, fun _ => Or.inl c0⟩
  · have g1 := g.2.2.2.2.1 c0
    rw [if_neg (fun a => hn ⟨a.1, by omega⟩)]
    exact Iff.rfl
theorem par_lt {k : Bk} (h : GBook k) {c : Nat} (hc : c < bn k) : bpr k c < c := (h.2.2.2.2 c hc).2.2.1.2
/-- the orphans that a changed row can make are its tier's own and those of the tiers that depend on it -/
theorem orp_else {k : Bk} (h : GBook k) {x t : Nat} {r : Rw} {x' c : Nat} (hc : c < bn k) (hn : ¬ (x' = x ∧ bpr k c = t)) (hn2 : ¬ (x' = x ∧ c = t)) : orp (bset k x t r) x' c = orp k x' c := by
  have key : orp (bset k x t r) x' c = false ↔ orp k x' c = false := by
    rw [orp_iff, orp_iff]
    have e : brw (bset k x t r) x' c = brw k x' c := by rw [brw_bset, if_neg hn2]
    rw [e]
    constructor
    · intro a i hi; exact (Hst.of_bset h hc hn _ _).mp (a i hi)
    · intro a i hi; exact (Hst.of_bset h hc hn _ _).mpr (a i hi)
  cases h1 : orp (bset k x t r) x' c <;> cases h2 : orp k x' c
  · rfl
  · rw [key.mp h1] at h2; exact h2
  · rw [key.mpr h2] at h1; exact h1.symm
  · rfl
theorem orp_own {k : Bk} (h : GBook k) {x t : Nat} (ht : t < bn k) {r : Rw} (hr : ∀ i, i < rn r → Hst k x t (rf r i) (re r i)) : orp (bset k x t r) x t = false := by
  rw [orp_iff]
  have e : brw (bset k x t r) x t = r := by rw [brw_bset, if_pos ⟨rfl, rfl⟩]
  rw [e]
  have := par_lt h ht
  intro i hi
  exact (Hst.of_bset h ht (fun a => by omega) _ _).mpr (hr i hi)
theorem ber_orp {k : Bk} (h : OKB k) {t : Nat} (ht : t < bn k) {r : Rw} (hr : ∀ i, i < rn r → Hst k (ban k) t (rf r i) (re r i)) (c : Nat) (hc : c < bn k) : orp (bset k (ban k) t r) (ban k) c = berP (bset k (ban k) t r) t c := by
  have e : berP (bset k (ban k) t r) t c = (decide (bpr k c = (t : Int)) && orp (bset k (ban k) t r) (ban k) c) := rfl
  rw [e]
  by_cases d : bpr k c = (t : Int)
  · rw [decide_eq_true d, Bool.true_and]
  · rw [decide_eq_false d, Bool.false_and]
    by_cases d2 : c = t
    · rw [d2]; exact orp_own h.1 ht hr
    · rw [orp_else h.1 hc (fun a => d a.2) (fun a => d2 a.2)]
      exact h.2.2.2 _ _ h.1.2.1 hc
theorem hostless_ber {k : Bk} (h : OKB k) {t : Nat} (ht : t < bn k) {r : Rw} (hr : ∀ i, i < rn r → Hst k (ban k) t (rf r i) (re r i)) : fnd (orp (bset k (ban k) t r) (ban k)) (bn k) 0 = ber (bset k (ban k) t r) t := by
  have e1 : fnd (orp (bset k (ban k) t r) (ban k)) (bn k) 0 = fnd (berP (bset k (ban k) t r) t) (bn k) 0 := fnd_congr _ _ fun j _ hj => ber_orp h ht hr j (by omega)
  rw [e1]
  have e2 := fnd_skip (p := berP (bset k (ban k) t r) t) (bn k - (t + 1)) (t + 1) 0 (fun j _ hj => by
    have := par_lt h.1 (show j < bn k by omega)
    have e : berP (bset k (ban k) t r) t j = (decide (bpr k j = (t : Int)) && orp (bset k (ban k) t r) (ban k) j) := rfl
    rw [e, decide_eq_false (by omega), Bool.false_and])
  rw [show t + 1 + (bn k - (t + 1)) = bn k from by omega, Nat.zero_add] at e2
  exact e2
theorem OKB.set {k : Bk} (h : OKB k) {t : Nat} (ht : t < bn k) {r : Rw} (hg : GRow r) (h30 : rn r ≤ 30) (hs : SRow r) (hr : ∀ i, i < rn r → Hst k (ban k) t (rf r i) (re r i)) (hb : ber (bset k (ban k) t r) t = -1) : OKB (bset k (ban k) t r) := by
  refine ⟨h.1.set hg, h.2.1.set h30, fun x' t' hx' ht' => ?_, fun x' c hx' hc => ?_⟩
  · rw [brw_bset]
    split
    · exact hs
    · exact h.2.2.1 x' t' hx' ht'
  · have hc : c < bn k := hc
    by_cases d : x' = ban k
    · rw [d]
      rw [← hostless_ber h ht hr, fnd_iff] at hb
      exact hb c hc
    · rw [orp_else h.1 hc (fun a => d a.1) (fun a => d a.1)]
      exact h.2.2.2 x' c hx' hc
/-- where the row's spans are all still there, no one loses a host -/
theorem ber_more {k : Bk} (h : OKB k) {t : Nat} {r : Rw} (ho : ∀ j, j < rn (brw k (ban k) t) → ∃ i, i < rn r ∧ rf r i = rf (brw k (ban k) t) j ∧ re r i = re (brw k (ban k) t) j) : ber (bset k (ban k) t r) t = -1 := by
  unfold ber
  refine fnd_neg _ _ fun c h1 h2 => ?_
  have hc : c < bn k := by
    have e : bn (bset k (ban k) t r) = bn k := rfl
    rw [e] at h2
    omega
  have e : berP (bset k (ban k) t r) t c = (decide (bpr k c = (t : Int)) && orp (bset k (ban k) t r) (ban k) c) := rfl
  rw [e]
  by_cases d : bpr k c = (t : Int)
  · have ho2 : orp (bset k (ban k) t r) (ban k) c = false := by
      rw [orp_iff]
      have hp := par_lt h.1 hc
      have er : brw (bset k (ban k) t r) (ban k) c = brw k (ban k) c := by rw [brw_bset, if_neg (by omega)]
      rw [er]
      intro i hi
      rcases orp_iff.mp (h.2.2.2 _ _ h.1.2.1 hc) i hi with h0 | ⟨j, hj, hh⟩
      · exact Or.inl h0
      · have et : (bpr k c).toNat = t := by omega
        rw [et] at hj hh
        obtain ⟨i', hi', e1, e2⟩ := ho j hj
        refine Or.inr ⟨i', ?_, ?_⟩
        · show i' < rn (if ban k = ban k ∧ (bpr k c).toNat = t then r else brw k (ban k) (bpr k c).toNat)
          rw [if_pos ⟨rfl, et⟩]; exact hi'
        · show hstP (brl k c) (if ban k = ban k ∧ (bpr k c).toNat = t then r else brw k (ban k) (bpr k c).toNat) _ _ i' = true
          rw [if_pos ⟨rfl, et⟩]
          rw [hstP_iff] at hh ⊢
          rw [e1, e2]
          exact hh
    rw [ho2, Bool.and_false]
  · rw [decide_eq_false d, Bool.false_and]
theorem tryR_ok {k : Bk} {t : Nat} {s f e : Int} (h : (tryR k t s f e).1 = 0) : (0 ≤ f ∧ e ≤ 1000 ∧ f < e) ∧ (∀ j, j < rn (brw k (ban k) t) → metP (brw k (ban k) t) f e s j = false) ∧ Hst k (ban k) t f e := by
  unfold tryR at h
  by_cases c : f < 0 ∨ 1000 < e ∨ e ≤ f
  · rw [if_pos c] at h; exact absurd h (by decide)
  · rw [if_neg c] at h
    by_cases c2 : fnd (metP (brw k (ban k) t) f e s) (rn (brw k (ban k) t)) 0 < 0
    · rw [if_pos c2] at h
      have hl := fnd_lim (metP (brw k (ban k) t) f e s) (rn (brw k (ban k) t)) 0
      have e1 : fnd (metP (brw k (ban k) t) f e s) (rn (brw k (ban k) t)) 0 = -1 := by omega
      by_cases c3 : lack k (ban k) t f e = true
      · rw [if_pos c3] at h; exact absurd h (by decide)
      · refine ⟨by omega, fnd_iff.mp e1, lack_iff.mp (by simpa using c3)⟩
    · rw [if_neg c2] at h; exact absurd h (show ¬ (2 : Int) = 0 by decide)
theorem met_iff {r : Rw} {f e x : Int} {j : Nat} : metP r f e x j = false ↔ ¬ (¬ (j : Int) = x ∧ rf r j < e ∧ f < re r j) := by unfold metP; rw [decide_eq_false_iff_not]
def rsn (k : Bk) (t : Nat) (f e : Int) : Int × Int := if (tryR k t (-1) f e).1 = 0 then (if rn (brw k (ban k) t) = 30 then (5, 0) else (0, 0)) else tryR k t (-1) f e
def insK (k : Bk) (t : Nat) (f e : Int) (l : List Nat) : Bk := bset k (ban k) t (insR (brw k (ban k) t) (insP (brw k (ban k) t) f) (f, e, l))
theorem rsn_ok {k : Bk} {t : Nat} {f e : Int} (h : (rsn k t f e).1 = 0) : (tryR k t (-1) f e).1 = 0 ∧ ¬ rn (brw k (ban k) t) = 30 := by
  unfold rsn at h
  by_cases c : (tryR k t (-1) f e).1 = 0
  · rw [if_pos c] at h
    refine ⟨c, fun d => ?_⟩
    rw [if_pos d] at h; exact absurd h (by decide)
  · rw [if_neg c] at h; exact absurd h c
theorem OKB.ins {k : Bk} (h : OKB k) {t : Nat} (ht : t < bn k) {f e : Int} {l : List Nat} (hl : VL l) (ho : (rsn k t f e).1 = 0) : OKB (insK k t f e l) := by
  obtain ⟨h1, h2⟩ := rsn_ok ho
  obtain ⟨h3, h4, h5⟩ := tryR_ok h1
  have hx := h.1.2.1
  have hr := (h.1.2.2.2.2 t ht).2.2.2.2.2 _ hx
  have h30 := h.2.1 _ _ hx ht
  have hs := h.2.2.1 _ _ hx ht
  have hp := insP_is hs f
  refine h.set ht (hr.ins h30 hp.1 (by omega) (by omega) hl) (by show rn (brw k (ban k) t) + 1 ≤ 30; omega) (hs.ins hp h3.2.2 (fun j hj => ?_) l) (fun i hi => ?_) (ber_more h fun j hj => ?_)
  · have := met_iff.mp (h4 j hj)
    exact fun a => this ⟨by omega, a⟩
  · have hi : i < rn (brw k (ban k) t) + 1 := hi
    have er := rs_ins (brw k (ban k) t) (insP (brw k (ban k) t) f) (f, e, l) i
    have q := orp_iff.mp (h.2.2.2 _ _ hx ht)
    show Hst k (ban k) t (rs (insR (brw k (ban k) t) (insP (brw k (ban k) t) f) (f, e, l)) i).1 (rs (insR (brw k (ban k) t) (insP (brw k (ban k) t) f) (f, e, l)) i).2.1
    rw [er]
    by_cases c : i < insP (brw k (ban k) t) f
    · rw [if_pos c]; exact q i (by have := hp.1; omega)
    · rw [if_neg c]
      by_cases d : i = insP (brw k (ban k) t) f
      · rw [if_pos d]; exact h5
      · rw [if_neg d]; exact q (i - 1) (by omega)
  · obtain ⟨i, hi, he⟩ := ins_old (p := insP (brw k (ban k) t) f) (f, e, l) hj
    exact ⟨i, hi, congrArg (fun s : Int × Int × List Nat => s.1) he, congrArg (fun s : Int × Int × List Nat => s.2.1) he⟩
theorem tryR_lim {k : Bk} (h : OKB k) {t : Nat} (ht : t < bn k) (s f e : Int) : (0 ≤ (tryR k t s f e).1 ∧ (tryR k t s f e).1 ≤ 5) ∧ (0 ≤ (tryR k t s f e).2 ∧ (tryR k t s f e).2 ≤ 100) := by
  have h30 := h.2.1 _ _ h.1.2.1 ht
  have hl := fnd_lim (metP (brw k (ban k) t) f e s) (rn (brw k (ban k) t)) 0
  unfold tryR
  by_cases c : f < 0 ∨ 1000 < e ∨ e ≤ f
  · rw [if_pos c]; omega
  · rw [if_neg c]
    by_cases c2 : fnd (metP (brw k (ban k) t) f e s) (rn (brw k (ban k) t)) 0 < 0
    · rw [if_pos c2]
      split <;> omega
    · rw [if_neg c2]
      dsimp only
      omega
theorem rsn_lim {k : Bk} (h : OKB k) {t : Nat} (ht : t < bn k) (f e : Int) : (0 ≤ (rsn k t f e).1 ∧ (rsn k t f e).1 ≤ 5) ∧ (0 ≤ (rsn k t f e).2 ∧ (rsn k t f e).2 ≤ 100) := by
  unfold rsn
  split
  · split
    · dsimp only; omega
    · dsimp only; omega
  · exact tryR_lim h ht _ _ _
