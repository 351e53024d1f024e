/-! the reference: what it writes. The state array of the world is g; all worlds are sAJ w (z + 1) g -/
theorem sAJ_sAJ (w : Wd) (a : Nat) (u v : Nat → Int64) : sAJ (sAJ w a u) a v = sAJ w a v := by
  unfold sAJ up1
  congr 5
  funext b
  by_cases c : b = a
  · rw [if_pos c, if_pos c]
  · rw [if_neg c, if_neg c]
    exact if_neg c
theorem sAJ_self (w : Wd) (a : Nat) : sAJ w a (aJ w a) = w := by
  unfold sAJ up1
  have e : (fun b => if b = a then aJ w a else w.2.2.2.2.1 b) = w.2.2.2.2.1 := by
    funext b
    by_cases c : b = a
    · rw [if_pos c, c]; rfl
    · rw [if_neg c]
  rw [e]
theorem aJ_same (w : Wd) (a : Nat) (g : Nat → Int64) : aJ (sAJ w a g) a = g := if_pos rfl
theorem cpy_is (f g : Nat → Int64) (s d n k : Nat) : va_cpy f g s d n k = if d ≤ k ∧ k < d + n then f (s + (k - d)) else g k := rfl
def mraw (g : Nat → Int64) (o i : Nat) : Int64 × Int64 × Int64 := (g (o + 1 + 3 * i), g (o + 2 + 3 * i), g (o + 3 + 3 * i))
def menc (s : Int × Int × List Nat) : Int64 × Int64 × Int64 := (zJ s.1, zJ s.2.1, mL s.2.2)
theorem MRow.raw {g : Nat → Int64} {o : Nat} {r : Rw} (h : MRow g o r) {i : Nat} (hi : i < rn r) : mraw g o i = menc (rs r i) := by
  obtain ⟨h1, h2, h3⟩ := h.2 i hi
  unfold mraw menc rs
  rw [h1, h2, h3]
theorem MRow.of {g : Nat → Int64} {o : Nat} {r : Rw} (h : g o = zJ (rn r : Nat)) (k : ∀ i, i < rn r → mraw g o i = menc (rs r i)) : MRow g o r := by
  refine ⟨h, fun i hi => ?_⟩
  have := k i hi
  unfold mraw menc rs at this
  simp only [Prod.mk.injEq] at this
  exact this
theorem mo_sep {x t x' t' : Nat} (hx : x < 2) (ht : t < 6) (hx' : x' < 2) (ht' : t' < 6) (h : ¬ (x' = x ∧ t' = t)) {j : Nat} (hj : mo x' t' ≤ j ∧ j < mo x' t' + 91) : ¬ (mo x t ≤ j ∧ j < mo x t + 91) := by
  unfold mo at *
  omega
theorem MRow.congr {g g' : Nat → Int64} {o : Nat} {r : Rw} (h : MRow g o r) (hl : rn r ≤ 30) (e : ∀ j, o ≤ j → j < o + 91 → g' j = g j) : MRow g' o r := by
  refine ⟨(e o (by omega) (by omega)).trans h.1, fun i hi => ?_⟩
  obtain ⟨h1, h2, h3⟩ := h.2 i hi
  exact ⟨(e _ (by omega) (by omega)).trans h1, (e _ (by omega) (by omega)).trans h2, (e _ (by omega) (by omega)).trans h3⟩
theorem MBook.put {g g' : Nat → Int64} {k : Bk} {x t : Nat} {r : Rw} (h : MBook g k) (hb : bn k ≤ 6) (h30 : H30 k) (hx : x < 2) (ht : t < bn k) (ho : ∀ j, ¬ (mo x t ≤ j ∧ j < mo x t + 91) → g' j = g j) (hr : MRow g' (mo x t) r) : MBook g' (bset k x t r) := by
  obtain ⟨⟨h0, h1, h2, h3, h4⟩, h5, h6⟩ := h
  have low : ∀ j, j < 22 → g' j = g j := fun j hj => ho j (by unfold mo; omega)
  refine ⟨⟨(low 0 (by omega)).trans h0, (low 1 (by omega)).trans h1, (low 2 (by omega)).trans h2, (low 3 (by omega)).trans h3, fun t' ht' => ?_⟩, fun x' t' hx' ht' => ?_, fun x' t' hx' ht' h6' => ?_⟩
  · have ht' : t' < bn k := ht'
    obtain ⟨a1, a2, a3⟩ := h4 t' ht'
    exact ⟨(low _ (by omega)).trans a1, (low _ (by omega)).trans a2, (low _ (by omega)).trans a3⟩
  · have ht' : t' < bn k := ht'
    rw [brw_bset]
    by_cases c : x' = x ∧ t' = t
    · rw [if_pos c, c.1, c.2]; exact hr
    · rw [if_neg c]
      exact (h5 x' t' hx' ht').congr (h30 x' t' hx' ht') fun j j1 j2 => ho j (mo_sep hx (by omega) hx' (by omega) c ⟨j1, j2⟩)
  · have ht' : bn k ≤ t' := ht'
    refine (ho _ (mo_sep hx (by omega) hx' (by omega) (fun c => by omega) ⟨Nat.le_refl _, by omega⟩)).trans (h6 x' t' hx' ht' h6')
theorem GBook.set {k : Bk} (h : GBook k) {x t : Nat} {r : Rw} (hr : GRow r) : GBook (bset k x t r) := by
  obtain ⟨h1, h2, h3, h4, h5⟩ := h
  refine ⟨h1, h2, h3, h4, fun t' ht' => ?_⟩
  obtain ⟨a1, a2, a3, a4, a5, a6⟩ := h5 t' ht'
  refine ⟨a1, a2, a3, a4, a5, fun x' hx' => ?_⟩
  rw [brw_bset]
  by_cases c : x' = x ∧ t' = t
  · rw [if_pos c]; exact hr
  · rw [if_neg c]; exact a6 x' hx'
theorem H30.set {k : Bk} (h : H30 k) {x t : Nat} {r : Rw} (hr : rn r ≤ 30) : H30 (bset k x t r) := by
  intro x' t' hx' ht'
  rw [brw_bset]
  by_cases c : x' = x ∧ t' = t
  · rw [if_pos c]; exact hr
  · rw [if_neg c]; exact h x' t' hx' ht'
section MWR
variable {F : Fr} {N : Nat} {w : Wd} {z : Nat} {k : Bk} {g : Nat → Int64}
theorem o_r (A : CMod F w z) : rdR F (sAJ w (z + 1) g) 900 z 12 = some (z + 1) := rdR_is (w := sAJ w (z + 1) g) A.p900.1 A.p900.2.1
theorem o_get (A : CMod F w z) {i : Int} (h0 : 0 ≤ i) (h1 : i < 1114) : ldJ F (sAJ w (z + 1) g) (z + 1) (zI i) = some (g i.toNat) := by
  rw [ldJ_is h0 (by rw [A.p900.2.2]; omega) (by omega), aJ_same]
theorem o_st (A : CMod F w z) {i : Int} (h0 : 0 ≤ i) (h1 : i < 1114) (v : Int64) : stJ F (sAJ w (z + 1) g) (z + 1) (zI i) v = some (sAJ w (z + 1) (vp_updL g i.toNat v)) := by
  rw [stJ_is h0 (by rw [A.p900.2.2]; omega) (by omega), aJ_same, sAJ_sAJ]
theorem cpJ_any {a0 a : Nat} {s d m : Int} (h0 : 0 ≤ s) (h1 : 0 ≤ d) (h2 : 0 ≤ m) (h3 : s + m ≤ F.2.1 a0) (h4 : d + m ≤ F.2.1 a) (h5 : s + m < 2147483648) (h6 : d + m < 2147483648) : cpJ F w a0 (zI s) a (zI d) (zI m) = some (sAJ w a (va_cpy (aJ w a0) (aJ w a) s.toNat d.toNat m.toNat)) := by
  unfold cpJ
  simp (disch := omega) only [z_0, zI_nat, zI_lt]
  rw [if_neg (by omega)]
theorem o_cp (A : CMod F w z) {s d m : Int} (h0 : 0 ≤ s) (h1 : 0 ≤ d) (h2 : 0 ≤ m) (h3 : s + m ≤ 1114) (h4 : d + m ≤ 1114) : cpJ F (sAJ w (z + 1) g) (z + 1) (zI s) (z + 1) (zI d) (zI m) = some (sAJ w (z + 1) (va_cpy g g s.toNat d.toNat m.toNat)) := by
  rw [cpJ_any h0 h1 h2 (by rw [A.p900.2.2]; omega) (by rw [A.p900.2.2]; omega) (by omega) (by omega), aJ_same, sAJ_sAJ]
theorem o_ann (A : CMod F w z) {x : Nat} (h : g 1 = zJ (x : Nat)) : fX9_annotator F N (sAJ w (z + 1) g) z = some (zI (x : Nat)) := by
  unfold fX9_annotator
  rw [o_r A]
  simp only [Option.bind_some]
  rw [z_1, o_get A (by omega) (by omega)]
  exact (congrArg (fun x => some x.toInt32) h).trans (congrArg some (zJ_32 _))
theorem o_row_ (A : CMod F w z) {x : Nat} (h : g 1 = zJ (x : Nat)) (t : Nat) : fX9_row_ F N (sAJ w (z + 1) g) z (zI t) = some (zI (mo x t : Nat)) := by
  unfold fX9_row_
  rw [o_ann A h]
  simp only [Option.bind_some]
  rw [m_row]
  rfl
theorem o_at (A : CMod F w z) {x : Nat} (h : g 1 = zJ (x : Nat)) (t i : Nat) : fX9_at F N (sAJ w (z + 1) g) z (zI t) (zI i) = some (zI (mo x t + 1 + 3 * i : Nat)) := by
  unfold fX9_at
  rw [o_row_ A h]
  simp only [Option.bind_some, z_1, z_3, zI_mul, zI_add]
  congr 2
theorem o_many (A : CMod F w z) {x : Nat} (h : g 1 = zJ (x : Nat)) {t : Nat} (hx : x < 2) (ht : t < 6) {n : Int} (hc : g (mo x t) = zJ n) : fX9_many F N (sAJ w (z + 1) g) z (zI t) = some (zI n) := by
  have hm := mo_lim hx ht
  unfold fX9_many
  rw [o_r A]
  simp only [Option.bind_some]
  rw [o_row_ A h]
  simp only [Option.bind_some]
  rw [o_get A (by omega) (by omega), Int.toNat_natCast, hc]
  simp only [Option.bind_some, zJ_32]
def tkG (g : Nat → Int64) (o n i : Nat) : Nat → Int64 := va_cpy (vp_updL g o (zJ ((n : Int) - 1))) (vp_updL g o (zJ ((n : Int) - 1))) (o + 1 + 3 * (i + 1)) (o + 1 + 3 * i) (3 * (n - 1 - i))
theorem tkG_is (g : Nat → Int64) (o n i j : Nat) : tkG g o n i j = if o + 1 + 3 * i ≤ j ∧ j < o + 1 + 3 * (n - 1) ∧ i < n then g (j + 3) else if j = o then zJ ((n : Int) - 1) else g j := by
  unfold tkG
  rw [cpy_is, updL_is, updL_is]
  by_cases c : o + 1 + 3 * i ≤ j ∧ j < o + 1 + 3 * (n - 1) ∧ i < n
  · rw [if_pos (by omega), if_neg (by omega), if_pos c]
    congr 1; omega
  · rw [if_neg (by omega), if_neg c]
theorem tkG_row {o : Nat} {r : Rw} (h : MRow g o r) {i : Nat} (hi : i < rn r) : MRow (tkG g o (rn r) i) o (delR r i) := by
  have e0 : rn (delR r i) = rn r - 1 := rfl
  refine MRow.of ?_ fun j hj => ?_
  · rw [tkG_is, if_neg (by omega), if_pos rfl, e0]; congr 1; omega
  · rw [rs_del]
    rw [e0] at hj
    by_cases c : j < i
    · rw [if_pos c, ← h.raw (by omega)]
      unfold mraw
      rw [tkG_is, tkG_is, tkG_is, if_neg (by omega), if_neg (by omega), if_neg (by omega), if_neg (by omega), if_neg (by omega), if_neg (by omega)]
    · rw [if_neg c, ← h.raw (by omega)]
      unfold mraw
      rw [tkG_is, tkG_is, tkG_is, if_pos (by omega), if_pos (by omega), if_pos (by omega)]
      rfl
theorem o_takeOut (A : CMod F w z) {x : Nat} (h : g 1 = zJ (x : Nat)) {t i n : Nat} (hx : x < 2) (ht : t < 6) (hc : g (mo x t) = zJ (n : Nat)) (hi : i < n) (hn : n ≤ 30) : fX9_takeOut F N (sAJ w (z + 1) g) z (zI t) (zI i) = some (sAJ w (z + 1) (tkG g (mo x t) n i)) := by
  have hm := mo_lim hx ht
  have hm1 : 22 ≤ mo x t := by unfold mo; omega
  unfold fX9_takeOut
  rw [o_r A]
  simp only [Option.bind_some]
  rw [o_row_ A h]
  simp only [Option.bind_some]
  rw [o_get A (by omega) (by omega), Int.toNat_natCast, hc]
  simp only [Option.bind_some]
  rw [show zJ ((n : Nat) : Int) - 1 = zJ ((n : Int) - 1) from zJ_sub _ 1, o_st A (by omega) (by omega), Int.toNat_natCast]
  simp only [Option.bind_some]
  have h' : vp_updL g (mo x t) (zJ ((n : Int) - 1)) 1 = zJ (x : Nat) := by rw [updL_is, if_neg (by omega)]; exact h
  have hc' : vp_updL g (mo x t) (zJ ((n : Int) - 1)) (mo x t) = zJ ((n : Int) - 1) := by rw [updL_is, if_pos rfl]
  rw [o_r A, zI_succ i]
  simp only [Option.bind_some]
  rw [o_at A h', o_at A h', o_many A h' hx ht hc']
  simp only [Option.bind_some]
  rw [zI_sub, z_3, zI_mul, o_cp A (by omega) (by omega) (by omega) (by omega) (by omega)]
  simp only [Option.bind_some]
  unfold tkG
  congr 3 <;> omega
theorem m_takeOut (h : MS F w z k) {t i : Nat} (ht : t < bn k) (hi : i < rn (brw k (ban k) t)) : ∃ g', fX9_takeOut F N w z (zI t) (zI i) = some (sAJ w (z + 1) g') ∧ MBook g' (bset k (ban k) t (delR (brw k (ban k) t) i)) := by
  have hn := h.g.1
  have hl := h.lim h.g.2.1 ht
  have e := o_takeOut (N := N) (g := aJ w (z + 1)) h.1 h.2.1.1.2.1 h.g.2.1 (by omega) (h.row h.g.2.1 ht).1 hi hl
  rw [sAJ_self] at e
  refine ⟨_, e, h.2.1.put h.g.1 h.2.2.2 h.g.2.1 ht (fun j hj => ?_) (tkG_row (h.row h.g.2.1 ht) hi)⟩
  rw [tkG_is, if_neg (by omega), if_neg (by omega)]
def piG (g : Nat → Int64) (o n p : Nat) (a b c : Int64) : Nat → Int64 := vp_updL (vp_updL (vp_updL (vp_updL (va_cpy g g (o + 1 + 3 * p) (o + 1 + 3 * (p + 1)) (3 * (n - p))) (o + 1 + 3 * p) a) (o + 2 + 3 * p) b) (o + 3 + 3 * p) c) o (zJ ((n : Int) + 1))
theorem piG_is (g : Nat → Int64) (o n p : Nat) (a b c : Int64) (j : Nat) : piG g o n p a b c j = if j = o then zJ ((n : Int) + 1) else if j = o + 3 + 3 * p then c else if j = o + 2 + 3 * p then b else if j = o + 1 + 3 * p then a else if o + 1 + 3 * (p + 1) ≤ j ∧ j < o + 1 + 3 * (p + 1) + 3 * (n - p) then g (j - 3) else g j := by
  unfold piG
  rw [updL_is, updL_is, updL_is, updL_is, cpy_is]
  by_cases c1 : o + 1 + 3 * (p + 1) ≤ j ∧ j < o + 1 + 3 * (p + 1) + 3 * (n - p)
  · rw [if_pos c1, if_pos c1, show o + 1 + 3 * p + (j - (o + 1 + 3 * (p + 1))) = j - 3 from by omega]
  · rw [if_neg c1, if_neg c1]
theorem piG_row {o : Nat} {r : Rw} (h : MRow g o r) {p : Nat} (hp : p ≤ rn r) (s : Int × Int × List Nat) : MRow (piG g o (rn r) p (zJ s.1) (zJ s.2.1) (mL s.2.2)) o (insR r p s) := by
  have e0 : rn (insR r p s) = rn r + 1 := rfl
  refine MRow.of ?_ fun j hj => ?_
  · rw [piG_is, if_pos rfl, e0]; congr 1
  · rw [rs_ins]
    rw [e0] at hj
    by_cases c : j < p
    · rw [if_pos c, ← h.raw (by omega)]
      unfold mraw
      simp (disch := omega) only [piG_is, if_neg]
    · rw [if_neg c]
      by_cases c2 : j = p
      · rw [if_pos c2, c2]
        unfold mraw menc
        simp (disch := omega) only [piG_is, if_neg, if_pos, if_true]
      · rw [if_neg c2, ← h.raw (by omega)]
        unfold mraw
        simp (disch := omega) only [piG_is, if_neg, if_pos]
        rw [show o + 1 + 3 * j - 3 = o + 1 + 3 * (j - 1) from by omega, show o + 2 + 3 * j - 3 = o + 2 + 3 * (j - 1) from by omega, show o + 3 + 3 * j - 3 = o + 3 + 3 * (j - 1) from by omega]
theorem o_putIn_30 (A : CMod F w z) {x : Nat} (h : g 1 = zJ (x : Nat)) {t p n : Nat} (hx : x < 2) (ht : t < 6) (hc : g (mo x t) = zJ (n : Nat)) (hp : p ≤ n) (hn : n ≤ 29) {f e : Int} (hf : -2147483648 ≤ f ∧ f < 2147483648) (he : -2147483648 ≤ e ∧ e < 2147483648) (c : Int64) : fX9_putIn_30 F N (sAJ w (z + 1) g) z (zI t) (zI f) (zI e) c (zI p) = some (zI p, sAJ w (z + 1) (piG g (mo x t) n p (zJ f) (zJ e) c)) := by
  have hm := mo_lim hx ht
  have hm1 : 22 ≤ mo x t := by unfold mo; omega
  unfold fX9_putIn_30
  rw [o_r A, zI_succ p]
  simp only [Option.bind_some]
  rw [o_at A h, o_at A h, o_many A h hx ht hc]
  simp only [Option.bind_some]
  rw [zI_sub, z_3, zI_mul, o_cp A (by omega) (by omega) (by omega) (by omega) (by omega)]
  simp only [Option.bind_some]
  rw [zI_64 hf.1 hf.2, zI_64 he.1 he.2]
  have e1 : (((mo x t + 1 + 3 * p : Nat) : Int)).toNat = mo x t + 1 + 3 * p := by omega
  have e2 : (((mo x t + 1 + 3 * (p + 1) : Nat) : Int)).toNat = mo x t + 1 + 3 * (p + 1) := by omega
  have e3 : (3 * ((n : Int) - (p : Int))).toNat = 3 * (n - p) := by omega
  rw [e1, e2, e3]
  generalize hg1 : va_cpy g g (mo x t + 1 + 3 * p) (mo x t + 1 + 3 * (p + 1)) (3 * (n - p)) = g1
  have q1 : ∀ j, ¬ (mo x t < j ∧ j < mo x t + 91) → g1 j = g j := fun j hj => by rw [← hg1, cpy_is, if_neg (by omega)]
  have h1 : g1 1 = zJ (x : Nat) := (q1 1 (by omega)).trans h
  have c1 : g1 (mo x t) = zJ (n : Nat) := (q1 _ (by omega)).trans hc
  rw [o_r A]
  simp only [Option.bind_some]
  rw [o_at A h1]
  simp only [Option.bind_some]
  rw [o_st A (by omega) (by omega), Int.toNat_natCast]
  simp only [Option.bind_some]
  generalize hg2 : vp_updL g1 (mo x t + 1 + 3 * p) (zJ f) = g2
  have q2 : ∀ j, ¬ (mo x t < j ∧ j < mo x t + 91) → g2 j = g1 j := fun j hj => by rw [← hg2, updL_is, if_neg (by omega)]
  have h2 : g2 1 = zJ (x : Nat) := (q2 1 (by omega)).trans h1
  have c2 : g2 (mo x t) = zJ (n : Nat) := (q2 _ (by omega)).trans c1
  rw [o_r A]
  simp only [Option.bind_some]
  rw [o_at A h2]
  simp only [Option.bind_some]
  rw [z_1, zI_add, show ((mo x t + 1 + 3 * p : Nat) : Int) + 1 = ((mo x t + 2 + 3 * p : Nat) : Int) from by omega, o_st A (by omega) (by omega), Int.toNat_natCast]
  simp only [Option.bind_some]
  generalize hg3 : vp_updL g2 (mo x t + 2 + 3 * p) (zJ e) = g3
  have q3 : ∀ j, ¬ (mo x t < j ∧ j < mo x t + 91) → g3 j = g2 j := fun j hj => by rw [← hg3, updL_is, if_neg (by omega)]
  have h3 : g3 1 = zJ (x : Nat) := (q3 1 (by omega)).trans h2
  have c3 : g3 (mo x t) = zJ (n : Nat) := (q3 _ (by omega)).trans c2
  rw [o_r A]
  simp only [Option.bind_some]
  rw [o_at A h3]
  simp only [Option.bind_some]
  rw [z_2, zI_add, show ((mo x t + 1 + 3 * p : Nat) : Int) + 2 = ((mo x t + 3 + 3 * p : Nat) : Int) from by omega, o_st A (by omega) (by omega), Int.toNat_natCast]
  simp only [Option.bind_some]
  generalize hg4 : vp_updL g3 (mo x t + 3 + 3 * p) c = g4
  have q4 : ∀ j, ¬ (mo x t < j ∧ j < mo x t + 91) → g4 j = g3 j := fun j hj => by rw [← hg4, updL_is, if_neg (by omega)]
  have h4 : g4 1 = zJ (x : Nat) := (q4 1 (by omega)).trans h3
  have c4 : g4 (mo x t) = zJ (n : Nat) := (q4 _ (by omega)).trans c3
  rw [o_r A]
  simp only [Option.bind_some]
  rw [o_row_ A h4]
  simp only [Option.bind_some]
  rw [o_get A (by omega) (by omega), Int.toNat_natCast, c4]
  simp only [Option.bind_some]
  rw [show zJ ((n : Nat) : Int) + 1 = zJ ((n : Int) + 1) from zJ_add _ 1, o_st A (by omega) (by omega), Int.toNat_natCast]
  simp only [Option.bind_some]
  unfold piG
  rw [hg1, hg2, hg3, hg4]
theorem m_putIn (h : MS F w z k) (hN : 40 ≤ N) {t : Nat} (ht : t < bn k) (hn : rn (brw k (ban k) t) ≤ 29) {f e : Int} (hf : 0 ≤ f ∧ f ≤ 1000) (he : 0 ≤ e ∧ e ≤ 1000) (l : List Nat) (hd : ∀ j, j < rn (brw k (ban k) t) → ¬ rf (brw k (ban k) t) j = f) (hs : ∀ i j, i < j → j < rn (brw k (ban k) t) → rf (brw k (ban k) t) i ≤ rf (brw k (ban k) t) j) : ∃ p g', fX9_putIn F N w z (zI t) (zI f) (zI e) (mL l) = some (zI (p : Nat), sAJ w (z + 1) g') ∧ InsAt (brw k (ban k) t) p f ∧ MBook g' (bset k (ban k) t (insR (brw k (ban k) t) p (f, e, l))) := by
  have hb := h.g.1
  have fin : ∀ p, InsAt (brw k (ban k) t) p f → ∃ p g', fX9_putIn_30 F N w z (zI t) (zI f) (zI e) (mL l) (zI (p : Nat)) = some (zI (p : Nat), sAJ w (z + 1) g') ∧ InsAt (brw k (ban k) t) p f ∧ MBook g' (bset k (ban k) t (insR (brw k (ban k) t) p (f, e, l))) := by
    intro p hp
    have e1 := o_putIn_30 (N := N) (g := aJ w (z + 1)) h.1 h.2.1.1.2.1 h.g.2.1 (by omega) (h.row h.g.2.1 ht).1 hp.1 hn (f := f) (e := e) (by omega) (by omega) (mL l)
    rw [sAJ_self] at e1
    refine ⟨p, _, e1, hp, h.2.1.put h.g.1 h.2.2.2 h.g.2.1 ht (fun j hj => ?_) (piG_row (h.row h.g.2.1 ht) hp.1 (f, e, l))⟩
    have h9 := hp.1
    simp (disch := omega) only [piG_is, if_neg]
  have loop : ∀ (m n p : Nat), p + n = rn (brw k (ban k) t) → n < m → (0 < p → rf (brw k (ban k) t) (p - 1) ≤ f) → ∃ q, fX9_putIn_3 F N m w z (zI t) (zI f) (zI e) (mL l) (zI p) = fX9_putIn_30 F N w z (zI t) (zI f) (zI e) (mL l) (zI (q : Nat)) ∧ InsAt (brw k (ban k) t) q f := by
    intro m
    induction m with
    | zero => intro n p _ h; omega
    | succ m ih =>
      intro n p hp hm hlo
      unfold fX9_putIn_3
      rw [m_many h ht]
      simp only [Option.bind_some]
      cases n with
      | zero =>
        rw [if_pos (by simp (disch := omega) only [z_0, z_1, z_2, z_3, z_4, z_5, z_6, z_7, z_8, z_9, z_10, z_12, z_13, z_16, z_20, z_24, z_30, z_31, z_32, z_38, z_42, z_44, z_45, z_47, z_48, z_49, z_50, z_57, z_58, z_59, z_60, z_61, z_91, z_97, z_98, z_100, z_108, z_114, z_120, z_122, z_126, z_127, z_128, z_200, z_255, z_961, z_990, z_992, z_998, z_999, z_1000, z_1092, z_1114, z_7798, z_10000, z_1000000, zI_neg, zI_add, zI_sub, zI_mul, zI_lt, zI_le, zI_eq, if_pos, if_neg, if_true, if_false, Option.bind_some, bnd, ldI_is, ldJ_is, Int.toNat_natCast, ]; omega)]
        exact ⟨p, rfl, by omega, hlo, fun j j1 j2 => by omega⟩
      | succ n =>
        have hp2 : p < rn (brw k (ban k) t) := by omega
        have b := (h.grow h.g.2.1 ht).2 p hp2
        rw [if_neg (by simp (disch := omega) only [z_0, z_1, z_2, z_3, z_4, z_5, z_6, z_7, z_8, z_9, z_10, z_12, z_13, z_16, z_20, z_24, z_30, z_31, z_32, z_38, z_42, z_44, z_45, z_47, z_48, z_49, z_50, z_57, z_58, z_59, z_60, z_61, z_91, z_97, z_98, z_100, z_108, z_114, z_120, z_122, z_126, z_127, z_128, z_200, z_255, z_961, z_990, z_992, z_998, z_999, z_1000, z_1092, z_1114, z_7798, z_10000, z_1000000, zI_neg, zI_add, zI_sub, zI_mul, zI_lt, zI_le, zI_eq, if_pos, if_neg, if_true, if_false, Option.bind_some, bnd, ldI_is, ldJ_is, Int.toNat_natCast,  Int.not_le]; omega), m_first h ht hp2]
        simp only [Option.bind_some]
        have d := hd p hp2
        by_cases c : f ≤ rf (brw k (ban k) t) p
        · rw [if_pos (by simp (disch := omega) only [z_0, z_1, z_2, z_3, z_4, z_5, z_6, z_7, z_8, z_9, z_10, z_12, z_13, z_16, z_20, z_24, z_30, z_31, z_32, z_38, z_42, z_44, z_45, z_47, z_48, z_49, z_50, z_57, z_58, z_59, z_60, z_61, z_91, z_97, z_98, z_100, z_108, z_114, z_120, z_122, z_126, z_127, z_128, z_200, z_255, z_961, z_990, z_992, z_998, z_999, z_1000, z_1092, z_1114, z_7798, z_10000, z_1000000, zI_neg, zI_add, zI_sub, zI_mul, zI_lt, zI_le, zI_eq, if_pos, if_neg, if_true, if_false, Option.bind_some, bnd, ldI_is, ldJ_is, Int.toNat_natCast, ]; exact c)]
          refine ⟨p, rfl, by omega, hlo, fun j j1 j2 => ?_⟩
          by_cases c2 : j = p
          · subst c2; omega
          · have := hs p j (by omega) j2; omega
        · rw [if_neg (by simp (disch := omega) only [z_0, z_1, z_2, z_3, z_4, z_5, z_6, z_7, z_8, z_9, z_10, z_12, z_13, z_16, z_20, z_24, z_30, z_31, z_32, z_38, z_42, z_44, z_45, z_47, z_48, z_49, z_50, z_57, z_58, z_59, z_60, z_61, z_91, z_97, z_98, z_100, z_108, z_114, z_120, z_122, z_126, z_127, z_128, z_200, z_255, z_961, z_990, z_992, z_998, z_999, z_1000, z_1092, z_1114, z_7798, z_10000, z_1000000, zI_neg, zI_add, zI_sub, zI_mul, zI_lt, zI_le, zI_eq, if_pos, if_neg, if_true, if_false, Option.bind_some, bnd, ldI_is, ldJ_is, Int.toNat_natCast,  Int.not_le]; omega), zI_succ]
          exact ih n (p + 1) (by omega) (by omega) (fun _ => by rw [Nat.add_sub_cancel]; omega)
  obtain ⟨q, e1, h1⟩ := loop N (rn (brw k (ban k) t)) 0 (by omega) (by omega) (fun x => by omega)
  obtain ⟨p, g', e2, h2, h3⟩ := fin q h1
  have : q = p := by
    have := h1.uniq h2
    exact this
  subst this
  exact ⟨q, g', e1.trans e2, h2, h3⟩
end MWR
