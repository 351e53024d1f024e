/-! the reference removes spans, and all that depend on them -/
abbrev Sp : Type := Int × Int × List Nat
def toL (r : Rw) : List Sp := (List.range (rn r)).map (rs r)
def EqR (r q : Rw) : Prop := rn r = rn q ∧ ∀ i, i < rn r → rs r i = rs q i
theorem toL_len (r : Rw) : (toL r).length = rn r := by unfold toL; rw [List.length_map, List.length_range]
theorem toL_get (r : Rw) (i : Nat) : (toL r)[i]? = if i < rn r then some (rs r i) else none := by
  unfold toL
  rw [List.getElem?_map]
  by_cases c : i < rn r
  · rw [if_pos c, List.getElem?_range c]; rfl
  · rw [if_neg c, List.getElem?_eq_none (by rw [List.length_range]; omega)]; rfl
theorem EqR.of {r q : Rw} (h : toL r = toL q) : EqR r q := by
  have e : rn r = rn q := by rw [← toL_len, ← toL_len, h]
  refine ⟨e, fun i hi => ?_⟩
  have h1 := toL_get r i
  rw [h, toL_get, if_pos (by omega), if_pos hi] at h1
  exact (Option.some.inj h1).symm
theorem toL_del (r : Rw) {p : Nat} (hp : p < rn r) : toL (delR r p) = (toL r).eraseIdx p := by
  apply List.ext_getElem?
  intro i
  rw [toL_get, List.getElem?_eraseIdx, toL_get, toL_get, rs_del]
  have e0 : rn (delR r p) = rn r - 1 := rfl
  by_cases c : i < p
  · rw [if_pos c, if_pos (by omega), if_pos c, if_pos (by omega)]
  · rw [if_neg c, if_neg c]
    by_cases d : i + 1 < rn r
    · rw [if_pos d, if_pos (by omega)]
    · rw [if_neg d, if_neg (by omega)]
theorem filter_erase {p : Sp → Bool} (l : List Sp) {i : Nat} (hi : i < l.length) (h : p l[i] = false) : (l.eraseIdx i).filter p = l.filter p := by
  have e1 : l = l.take i ++ l[i] :: l.drop (i + 1) := by
    rw [← List.drop_eq_getElem_cons hi, List.take_append_drop]
  rw [List.eraseIdx_eq_take_drop_succ, List.filter_append]
  rw [show l.filter p = (l.take i ++ l[i] :: l.drop (i + 1)).filter p from congrArg (List.filter p) e1, List.filter_append, List.filter_cons, h, if_neg (by decide)]
/-- the reference's way: the first that lacks its host goes, again and again -/
def clr (lk : Int → Int → Bool) : Nat → Rw → Rw
  | 0, r => r
  | n + 1, r => if fnd (fun i => lk (rf r i) (re r i)) (rn r) 0 = -1 then r else clr lk n (delR r (fnd (fun i => lk (rf r i) (re r i)) (rn r) 0).toNat)
def nlk (lk : Int → Int → Bool) (s : Sp) : Bool := !lk s.1 s.2.1
theorem toL_at (r : Rw) {i : Nat} (hi : i < rn r) (h : i < (toL r).length) : (toL r)[i] = rs r i := by
  have h1 := toL_get r i
  rw [if_pos hi, List.getElem?_eq_getElem h] at h1
  exact Option.some.inj h1
theorem clr_is (lk : Int → Int → Bool) : ∀ n r, rn r ≤ n → toL (clr lk n r) = (toL r).filter (nlk lk) := by
  intro n
  induction n with
  | zero =>
    intro r h
    have e : toL r = [] := List.length_eq_zero_iff.mp (by rw [toL_len]; omega)
    show toL r = _
    rw [e]; rfl
  | succ n ih =>
    intro r h
    unfold clr
    by_cases c : fnd (fun i => lk (rf r i) (re r i)) (rn r) 0 = -1
    · rw [if_pos c]
      rw [fnd_iff] at c
      refine (List.filter_eq_self.mpr fun s hs => ?_).symm
      obtain ⟨i, hi, e⟩ := List.getElem_of_mem hs
      have hi2 : i < rn r := by rw [toL_len] at hi; exact hi
      rw [toL_at r hi2 hi] at e
      rw [← e]
      show (!lk (rf r i) (re r i)) = true
      rw [c i hi2]; rfl
    · rw [if_neg c]
      rcases fnd_cases (fun i => lk (rf r i) (re r i)) (rn r) 0 with ⟨h1, -⟩ | ⟨j, h1, h2, h3, h4, -⟩
      · exact absurd h1 c
      · rw [h1, Int.toNat_natCast]
        have hj : j < rn r := by omega
        rw [ih (delR r j) (by show rn r - 1 ≤ n; omega), toL_del r hj]
        refine filter_erase _ (by rw [toL_len]; exact hj) ?_
        rw [toL_at r hj]
        show (!lk (rf r j) (re r j)) = false
        rw [show lk (rf r j) (re r j) = true from h4]; rfl
theorem drp_is (lk : Int → Int → Bool) : ∀ i r, i ≤ rn r → toL (drp lk i r).1 = ((toL r).take i).filter (nlk lk) ++ (toL r).drop i := by
  intro i
  induction i with
  | zero => intro r _; rfl
  | succ i ih =>
    intro r h
    have hl : i < (toL r).length := by rw [toL_len]; omega
    have ea := toL_at r (show i < rn r by omega) hl
    have e1 : (toL r).take (i + 1) = (toL r).take i ++ [rs r i] := by rw [List.take_succ_eq_append_getElem hl, ea]
    have e2 : (toL r).drop i = rs r i :: (toL r).drop (i + 1) := by rw [List.drop_eq_getElem_cons hl, ea]
    unfold drp
    rw [e1, List.filter_append]
    by_cases c : lk (rf r i) (re r i) = true
    · rw [if_pos c]
      show toL (drp lk i (delR r i)).1 = _
      rw [ih (delR r i) (by show i ≤ rn r - 1; omega), toL_del r (by omega), List.eraseIdx_eq_take_drop_succ]
      have et : ((toL r).take i).length = i := by rw [List.length_take]; omega
      rw [List.take_append_of_le_length (by omega), List.take_of_length_le (by omega), List.drop_append_of_le_length (by omega), List.drop_of_length_le (by omega), List.nil_append]
      have ef : [rs r i].filter (nlk lk) = [] := by
        rw [List.filter_cons, show nlk lk (rs r i) = false from by show (!lk (rf r i) (re r i)) = false; rw [c]; rfl, if_neg (by decide)]; rfl
      rw [ef, List.append_nil]
    · rw [if_neg c, ih r (by omega), e2]
      have ef : [rs r i].filter (nlk lk) = [rs r i] := by
        rw [List.filter_cons, show nlk lk (rs r i) = true from by show (!lk (rf r i) (re r i)) = true; rw [show lk (rf r i) (re r i) = false from by simpa using c]; rfl, if_pos rfl]; rfl
      rw [ef, List.append_assoc]
      rfl
theorem drp_cnt (lk : Int → Int → Bool) : ∀ i r, i ≤ rn r → (rn (drp lk i r).1 : Int) + (drp lk i r).2 = rn r := by
  intro i
  induction i with
  | zero => intro r _; show (rn r : Int) + 0 = rn r; omega
  | succ i ih =>
    intro r h
    unfold drp
    by_cases c : lk (rf r i) (re r i) = true
    · rw [if_pos c]
      have := ih (delR r i) (by show i ≤ rn r - 1; omega)
      have e : rn (delR r i) = rn r - 1 := rfl
      dsimp only
      omega
    · rw [if_neg c]; exact ih r (by omega)
theorem drp_none (lk : Int → Int → Bool) (r : Rw) (h : ∀ i, i < rn r → lk (rf r i) (re r i) = false) : ∀ i, i ≤ rn r → drp lk i r = (r, 0) := by
  intro i
  induction i with
  | zero => intro _; rfl
  | succ i ih =>
    intro hi
    unfold drp
    rw [if_neg (by rw [h i (by omega)]; decide), ih (by omega)]
theorem drp_row (lk : Int → Int → Bool) : ∀ i r, i ≤ rn r → GRow r → SRow r → rn r ≤ 30 → GRow (drp lk i r).1 ∧ SRow (drp lk i r).1 ∧ rn (drp lk i r).1 ≤ 30 := by
  intro i
  induction i with
  | zero => intro r _ g s h; exact ⟨g, s, h⟩
  | succ i ih =>
    intro r hi g s h
    unfold drp
    by_cases c : lk (rf r i) (re r i) = true
    · rw [if_pos c]
      exact ih (delR r i) (by show i ≤ rn r - 1; omega) g.del (s.del (by omega)) (by show rn r - 1 ≤ 30; omega)
    · rw [if_neg c]; exact ih r (by omega) g s h
theorem drp_all (lk : Int → Int → Bool) (r : Rw) {i : Nat} (hi : i < rn (drp lk (rn r) r).1) : lk (rs (drp lk (rn r) r).1 i).1 (rs (drp lk (rn r) r).1 i).2.1 = false := by
  have e := drp_is lk (rn r) r (Nat.le_refl _)
  rw [List.take_of_length_le (by rw [toL_len]; exact Nat.le_refl _), List.drop_of_length_le (by rw [toL_len]; exact Nat.le_refl _), List.append_nil] at e
  have hm : rs (drp lk (rn r) r).1 i ∈ toL (drp lk (rn r) r).1 := List.mem_of_getElem? (i := i) (by rw [toL_get, if_pos hi])
  rw [e, List.mem_filter] at hm
  have := hm.2
  unfold nlk at this
  simpa using this
theorem clr_drp (lk : Int → Int → Bool) (r : Rw) : EqR (clr lk (rn r) r) (drp lk (rn r) r).1 := by
  apply EqR.of
  rw [clr_is lk (rn r) r (Nat.le_refl _), drp_is lk (rn r) r (Nat.le_refl _), List.take_of_length_le (by rw [toL_len]; exact Nat.le_refl _), List.drop_of_length_le (by rw [toL_len]; exact Nat.le_refl _), List.append_nil]
theorem MRow.eqv {g : Nat → Int64} {o : Nat} {r q : Rw} (h : MRow g o r) (e : EqR r q) : MRow g o q := MRow.of (e.1 ▸ h.1) fun i hi => by rw [h.raw (by rw [e.1]; exact hi), e.2 i (by rw [e.1]; exact hi)]
theorem MBook.eqv {g : Nat → Int64} {k : Bk} {x t : Nat} {r q : Rw} (h : MBook g (bset k x t r)) (e : EqR r q) : MBook g (bset k x t q) := by
  obtain ⟨h1, h2, h3⟩ := h
  refine ⟨h1, fun x' t' hx' ht' => ?_, h3⟩
  have := h2 x' t' hx' ht'
  rw [brw_bset] at this ⊢
  by_cases c : x' = x ∧ t' = t
  · rw [if_pos c] at this ⊢; exact this.eqv e
  · rw [if_neg c] at this ⊢; exact this
theorem clr_row (lk : Int → Int → Bool) : ∀ n r, GRow r → rn r ≤ 30 → GRow (clr lk n r) ∧ rn (clr lk n r) ≤ rn r := by
  intro n
  induction n with
  | zero => intro r g h; exact ⟨g, Nat.le_refl _⟩
  | succ n ih =>
    intro r g h
    unfold clr
    split
    · exact ⟨g, Nat.le_refl _⟩
    · have e : ∀ p, rn (delR r p) = rn r - 1 := fun _ => rfl
      obtain ⟨a, b⟩ := ih (delR r (fnd (fun i => lk (rf r i) (re r i)) (rn r) 0).toNat) g.del (by rw [e]; omega)
      exact ⟨a, by rw [e] at b; omega⟩
def spRemove (s : St) (t i : Int) : Rs :=
  if 0 ≤ t ∧ t < bn (snw s) ∧ 0 ≤ i ∧ i < rn (brw (snw s) (ban (snw s)) t.toNat) then
    (0, zI (1 + (drps (bn (snw s) - (t.toNat + 1)) (t.toNat + 1) (bset (snw s) (ban (snw s)) t.toNat (delR (brw (snw s) (ban (snw s)) t.toNat) i.toNat))).2), psh s (drps (bn (snw s) - (t.toNat + 1)) (t.toNat + 1) (bset (snw s) (ban (snw s)) t.toNat (delR (brw (snw s) (ban (snw s)) t.toNat) i.toNat))).1)
  else (1, 0, s)
/-- good but for orphans of the chosen annotator from tier c on -/
def PB (k : Bk) (c : Nat) : Prop := GBook k ∧ H30 k ∧ (∀ x t, x < 2 → t < bn k → SRow (brw k x t)) ∧ (∀ x t, x < 2 → t < bn k → ¬ x = ban k → orp k x t = false) ∧ ∀ t, t < bn k → t < c → orp k (ban k) t = false
theorem PB.step {k : Bk} {c : Nat} (h : PB k c) (hc : c < bn k) : PB (bset k (ban k) c (drpK k c).1) (c + 1) := by
  obtain ⟨h1, h2, h3, h4, h5⟩ := h
  have hx := h1.2.1
  obtain ⟨r1, r2, r3⟩ := drp_row (lack k (ban k) c) (rn (brw k (ban k) c)) (brw k (ban k) c) (Nat.le_refl _) ((h1.2.2.2.2 c hc).2.2.2.2.2 _ hx) (h3 _ _ hx hc) (h2 _ _ hx hc)
  refine ⟨h1.set r1, h2.set r3, fun x t hx' ht => ?_, fun x t hx' ht hn => ?_, fun t ht hlt => ?_⟩
  · rw [brw_bset]
    split
    · exact r2
    · exact h3 x t hx' ht
  · have hn : ¬ x = ban k := hn
    rw [orp_else h1 ht (fun a => hn a.1) (fun a => hn a.1)]
    exact h4 x t hx' ht hn
  · have ht : t < bn k := ht
    show orp (bset k (ban k) c (drpK k c).1) (ban k) t = false
    by_cases d : t = c
    · rw [d]
      refine orp_own h1 hc fun i hi => ?_
      exact lack_iff.mp (drp_all (lack k (ban k) c) (brw k (ban k) c) hi)
    · have := par_lt h1 ht
      rw [orp_else h1 ht (fun a => by omega) (fun a => d a.2)]
      exact h5 t ht (by omega)
theorem PB.drps : ∀ n c k, PB k c → c + n = bn k → OKB (drps n c k).1 := by
  intro n
  induction n with
  | zero =>
    intro c k h hc
    obtain ⟨h1, h2, h3, h4, h5⟩ := h
    refine ⟨h1, h2, h3, fun x t hx ht => ?_⟩
    have ht : t < bn k := ht
    by_cases d : x = ban k
    · rw [d]; exact h5 t ht (by omega)
    · exact h4 x t hx ht d
  | succ n ih =>
    intro c k h hc
    exact ih (c + 1) _ (h.step (by omega)) (by show c + 1 + n = bn k; omega)
theorem PB.del {k : Bk} (h : OKB k) {t i : Nat} (ht : t < bn k) (hi : i < rn (brw k (ban k) t)) : PB (bset k (ban k) t (delR (brw k (ban k) t) i)) (t + 1) := by
  have R := (h.row ht).del hi
  have h30 := h.2.1 _ _ h.1.2.1 ht
  refine ⟨h.1.set R.1, h.2.1.set (by show rn (brw k (ban k) t) - 1 ≤ 30; omega), fun x t' hx ht' => ?_, fun x t' hx ht' hn => ?_, fun t' ht' hlt => ?_⟩
  · rw [brw_bset]
    split
    · exact R.2.1
    · exact h.2.2.1 x t' hx ht'
  · have hn : ¬ x = ban k := hn
    rw [orp_else h.1 ht' (fun a => hn a.1) (fun a => hn a.1)]
    exact h.2.2.2 x t' hx ht'
  · have ht' : t' < bn k := ht'
    show orp (bset k (ban k) t (delR (brw k (ban k) t) i)) (ban k) t' = false
    by_cases d : t' = t
    · rw [d]; exact orp_own h.1 ht R.2.2
    · have := par_lt h.1 ht'
      rw [orp_else h.1 ht' (fun a => by omega) (fun a => d a.2)]
      exact h.2.2.2 _ _ h.1.2.1 ht'
theorem drpK_none {k : Bk} {c : Nat} (h : orp k (ban k) c = false) : drpK k c = (brw k (ban k) c, 0) := by
  unfold drpK
  refine drp_none _ _ (fun i hi => ?_) _ (Nat.le_refl _)
  exact lack_iff.mpr (orp_iff.mp h i hi)
theorem drps_skip {k : Bk} {t : Nat} (h : PB k (t + 1)) (ht : t < bn k) : ∀ m c, c + m = t + 1 → drps (bn k - c) c k = drps (bn k - (t + 1)) (t + 1) k := by
  intro m
  induction m with
  | zero => intro c hc; rw [show c = t + 1 from by omega]
  | succ m ih =>
    intro c hc
    have hc2 : c < bn k := by omega
    rw [show bn k - c = (bn k - (c + 1)) + 1 from by omega]
    have e : drpK k c = (brw k (ban k) c, 0) := drpK_none (h.2.2.2.2 c hc2 (by omega))
    show ((drps (bn k - (c + 1)) (c + 1) (bset k (ban k) c (drpK k c).1)).1, (drpK k c).2 + (drps (bn k - (c + 1)) (c + 1) (bset k (ban k) c (drpK k c).1)).2) = _
    rw [e]
    show ((drps (bn k - (c + 1)) (c + 1) (bset k (ban k) c (brw k (ban k) c))).1, 0 + (drps (bn k - (c + 1)) (c + 1) (bset k (ban k) c (brw k (ban k) c))).2) = _
    rw [bset_self, Int.zero_add, ih (c + 1) (by omega)]
section DROP
variable {F : Fr} {N : Nat} {w : Wd} {z : Nat} {s : St} {k : Bk}
theorem m_drop_59 (A : CMod F w z) (K : GBook k) (K2 : H30 k) (hN : 40 ≤ N) {c : Nat} (hc : c < bn k) {k42 : Wd → Nat → Int32 → Int32 → Option (Int32 × Wd)} : ∀ (m n : Nat) (r : Rw) (g : Nat → Int64) (a : Int), GRow r → rn r ≤ n → rn r ≤ 30 → rn r < m → MBook g (bset k (ban k) c r) →
    ∃ g', fX9_removeSpan_59 F N k42 m (sAJ w (z + 1) g) z (zI a) (zI c) (zI (fnd (fun i => lack k (ban k) c (rf r i) (re r i)) (rn r) 0)) = k42 (sAJ w (z + 1) g') z (zI (a + ((rn r : Int) - rn (clr (lack k (ban k) c) n r)))) (zI (c + 1 : Nat)) ∧ MBook g' (bset k (ban k) c (clr (lack k (ban k) c) n r)) := by
  intro m
  induction m with
  | zero => intro n r g a _ _ _ h; omega
  | succ m ih =>
    intro n r g a hg hn h30 hm M
    have hx := K.2.1
    have hl := fnd_lim (fun i => lack k (ban k) c (rf r i) (re r i)) (rn r) 0
    rw [fX9_removeSpan_59]
    by_cases d : fnd (fun i => lack k (ban k) c (rf r i) (re r i)) (rn r) 0 = -1
    · refine ⟨g, ?_, ?_⟩
      · rw [d, if_pos (by decide), zI_succ]
        have e : clr (lack k (ban k) c) n r = r := by
          cases n with
          | zero => rfl
          | succ n => unfold clr; rw [if_pos d]
        rw [e, Int.sub_self, Int.add_zero]
      · have e : clr (lack k (ban k) c) n r = r := by
          cases n with
          | zero => rfl
          | succ n => unfold clr; rw [if_pos d]
        rw [e]; exact M
    · rcases fnd_cases (fun i => lack k (ban k) c (rf r i) (re r i)) (rn r) 0 with ⟨h1, -⟩ | ⟨j, h1, h2, h3, h4, -⟩
      · exact absurd h1 d
      · have hj : j < rn r := by omega
        obtain ⟨n', rfl⟩ : ∃ n', n = n' + 1 := ⟨n - 1, by omega⟩
        rw [h1, if_neg (by simp (disch := omega) only [z_0, z_1, z_2, z_3, z_4, z_5, z_6, z_7, z_8, z_9, z_10, z_12, z_13, z_16, z_20, z_24, z_30, z_31, z_32, z_38, z_42, z_44, z_45, z_47, z_48, z_49, z_50, z_57, z_58, z_59, z_60, z_61, z_91, z_97, z_98, z_100, z_108, z_114, z_120, z_122, z_126, z_127, z_128, z_200, z_255, z_961, z_990, z_992, z_998, z_999, z_1000, z_1092, z_1114, z_7798, z_10000, z_1000000, zI_neg, zI_add, zI_sub, zI_mul, zI_lt, zI_le, zI_eq, if_pos, if_neg, if_true, if_false, Option.bind_some, bnd, ldI_is, ldJ_is, Int.toNat_natCast,  Int.not_lt]; omega)]
        have B : MS F (sAJ w (z + 1) g) z (bset k (ban k) c r) := ⟨A, by rw [aJ_same]; exact M, K.set hg, K2.set h30⟩
        have es := brw_same k (ban k) c r
        obtain ⟨g2, e1, e2⟩ := m_takeOut (N := N) B (t := c) (i := j) hc (by
          show j < rn (brw (bset k (ban k) c r) (ban k) c)
          rw [es]; exact hj)
        rw [e1]
        simp only [Option.bind_some]
        rw [sAJ_sAJ]
        rw [show brw (bset k (ban k) c r) (ban (bset k (ban k) c r)) c = r from es, show bset (bset k (ban k) c r) (ban (bset k (ban k) c r)) c (delR r j) = bset k (ban k) c (delR r j) from bset_bset _ _ _ _ _] at e2
        have ed : rn (delR r j) = rn r - 1 := rfl
        have B2 : MS F (sAJ w (z + 1) g2) z (bset k (ban k) c (delR r j)) := ⟨A, by rw [aJ_same]; exact e2, K.set hg.del, K2.set (by omega)⟩
        have eh := m_hostless (N := N) B2 hN (t := c) hc
        have eo : fnd (orpP (bset k (ban k) c (delR r j)) (ban (bset k (ban k) c (delR r j))) c) (rn (brw (bset k (ban k) c (delR r j)) (ban (bset k (ban k) c (delR r j))) c)) 0 = fnd (fun i => lack k (ban k) c (rf (delR r j) i) (re (delR r j) i)) (rn (delR r j)) 0 := by
          rw [show brw (bset k (ban k) c (delR r j)) (ban (bset k (ban k) c (delR r j))) c = delR r j from brw_same k (ban k) c (delR r j)]
          refine fnd_congr _ _ fun i _ _ => ?_
          show lack (bset k (ban k) c (delR r j)) (ban k) c (rf (brw (bset k (ban k) c (delR r j)) (ban k) c) i) (re (brw (bset k (ban k) c (delR r j)) (ban k) c) i) = _
          rw [brw_same, lack_bset K hc]
        rw [eo] at eh
        rw [eh]
        simp only [Option.bind_some]
        obtain ⟨g', r1, r2⟩ := ih n' (delR r j) g2 (a + 1) hg.del (by omega) (by omega) (by omega) e2
        have ec : clr (lack k (ban k) c) (n' + 1) r = clr (lack k (ban k) c) n' (delR r j) := by
          conv => lhs; unfold clr
          rw [if_neg d, h1, Int.toNat_natCast]
        refine ⟨g', ?_, ec ▸ r2⟩
        rw [show zI a + 1 = zI (a + 1) from zI_add a 1, r1, ec]
        rw [show a + 1 + ((rn (delR r j) : Int) - (rn (clr (lack k (ban k) c) n' (delR r j)) : Int)) = a + ((rn r : Int) - (rn (clr (lack k (ban k) c) n' (delR r j)) : Int)) from by omega]
theorem m_drop_42 (A : CMod F w z) (hN : 40 ≤ N) : ∀ (m n c : Nat) (k : Bk) (g : Nat → Int64) (a : Int), PB k c → c + n = bn k → n < m → MBook g k →
    ∃ g', fX9_removeSpan_42 F N m (sAJ w (z + 1) g) z (zI a) (zI c) = some (zI (a + (drps n c k).2), sAJ w (z + 1) g') ∧ MBook g' (drps n c k).1 := by
  intro m
  induction m with
  | zero => intro n c k g a _ _ h; omega
  | succ m ih =>
    intro n c k g a P hc hm M
    have hn := P.1.1
    have hx := P.1.2.1
    have B : MS F (sAJ w (z + 1) g) z k := ⟨A, by rw [aJ_same]; exact M, P.1, P.2.1⟩
    rw [fX9_removeSpan_42, m_tiers B]
    simp only [Option.bind_some]
    cases n with
    | zero =>
      rw [if_pos (by simp (disch := omega) only [z_0, z_1, z_2, z_3, z_4, z_5, z_6, z_7, z_8, z_9, z_10, z_12, z_13, z_16, z_20, z_24, z_30, z_31, z_32, z_38, z_42, z_44, z_45, z_47, z_48, z_49, z_50, z_57, z_58, z_59, z_60, z_61, z_91, z_97, z_98, z_100, z_108, z_114, z_120, z_122, z_126, z_127, z_128, z_200, z_255, z_961, z_990, z_992, z_998, z_999, z_1000, z_1092, z_1114, z_7798, z_10000, z_1000000, zI_neg, zI_add, zI_sub, zI_mul, zI_lt, zI_le, zI_eq, if_pos, if_neg, if_true, if_false, Option.bind_some, bnd, ldI_is, ldJ_is, Int.toNat_natCast, ]; omega)]
      exact ⟨g, by rw [show (drps 0 c k).2 = 0 from rfl, Int.add_zero], M⟩
    | succ n =>
      have hc2 : c < bn k := by omega
      have h30 := P.2.1 _ _ hx hc2
      have hg := (P.1.2.2.2.2 c hc2).2.2.2.2.2 _ hx
      rw [if_neg (by simp (disch := omega) only [z_0, z_1, z_2, z_3, z_4, z_5, z_6, z_7, z_8, z_9, z_10, z_12, z_13, z_16, z_20, z_24, z_30, z_31, z_32, z_38, z_42, z_44, z_45, z_47, z_48, z_49, z_50, z_57, z_58, z_59, z_60, z_61, z_91, z_97, z_98, z_100, z_108, z_114, z_120, z_122, z_126, z_127, z_128, z_200, z_255, z_961, z_990, z_992, z_998, z_999, z_1000, z_1092, z_1114, z_7798, z_10000, z_1000000, zI_neg, zI_add, zI_sub, zI_mul, zI_lt, zI_le, zI_eq, if_pos, if_neg, if_true, if_false, Option.bind_some, bnd, ldI_is, ldJ_is, Int.toNat_natCast,  Int.not_le]; omega), m_hostless B hN hc2]
      simp only [Option.bind_some]
      obtain ⟨g2, e1, e2⟩ := m_drop_59 (N := N) (k42 := fX9_removeSpan_42 F N m) A P.1 P.2.1 hN hc2 N (rn (brw k (ban k) c)) (brw k (ban k) c) g a hg (Nat.le_refl _) h30 (by omega) (by rw [bset_self]; exact M)
      have e1 : fX9_removeSpan_59 F N (fX9_removeSpan_42 F N m) N (sAJ w (z + 1) g) z (zI a) (zI c) (zI (fnd (orpP k (ban k) c) (rn (brw k (ban k) c)) 0)) = _ := e1
      rw [e1]
      have eq := clr_drp (lack k (ban k) c) (brw k (ban k) c)
      have ct := drp_cnt (lack k (ban k) c) (rn (brw k (ban k) c)) (brw k (ban k) c) (Nat.le_refl _)
      have e3 := e2.eqv eq
      obtain ⟨g', r1, r2⟩ := ih n (c + 1) (bset k (ban k) c (drpK k c).1) g2 (a + ((rn (brw k (ban k) c) : Int) - rn (clr (lack k (ban k) c) (rn (brw k (ban k) c)) (brw k (ban k) c)))) (P.step hc2) (by show c + 1 + n = bn k; omega) (by omega) e3
      refine ⟨g', ?_, r2⟩
      rw [r1]
      have : a + ((rn (brw k (ban k) c) : Int) - rn (clr (lack k (ban k) c) (rn (brw k (ban k) c)) (brw k (ban k) c))) + (drps n (c + 1) (bset k (ban k) c (drpK k c).1)).2 = a + (drps (n + 1) c k).2 := by
        show _ = a + ((drpK k c).2 + (drps n (c + 1) (bset k (ban k) c (drpK k c).1)).2)
        have e9 : (drpK k c).2 = (drp (lack k (ban k) c) (rn (brw k (ban k) c)) (brw k (ban k) c)).2 := rfl
        have e8 := eq.1
        omega
      rw [this]
theorem m_remove (h : MSt F w z s) (V : VSt s) (hN : 40 ≤ N) {t i : Int} (ht : I32 t) (hi : I32 i) : Ev (fX9_removeSpan F N w z (zI t) (zI i)) (MO F z w (spRemove s t i)) := by
  have B := h.ms V
  unfold fX9_removeSpan spRemove
  refine ev_eq (m_isSpan B ht hi) ?_
  by_cases c : 0 ≤ t ∧ t < bn (snw s) ∧ 0 ≤ i ∧ i < rn (brw (snw s) (ban (snw s)) t.toNat)
  · rw [if_pos c, if_pos c]
    refine ev_neg (by decide) ?_
    obtain ⟨t', rfl⟩ := Int.eq_ofNat_of_zero_le c.1
    obtain ⟨i', rfl⟩ := Int.eq_ofNat_of_zero_le c.2.2.1
    have hb : t' < bn (snw s) := by omega
    have hi' : i' < rn (brw (snw s) (ban (snw s)) t') := by have := c.2.2.2; rw [Int.toNat_natCast] at this; omega
    have hn := B.g.1
    rw [Int.toNat_natCast, Int.toNat_natCast]
    unfold fX9_removeSpan_15
    refine ev_bnd (ev_pos (by rw [gI_same]; decide) ?_)
    obtain ⟨w', r1, r2, r3, r4⟩ := m_changes (N := N) (h.thr 0) V
    have B2 : MS F w' z (snw s) := ⟨r2.1, r2.2.1, V.1.1, V.1.2.1⟩
    obtain ⟨g1, a1, a2⟩ := m_takeOut (N := N) B2 hb hi'
    refine ev_eq r1 (ev_eq a1 ?_)
    have P := PB.del V.1 hb hi'
    have P0 : PB (bset (snw s) (ban (snw s)) t' (delR (brw (snw s) (ban (snw s)) t') i')) 0 := ⟨P.1, P.2.1, P.2.2.1, P.2.2.2.1, fun t _ h => absurd h (Nat.not_lt_zero _)⟩
    obtain ⟨g', e1, e2⟩ := m_drop_42 (N := N) B2.1 hN N (bn (snw s)) 0 _ g1 1 P0 (by show 0 + bn (snw s) = bn (snw s); omega) (by omega) a2
    have es := drps_skip P hb (t' + 1) 0 (by omega)
    rw [Nat.sub_zero] at es
    rw [show drps (bn (snw s)) 0 (bset (snw s) (ban (snw s)) t' (delR (brw (snw s) (ban (snw s)) t') i')) = drps (bn (snw s) - (t' + 1)) (t' + 1) (bset (snw s) (ban (snw s)) t' (delR (brw (snw s) (ban (snw s)) t') i')) from es] at e1 e2
    exact ⟨_, e1, r4.trans (gI_same _ _ _ _), fun _ => rfl, r2.setnow e2, ((kp_thr _ _ _).trans r3).trans (kp_now _ _ _)⟩
  · rw [if_neg c, if_neg c]
    refine ev_pos (by rfl) ?_
    unfold fX9_removeSpan_15
    exact ev_bnd (ev_neg (by rw [gI_same]; decide) (ev_some (mo_err h (by omega) rfl)))
end DROP
