/-! the reference moves, splits, joins -/
def cutR (r : Rw) (i : Nat) (g : Int) : Rw := insR (setR r i (rf r i) g) (i + 1) (g, re r i, rl r i)
def uniR (r : Rw) (i : Nat) : Rw := delR (setR r i (rf r i) (re r (i + 1))) (i + 1)
def spSplit (s : St) (t i g : Int) : Rs :=
  if 0 ≤ t ∧ t < bn (snw s) ∧ 0 ≤ i ∧ i < rn (brw (snw s) (ban (snw s)) t.toNat) then
    (if g ≤ rf (brw (snw s) (ban (snw s)) t.toNat) i.toNat ∨ re (brw (snw s) (ban (snw s)) t.toNat) i.toNat ≤ g then (2, 0, setrf s 1 0)
    else if lack (snw s) (ban (snw s)) t.toNat (rf (brw (snw s) (ban (snw s)) t.toNat) i.toNat) g = true ∨ lack (snw s) (ban (snw s)) t.toNat g (re (brw (snw s) (ban (snw s)) t.toNat) i.toNat) = true then (2, 0, setrf s 3 0)
    else if ber (bset (snw s) (ban (snw s)) t.toNat (cutR (brw (snw s) (ban (snw s)) t.toNat) i.toNat g)) t.toNat = -1 then
      (if rn (brw (snw s) (ban (snw s)) t.toNat) = 30 then (2, 0, setrf s 5 0)
      else (0, zI (rn (brw (snw s) (ban (snw s)) t.toNat) + 1 : Nat), psh s (bset (snw s) (ban (snw s)) t.toNat (cutR (brw (snw s) (ban (snw s)) t.toNat) i.toNat g))))
    else (2, 0, setrf s 4 (ber (bset (snw s) (ban (snw s)) t.toNat (cutR (brw (snw s) (ban (snw s)) t.toNat) i.toNat g)) t.toNat)))
  else (1, 0, s)
def spJoin (s : St) (t i : Int) : Rs :=
  if 0 ≤ t ∧ t < bn (snw s) ∧ 0 ≤ i ∧ i < rn (brw (snw s) (ban (snw s)) t.toNat) then
    (if i.toNat + 1 = rn (brw (snw s) (ban (snw s)) t.toNat) then (2, 0, setrf s 1 0)
    else if lack (snw s) (ban (snw s)) t.toNat (rf (brw (snw s) (ban (snw s)) t.toNat) i.toNat) (re (brw (snw s) (ban (snw s)) t.toNat) (i.toNat + 1)) = true then (2, 0, setrf s 3 0)
    else if ber (bset (snw s) (ban (snw s)) t.toNat (uniR (brw (snw s) (ban (snw s)) t.toNat) i.toNat)) t.toNat = -1 then
      (0, zI (rn (brw (snw s) (ban (snw s)) t.toNat) - 1 : Nat), psh s (bset (snw s) (ban (snw s)) t.toNat (uniR (brw (snw s) (ban (snw s)) t.toNat) i.toNat)))
    else (2, 0, setrf s 4 (ber (bset (snw s) (ban (snw s)) t.toNat (uniR (brw (snw s) (ban (snw s)) t.toNat) i.toNat)) t.toNat)))
  else (1, 0, s)
theorem del_old (r : Rw) {p j : Nat} (hp : p < rn r) (hj : j < rn (delR r p)) : ∃ i, i < rn r ∧ ¬ i = p ∧ rs (delR r p) j = rs r i := by
  have hj : j < rn r - 1 := hj
  rw [rs_del]
  by_cases c : j < p
  · exact ⟨j, by omega, by omega, by rw [if_pos c]⟩
  · exact ⟨j + 1, by omega, by omega, by rw [if_neg c]⟩
theorem ins_cases (r : Rw) {p : Nat} (hp : p ≤ rn r) (s : Int × Int × List Nat) {j : Nat} (hj : j < rn (insR r p s)) : rs (insR r p s) j = s ∨ ∃ i, i < rn r ∧ rs (insR r p s) j = rs r i := by
  have hj : j < rn r + 1 := hj
  rw [rs_ins]
  by_cases c : j < p
  · exact Or.inr ⟨j, by omega, by rw [if_pos c]⟩
  · by_cases d : j = p
    · exact Or.inl (by rw [if_neg c, if_pos d])
    · exact Or.inr ⟨j - 1, by omega, by rw [if_neg c, if_neg d]⟩
/-- a row that may stand in a tier -/
def RowOk (k : Bk) (t : Nat) (r : Rw) : Prop := GRow r ∧ SRow r ∧ ∀ i, i < rn r → Hst k (ban k) t (rs r i).1 (rs r i).2.1
theorem OKB.row {k : Bk} (h : OKB k) {t : Nat} (ht : t < bn k) : RowOk k t (brw k (ban k) t) := ⟨(h.1.2.2.2.2 t ht).2.2.2.2.2 _ h.1.2.1, h.2.2.1 _ _ h.1.2.1 ht, fun i hi => orp_iff.mp (h.2.2.2 _ _ h.1.2.1 ht) i hi⟩
theorem RowOk.del {k : Bk} {t : Nat} {r : Rw} (h : RowOk k t r) {p : Nat} (hp : p < rn r) : RowOk k t (delR r p) := by
  refine ⟨h.1.del, h.2.1.del hp, fun i hi => ?_⟩
  obtain ⟨j, hj, -, e⟩ := del_old r hp hi
  rw [e]; exact h.2.2 j hj
theorem RowOk.ins {k : Bk} {t : Nat} {r : Rw} (h : RowOk k t r) (hn : rn r ≤ 30) {p : Nat} {f e : Int} {l : List Nat} (hp : InsAt r p f) (hf : 0 ≤ f ∧ f ≤ 1000) (he : 0 ≤ e ∧ e ≤ 1000) (hfe : f < e) (hl : VL l) (hm : ∀ j, j < rn r → ¬ (rf r j < e ∧ f < re r j)) (hh : Hst k (ban k) t f e) : RowOk k t (insR r p (f, e, l)) := by
  refine ⟨h.1.ins hn hp.1 hf he hl, h.2.1.ins hp hfe hm l, fun i hi => ?_⟩
  rcases ins_cases r hp.1 (f, e, l) hi with e | ⟨j, hj, e⟩
  · rw [e]; exact hh
  · rw [e]; exact h.2.2 j hj
theorem RowOk.sR {k : Bk} {t : Nat} {r : Rw} (h : RowOk k t r) {s : Nat} {f e : Int} (hs : s < rn r) (hf : 0 ≤ f ∧ f ≤ 1000) (he : 0 ≤ e ∧ e ≤ 1000) (hfe : f < e) (h1 : 0 < s → re r (s - 1) ≤ f) (h2 : s + 1 < rn r → e ≤ rf r (s + 1)) (hh : Hst k (ban k) t f e) : RowOk k t (setR r s f e) := by
  refine ⟨h.1.sR hf he, h.2.1.sR hs hfe h1 h2, fun i hi => ?_⟩
  have hi : i < rn r := hi
  rw [rs_setR]
  split
  · exact hh
  · exact h.2.2 i hi
theorem mvR_ok {k : Bk} (h : OKB k) {t i : Nat} (ht : t < bn k) (hi : i < rn (brw k (ban k) t)) {f e : Int} (ho : (tryR k t i f e).1 = 0) : InsAt (delR (brw k (ban k) t) i) (insP (delR (brw k (ban k) t) i) f) f ∧ RowOk k t (mvR (brw k (ban k) t) i f e) := by
  obtain ⟨h3, h4, h5⟩ := tryR_ok ho
  have hr := h.row ht
  have h30 := h.2.1 _ _ h.1.2.1 ht
  have hd := hr.del hi
  have hp := insP_is hd.2.1 f
  refine ⟨hp, hd.ins (by show rn (brw k (ban k) t) - 1 ≤ 30; omega) hp (by omega) (by omega) h3.2.2 (hr.1.2 i hi).2.2.2.2 (fun j hj => ?_) h5⟩
  obtain ⟨j', h1, h2, e'⟩ := del_old _ hi hj
  have e1 : rf (delR (brw k (ban k) t) i) j = rf (brw k (ban k) t) j' := congrArg (fun s : Int × Int × List Nat => s.1) e'
  have e2 : re (delR (brw k (ban k) t) i) j = re (brw k (ban k) t) j' := congrArg (fun s : Int × Int × List Nat => s.2.1) e'
  have := met_iff.mp (h4 j' h1)
  rw [e1, e2]
  exact fun a => this ⟨by omega, a⟩
theorem cutR_at {k : Bk} (h : OKB k) {t i : Nat} (ht : t < bn k) (hi : i < rn (brw k (ban k) t)) {g : Int} (h1 : rf (brw k (ban k) t) i < g) (h2 : g < re (brw k (ban k) t) i) : InsAt (setR (brw k (ban k) t) i (rf (brw k (ban k) t) i) g) (i + 1) g := by
  have hs := (h.row ht).2.1
  refine ⟨by show i + 1 ≤ rn (brw k (ban k) t); omega, fun _ => ?_, fun j j1 j2 => ?_⟩
  · rw [Nat.add_sub_cancel]
    show (if i = i then _ else _) ≤ g
    rw [if_pos rfl]; omega
  · have j2 : j < rn (brw k (ban k) t) := j2
    show g < (if j = i then _ else _)
    rw [if_neg (by omega)]
    have := hs.lt (show i < j by omega) j2
    omega
theorem cutR_ok {k : Bk} (h : OKB k) {t i : Nat} (ht : t < bn k) (hi : i < rn (brw k (ban k) t)) {g : Int} (h1 : rf (brw k (ban k) t) i < g) (h2 : g < re (brw k (ban k) t) i) (h3 : Hst k (ban k) t (rf (brw k (ban k) t) i) g) (h4 : Hst k (ban k) t g (re (brw k (ban k) t) i)) :
    RowOk k t (setR (brw k (ban k) t) i (rf (brw k (ban k) t) i) g) ∧ RowOk k t (cutR (brw k (ban k) t) i g) := by
  have hr := h.row ht
  have h30 := h.2.1 _ _ h.1.2.1 ht
  have b := hr.1.2 i hi
  have hs := hr.2.1
  have hq : RowOk k t (setR (brw k (ban k) t) i (rf (brw k (ban k) t) i) g) := hr.sR hi (by omega) (by omega) h1 (fun p => by
    have := hs.2 (i - 1) (by omega)
    rw [show i - 1 + 1 = i from by omega] at this
    exact this) (fun p => by have := hs.2 i p; omega) h3
  refine ⟨hq, hq.ins h30 (cutR_at h ht hi h1 h2) (by omega) (by omega) h2 b.2.2.2.2 (fun j hj => ?_) h4⟩
  have hj : j < rn (brw k (ban k) t) := hj
  show ¬ ((if j = i then _ else rf (brw k (ban k) t) j) < _ ∧ g < (if j = i then g else re (brw k (ban k) t) j))
  by_cases c : j = i
  · rw [if_pos c, if_pos c]; omega
  · rw [if_neg c, if_neg c]
    rcases Nat.lt_or_gt_of_ne c with d | d
    · have := hs.lt d hi; omega
    · have := hs.lt d hj; omega
theorem uniR_ok {k : Bk} (h : OKB k) {t i : Nat} (ht : t < bn k) (hi : i + 1 < rn (brw k (ban k) t)) (h3 : Hst k (ban k) t (rf (brw k (ban k) t) i) (re (brw k (ban k) t) (i + 1))) : RowOk k t (uniR (brw k (ban k) t) i) := by
  have hr := h.row ht
  have b := hr.1.2 i (by omega)
  have b2 := hr.1.2 (i + 1) hi
  have hs := hr.2.1
  have s1 := hs.1 i (by omega)
  have s2 := hs.1 (i + 1) hi
  have s3 := hs.2 i hi
  have e0 : rn (uniR (brw k (ban k) t) i) = rn (brw k (ban k) t) - 1 := rfl
  have ers : ∀ j, rs (uniR (brw k (ban k) t) i) j = if j = i then (rf (brw k (ban k) t) i, re (brw k (ban k) t) (i + 1), rl (brw k (ban k) t) i) else if j < i then rs (brw k (ban k) t) j else rs (brw k (ban k) t) (j + 1) := by
    intro j
    unfold uniR
    rw [rs_del, rs_setR, rs_setR]
    by_cases c : j = i
    · rw [if_pos (by omega), if_pos c, if_pos c, c]
    · rw [if_neg c, if_neg c]
      by_cases d : j < i
      · rw [if_pos (by omega), if_pos d]
      · rw [if_neg (by omega), if_neg (by omega), if_neg d]
  refine ⟨GRow.of (by rw [e0]; have := hr.1.1; omega) fun j hj => ?_, SRow.of (fun j hj => ?_) (fun j hj => ?_), fun j hj => ?_⟩
  · rw [e0] at hj
    rw [ers]
    by_cases c : j = i
    · rw [if_pos c]; exact ⟨b.1, b.2.1, b2.2.2.1, b2.2.2.2.1, b.2.2.2.2⟩
    · rw [if_neg c]
      split
      · exact hr.1.rs (by omega)
      · exact hr.1.rs (by omega)
  · rw [e0] at hj
    rw [ers]
    by_cases c : j = i
    · rw [if_pos c]; show rf _ i < re _ (i + 1); omega
    · rw [if_neg c]
      split
      · exact hs.1 j (by omega)
      · exact hs.1 (j + 1) (by omega)
  · rw [e0] at hj
    rw [ers, ers]
    by_cases c : j = i
    · rw [if_pos c, if_neg (by omega), if_neg (by omega), c]
      exact hs.2 (i + 1) (by omega)
    · rw [if_neg c]
      by_cases d : j + 1 = i
      · rw [if_pos (by omega), if_pos d]
        have := hs.2 j (by omega)
        rw [d] at this
        exact this
      · rw [if_neg d]
        by_cases d2 : j < i
        · rw [if_pos d2, if_pos (by omega)]; exact hs.2 j (by omega)
        · rw [if_neg d2, if_neg (by omega)]; exact hs.2 (j + 1) (by omega)
  · rw [e0] at hj
    rw [ers]
    by_cases c : j = i
    · rw [if_pos c]; exact h3
    · rw [if_neg c]
      split
      · exact hr.2.2 j (by omega)
      · exact hr.2.2 (j + 1) (by omega)
theorem brw_same (k : Bk) (x t : Nat) (r : Rw) : brw (bset k x t r) x t = r := by rw [brw_bset, if_pos ⟨rfl, rfl⟩]
theorem delset (r : Rw) (i : Nat) (e : Int) : setR (delR r (i + 1)) i (rf r i) e = delR (setR r i (rf r i) e) (i + 1) := by
  unfold setR delR
  refine Prod.ext rfl (Prod.ext ?_ (Prod.ext ?_ rfl))
  · funext j
    show (if j = i then rf r i else if j < i + 1 then rf r j else rf r (j + 1)) = if j < i + 1 then (if j = i then rf r i else rf r j) else if j + 1 = i then rf r i else rf r (j + 1)
    by_cases c : j = i
    · rw [if_pos c, if_pos (by omega), if_pos c]
    · rw [if_neg c]
      by_cases d : j < i + 1
      · rw [if_pos d, if_pos d, if_neg c]
      · rw [if_neg d, if_neg d, if_neg (by omega)]
  · funext j
    show (if j = i then e else if j < i + 1 then re r j else re r (j + 1)) = if j < i + 1 then (if j = i then e else re r j) else if j + 1 = i then e else re r (j + 1)
    by_cases c : j = i
    · rw [if_pos c, if_pos (by omega), if_pos c]
    · rw [if_neg c]
      by_cases d : j < i + 1
      · rw [if_pos d, if_pos d, if_neg c]
      · rw [if_neg d, if_neg d, if_neg (by omega)]
theorem ber_lims {k : Bk} (h : bn k ≤ 6) (t : Nat) : -1 ≤ ber k t ∧ ber k t ≤ 100 := by
  rcases ber_lim h t with e | e <;> omega
section CHG
variable {F : Fr} {N : Nat} {w : Wd} {z : Nat} {s : St} {k : Bk}
theorem m_stays (h : MSt F w z s) (K : OKB k) {t : Nat} (ht : t < bn k) {r : Rw} (hs : snw s = bset k (ban k) t r) (R : RowOk k t r) (h30 : rn r ≤ 30) (M : MBook (aJ w (z + 2)) k) (hN : 40 ≤ N) :
    (ber (bset k (ban k) t r) t = -1 → fX9_stays F N w z 2 = some (1, w)) ∧
    (¬ ber (bset k (ban k) t r) t = -1 → ∃ w', fX9_stays F N w z 2 = some (0, w') ∧ MSt F w' z (setrf (setnw s k) 4 (ber (bset k (ban k) t r) t)) ∧ Kp (Rg z 26) w w' ∧ gI w' 906 z = 2) := by
  have B : MS F w z (bset k (ban k) t r) := ⟨h.1, hs ▸ h.2.1, K.1.set R.1, K.2.1.set h30⟩
  have e := m_hostlessTier (N := N) B hN
  rw [show fnd (orp (bset k (ban k) t r) (ban (bset k (ban k) t r))) (bn (bset k (ban k) t r)) 0 = ber (bset k (ban k) t r) t from hostless_ber K ht R.2.2] at e
  have hb := ber_lims (k := bset k (ban k) t r) K.1.1 t
  unfold fX9_stays fX9_stays_15
  rw [e]
  simp only [Option.bind_some]
  constructor
  · intro c
    rw [c, if_pos (by decide), m_ref0]
    simp only [Option.bind_some]
    rw [if_pos (by trivial)]
  · intro c
    rw [if_neg (by simp (disch := omega) only [z_0, z_1, z_2, z_3, z_4, z_5, z_6, z_7, z_8, z_9, z_10, z_12, z_13, z_16, z_20, z_24, z_30, z_31, z_32, z_38, z_42, z_44, z_45, z_47, z_48, z_49, z_50, z_57, z_58, z_59, z_60, z_61, z_91, z_97, z_98, z_100, z_108, z_114, z_120, z_122, z_126, z_127, z_128, z_200, z_255, z_961, z_990, z_992, z_998, z_999, z_1000, z_1092, z_1114, z_7798, z_10000, z_1000000, zI_neg, zI_add, zI_sub, zI_mul, zI_lt, zI_le, zI_eq, if_pos, if_neg, if_true, if_false, Option.bind_some, bnd, ldI_is, ldJ_is, Int.toNat_natCast,  Int.not_lt]; omega), show fX9_isRefused F N w z 4 (zI (ber (bset k (ban k) t r) t)) = _ from m_refp (a := 4) (by omega)]
    simp only [Option.bind_some]
    rw [if_neg (by decide)]
    have h2 := h.fref (a := 4) (b := ber (bset k (ban k) t r) t)
    obtain ⟨g, e2, e3⟩ := m_putBack (N := N) (w := rfw w z 4 (ber (bset k (ban k) t r) t)) h2.1 M K.1 K.2.1
    rw [e2]
    exact ⟨_, rfl, (h2.setnow e3).thr 2, ((kp_rfw _ _ _ _).trans (kp_now _ _ _)).trans (kp_thr _ _ _), gI_same _ _ _ _⟩
theorem m_move (h : MSt F w z s) (V : VSt s) (hN : 40 ≤ N) {t i f e : Int} (ht : I32 t) (hi : I32 i) (hf : I32 f) (he : I32 e) : Ev (fX9_moveSpan F N w z (zI t) (zI i) (zI f) (zI e)) (MO F z w (spMove s t i f e)) := by
  have B := h.ms V
  unfold fX9_moveSpan spMove
  refine ev_eq (m_isSpan B ht hi) ?_
  by_cases c : 0 ≤ t ∧ t < bn (snw s) ∧ 0 ≤ i ∧ i < rn (brw (snw s) (ban (snw s)) t.toNat)
  · rw [if_pos c, if_pos c]
    refine ev_neg (by decide) ?_
    obtain ⟨t', rfl⟩ := Int.eq_ofNat_of_zero_le c.1
    obtain ⟨i', rfl⟩ := Int.eq_ofNat_of_zero_le c.2.2.1
    have hb : t' < bn (snw s) := by omega
    have hi' : i' < rn (brw (snw s) (ban (snw s)) t') := by have := c.2.2.2; rw [Int.toNat_natCast] at this; omega
    have hn := B.g.1
    have hx := B.g.2.1
    have h30 := B.lim hx hb
    rw [Int.toNat_natCast, Int.toNat_natCast]
    refine ev_eq (m_areRefused B hN hb (by omega) hf he) ?_
    unfold fX9_moveSpan_31
    by_cases d : (tryR (snw s) t' i' f e).1 = 0
    · rw [if_pos d, if_pos d]
      refine ev_pos (by rfl) (ev_bnd (ev_pos (by rw [gI_same]; decide) ?_))
      have h1 : MSt F (sI w 906 z 0) z s := h.thr 0
      obtain ⟨g2, k1, k2, k3, k4⟩ := h1.keepS (N := N) V
      have B2 : MS F (sAJ (sI w 906 z 0) (z + 2) g2) z (snw s) := ⟨k2.1, k2.2.1, V.1.1, V.1.2.1⟩
      refine ev_eq k1 (ev_eq (m_label B2 hb hi') ?_)
      obtain ⟨g3, a1, a2⟩ := m_takeOut (N := N) B2 hb hi'
      refine ev_eq a1 ?_
      have k5 := k2.setnow a2
      obtain ⟨hip, R⟩ := mvR_ok V.1 hb hi' d
      obtain ⟨q3, q4, q5⟩ := tryR_ok d
      have R1 := (V.1.row hb).del hi'
      have e30 : rn (delR (brw (snw s) (ban (snw s)) t') i') = rn (brw (snw s) (ban (snw s)) t') - 1 := rfl
      have B3 : MS F (sAJ (sAJ (sI w 906 z 0) (z + 2) g2) (z + 1) g3) z (bset (snw s) (ban (snw s)) t' (delR (brw (snw s) (ban (snw s)) t') i')) := ⟨k5.1, k5.2.1, V.1.1.set R1.1, V.1.2.1.set (by omega)⟩
      have es := brw_same (snw s) (ban (snw s)) t' (delR (brw (snw s) (ban (snw s)) t') i')
      obtain ⟨p, g4, b1, b2, b3⟩ := m_putIn B3 hN (t := t') hb (by
        show rn (brw (bset (snw s) (ban (snw s)) t' (delR (brw (snw s) (ban (snw s)) t') i')) (ban (snw s)) t') ≤ 29
        rw [es]; omega) (f := f) (e := e) (by omega) (by omega) (rl (brw (snw s) (ban (snw s)) t') i') (fun j hj => by
          have hj : j < rn (brw (bset (snw s) (ban (snw s)) t' (delR (brw (snw s) (ban (snw s)) t') i')) (ban (snw s)) t') := hj
          show ¬ rf (brw (bset (snw s) (ban (snw s)) t' (delR (brw (snw s) (ban (snw s)) t') i')) (ban (snw s)) t') j = f
          rw [es] at hj ⊢
          obtain ⟨j', h1, h2, e'⟩ := del_old _ hi' hj
          have e1 : rf (delR (brw (snw s) (ban (snw s)) t') i') j = rf (brw (snw s) (ban (snw s)) t') j' := congrArg (fun s : Int × Int × List Nat => s.1) e'
          have a := met_iff.mp (q4 j' h1)
          have b := (V.1.row hb).2.1.1 j' h1
          rw [e1]
          omega) (fun i j hi hj => by
          have hj : j < rn (brw (bset (snw s) (ban (snw s)) t' (delR (brw (snw s) (ban (snw s)) t') i')) (ban (snw s)) t') := hj
          show rf (brw (bset (snw s) (ban (snw s)) t' (delR (brw (snw s) (ban (snw s)) t') i')) (ban (snw s)) t') i ≤ rf (brw (bset (snw s) (ban (snw s)) t' (delR (brw (snw s) (ban (snw s)) t') i')) (ban (snw s)) t') j
          rw [es] at hj ⊢
          have := R1.2.1.mono hi hj
          omega)
      rw [show brw (bset (snw s) (ban (snw s)) t' (delR (brw (snw s) (ban (snw s)) t') i')) (ban (bset (snw s) (ban (snw s)) t' (delR (brw (snw s) (ban (snw s)) t') i'))) t' = delR (brw (snw s) (ban (snw s)) t') i' from es] at b2 b3
      have ep : p = insP (delR (brw (snw s) (ban (snw s)) t') i') f := b2.uniq hip
      rw [ep] at b1 b3
      rw [show bset (bset (snw s) (ban (snw s)) t' (delR (brw (snw s) (ban (snw s)) t') i')) (ban (bset (snw s) (ban (snw s)) t' (delR (brw (snw s) (ban (snw s)) t') i'))) t' (insR (delR (brw (snw s) (ban (snw s)) t') i') (insP (delR (brw (snw s) (ban (snw s)) t') i') f) (f, e, rl (brw (snw s) (ban (snw s)) t') i')) = bset (snw s) (ban (snw s)) t' (mvR (brw (snw s) (ban (snw s)) t') i' f e) from bset_bset _ _ _ _ _] at b3
      refine ev_eq b1 ?_
      have k6 := k5.setnow b3
      have M : MBook (aJ (sAJ (sAJ (sAJ (sI w 906 z 0) (z + 2) g2) (z + 1) g3) (z + 1) g4) (z + 2)) (snw s) := by
        rw [q_aJ_sAJ, if_neg (by omega), q_aJ_sAJ, if_neg (by omega)]; exact k3
      obtain ⟨s1, s2⟩ := m_stays k6 V.1 hb rfl R (by show rn (brw (snw s) (ban (snw s)) t') - 1 + 1 ≤ 30; omega) M hN
      have kk : Kp (Rg z 26) w (sAJ (sAJ (sAJ (sI w 906 z 0) (z + 2) g2) (z + 1) g3) (z + 1) g4) := (((kp_thr _ _ _).trans k4).trans (kp_now _ _ _)).trans (kp_now _ _ _)
      by_cases q : ber (bset (snw s) (ban (snw s)) t' (mvR (brw (snw s) (ban (snw s)) t') i' f e)) t' = -1
      · rw [if_pos q]
        refine ev_eq (s1 q) (ev_neg (show ¬ (1 : Int32) = 0 by decide) ?_)
        obtain ⟨w4, c1, c2, c3, c4⟩ := k6.change (N := N) M V.1.1 V.1.2.1 V.past V.2.2.2.1
        exact ev_eq c1 (ev_some ⟨c4.trans (gI_same _ _ _ _), fun _ => rfl, c2, kk.trans c3⟩)
      · rw [if_neg q]
        obtain ⟨w4, c1, c2, c3, c4⟩ := s2 q
        exact ev_eq c1 (ev_pos rfl (ev_some ⟨c4, fun x => absurd x (show ¬ (2 : Int) = 0 by decide), c2, kk.trans c3⟩))
    · rw [if_neg d, if_neg d]
      exact ev_neg (show ¬ (1 : Int32) = 0 by decide) (ev_bnd (ev_neg (by rw [gI_same]; decide) (ev_some ⟨gI_same _ _ _ _, fun x => absurd x (show ¬ (2 : Int) = 0 by decide), (h.fref).thr _, (kp_rfw _ _ _ _).trans (kp_thr _ _ _)⟩)))
  · rw [if_neg c, if_neg c]
    refine ev_pos (by rfl) ?_
    unfold fX9_moveSpan_31
    exact ev_bnd (ev_neg (by rw [gI_same]; decide) (ev_some (mo_err h (by omega) rfl)))
end CHG
