/-! what lies where; the start -/
def kdB (o : Nat) : Nat := if o = 0 then 1 else if o < 4 then 11 else if o = 4 then 15 else if (o - 5) % 4 = 0 then 7 else if (o - 5) % 4 = 3 then 12 else 11
def lnB (o : Nat) : Nat := if o < 4 then 6 else if o = 4 then 12 else 31
def kdP (o : Nat) : Nat := if o = 0 then 5 else if o = 3 then 12 else if o = 4 then 13 else if o = 6 then 7 else if o = 9 then 12 else 11
def lnP (o : Nat) : Nat := if o < 5 then 4 else if o = 5 then 120 else 31
def kdR : List Nat := [9, 12, 12, 12, 12, 11, 11, 11, 11, 11, 12, 13, 11, 12, 13, 11, 11, 11, 11, 12, 11, 12, 11, 11, 11, 12]
def lnR : List Nat := [0, 1114, 1114, 1114, 8912, 100, 961, 961, 4, 4, 4, 4, 4, 4, 4, 4, 4, 60, 60, 60, 60, 2000, 100, 100, 100, 100]
def kd (o : Nat) : Nat := if o = 0 then 8 else if o < 172 then kdB ((o - 1) % 57) else if o = 172 then 2 else if o = 173 then 14 else if o < 630 then kdB ((o - 174) % 57) else if o = 630 then 3 else if o = 631 then 10 else if o = 632 then 6 else if o = 633 then 0 else if o < 636 then 11 else if o = 636 then 4 else if o < 640 then 11 else if o = 640 then 12 else if o < 651 then kdP (o - 641) else if o < 661 then kdP (o - 651) else if o < 687 then kdR.getD (o - 661) 0 else if o = 687 then 12 else 16
def ln (o : Nat) : Nat := if o < 172 then lnB ((o - 1) % 57) else if o = 173 then 8 else if o < 630 then lnB ((o - 174) % 57) else if o = 631 then 100 else if o = 634 then 961 else if o = 635 then 30 else if o < 641 then 60 else if o < 651 then lnP (o - 641) else if o < 661 then lnP (o - 651) else if o < 687 then lnR.getD (o - 661) 0 else 1
abbrev F0L : Fr := (kd, ln, 0, 0, true)
abbrev FH (h H : Nat) (b : Bool) : Fr := (fun q => kd (q - h), fun q => ln (q - h), h, H, b)
theorem lay_bk : ∀ b ∈ ([1, 58, 115, 174, 231, 288, 345, 402, 459, 516, 573] : List Nat), KBk F0L b := by
  unfold KBk KRow KA
  decide +kernel
theorem lay_pt : ∀ b ∈ ([641, 651] : List Nat), KPt F0L b := by
  unfold KPt KRow KA
  decide +kernel
theorem lay_rest : (kd 172 = 2 ∧ KA F0L 173 14 8) ∧ (kd 630 = 3 ∧ KA F0L 631 10 100) ∧ kd 632 = 6 ∧ (kd 633 = 0 ∧ KA F0L 634 11 961 ∧ KA F0L 635 11 30) ∧ (kd 636 = 4 ∧ KA F0L 637 11 60 ∧ KA F0L 638 11 60 ∧ KA F0L 639 11 60 ∧ KA F0L 640 12 60) ∧ (kd 0 = 8 ∧ kd 661 = 9) ∧ KA F0L 687 12 1 ∧ KA F0L 688 16 1 := by
  unfold KA
  decide +kernel
theorem lay_ref : KX9 F0L 661 := by
  unfold KX9 KA
  decide +kernel
theorem fh_1 (h H : Nat) (b : Bool) (o : Nat) : (FH h H b).1 (h + o) = kd o := by
  show kd (h + o - h) = kd o
  rw [Nat.add_sub_cancel_left]
theorem fh_2 (h H : Nat) (b : Bool) (o : Nat) : (FH h H b).2.1 (h + o) = ln o := by
  show ln (h + o - h) = ln o
  rw [Nat.add_sub_cancel_left]
theorem sh_A {h H : Nat} {b : Bool} {a k n : Nat} (r : KA F0L a k n) : KA (FH h H b) (h + a) k n := ⟨(fh_1 h H b a).trans r.1, (fh_2 h H b a).trans r.2⟩
theorem sh_row {h H : Nat} {b : Bool} {a : Nat} (r : KRow F0L a) : KRow (FH h H b) (h + a) := ⟨(fh_1 h H b a).trans r.1, sh_A r.2.1, sh_A r.2.2.1, sh_A r.2.2.2⟩
theorem sh_bk {h H : Nat} {b : Bool} {a : Nat} (r : KBk F0L a) : KBk (FH h H b) (h + a) := by
  refine ⟨(fh_1 h H b a).trans r.1, sh_A r.2.1, sh_A r.2.2.1, sh_A r.2.2.2.1, sh_A r.2.2.2.2.1, fun i hi => ?_⟩
  rw [show h + a + 5 + 4 * i = h + (a + 5 + 4 * i) from by omega]
  exact sh_row (r.2.2.2.2.2 i hi)
theorem sh_pt {h H : Nat} {b : Bool} {a : Nat} (r : KPt F0L a) : KPt (FH h H b) (h + a) :=
  ⟨(fh_1 h H b a).trans r.1, sh_A r.2.1, sh_A r.2.2.1, sh_A r.2.2.2.1, sh_A r.2.2.2.2.1, sh_A r.2.2.2.2.2.1, sh_row r.2.2.2.2.2.2⟩
theorem kx8_is (h H : Nat) (b : Bool) : KX8 (FH h H b) h := by
  have r := lay_rest
  refine ⟨⟨sh_bk (lay_bk 1 (by decide)), sh_bk (lay_bk 58 (by decide)), sh_bk (lay_bk 115 (by decide)), (fh_1 h H b 172).trans r.1.1, sh_A r.1.2, fun i hi => ?_⟩, ⟨(fh_1 h H b 630).trans r.2.1.1, sh_A r.2.1.2⟩, (fh_1 h H b 632).trans r.2.2.1, ⟨(fh_1 h H b 633).trans r.2.2.2.1.1, sh_A r.2.2.2.1.2.1, sh_A r.2.2.2.1.2.2⟩, ⟨(fh_1 h H b 636).trans r.2.2.2.2.1.1, sh_A r.2.2.2.2.1.2.1, sh_A r.2.2.2.2.1.2.2.1, sh_A r.2.2.2.2.1.2.2.2.1, sh_A r.2.2.2.2.1.2.2.2.2⟩, sh_pt (lay_pt 641 (by decide)), sh_pt (lay_pt 651 (by decide))⟩
  have e : ∀ i, i < 8 → 174 + 57 * i ∈ ([1, 58, 115, 174, 231, 288, 345, 402, 459, 516, 573] : List Nat) := by decide
  have g := lay_bk _ (e i hi)
  rw [show h + 172 + 2 + 57 * i = h + (174 + 57 * i) from by omega]
  exact sh_bk g
theorem kx9_is (h H : Nat) (b : Bool) : KX9 (FH h H b) (h + 661) :=
  have r := lay_ref
  ⟨sh_A r.1, sh_A r.2.1, sh_A r.2.2.1, sh_A r.2.2.2.1, sh_A r.2.2.2.2.1, sh_A r.2.2.2.2.2.1, sh_A r.2.2.2.2.2.2.1, sh_A r.2.2.2.2.2.2.2.1, sh_A r.2.2.2.2.2.2.2.2.1, sh_A r.2.2.2.2.2.2.2.2.2.1, sh_A r.2.2.2.2.2.2.2.2.2.2.1, sh_A r.2.2.2.2.2.2.2.2.2.2.2.1, sh_A r.2.2.2.2.2.2.2.2.2.2.2.2.1, sh_A r.2.2.2.2.2.2.2.2.2.2.2.2.2.1, sh_A r.2.2.2.2.2.2.2.2.2.2.2.2.2.2.1, sh_A r.2.2.2.2.2.2.2.2.2.2.2.2.2.2.2.1, sh_A r.2.2.2.2.2.2.2.2.2.2.2.2.2.2.2.2.1, sh_A r.2.2.2.2.2.2.2.2.2.2.2.2.2.2.2.2.2.1, sh_A r.2.2.2.2.2.2.2.2.2.2.2.2.2.2.2.2.2.2.1, sh_A r.2.2.2.2.2.2.2.2.2.2.2.2.2.2.2.2.2.2.2.1, sh_A r.2.2.2.2.2.2.2.2.2.2.2.2.2.2.2.2.2.2.2.2.1, sh_A r.2.2.2.2.2.2.2.2.2.2.2.2.2.2.2.2.2.2.2.2.2.1, sh_A r.2.2.2.2.2.2.2.2.2.2.2.2.2.2.2.2.2.2.2.2.2.2.1, sh_A r.2.2.2.2.2.2.2.2.2.2.2.2.2.2.2.2.2.2.2.2.2.2.2.1, sh_A r.2.2.2.2.2.2.2.2.2.2.2.2.2.2.2.2.2.2.2.2.2.2.2.2⟩
def k00 : Bk := (0, fun _ => 0, fun _ => 0, fun _ => 0, fun _ _ => emR, 0, 50, 20)
def s00 : St := (k00, none, [], (0, fun _ => 0), [], (0, 0), -1, -1)
theorem okb_00 : OKB k00 := okb_reset k00
theorem vst_00 : VSt s00 := by
  refine ⟨okb_00, fun b hb => ?_, fun b hb => ?_, ?_, ⟨?_, fun i hi => ?_⟩, ⟨?_, fun e he => ?_⟩, ⟨⟨?_, ?_⟩, ?_, ?_⟩, ⟨?_, ?_⟩, ?_, ?_⟩
  · cases hb
  · cases hb
  · decide
  · decide
  · exact absurd hi (Nat.not_lt_zero _)
  · decide
  · cases he
  all_goals decide
section START
variable {F : Fr} {N L : Nat} {xs : Nat → Int32} {w : Wd} {b z h : Nat}
theorem nb_is (n : NB w b) (K : KBk F b) (h1 : F.2.2.1 ≤ b) (h2 : b + 57 ≤ F.2.2.2.1) : CBook F w b k00 := by
  refine ⟨K.l h1 h2, n.1, ⟨n.2.1, n.2.2.1, n.2.2.2.1, n.2.2.2.2, fun t ht => absurd ht (Nat.not_lt_zero _)⟩, okb_00.1⟩
theorem np_is (n : NP w z) (K : KPt F z) (h1 : F.2.2.1 ≤ z) (h2 : z + 10 ≤ F.2.2.2.1) : CPat F w z ∧ DPat w z [] := by
  obtain ⟨k1, k2, k3, k4, k5, k6, k7⟩ := K
  refine ⟨⟨⟨⟨h1, by omega, k1⟩, ⟨by omega, by omega, k2.1⟩, ⟨by omega, by omega, k3.1⟩, ⟨by omega, by omega, k4.1⟩, ⟨by omega, by omega, k5.1⟩, ⟨by omega, by omega, k6.1⟩⟩, ⟨k2.2, k3.2, k4.2, k5.2, k6.2⟩, n.1, k7.l (by omega) (by omega), n.2.2.1, ⟨n.2.2.2, fun i hi => absurd hi (Nat.not_lt_zero _)⟩, ⟨by decide, fun i hi => absurd hi (Nat.not_lt_zero _)⟩⟩, n.2.1, fun i e he => ?_⟩
  cases he
theorem cst_00 (n : New8 w h) (K : KX8 F h) (h1 : F.2.2.1 ≤ h) (h2 : h + 661 ≤ F.2.2.2.1) : CSt F w h s00 := by
  obtain ⟨⟨K1, K2, K3, K4⟩, K5, K6, K7, K8, K9, K10⟩ := K
  obtain ⟨n1, n2, n3, n4, n5, n6, n7, n8, n9, n10, n11, n12⟩ := n
  refine ⟨h + 641, h + 651, Or.inl ⟨rfl, rfl⟩, ⟨n1, n2⟩, nb_is n3 K1 (by omega) (by omega), ⟨K2.l (by omega) (by omega), n4.1⟩, ⟨K3.l (by omega) (by omega), n5.1, fun b hb => ?_⟩, ?_, ?_, ⟨⟨by omega, by omega, K6⟩, n8⟩, ?_, ?_, np_is n11 K9 (by omega) (by omega), (np_is n12 K10 (by omega) (by omega)).1⟩
  · cases hb
  · refine ⟨⟨by omega, by omega, K4.1⟩, ⟨by omega, by omega, K4.2.1.1⟩, K4.2.1.2, n6.1, fun i hi => ?_, n6.2.2.1, by decide, 0, by decide, n6.2.1, fun j k hj => ?_⟩
    · exact ⟨(n6.2.2.2 i hi).1, (K4.2.2 i hi).l (by omega) (by omega), (n6.2.2.2 i hi).2⟩
    · cases hj
  · exact ⟨⟨by omega, by omega, K5.1⟩, ⟨by omega, by omega, K5.2.1⟩, K5.2.2, n7.1, n7.2, fun i hi => absurd hi (Nat.not_lt_zero _), by decide, fun i hi => absurd hi (Nat.not_lt_zero _)⟩
  · exact ⟨⟨by omega, by omega, K7.1⟩, ⟨by omega, by omega, K7.2.1.1⟩, ⟨by omega, by omega, K7.2.2.1⟩, K7.2.1.2, K7.2.2.2, n9.1, n9.2⟩
  · exact ⟨⟨by omega, by omega, K8.1⟩, ⟨⟨by omega, by omega, K8.2.1.1⟩, ⟨by omega, by omega, K8.2.2.1.1⟩, ⟨by omega, by omega, K8.2.2.2.1.1⟩, ⟨by omega, by omega, K8.2.2.2.2.1⟩⟩, ⟨K8.2.1.2, K8.2.2.1.2, K8.2.2.2.1.2, K8.2.2.2.2.2⟩, n10⟩
theorem mst_00 (n : N9 w z) (K : KX9 F z) (h1 : F.2.2.1 ≤ z) (h2 : z + 26 ≤ F.2.2.2.1) (hg : ∀ j, j < 1114 → aJ w (z + 1) j = if j = 2 then 50 else if j = 3 then 20 else 0) (hi : ∀ f, KF f → gI w f z = if f = 911 ∨ f = 946 then -1 else 0) : MSt F w z s00 := by
  refine ⟨cmod_of n K h1 h2, ⟨⟨?_, ?_, ?_, ?_, fun t ht => absurd ht (Nat.not_lt_zero _)⟩, fun x t hx ht => absurd ht (Nat.not_lt_zero _), fun x t hx h0 h6 => ?_⟩, ⟨?_, fun b hb => ?_⟩, ⟨?_, fun j b hb => ?_⟩, ⟨?_, fun i hi => absurd hi (Nat.not_lt_zero _)⟩, ⟨?_, fun i e he => ?_⟩, ?_, ?_, ?_, ?_⟩
  · exact hg 0 (by omega)
  · exact hg 1 (by omega)
  · exact hg 2 (by omega)
  · exact hg 3 (by omega)
  · have m := mo_lim hx h6
    rw [hg _ (by omega), if_neg (by unfold mo; omega), if_neg (by unfold mo; omega)]
    rfl
  · exact hi 903 (by unfold KF; omega)
  · cases hb
  · exact hi 905 (by unfold KF; omega)
  · cases hb
  · exact hi 908 (by unfold KF; omega)
  · exact hi 916 (by unfold KF; omega)
  · cases he
  · exact hi 912 (by unfold KF; omega)
  · exact hi 913 (by unfold KF; omega)
  · exact hi 911 (by unfold KF; omega)
  · exact hi 946 (by unfold KF; omega)
end START
def w00 : Wd := (fun _ _ => 0, fun _ _ => 0, fun _ _ => none, fun _ _ => 0, fun _ _ => 0, fun _ _ => none, fun _ _ => 0)
