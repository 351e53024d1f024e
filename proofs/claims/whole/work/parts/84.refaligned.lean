/-! the reference tells its alignment -/
def spAligned (s : St) (t o i : Int) : Rs :=
  if (0 ≤ o ∧ o < bn (snw s)) ∧ 0 ≤ t ∧ t < bn (snw s) ∧ 0 ≤ i ∧ i < rn (brw (snw s) (ban (snw s)) t.toNat) then (0, zI (prtI (brw (snw s) (ban (snw s)) t.toNat) (brw (snw s) (ban (snw s)) o.toNat) (bwi (snw s)) i.toNat), s) else (1, 0, s)
def spAlignment (s : St) (t o : Int) (b : Bool) : Rs :=
  if (0 ≤ t ∧ t < bn (snw s)) ∧ 0 ≤ o ∧ o < bn (snw s) then (0, (if b = true then zI (sumN (prS (brw (snw s) (ban (snw s)) t.toNat) (brw (snw s) (ban (snw s)) o.toNat) (bwi (snw s))) (rn (brw (snw s) (ban (snw s)) t.toNat))) else zI (sumN (dsS (brw (snw s) (ban (snw s)) t.toNat) (brw (snw s) (ban (snw s)) o.toNat) (bwi (snw s))) (rn (brw (snw s) (ban (snw s)) t.toNat)))), s) else (1, 0, s)
def TabA (w : Wd) (z : Nat) (r q : Rw) (W : Int) : Prop := ∀ i' j', i' ≤ rn r → j' ≤ rn q → AT w z i' j' (bst r q W (rn r - i') (rn q - j')) (rn r - i')
section ALI
variable {F : Fr} {N : Nat} {w : Wd} {z : Nat} {s : St} {k : Bk}
theorem best_arith {v v' p s p' s2 d : Int} {m m' : Nat} (R : Rep v p s m) (R' : Rep v' p' s2 m') (hd : 0 ≤ d ∧ d ≤ 200) : 10000 - d + v' = v ↔ (p' + 1 = p ∧ s2 + d = s) := by
  unfold Rep at R R'
  omega
theorem m_best_tail {p s p' s2 d : Int} (A : CMod F w z) {c c' : Nat} (hc : c < 961) (hc' : c' < 961) (hp : 0 ≤ p ∧ p ≤ 30) (hp' : 0 ≤ p' ∧ p' ≤ 30) (hs : 0 ≤ s ∧ s ≤ 6000) (hs2 : 0 ≤ s2 ∧ s2 ≤ 6000) (hd : 0 ≤ d ∧ d ≤ 2000) (h6 : aI w (z + 6) c = zI p) (h7 : aI w (z + 7) c = zI s) (h6' : aI w (z + 6) c' = zI p') (h7' : aI w (z + 7) c' = zI s2) :
    ((rdR F w 914 z 11).bind fun r6 => (ldI F w r6 (zI (c' : Nat))).bind fun x7 => (rdR F w 914 z 11).bind fun r8 => (ldI F w r8 (zI (c : Nat))).bind fun x9 => if (x7 + 1) = x9 then (rdR F w 915 z 11).bind fun r11 => (ldI F w r11 (zI (c' : Nat))).bind fun x12 => (rdR F w 915 z 11).bind fun r13 => (ldI F w r13 (zI (c : Nat))).bind fun x14 => if (x12 + zI d) = x14 then some 1 else some 0 else some (0 : Int32)) = some (if p' + 1 = p ∧ s2 + d = s then 1 else 0) := by
  rw [rdR_is A.p914.1 A.p914.2.1]
  simp only [Option.bind_some]
  rw [ldI_is (by omega) (by rw [A.p914.2.2]; omega) (by omega), ldI_is (by omega) (by rw [A.p914.2.2]; omega) (by omega), Int.toNat_natCast, Int.toNat_natCast, h6, h6']
  simp only [Option.bind_some]
  rw [show zI p' + 1 = zI (p' + 1) from zI_add p' 1]
  by_cases c2 : p' + 1 = p
  · rw [if_pos (by rw [c2]), rdR_is A.p915.1 A.p915.2.1]
    simp only [Option.bind_some]
    rw [ldI_is (by omega) (by rw [A.p915.2.2]; omega) (by omega), ldI_is (by omega) (by rw [A.p915.2.2]; omega) (by omega), Int.toNat_natCast, Int.toNat_natCast, h7, h7']
    simp only [Option.bind_some]
    rw [zI_add]
    by_cases c3 : s2 + d = s
    · rw [if_pos (by rw [c3]), if_pos ⟨c2, c3⟩]
    · rw [if_neg (by simp (disch := omega) only [z_0, z_1, z_2, z_3, z_4, z_5, z_6, z_7, z_8, z_9, z_10, z_12, z_13, z_16, z_20, z_24, z_30, z_31, z_32, z_38, z_42, z_44, z_45, z_47, z_48, z_49, z_50, z_57, z_58, z_59, z_60, z_61, z_91, z_97, z_98, z_100, z_108, z_114, z_120, z_122, z_126, z_127, z_128, z_200, z_255, z_961, z_990, z_992, z_998, z_999, z_1000, z_1092, z_1114, z_7798, z_10000, z_1000000, zI_neg, zI_add, zI_sub, zI_mul, zI_lt, zI_le, zI_eq, if_pos, if_neg, if_true, if_false, Option.bind_some, bnd, ldI_is, ldJ_is, Int.toNat_natCast, ]; exact c3), if_neg (fun x => c3 x.2)]
  · rw [if_neg (by simp (disch := omega) only [z_0, z_1, z_2, z_3, z_4, z_5, z_6, z_7, z_8, z_9, z_10, z_12, z_13, z_16, z_20, z_24, z_30, z_31, z_32, z_38, z_42, z_44, z_45, z_47, z_48, z_49, z_50, z_57, z_58, z_59, z_60, z_61, z_91, z_97, z_98, z_100, z_108, z_114, z_120, z_122, z_126, z_127, z_128, z_200, z_255, z_961, z_990, z_992, z_998, z_999, z_1000, z_1092, z_1114, z_7798, z_10000, z_1000000, zI_neg, zI_add, zI_sub, zI_mul, zI_lt, zI_le, zI_eq, if_pos, if_neg, if_true, if_false, Option.bind_some, bnd, ldI_is, ldJ_is, Int.toNat_natCast, ]; exact c2), if_neg (fun x => c2 x.1)]
theorem Rep.lims {v p s : Int} {m : Nat} (R : Rep v p s m) : (0 ≤ p ∧ p ≤ 30) ∧ 0 ≤ s ∧ s ≤ 6000 := by
  unfold Rep at R
  omega
theorem isBest_is (F : Fr) (N : Nat) (w : Wd) (z : Nat) (l1 l2 l3 l4 l5 : Int32) : fX9_isBestPair F N w z l1 l2 l3 l4 l5 = (fX9_distance F N w z l1 l2 l3 l4).bind fun x1 => (fX9_cell F N w (l2 + 1) (l4 + 1)).bind fun x2 => (rdR F w 900 z 12).bind fun r3 => (ldJ F w r3 2).bind fun x4 => if 0 < (lg_cmp x1.toInt64 x4) then some 0 else (rdR F w 914 z 11).bind fun r6 => (ldI F w r6 x2).bind fun x7 => (rdR F w 914 z 11).bind fun r8 => (ldI F w r8 l5).bind fun x9 => if (x7 + 1) = x9 then (rdR F w 915 z 11).bind fun r11 => (ldI F w r11 x2).bind fun x12 => (rdR F w 915 z 11).bind fun r13 => (ldI F w r13 l5).bind fun x14 => if (x12 + x1) = x14 then some 1 else some 0 else some 0 := rfl
theorem m_best (B : MS F w z k) {t o : Nat} (ht : t < bn k) (ho : o < bn k) (T : TabA w z (brw k (ban k) t) (brw k (ban k) o) (bwi k)) {i f j : Nat} (hi : i < rn (brw k (ban k) t)) (hf : f ≤ rn (brw k (ban k) o)) (hj : j < rn (brw k (ban k) o)) : fX9_isBestPair F N w z (zI t) (zI i) (zI o) (zI j) (zI (31 * i + f : Nat)) = some (if chsP (brw k (ban k) t) (brw k (ban k) o) (bwi k) i f j = true then 1 else 0) := by
  have hx := B.g.2.1
  have hW := B.g.2.2.1
  have lr := B.lim hx ht
  have lq := B.lim hx ho
  have dl := dst_lim (B.grow hx ht) (B.grow hx ho) hi hj
  have hwl := wor_lim (brw k (ban k) t) (brw k (ban k) o) hW i j
  have hlg := lg_gt (x := dst (brw k (ban k) t) (brw k (ban k) o) i j) (y := bwi k) (by omega) (by omega) (by omega) (by omega)
  have i1 : 31 * i + f < 961 := by omega
  have i2 : 31 * (i + 1) + (j + 1) < 961 := by omega
  have ew : dst (brw k (ban k) t) (brw k (ban k) o) i j ≤ bwi k → wor (brw k (ban k) t) (brw k (ban k) o) (bwi k) i j = 10000 - dst (brw k (ban k) t) (brw k (ban k) o) i j := fun x => if_pos x
  obtain ⟨p, s', R, h6, h7⟩ := T i f (by omega) hf
  obtain ⟨p', s2, R', h6', h7'⟩ := T (i + 1) (j + 1) (by omega) (by omega)
  obtain ⟨r1, r2⟩ := R.lims
  obtain ⟨r3, r4⟩ := R'.lims
  have ch : chsP (brw k (ban k) t) (brw k (ban k) o) (bwi k) i f j = true ↔ (0 < wor (brw k (ban k) t) (brw k (ban k) o) (bwi k) i j ∧ wor (brw k (ban k) t) (brw k (ban k) o) (bwi k) i j + bst (brw k (ban k) t) (brw k (ban k) o) (bwi k) (rn (brw k (ban k) t) - (i + 1)) (rn (brw k (ban k) o) - (j + 1)) = bst (brw k (ban k) t) (brw k (ban k) o) (bwi k) (rn (brw k (ban k) t) - i) (rn (brw k (ban k) o) - f)) := by
    unfold chsP; rw [decide_eq_true_eq]
  have tail := m_best_tail (F := F) B.1 i1 i2 r1 r3 r2 r4 dl h6 h7 h6' h7'
  have hdi := m_distance (N := N) B ht ho hi hj
  revert tail hdi
  generalize hd5 : dst (brw k (ban k) t) (brw k (ban k) o) i j = dd
  generalize hl5 : zI (31 * i + f : Nat) = l5
  generalize hy : (if chsP (brw k (ban k) t) (brw k (ban k) o) (bwi k) i f j = true then (1 : Int32) else 0) = yy
  intro tail hdi
  rw [isBest_is, hdi, Option.bind_some, zI_succ i, zI_succ j, m_cell, Option.bind_some, B.r, Option.bind_some]
  rw [z_2, B.get (by decide) (by decide), show (2 : Int).toNat = 2 from rfl, B.2.1.1.2.2.1, Option.bind_some]
  rw [hd5] at dl hwl hlg ew
  rw [← hy]
  rw [zI_64 (by clear T R R' ch tail; omega) (by clear T R R' ch tail; omega)]
  by_cases c1 : bwi k < dd
  · rw [if_pos (by rw [hlg]; exact c1), if_neg (fun x => absurd (hwl.2.2.mp (ch.mp x).1) (Int.not_le.mpr c1))]
  · have hd := Int.not_lt.mp c1
    rw [if_neg (by rw [hlg]; exact c1)]
    refine tail.trans (congrArg some ?_)
    have ba := best_arith R R' ⟨dl.1, by clear T R R' ch tail; omega⟩
    rw [← ew hd] at ba
    by_cases y : p' + 1 = p ∧ s2 + dd = s'
    · rw [if_pos y, if_pos (ch.mpr ⟨hwl.2.2.mpr hd, ba.mpr y⟩)]
    · rw [if_neg y, if_neg (fun x => y (ba.mp (ch.mp x).2))]
theorem m_al_58 (B : MS F w z k) {t o : Nat} (ht : t < bn k) (ho : o < bn k) (T : TabA w z (brw k (ban k) t) (brw k (ban k) o) (bwi k)) (hN : 40 ≤ N) {sp : Nat} (hsp : sp < rn (brw k (ban k) t)) : ∀ (m n i : Nat) (v : Int), i + n = sp + 1 → n < m → (0 < i → v = prtI (brw k (ban k) t) (brw k (ban k) o) (bwi k) (i - 1)) →
    fX9_aligned_58 F N m w z (zI t) (zI o) (zI (sp : Nat)) (zI (frI (brw k (ban k) t) (brw k (ban k) o) (bwi k) i : Nat)) (zI v) (zI (i : Nat)) = some (zI (prtI (brw k (ban k) t) (brw k (ban k) o) (bwi k) sp), w) := by
  have hx := B.g.2.1
  have lr := B.lim hx ht
  have lq := B.lim hx ho
  intro m
  induction m with
  | zero => intro n i v _ h; omega
  | succ m ih =>
    intro n i v hi hm hv
    rw [fX9_aligned_58]
    cases n with
    | zero =>
      rw [if_pos (by simp (disch := omega) only [z_0, z_1, z_2, z_3, z_4, z_5, z_6, z_7, z_8, z_9, z_10, z_12, z_13, z_16, z_20, z_24, z_30, z_31, z_32, z_38, z_42, z_44, z_45, z_47, z_48, z_49, z_50, z_57, z_58, z_59, z_60, z_61, z_91, z_97, z_98, z_100, z_108, z_114, z_120, z_122, z_126, z_127, z_128, z_200, z_255, z_961, z_990, z_992, z_998, z_999, z_1000, z_1092, z_1114, z_7798, z_10000, z_1000000, zI_neg, zI_add, zI_sub, zI_mul, zI_lt, zI_le, zI_eq, if_pos, if_neg, if_true, if_false, Option.bind_some, bnd, ldI_is, ldJ_is, Int.toNat_natCast, ]; omega), hv (by omega), show i - 1 = sp from by omega]
    | succ n =>
      have hi2 : i < rn (brw k (ban k) t) := by omega
      have hf := frI_lim (brw k (ban k) t) (brw k (ban k) o) (bwi k) i
      rw [if_neg (by simp (disch := omega) only [z_0, z_1, z_2, z_3, z_4, z_5, z_6, z_7, z_8, z_9, z_10, z_12, z_13, z_16, z_20, z_24, z_30, z_31, z_32, z_38, z_42, z_44, z_45, z_47, z_48, z_49, z_50, z_57, z_58, z_59, z_60, z_61, z_91, z_97, z_98, z_100, z_108, z_114, z_120, z_122, z_126, z_127, z_128, z_200, z_255, z_961, z_990, z_992, z_998, z_999, z_1000, z_1092, z_1114, z_7798, z_10000, z_1000000, zI_neg, zI_add, zI_sub, zI_mul, zI_lt, zI_le, zI_eq, if_pos, if_neg, if_true, if_false, Option.bind_some, bnd, ldI_is, ldJ_is, Int.toNat_natCast,  Int.not_lt]; omega)]
      have hp : prtI (brw k (ban k) t) (brw k (ban k) o) (bwi k) i = fnd (chsP (brw k (ban k) t) (brw k (ban k) o) (bwi k) i (frI (brw k (ban k) t) (brw k (ban k) o) (bwi k) i)) (rn (brw k (ban k) o) - frI (brw k (ban k) t) (brw k (ban k) o) (bwi k) i) (frI (brw k (ban k) t) (brw k (ban k) o) (bwi k) i) := rfl
      have hfr : frI (brw k (ban k) t) (brw k (ban k) o) (bwi k) (i + 1) = if 0 ≤ prtI (brw k (ban k) t) (brw k (ban k) o) (bwi k) i then (prtI (brw k (ban k) t) (brw k (ban k) o) (bwi k) i).toNat + 1 else frI (brw k (ban k) t) (brw k (ban k) o) (bwi k) i := rfl
      have next := ih n (i + 1) (prtI (brw k (ban k) t) (brw k (ban k) o) (bwi k) i) (by omega) (by omega) (fun _ => by rw [Nat.add_sub_cancel])
      rw [hfr] at next
      -- the inner loop
      have inner : ∀ (mm nn j : Nat), j + nn = rn (brw k (ban k) o) → nn < mm → prtI (brw k (ban k) t) (brw k (ban k) o) (bwi k) i = fnd (chsP (brw k (ban k) t) (brw k (ban k) o) (bwi k) i (frI (brw k (ban k) t) (brw k (ban k) o) (bwi k) i)) nn j → fX9_aligned_68 F N (fX9_aligned_58 F N m) mm w z (zI t) (zI o) (zI (sp : Nat)) (zI (frI (brw k (ban k) t) (brw k (ban k) o) (bwi k) i : Nat)) (zI (i : Nat)) (zI (j : Nat)) = some (zI (prtI (brw k (ban k) t) (brw k (ban k) o) (bwi k) sp), w) := by
        intro mm
        induction mm with
        | zero => intro nn j _ h; omega
        | succ mm ihm =>
          intro nn j hj hmm hpe
          rw [fX9_aligned_68, m_many B ho]
          simp only [Option.bind_some]
          unfold fX9_aligned_104 fX9_aligned_120 fX9_aligned_136
          rw [m_many B ho]
          simp only [Option.bind_some]
          cases nn with
          | zero =>
            rw [hpe] at next
            rw [if_pos (by simp (disch := omega) only [z_0, z_1, z_2, z_3, z_4, z_5, z_6, z_7, z_8, z_9, z_10, z_12, z_13, z_16, z_20, z_24, z_30, z_31, z_32, z_38, z_42, z_44, z_45, z_47, z_48, z_49, z_50, z_57, z_58, z_59, z_60, z_61, z_91, z_97, z_98, z_100, z_108, z_114, z_120, z_122, z_126, z_127, z_128, z_200, z_255, z_961, z_990, z_992, z_998, z_999, z_1000, z_1092, z_1114, z_7798, z_10000, z_1000000, zI_neg, zI_add, zI_sub, zI_mul, zI_lt, zI_le, zI_eq, if_pos, if_neg, if_true, if_false, Option.bind_some, bnd, ldI_is, ldJ_is, Int.toNat_natCast, ]; omega), if_pos (by simp (disch := omega) only [z_0, z_1, z_2, z_3, z_4, z_5, z_6, z_7, z_8, z_9, z_10, z_12, z_13, z_16, z_20, z_24, z_30, z_31, z_32, z_38, z_42, z_44, z_45, z_47, z_48, z_49, z_50, z_57, z_58, z_59, z_60, z_61, z_91, z_97, z_98, z_100, z_108, z_114, z_120, z_122, z_126, z_127, z_128, z_200, z_255, z_961, z_990, z_992, z_998, z_999, z_1000, z_1092, z_1114, z_7798, z_10000, z_1000000, zI_neg, zI_add, zI_sub, zI_mul, zI_lt, zI_le, zI_eq, if_pos, if_neg, if_true, if_false, Option.bind_some, bnd, ldI_is, ldJ_is, Int.toNat_natCast, ]; omega), if_neg (by decide), zI_succ i]
            rw [if_neg (show ¬ 0 ≤ fnd (chsP (brw k (ban k) t) (brw k (ban k) o) (bwi k) i (frI (brw k (ban k) t) (brw k (ban k) o) (bwi k) i)) 0 j from by show ¬ (0 : Int) ≤ -1; decide)] at next
            exact next
          | succ nn =>
            have hj2 : j < rn (brw k (ban k) o) := by omega
            rw [if_neg (by simp (disch := omega) only [z_0, z_1, z_2, z_3, z_4, z_5, z_6, z_7, z_8, z_9, z_10, z_12, z_13, z_16, z_20, z_24, z_30, z_31, z_32, z_38, z_42, z_44, z_45, z_47, z_48, z_49, z_50, z_57, z_58, z_59, z_60, z_61, z_91, z_97, z_98, z_100, z_108, z_114, z_120, z_122, z_126, z_127, z_128, z_200, z_255, z_961, z_990, z_992, z_998, z_999, z_1000, z_1092, z_1114, z_7798, z_10000, z_1000000, zI_neg, zI_add, zI_sub, zI_mul, zI_lt, zI_le, zI_eq, if_pos, if_neg, if_true, if_false, Option.bind_some, bnd, ldI_is, ldJ_is, Int.toNat_natCast,  Int.not_le]; omega), m_cell]
            simp only [Option.bind_some]
            rw [m_best B ht ho T hi2 hf hj2]
            simp only [Option.bind_some]
            rw [fnd_succ] at hpe
            by_cases c : chsP (brw k (ban k) t) (brw k (ban k) o) (bwi k) i (frI (brw k (ban k) t) (brw k (ban k) o) (bwi k) i) j = true
            · rw [if_pos c] at hpe
              rw [hpe, if_pos (by omega), Int.toNat_natCast] at next
              rw [if_pos c, if_neg (by decide), if_neg (by simp (disch := omega) only [z_0, z_1, z_2, z_3, z_4, z_5, z_6, z_7, z_8, z_9, z_10, z_12, z_13, z_16, z_20, z_24, z_30, z_31, z_32, z_38, z_42, z_44, z_45, z_47, z_48, z_49, z_50, z_57, z_58, z_59, z_60, z_61, z_91, z_97, z_98, z_100, z_108, z_114, z_120, z_122, z_126, z_127, z_128, z_200, z_255, z_961, z_990, z_992, z_998, z_999, z_1000, z_1092, z_1114, z_7798, z_10000, z_1000000, zI_neg, zI_add, zI_sub, zI_mul, zI_lt, zI_le, zI_eq, if_pos, if_neg, if_true, if_false, Option.bind_some, bnd, ldI_is, ldJ_is, Int.toNat_natCast,  Int.not_le]; omega), if_pos (by simp (disch := omega) only [z_0, z_1, z_2, z_3, z_4, z_5, z_6, z_7, z_8, z_9, z_10, z_12, z_13, z_16, z_20, z_24, z_30, z_31, z_32, z_38, z_42, z_44, z_45, z_47, z_48, z_49, z_50, z_57, z_58, z_59, z_60, z_61, z_91, z_97, z_98, z_100, z_108, z_114, z_120, z_122, z_126, z_127, z_128, z_200, z_255, z_961, z_990, z_992, z_998, z_999, z_1000, z_1092, z_1114, z_7798, z_10000, z_1000000, zI_neg, zI_add, zI_sub, zI_mul, zI_lt, zI_le, zI_eq, if_pos, if_neg, if_true, if_false, Option.bind_some, bnd, ldI_is, ldJ_is, Int.toNat_natCast, ]; omega), zI_succ j, zI_succ i]
              exact next
            · rw [if_neg c] at hpe
              rw [if_neg c, if_pos (by rfl), zI_succ j]
              exact ihm nn (j + 1) (by omega) (by omega) hpe
      exact inner N (rn (brw k (ban k) o) - frI (brw k (ban k) t) (brw k (ban k) o) (bwi k) i) (frI (brw k (ban k) t) (brw k (ban k) o) (bwi k) i) (by omega) (by omega) hp
theorem m_aligned (h : MSt F w z s) (V : VSt s) (hN : 40 ≤ N) {t o i : Int} (ht : I32 t) (ho : I32 o) (hi : I32 i) : Ev (fX9_aligned F N w z (zI t) (zI o) (zI i)) (MO F z w (spAligned s t o i)) := by
  have B := h.ms V
  have er : Ev (fX9_aligned_30 F N w z (zI t) (zI o) (zI i) z) (MO F z w (1, 0, s)) := by
    unfold fX9_aligned_30 fX9_aligned_31
    exact ev_bnd (ev_neg (by rw [gI_same]; decide) (ev_some (mo_err h (by omega) rfl)))
  unfold fX9_aligned spAligned
  refine ev_eq (m_isTier B ht) ?_
  by_cases c1 : 0 ≤ t ∧ t < bn (snw s)
  · rw [if_pos c1]
    refine ev_neg (by decide) (ev_eq (m_isTier B ho) ?_)
    by_cases c2 : 0 ≤ o ∧ o < bn (snw s)
    · rw [if_pos c2]
      refine ev_neg (by decide) (ev_eq (m_isSpan B ht hi) ?_)
      by_cases c3 : 0 ≤ t ∧ t < bn (snw s) ∧ 0 ≤ i ∧ i < rn (brw (snw s) (ban (snw s)) t.toNat)
      · rw [if_pos c3, if_pos (c := (0 ≤ o ∧ o < bn (snw s)) ∧ 0 ≤ t ∧ t < bn (snw s) ∧ 0 ≤ i ∧ i < rn (brw (snw s) (ban (snw s)) t.toNat)) ⟨c2, c3⟩]
        refine ev_neg (by decide) ?_
        obtain ⟨t', rfl⟩ := Int.eq_ofNat_of_zero_le c1.1
        obtain ⟨o', rfl⟩ := Int.eq_ofNat_of_zero_le c2.1
        obtain ⟨i', rfl⟩ := Int.eq_ofNat_of_zero_le c3.2.2.1
        have hb : t' < bn (snw s) := by omega
        have hb2 : o' < bn (snw s) := by omega
        have hi' : i' < rn (brw (snw s) (ban (snw s)) t') := by have := c3.2.2.2; rw [Int.toNat_natCast] at this; omega
        have l30 := B.lim B.g.2.1 hb
        rw [Int.toNat_natCast, Int.toNat_natCast, Int.toNat_natCast]
        unfold fX9_aligned_31
        have h1 := h.thr 0
        have B1 : MS F (sI w 906 z 0) z (snw s) := B
        obtain ⟨w', r1, r2, r3, r4, r5⟩ := m_align (N := N) B1 hN hb hb2
        have e := m_al_58 (N := N) r2 hb hb2 r5 hN hi' N (i' + 1) 0 (-1) (by omega) (by omega) (fun x => absurd x (Nat.lt_irrefl _))
        exact ev_bnd (ev_pos (by rw [gI_same]; decide) (ev_eq r1 ⟨_, e, r4.trans (gI_same _ _ _ _), fun _ => rfl, h1.sc r3, (kp_thr _ _ _).trans r3.2.2.2.2⟩))
      · rw [if_neg c3, if_neg (c := (0 ≤ o ∧ o < bn (snw s)) ∧ 0 ≤ t ∧ t < bn (snw s) ∧ 0 ≤ i ∧ i < rn (brw (snw s) (ban (snw s)) t.toNat)) (fun x => c3 x.2)]
        exact ev_pos (by rfl) er
    · rw [if_neg c2, if_neg (c := (0 ≤ o ∧ o < bn (snw s)) ∧ 0 ≤ t ∧ t < bn (snw s) ∧ 0 ≤ i ∧ i < rn (brw (snw s) (ban (snw s)) t.toNat)) (fun x => c2 x.1)]
      exact ev_pos (by rfl) er
  · rw [if_neg c1, if_neg (c := (0 ≤ o ∧ o < bn (snw s)) ∧ 0 ≤ t ∧ t < bn (snw s) ∧ 0 ≤ i ∧ i < rn (brw (snw s) (ban (snw s)) t.toNat)) (fun x => c1 ⟨x.2.1, x.2.2.1⟩)]
    exact ev_pos (by rfl) er
theorem m_alignment (h : MSt F w z s) (V : VSt s) (hN : 40 ≤ N) {t o : Int} (ht : I32 t) (ho : I32 o) (b : Bool) : Ev (fX9_alignment F N w z (zI t) (zI o) (if b = true then 1 else 0)) (MO F z w (spAlignment s t o b)) := by
  have B := h.ms V
  have er : Ev (fX9_alignment_21 F N w z (zI t) (zI o) (if b = true then 1 else 0) z) (MO F z w (1, 0, s)) := by
    unfold fX9_alignment_21 fX9_alignment_22
    exact ev_bnd (ev_neg (by rw [gI_same]; decide) (ev_some (mo_err h (by omega) rfl)))
  unfold fX9_alignment spAlignment
  refine ev_eq (m_isTier B ht) ?_
  by_cases c1 : 0 ≤ t ∧ t < bn (snw s)
  · rw [if_pos c1]
    refine ev_neg (by decide) (ev_eq (m_isTier B ho) ?_)
    by_cases c2 : 0 ≤ o ∧ o < bn (snw s)
    · rw [if_pos c2, if_pos (c := (0 ≤ t ∧ t < bn (snw s)) ∧ 0 ≤ o ∧ o < bn (snw s)) ⟨c1, c2⟩]
      refine ev_neg (by decide) ?_
      obtain ⟨t', rfl⟩ := Int.eq_ofNat_of_zero_le c1.1
      obtain ⟨o', rfl⟩ := Int.eq_ofNat_of_zero_le c2.1
      have hb : t' < bn (snw s) := by omega
      have hb2 : o' < bn (snw s) := by omega
      have l30 := B.lim B.g.2.1 hb
      rw [Int.toNat_natCast, Int.toNat_natCast]
      unfold fX9_alignment_22
      have h1 := h.thr 0
      have B1 : MS F (sI w 906 z 0) z (snw s) := B
      obtain ⟨w', r1, r2, r3, r4, r5⟩ := m_align (N := N) B1 hN hb hb2
      obtain ⟨p, s', R, h6, h7⟩ := r5 0 0 (Nat.zero_le _) (Nat.zero_le _)
      have U := R.uniq (bst_tot (brw (snw s) (ban (snw s)) t') (brw (snw s) (ban (snw s)) o') B.g.2.2.1 l30)
      have h3 := h1.sc r3
      refine ev_bnd (ev_pos (by rw [gI_same]; decide) (ev_eq r1 ?_))
      have kk : Kp (Rg z 26) w w' := (kp_thr _ _ _).trans r3.2.2.2.2
      cases b with
      | false =>
        refine ev_pos (by rfl) (ev_eq (rdR_is h3.1.p915.1 h3.1.p915.2.1) ?_)
        rw [z_0]
        refine ev_eq (ldI_is (by omega) (by rw [h3.1.p915.2.2]; omega) (by omega)) (ev_some ⟨r4.trans (gI_same _ _ _ _), fun _ => ?_, h3, kk⟩)
        show aI w' (z + 7) (31 * 0 + 0) = _
        rw [h7, U.2]
        rfl
      | true =>
        refine ev_neg (by decide) (ev_eq (rdR_is h3.1.p914.1 h3.1.p914.2.1) ?_)
        rw [z_0]
        refine ev_eq (ldI_is (by omega) (by rw [h3.1.p914.2.2]; omega) (by omega)) (ev_some ⟨r4.trans (gI_same _ _ _ _), fun _ => ?_, h3, kk⟩)
        show aI w' (z + 6) (31 * 0 + 0) = _
        rw [h6, U.1]
        rfl
    · rw [if_neg c2, if_neg (c := (0 ≤ t ∧ t < bn (snw s)) ∧ 0 ≤ o ∧ o < bn (snw s)) (fun x => c2 x.2)]
      exact ev_pos (by rfl) er
  · rw [if_neg c1, if_neg (c := (0 ≤ t ∧ t < bn (snw s)) ∧ 0 ≤ o ∧ o < bn (snw s)) (fun x => c1 x.1)]
    exact ev_pos (by rfl) er
end ALI
