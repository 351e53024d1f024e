/-! bits: a letter put into a label, a letter read of it, a label's length -/
theorem z2_63 : (63 : Int32) = zI 63 := rfl
theorem zJ_bv (n : Nat) : (zJ (n : Int)).toBitVec = BitVec.ofNat 64 n := by
  unfold zJ
  rw [Int64.toBitVec_ofInt, BitVec.ofInt_natCast]
theorem zI_bv (n : Nat) : (zI (n : Int)).toBitVec = BitVec.ofNat 32 n := by
  unfold zI
  rw [Int32.toBitVec_ofInt, BitVec.ofInt_natCast]
theorem bv_cat {a c i : Nat} (ha : a < 2 ^ i) (h : a + 2 ^ i * c < 2 ^ 64) : BitVec.ofNat 64 a ||| (BitVec.ofNat 64 c <<< i) = BitVec.ofNat 64 (a + 2 ^ i * c) := by
  have hp : 0 < 2 ^ i := Nat.two_pow_pos i
  have hc : c ≤ 2 ^ i * c := Nat.le_mul_of_pos_left c hp
  apply BitVec.eq_of_toNat_eq
  rw [BitVec.toNat_or, BitVec.toNat_shiftLeft, BitVec.toNat_ofNat, BitVec.toNat_ofNat, BitVec.toNat_ofNat, Nat.mod_eq_of_lt (a := a) (by omega), Nat.mod_eq_of_lt (a := c) (by omega), Nat.mod_eq_of_lt h]
  rw [Nat.shiftLeft_eq, Nat.mul_comm c, Nat.mod_eq_of_lt (by omega), Nat.or_comm, Nat.mul_comm (2 ^ i) c, ← Nat.shiftLeft_eq, ← Nat.shiftLeft_add_eq_or_of_lt ha, Nat.add_comm]
theorem dig_snoc (B : Nat) : ∀ (l : List Nat) (c : Nat), dig B (l ++ [c]) = dig B l + B ^ l.length * c := by
  intro l
  induction l with
  | nil => intro c; simp [dig]
  | cons d l ih =>
    intro c
    simp only [List.cons_append, dig, List.length_cons, ih, Nat.pow_succ]
    rw [Nat.mul_add, Nat.add_assoc, Nat.mul_comm (B ^ l.length) B, Nat.mul_assoc]
theorem pow256 (i : Nat) : 256 ^ i = 2 ^ (8 * i) := by
  rw [Nat.pow_mul]
theorem pow128 (i : Nat) : 128 ^ i = 2 ^ (7 * i) := by
  rw [Nat.pow_mul]
theorem shl_is {s : Nat} (hs : s < 64) : ((Int32.toInt64 (zI (s : Int)) &&& 63) : Int64).toBitVec.smod 64 = BitVec.ofNat 64 s := by
  have h : ∀ k : Fin 64, ((Int32.toInt64 (zI ((k.1 : Nat) : Int)) &&& 63) : Int64).toBitVec.smod 64 = BitVec.ofNat 64 k.1 := by decide +kernel
  exact h ⟨s, hs⟩
theorem put_letter {l : List Nat} {c : Nat} (hl : l.length < 8) (hv : ∀ d ∈ l, d < 128) (hc : c < 128) : cL l ||| ((zI (c : Int)).toInt64 <<< (Int32.toInt64 (8 * zI (l.length : Int)) &&& 63)) = cL (l ++ [c]) := by
  have h1 := dig_lt (B := 256) l (fun d hd => by have := hv d hd; omega)
  have h2 := dig_lt2 (l ++ [c]) (fun d hd => by
    rcases List.mem_append.mp hd with h | h
    · exact hv d h
    · have : d = c := by simpa using h
      omega)
  rw [dig_snoc] at h2
  have h3 : (l ++ [c]).length ≤ 8 := by simp; omega
  have h4 : 256 ^ (l ++ [c]).length ≤ 256 ^ 8 := Nat.pow_le_pow_right (by omega) h3
  rw [zI_64 (by omega) (by omega), show (8 : Int32) * zI (l.length : Int) = zI ((8 * l.length : Nat) : Int) from by rw [show (8 : Int32) = zI 8 from rfl, zI_mul]; congr 1]
  apply Int64.toBitVec_inj.mp
  rw [Int64.toBitVec_or, Int64.toBitVec_shiftLeft, shl_is (by omega)]
  unfold cL
  rw [zJ_bv, zJ_bv, zJ_bv, dig_snoc]
  rw [pow256] at h1 h2 ⊢
  rw [BitVec.shiftLeft_eq', BitVec.toNat_ofNat, Nat.mod_eq_of_lt (a := 8 * l.length) (by omega)]
  exact bv_cat h1 (by omega)
theorem shr_is {s : Nat} (hs : s < 64) : ((Int32.toInt64 (zI (s : Int))).toUInt64 &&& Int64.toUInt64 63) = UInt64.ofNat s := by
  have h : ∀ k : Fin 64, ((Int32.toInt64 (zI ((k.1 : Nat) : Int))).toUInt64 &&& Int64.toUInt64 63) = UInt64.ofNat k.1 := by decide +kernel
  exact h ⟨s, hs⟩
theorem z16_is {k : Nat} (h : k < 65536) : ((zI (k : Int)).toUInt32 % 65536).toInt32 = zI (k : Int) := by
  have e : (zI (k : Int)).toUInt32.toNat = k := by
    rw [Int32.toNat_toUInt32_of_le (by rw [show (0 : Int32) = zI 0 from rfl, zI_le (by omega) (by omega) (by omega) (by omega)]; omega)]
    show (zI (k : Int)).toInt.toNat = k
    rw [zI_int (by omega) (by omega)]
    omega
  have e2 : (zI (k : Int)).toUInt32 % 65536 = (zI (k : Int)).toUInt32 := by
    apply UInt32.toNat.inj
    rw [UInt32.toNat_mod, e]
    exact Nat.mod_eq_of_lt h
  rw [e2]
  rfl
theorem get_bits {n s t : Nat} (hn : n < 9223372036854775808) (hs : s < 64) (ht : t ≤ 8) {M : Int64} (hM : M.toBitVec = BitVec.ofNat 64 (2 ^ t - 1)) :
    (((((zJ (n : Int)).toUInt64 >>> ((Int32.toInt64 (zI (s : Int))).toUInt64 &&& Int64.toUInt64 63)).toInt64 &&& M).toInt32).toUInt32 % 65536).toInt32 = zI ((n / 2 ^ s % 2 ^ t : Nat) : Int) := by
  have hp : 2 ^ t ≤ 2 ^ 8 := Nat.pow_le_pow_right (by omega) ht
  have hp0 : 0 < 2 ^ t := Nat.two_pow_pos t
  have hm : n / 2 ^ s % 2 ^ t < 2 ^ t := Nat.mod_lt _ hp0
  have e : ((zJ (n : Int)).toUInt64 >>> ((Int32.toInt64 (zI (s : Int))).toUInt64 &&& Int64.toUInt64 63)).toInt64 &&& M = zJ ((n / 2 ^ s % 2 ^ t : Nat) : Int) := by
    apply Int64.toBitVec_inj.mp
    rw [Int64.toBitVec_and, hM, zJ_bv, shr_is hs]
    apply BitVec.eq_of_toNat_eq
    rw [BitVec.toNat_and, BitVec.toNat_ofNat, BitVec.toNat_ofNat]
    have e1 : ((zJ (n : Int)).toUInt64 >>> UInt64.ofNat s).toInt64.toBitVec.toNat = n / 2 ^ s := by
      show ((zJ (n : Int)).toUInt64 >>> UInt64.ofNat s).toNat = n / 2 ^ s
      rw [UInt64.toNat_shiftRight]
      have e2 : (zJ (n : Int)).toUInt64.toNat = n := by
        show (zJ (n : Int)).toBitVec.toNat = n
        rw [zJ_bv, BitVec.toNat_ofNat]
        exact Nat.mod_eq_of_lt (by omega)
      have e3 : (UInt64.ofNat s).toNat = s := by
        rw [UInt64.toNat_ofNat']
        exact Nat.mod_eq_of_lt (by omega)
      rw [e2, e3, Nat.mod_eq_of_lt hs, Nat.shiftRight_eq_div_pow]
    rw [e1, Nat.mod_eq_of_lt (a := 2 ^ t - 1) (by omega), Nat.mod_eq_of_lt (a := n / 2 ^ s % 2 ^ t) (by omega), Nat.and_two_pow_sub_one_eq_mod]
  rw [e, zJ_32, z16_is (by omega)]
theorem dig_get {B : Nat} (hB : 0 < B) : ∀ (l : List Nat) (i : Nat), (∀ c ∈ l, c < B) → dig B l / B ^ i % B = l.getD i 0 := by
  intro l
  induction l with
  | nil => intro i _; simp [dig]
  | cons c l ih =>
    intro i h
    have h1 := h c List.mem_cons_self
    cases i with
    | zero =>
      simp only [dig, Nat.pow_zero, Nat.div_one, Nat.add_mul_mod_self_left, Nat.mod_eq_of_lt h1]
      rfl
    | succ i =>
      have e : (c + B * dig B l) / B ^ (i + 1) = dig B l / B ^ i := by
        rw [Nat.pow_succ, Nat.mul_comm (B ^ i) B, ← Nat.div_div_eq_div_mul, Nat.add_mul_div_left _ _ hB, Nat.div_eq_of_lt h1, Nat.zero_add]
      simp only [dig]
      rw [e, ih i (fun d hd => h d (List.mem_cons_of_mem _ hd))]
      rfl
theorem c_letter {l : List Nat} (h : VL l) {i : Nat} (hi : i < 8) {F : Fr} {N : Nat} {w : Wd} : fX8_labelLetter F N w (cL l) (zI (i : Int)) = some (zI ((l.getD i 0 : Nat) : Int)) := by
  unfold fX8_labelLetter
  have h1 := cL_lt h
  rw [show (8 : Int32) * zI (i : Int) = zI ((8 * i : Nat) : Int) from by rw [show (8 : Int32) = zI 8 from rfl, zI_mul]; congr 1]
  have e := get_bits (n := dig 256 l) (s := 8 * i) (t := 8) h1 (by omega) (by omega) (M := 255) (by decide)
  rw [← pow256] at e
  rw [show 2 ^ 8 = 256 from rfl, dig_get (by omega) l i (fun c hc => by have := h.2.2 c hc; omega)] at e
  unfold cL
  rw [e]
  have hg : l.getD i 0 < 65536 := by
    rw [List.getD_eq_getElem?_getD]
    rcases Nat.lt_or_ge i l.length with c | c
    · rw [List.getElem?_eq_getElem c]
      have := h.2.2 l[i] (List.getElem_mem c)
      simp only [Option.getD_some]
      omega
    · rw [List.getElem?_eq_none c]
      simp
  unfold ckC
  rw [vp_nar_char, if_pos]
  · rfl
  · have e9 := z16_is hg
    have e8 : (zI ((l.getD i 0 : Nat) : Int)).toUInt32.toUInt16.toUInt32 = (zI ((l.getD i 0 : Nat) : Int)).toUInt32 % 65536 := UInt32.toNat.inj (by simp)
    rw [e8, e9]
theorem m_letter {l : List Nat} (h : VL l) {i : Nat} (hi : i < l.length) : ((((((mL l).toUInt64 >>> ((Int32.toInt64 (7 * ((zI (l.length : Int) - 1) - zI (i : Int)))).toUInt64 &&& Int64.toUInt64 63)).toInt64) &&& 127).toInt32).toUInt32 % 65536).toInt32 = zI ((l.getD i 0 : Nat) : Int) := by
  have h1 := mL_lt h
  have h8 := h.2.1
  rw [show (7 : Int32) * ((zI (l.length : Int) - 1) - zI (i : Int)) = zI ((7 * (l.length - 1 - i) : Nat) : Int) from by
    rw [show (7 : Int32) = zI 7 from rfl, show (1 : Int32) = zI 1 from rfl, zI_sub, zI_sub, zI_mul]; congr 1; omega]
  have e := get_bits (n := dig 128 l.reverse) (s := 7 * (l.length - 1 - i)) (t := 7) (by omega) (by omega) (by omega) (M := 127) (by decide)
  rw [← pow128] at e
  rw [show 2 ^ 7 = 128 from rfl, dig_get (by omega) l.reverse _ (fun c hc => by have := h.2.2 c (List.mem_reverse.mp hc); omega)] at e
  unfold mL
  rw [e]
  congr 2
  rw [List.getD_eq_getElem?_getD, List.getD_eq_getElem?_getD, List.getElem?_reverse (by omega)]
  congr 2
  omega
theorem z16c {k : Nat} (h : k < 65536) : ckC (zI (k : Int)) = some (zI (k : Int)) := by
  unfold ckC
  rw [vp_nar_char, if_pos]
  have e9 := z16_is h
  have e8 : (zI (k : Int)).toUInt32.toUInt16.toUInt32 = (zI (k : Int)).toUInt32 % 65536 := UInt32.toNat.inj (by simp)
  rw [e8, e9]
theorem getD_nz {l : List Nat} (h : VL l) (i : Nat) : l.getD i 0 = 0 ↔ l.length ≤ i := by
  rw [List.getD_eq_getElem?_getD]
  rcases Nat.lt_or_ge i l.length with c | c
  · rw [List.getElem?_eq_getElem c]
    have := h.2.2 l[i] (List.getElem_mem c)
    simp only [Option.getD_some]
    omega
  · rw [List.getElem?_eq_none c]
    simp [c]
theorem getD_lt {l : List Nat} (h : VL l) (i : Nat) : l.getD i 0 ≤ 122 := by
  rw [List.getD_eq_getElem?_getD]
  rcases Nat.lt_or_ge i l.length with c | c
  · rw [List.getElem?_eq_getElem c]
    have := h.2.2 l[i] (List.getElem_mem c)
    simp only [Option.getD_some]
    omega
  · rw [List.getElem?_eq_none c]
    simp
theorem c_labelLength_4 {l : List Nat} (h : VL l) {F : Fr} {N : Nat} {w : Wd} : ∀ (m k i : Nat), i + k = 8 → k < m →
    fX8_labelLength_4 F N w m (cL l) (zI ((min i l.length : Nat) : Int)) (zI (i : Int)) = some (zI (l.length : Int)) := by
  have h8 := h.2.1
  intro m
  induction m with
  | zero => intro k i _ hk; omega
  | succ m ih =>
    intro k i hik hkm
    unfold fX8_labelLength_4
    cases k with
    | zero =>
      have e : i = 8 := by omega
      subst e
      rw [if_pos (by decide), Nat.min_eq_right (by omega)]
    | succ k =>
      rw [if_neg (by simp (disch := omega) only [z_0, z_1, z_2, z_3, z_4, z_5, z_6, z_7, z_8, z_9, z_10, z_12, z_13, z_16, z_20, z_24, z_30, z_31, z_32, z_38, z_42, z_44, z_45, z_47, z_48, z_49, z_50, z_57, z_58, z_59, z_60, z_61, z_91, z_97, z_98, z_100, z_108, z_114, z_120, z_122, z_126, z_127, z_128, z_200, z_255, z_961, z_990, z_992, z_998, z_999, z_1000, z_1092, z_1114, z_7798, z_10000, z_1000000, zI_neg, zI_add, zI_sub, zI_mul, zI_lt, zI_le, zI_eq, if_pos, if_neg, if_true, if_false, Option.bind_some, bnd, ldI_is, ldJ_is, Int.toNat_natCast,  Int.not_le]; omega), c_letter h (by omega)]
      simp only [Option.bind_some]
      have ih := ih k (i + 1) (by omega) (by omega)
      unfold fX8_labelLength_24
      rw [zI_succ]
      have hz := getD_nz h i
      have hl := getD_lt h i
      by_cases c : l.length ≤ i
      · rw [if_pos (by rw [hz.mpr c]; rfl)]
        rw [Nat.min_eq_right (by omega)] at ih ⊢
        simp (disch := omega) only [z_0, z_1, z_2, z_3, z_4, z_5, z_6, z_7, z_8, z_9, z_10, z_12, z_13, z_16, z_20, z_24, z_30, z_31, z_32, z_38, z_42, z_44, z_45, z_47, z_48, z_49, z_50, z_57, z_58, z_59, z_60, z_61, z_91, z_97, z_98, z_100, z_108, z_114, z_120, z_122, z_126, z_127, z_128, z_200, z_255, z_961, z_990, z_992, z_998, z_999, z_1000, z_1092, z_1114, z_7798, z_10000, z_1000000, zI_neg, zI_add, zI_sub, zI_mul, zI_lt, zI_le, zI_eq, if_pos, if_neg, if_true, if_false, Option.bind_some, bnd, ldI_is, ldJ_is, Int.toNat_natCast, ]
        exact ih
      · rw [if_neg (by simp (disch := omega) only [z_0, z_1, z_2, z_3, z_4, z_5, z_6, z_7, z_8, z_9, z_10, z_12, z_13, z_16, z_20, z_24, z_30, z_31, z_32, z_38, z_42, z_44, z_45, z_47, z_48, z_49, z_50, z_57, z_58, z_59, z_60, z_61, z_91, z_97, z_98, z_100, z_108, z_114, z_120, z_122, z_126, z_127, z_128, z_200, z_255, z_961, z_990, z_992, z_998, z_999, z_1000, z_1092, z_1114, z_7798, z_10000, z_1000000, zI_neg, zI_add, zI_sub, zI_mul, zI_lt, zI_le, zI_eq, if_pos, if_neg, if_true, if_false, Option.bind_some, bnd, ldI_is, ldJ_is, Int.toNat_natCast, ]; omega)]
        rw [Nat.min_eq_left (by omega)] at ih ⊢
        simp (disch := omega) only [z_0, z_1, z_2, z_3, z_4, z_5, z_6, z_7, z_8, z_9, z_10, z_12, z_13, z_16, z_20, z_24, z_30, z_31, z_32, z_38, z_42, z_44, z_45, z_47, z_48, z_49, z_50, z_57, z_58, z_59, z_60, z_61, z_91, z_97, z_98, z_100, z_108, z_114, z_120, z_122, z_126, z_127, z_128, z_200, z_255, z_961, z_990, z_992, z_998, z_999, z_1000, z_1092, z_1114, z_7798, z_10000, z_1000000, zI_neg, zI_add, zI_sub, zI_mul, zI_lt, zI_le, zI_eq, if_pos, if_neg, if_true, if_false, Option.bind_some, bnd, ldI_is, ldJ_is, Int.toNat_natCast, ]
        exact ih
theorem c_labelLength {l : List Nat} (h : VL l) {F : Fr} {N : Nat} {w : Wd} (hN : 40 ≤ N) : fX8_labelLength F N w (cL l) = some (zI (l.length : Int)) := by
  unfold fX8_labelLength
  have h9 := c_labelLength_4 h (F := F) (N := N) (w := w) N 8 0 (by omega) (by omega)
  rw [Nat.zero_min] at h9
  exact h9
theorem lg_le {x y : Int} (h1 : -9223372036854775808 ≤ x) (h2 : x < 9223372036854775808) (h3 : -9223372036854775808 ≤ y) (h4 : y < 9223372036854775808) : (lg_cmp (zJ x) (zJ y) ≤ 0) = (x ≤ y) := by
  rw [← zJ_le h1 h2 h3 h4]
  exact propext (lg_cmp_le _ _)
theorem lg_lt {x y : Int} (h1 : -9223372036854775808 ≤ x) (h2 : x < 9223372036854775808) (h3 : -9223372036854775808 ≤ y) (h4 : y < 9223372036854775808) : (lg_cmp (zJ x) (zJ y) < 0) = (x < y) := by
  rw [← zJ_lt h1 h2 h3 h4]
  exact propext (lg_cmp_lt _ _)
theorem lg_ge {x y : Int} (h1 : -9223372036854775808 ≤ x) (h2 : x < 9223372036854775808) (h3 : -9223372036854775808 ≤ y) (h4 : y < 9223372036854775808) : (0 ≤ lg_cmp (zJ x) (zJ y)) = (y ≤ x) := by
  rw [← zJ_le h3 h4 h1 h2]
  exact propext (lg_cmp_ge _ _)
theorem lg_gt {x y : Int} (h1 : -9223372036854775808 ≤ x) (h2 : x < 9223372036854775808) (h3 : -9223372036854775808 ≤ y) (h4 : y < 9223372036854775808) : (0 < lg_cmp (zJ x) (zJ y)) = (y < x) := by
  rw [← zJ_lt h3 h4 h1 h2]
  exact propext (lg_cmp_gt _ _)
theorem lg_eq {x y : Int} (h1 : -9223372036854775808 ≤ x) (h2 : x < 9223372036854775808) (h3 : -9223372036854775808 ≤ y) (h4 : y < 9223372036854775808) : (lg_cmp (zJ x) (zJ y) = 0) = (x = y) := by
  rw [← zJ_eq h1 h2 h3 h4]
  exact propext (lg_cmp_eq _ _)
theorem m_lengthOf_4 {F : Fr} {N : Nat} {w : Wd} : ∀ (m : Nat) (l : List Nat) (a : Nat), l.length < m → l.length ≤ 8 → (∀ c ∈ l, 0 < c ∧ c < 128) →
    fX9_lengthOf_4 F N w m (zI (a : Int)) (zJ (dig 128 l : Nat)) = some (zI ((a + l.length : Nat) : Int)) := by
  intro m
  induction m with
  | zero => intro l a h; omega
  | succ m ih =>
    intro l a hm h8 hl
    unfold fX9_lengthOf_4
    have hd := dig_lt (B := 128) l (fun c hc => (hl c hc).2)
    have hp : 128 ^ l.length ≤ 128 ^ 8 := Nat.pow_le_pow_right (by omega) h8
    cases l with
    | nil =>
      rw [if_pos (by decide)]
      rfl
    | cons c l =>
      have hc := hl c List.mem_cons_self
      have e : dig 128 (c :: l) = c + 128 * dig 128 l := rfl
      have e2 : dig 128 (c :: l) / 128 = dig 128 l := by omega
      rw [if_neg (by rw [show (0 : Int64) = zJ 0 from rfl, lg_le (by omega) (by omega) (by omega) (by omega)]; omega)]
      have e3 : zJ ((dig 128 (c :: l) : Nat) : Int) / 128 = zJ ((dig 128 l : Nat) : Int) := by
        apply Int64.toInt_inj.mp
        rw [Int64.toInt_div_of_ne_right _ _ (by decide), zJ_int (by omega) (by omega), zJ_int (by omega) (by omega), show Int64.toInt 128 = 128 from rfl, Int.tdiv_eq_ediv_of_nonneg (by omega)]
        omega
      rw [e3]
      simp only [bnd]
      rw [zI_succ, ih l (a + 1) (by rw [List.length_cons] at hm; omega) (by rw [List.length_cons] at h8; omega) (fun d hd => hl d (List.mem_cons_of_mem _ hd))]
      congr 2
      simp only [List.length_cons]
      omega
theorem m_lengthOf {l : List Nat} (h : VL l) {F : Fr} {N : Nat} {w : Wd} (hN : 40 ≤ N) : fX9_lengthOf F N w (mL l) = some (zI (l.length : Int)) := by
  unfold fX9_lengthOf
  have h8 := h.2.1
  have h9 := m_lengthOf_4 (F := F) (N := N) (w := w) N l.reverse 0 (by rw [List.length_reverse]; omega) (by rw [List.length_reverse]; omega) (fun c hc => by have := h.2.2 c (List.mem_reverse.mp hc); omega)
  rw [List.length_reverse, Nat.zero_add] at h9
  exact h9
theorem cL_ne {l : List Nat} (h : VL l) : ¬ cL l = 0 := by
  have h1 := cL_lt h
  have h2 := h.1
  unfold cL
  rw [show (0 : Int64) = zJ 0 from rfl, zJ_eq (by omega) (by omega) (by omega) (by omega)]
  cases l with
  | nil => simp at h2
  | cons c l =>
    have := h.2.2 c List.mem_cons_self
    simp only [dig]
    omega
theorem mL_ne {l : List Nat} (h : VL l) : ¬ mL l = 0 := by
  have h1 := mL_lt h
  intro e
  have e2 : mL l = mL [] := e
  have h2 := h.1
  unfold mL at e2
  rw [zJ_eq (by omega) (by omega) (by simp [dig]) (by simp [dig])] at e2
  have := dig_inj (B := 128) l.reverse [] (fun c hc => by have := h.2.2 c (List.mem_reverse.mp hc); omega) (fun c hc => by cases hc) (Int.ofNat.inj e2)
  simp at this
  subst this
  simp at h2
theorem mL_snoc (l : List Nat) (c : Nat) : 128 * mL l + zJ (c : Int) = mL (l ++ [c]) := by
  unfold mL
  rw [List.reverse_append, show (128 : Int64) = zJ 128 from rfl, zJ_mul, zJ_add]
  congr 1
  simp only [List.reverse_cons, List.reverse_nil, List.nil_append, List.cons_append, dig]
  omega
