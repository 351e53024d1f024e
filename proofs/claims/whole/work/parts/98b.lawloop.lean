/-! the law's loop (written by gen97.py) -/
section LOOP
variable {F : Fr} {N L : Nat} {xs : Nat → Int32} {h : Nat}
theorem law_loop (A : LF F h) (hN : 2100 ≤ N) (hL : L ≤ 2560) : ∀ (n j : Nat) (w : Wd) (s : St), Inv F w h s → 5 * j ≤ L → L < 5 * (j + n) → fL_law_28 F N L xs n j w h (h + 661) (h + 687) (h + 688) (zI ((5 * j : Nat) : Int)) = some () := by
  intro n
  induction n with
  | zero => intro j w s _ h1 h2; omega
  | succ n ih =>
    intro j w s I h1 h2
    unfold fL_law_28
    rw [show ckJ j = some () from if_pos (by omega), Option.bind_some, nI_z]
    by_cases c : L < 5 * j + 5
    · rw [if_pos (by simp (disch := omega) only [z_0, z_1, z_2, z_3, z_4, z_5, z_6, z_7, z_8, z_9, z_10, z_12, z_13, z_16, z_20, z_24, z_30, z_31, z_32, z_38, z_42, z_44, z_45, z_47, z_48, z_49, z_50, z_57, z_58, z_59, z_60, z_61, z_91, z_97, z_98, z_100, z_108, z_114, z_120, z_122, z_126, z_127, z_128, z_200, z_255, z_961, z_990, z_992, z_998, z_999, z_1000, z_1092, z_1114, z_7798, z_10000, z_1000000, zI_neg, zI_add, zI_sub, zI_mul, zI_lt, zI_le, zI_eq, if_pos, if_neg, if_true, if_false, Option.bind_some, bnd, ldI_is, ldJ_is, Int.toNat_natCast, ]; omega)]
    · rw [if_neg (by simp (disch := omega) only [z_0, z_1, z_2, z_3, z_4, z_5, z_6, z_7, z_8, z_9, z_10, z_12, z_13, z_16, z_20, z_24, z_30, z_31, z_32, z_38, z_42, z_44, z_45, z_47, z_48, z_49, z_50, z_57, z_58, z_59, z_60, z_61, z_91, z_97, z_98, z_100, z_108, z_114, z_120, z_122, z_126, z_127, z_128, z_200, z_255, z_961, z_990, z_992, z_998, z_999, z_1000, z_1092, z_1114, z_7798, z_10000, z_1000000, zI_neg, zI_add, zI_sub, zI_mul, zI_lt, zI_le, zI_eq, if_pos, if_neg, if_true, if_false, Option.bind_some, bnd, ldI_is, ldJ_is, Int.toNat_natCast, ]; omega)]
      have hi : 5 * j + 5 ≤ L := by omega
      obtain ⟨a0, i0, e0⟩ := ldS_0 (xs := xs) hi hL
      rw [e0, Option.bind_some]
      have hk : ∀ w' s', Inv F w' h s' → fL_law_28 F N L xs n (j + 1) w' h (h + 661) (h + 687) (h + 688) (zI ((5 * j : Nat) : Int) + 5) = some () := by
        intro w' s' I'
        rw [show zI ((5 * j : Nat) : Int) + 5 = zI ((5 * (j + 1) : Nat) : Int) from by rw [z_5, zI_add]; exact congrArg zI (by omega)]
        exact ih (j + 1) w' s' I' (by omega) (by omega)
      refine ite_tt (fun _ => law_192 A I hN hL hi hk) (fun _ => ?_)
      refine ite_tt (fun _ => law_205 A I hN hL hi hk) (fun _ => ?_)
      refine ite_tt (fun _ => law_285 A I hN hL hi hk) (fun _ => ?_)
      refine ite_tt (fun _ => law_341 A I hN hL hi hk) (fun _ => ?_)
      refine ite_tt (fun _ => law_409 A I hN hL hi hk) (fun _ => ?_)
      refine ite_tt (fun _ => law_477 A I hN hL hi hk) (fun _ => ?_)
      refine ite_tt (fun _ => law_533 A I hN hL hi hk) (fun _ => ?_)
      refine ite_tt (fun _ => law_589 A I hN hL hi hk) (fun _ => ?_)
      refine ite_tt (fun _ => law_669 A I hN hL hi hk) (fun _ => ?_)
      refine ite_tt (fun _ => law_737 A I hN hL hi hk) (fun _ => ?_)
      refine ite_tt (fun _ => law_829 A I hN hL hi hk) (fun _ => ?_)
      refine ite_tt (fun _ => law_897 A I hN hL hi hk) (fun _ => ?_)
      refine ite_tt (fun _ => law_977 A I hN hL hi hk) (fun _ => ?_)
      refine ite_tt (fun _ => law_1045 A I hN hL hi hk) (fun _ => ?_)
      refine ite_tt (fun _ => law_1125 A I hN hL hi hk) (fun _ => ?_)
      refine ite_tt (fun _ => law_1205 A I hN hL hi hk) (fun _ => ?_)
      refine ite_tt (fun _ => law_1273 A I hN hL hi hk) (fun _ => ?_)
      refine ite_tt (fun _ => law_1345 A I hN hL hi hk) (fun _ => ?_)
      refine ite_tt (fun _ => law_1425 A I hN hL hi hk) (fun _ => ?_)
      refine ite_tt (fun _ => law_1521 A I hN hL hi hk) (fun _ => ?_)
      refine ite_tt (fun _ => law_1565 A I hN hL hi hk) (fun _ => ?_)
      refine ite_tt (fun _ => law_1633 A I hN hL hi hk) (fun _ => ?_)
      refine ite_tt (fun _ => law_1701 A I hN hL hi hk) (fun _ => ?_)
      refine ite_tt (fun _ => law_1781 A I hN hL hi hk) (fun _ => ?_)
      refine ite_tt (fun _ => law_1849 A I hN hL hi hk) (fun _ => ?_)
      refine ite_tt (fun _ => law_1927 A I hN hL hi hk) (fun _ => ?_)
      refine ite_tt (fun _ => law_2004 A I hN hL hi hk) (fun _ => ?_)
      refine ite_tt (fun _ => law_2017 A I hN hL hi hk) (fun _ => ?_)
      refine ite_tt (fun _ => law_2061 A I hN hL hi hk) (fun _ => ?_)
      refine ite_tt (fun _ => law_2105 A I hN hL hi hk) (fun _ => ?_)
      refine ite_tt (fun _ => law_2149 A I hN hL hi hk) (fun _ => ?_)
      refine ite_tt (fun _ => law_2193 A I hN hL hi hk) (fun _ => ?_)
      refine ite_tt (fun _ => law_2206 A I hN hL hi hk) (fun _ => ?_)
      exact hk w s I
end LOOP
