set_option maxRecDepth 20000 in
set_option maxHeartbeats 40000000 in
/-- the law from the head of its loop -/
theorem mL_loop {p : Program} {l : Launch} {e : Env} {s : State} {m : MethodId} {below : List Frame} {meth : Method} {c : Code} {b9 L : Nat} {xs : Nat → Int32} {G : Gy} {F : Fr} (N : Nat) (C : Cx (p, l, e, room_1, s, m, #[Value.ref b9], below, meth, c) G F cL_law RL 9 room_1) (hNC : NC s) (hcm : F.2.2.2.2 = false) (hr9 : meth.sig.returnType = ret) (hlo : s.heap.size ≤ F.2.2.1) (hsx : SX (p, l, e, room_1, s, m, #[Value.ref b9], below, meth, c) F b9 L xs) : ∀ (n j : Nat) (w : Wd) (l1 : Nat) (l2 : Nat) (l3 : Nat) (l4 : Nat) (l5 : Int32) (ol1 : okF F l1 8) (ol2 : okF F l2 9) (ol3 : okF F l3 12) (ol4 : okF F l4 16), BD (p, l, e, room_1, s, m, #[Value.ref b9], below, meth, c) G F 9 (fun _ : Unit => lw_Z below #[Value.ref b9] s) (689 + j) (6140368 + 6 * j) (fL_law_28 F N L xs n j w l1 l2 l3 l4 l5) w 28 [(0, .ref b9), (1, .ref l1), (2, .ref l2), (3, .ref l3), (4, .ref l4), (5, .int l5)] [] := by
  have hret9 : ∀ {k n pc : Nat} {w : Wd} {lv : List (Nat × Value)}, k ≤ 603072 → n ≤ 7211114 → decode code pc = .ok (.ireturn, 1) → BD (p, l, e, room_1, s, m, #[Value.ref b9], below, meth, c) G F 9 (fun _ : Unit => lw_Z below #[Value.ref b9] s) k n (some ()) w pc lv [.int 1] := fun a b c9 => bd_lawret C hr9 hlo c9 a b
  generalize hg : (p, l, e, room_1, s, m, #[Value.ref b9], below, meth, c) = g at C hsx hret9 ⊢
  have hNC : NC (bs g) := by rw [← hg]; exact hNC
  generalize hq : (fun _ : Unit => lw_Z below #[Value.ref b9] s) = qv at hret9 ⊢
  have hb2250 : ∀ (k28 : Nat → Wd → Nat → Nat → Nat → Nat → Int32 → Option Unit), (∀ (j : Nat) (w : Wd) (l1 : Nat) (l2 : Nat) (l3 : Nat) (l4 : Nat) (l5 : Int32) (ol1 : okF F l1 8) (ol2 : okF F l2 9) (ol3 : okF F l3 12) (ol4 : okF F l4 16), BD g G F 9 qv (689 + j) (6140368 + 6 * j) (k28 j w l1 l2 l3 l4 l5) w 28 [(0, .ref b9), (1, .ref l1), (2, .ref l2), (3, .ref l3), (4, .ref l4), (5, .int l5)] []) → ∀  (j : Nat) (w : Wd) (l1 : Nat) (l2 : Nat) (l3 : Nat) (l4 : Nat) (l5 : Int32) (cj : j < 600) (ol1 : okF F l1 8) (ol2 : okF F l2 9) (ol3 : okF F l3 12) (ol4 : okF F l4 16), BD g G F 9 qv (689 + (j + 1)) (6140368 + 6 * (j + 1)) (fL_law_2250 F N L xs k28 j w l1 l2 l3 l4 l5) w 2250 [(0, .ref b9), (1, .ref l1), (2, .ref l2), (3, .ref l3), (4, .ref l4), (5, .int l5)] [] := by
    intro k28 hk28
    intro j w l1 l2 l3 l4 l5 cj ol1 ol2 ol3 ol4
    unfold fL_law_2250
    refine bd_iinc C (v := l5 + 5) 5 [(5, .int (l5 + 5)), (0, .ref b9), (1, .ref l1), (2, .ref l2), (3, .ref l3), (4, .ref l4)] dL_law_2250 rfl rfl (by decide) rfl ?_
    refine bd_goto C 28 dL_law_2253 (by decide) ?_
    exact bd_wide (by omega) (by omega) (bd_sub (hk28 (j + 1) w l1 l2 l3 l4 (l5 + 5) ol1 ol2 ol3 ol4) [1, 2, 3, 4, 5, 0] rfl)
  have hb974 : ∀ (k28 : Nat → Wd → Nat → Nat → Nat → Nat → Int32 → Option Unit), (∀ (j : Nat) (w : Wd) (l1 : Nat) (l2 : Nat) (l3 : Nat) (l4 : Nat) (l5 : Int32) (ol1 : okF F l1 8) (ol2 : okF F l2 9) (ol3 : okF F l3 12) (ol4 : okF F l4 16), BD g G F 9 qv (689 + j) (6140368 + 6 * j) (k28 j w l1 l2 l3 l4 l5) w 28 [(0, .ref b9), (1, .ref l1), (2, .ref l2), (3, .ref l3), (4, .ref l4), (5, .int l5)] []) → ∀  (j : Nat) (w : Wd) (l1 : Nat) (l2 : Nat) (l3 : Nat) (l4 : Nat) (l5 : Int32) (cj : j < 600) (ol1 : okF F l1 8) (ol2 : okF F l2 9) (ol3 : okF F l3 12) (ol4 : okF F l4 16), BD g G F 9 qv (689 + (j + 1)) (6140368 + 6 * (j + 1)) (fL_law_974 F N L xs k28 j w l1 l2 l3 l4 l5) w 974 [(0, .ref b9), (1, .ref l1), (2, .ref l2), (3, .ref l3), (4, .ref l4), (5, .int l5)] [] := by
    intro k28 hk28
    intro j w l1 l2 l3 l4 l5 cj ol1 ol2 ol3 ol4
    unfold fL_law_974
    refine bd_goto C 2250 dL_law_974 (by decide) ?_
    exact bd_wide (by omega) (by omega) (bd_sub (hb2250 _ hk28 j w l1 l2 l3 l4 l5 cj ol1 ol2 ol3 ol4) [0, 1, 2, 3, 4, 5] rfl)
  have hb897 : ∀ (k28 : Nat → Wd → Nat → Nat → Nat → Nat → Int32 → Option Unit), (∀ (j : Nat) (w : Wd) (l1 : Nat) (l2 : Nat) (l3 : Nat) (l4 : Nat) (l5 : Int32) (ol1 : okF F l1 8) (ol2 : okF F l2 9) (ol3 : okF F l3 12) (ol4 : okF F l4 16), BD g G F 9 qv (689 + j) (6140368 + 6 * j) (k28 j w l1 l2 l3 l4 l5) w 28 [(0, .ref b9), (1, .ref l1), (2, .ref l2), (3, .ref l3), (4, .ref l4), (5, .int l5)] []) → ∀  (j : Nat) (w : Wd) (l1 : Nat) (l2 : Nat) (l3 : Nat) (l4 : Nat) (l5 : Int32) (cj : j < 600) (ol1 : okF F l1 8) (ol2 : okF F l2 9) (ol3 : okF F l3 12) (ol4 : okF F l4 16), BD g G F 9 qv (689 + j) (6140368 + 6 * j) (fL_law_897 F N L xs k28 j w l1 l2 l3 l4 l5) w 897 [(0, .ref b9), (1, .ref l1), (2, .ref l2), (3, .ref l3), (4, .ref l4), (5, .int l5)] [] := by
    intro k28 hk28
    intro j w l1 l2 l3 l4 l5 cj ol1 ol2 ol3 ol4
    unfold fL_law_897
    refine bd_aload_n C 1 dL_law_897 rfl rfl ?_
    refine bd_aload_n C 0 dL_law_898 rfl rfl ?_
    refine bd_iload C 5 dL_law_899 rfl ?_
    refine bd_iconst C (v := 1) dL_law_901 (by decide) ?_
    refine bd_iadd C dL_law_902 ?_
    refine bd_sld C hsx dL_law_903 (fun x151 => ?_)
    refine bd_aload_n C 0 dL_law_904 rfl rfl ?_
    refine bd_iload C 5 dL_law_905 rfl ?_
    refine bd_iconst C (v := 2) dL_law_907 (by decide) ?_
    refine bd_iadd C dL_law_908 ?_
    refine bd_sld C hsx dL_law_909 (fun x152 => ?_)
    refine bd_aload_n C 0 dL_law_910 rfl rfl ?_
    refine bd_iload C 5 dL_law_911 rfl ?_
    refine bd_iconst C (v := 3) dL_law_913 (by decide) ?_
    refine bd_iadd C dL_law_914 ?_
    refine bd_sld C hsx dL_law_915 (fun x153 => ?_)
    refine bd_aload_n C 3 dL_law_916 rfl rfl ?_
    refine bd_callH (vs := fun (r : Int32 × Wd) => some (.int r.1)) (wf := fun (r : Int32 × Wd) => r.2) (st := []) (st1 := fun p154 => Value.int p154.1 :: []) C hNC [.ref l1, .int x151, .int x152, .int x153, .ref l3] (fun r9 e9 => mL_split C.flag N ol1 ol3 hcm e9) mwL_split wd_842 rfl rfl (Nat.le_of_ble_eq_true rfl) dL_law_917 ⟨rfl, rfl, Nat.le_of_ble_eq_true rfl, Nat.le_of_ble_eq_true rfl, by show 689 + _ + _ ≤ 603072; omega, by show 6140368 + _ + _ ≤ 7211114; omega⟩ (fun _ => rfl) (fun p154 ep154 => ?_)
    refine bd_istore C [(6, .int p154.1), (0, .ref b9), (1, .ref l1), (2, .ref l2), (3, .ref l3), (4, .ref l4), (5, .int l5)] dL_law_920 (by decide) rfl ?_
    refine bd_aload_n C 3 dL_law_922 rfl rfl ?_
    refine bd_aload_n C 1 dL_law_923 rfl rfl ?_
    refine bd_iload C 6 dL_law_924 rfl ?_
    refine bd_iconst C (v := 1) dL_law_926 (by decide) ?_
    refine bd_iadd C dL_law_927 ?_
    refine bd_sld C hsx dL_law_928 (fun x155 => ?_)
    refine bd_aload_n C 1 dL_law_929 rfl rfl ?_
    refine bd_iload C 6 dL_law_930 rfl ?_
    refine bd_iconst C (v := 2) dL_law_932 (by decide) ?_
    refine bd_iadd C dL_law_933 ?_
    refine bd_sld C hsx dL_law_934 (fun x156 => ?_)
    refine bd_aload_n C 1 dL_law_935 rfl rfl ?_
    refine bd_iload C 6 dL_law_936 rfl ?_
    refine bd_iconst C (v := 3) dL_law_938 (by decide) ?_
    refine bd_iadd C dL_law_939 ?_
    refine bd_sld C hsx dL_law_940 (fun x157 => ?_)
    refine bd_callV (vs := fun (r : Int32 × Wd) => some (.int r.1)) (wf := fun (r : Int32 × Wd) => r.2) (st := []) (st1 := fun p158 => Value.int p158.1 :: []) C [.int x155, .int x156, .int x157] (fun r9 e9 => mX9_split C.flag N ol2 e9) mwX9_split miX9_split wd_1582 ol2 (by decide) rfl rfl rfl (Nat.le_of_ble_eq_true rfl) dL_law_941 ⟨rfl, rfl, Nat.le_of_ble_eq_true rfl, Nat.le_of_ble_eq_true rfl, by show 689 + _ + _ ≤ 603072; omega, by show 6140368 + _ + _ ≤ 7211114; omega⟩ (fun _ => rfl) (fun p158 ep158 => ?_)
    refine bd_istore C [(7, .int p158.1), (6, .int p154.1), (0, .ref b9), (1, .ref l1), (2, .ref l2), (3, .ref l3), (4, .ref l4), (5, .int l5)] dL_law_944 (by decide) rfl ?_
    refine bd_aload_n C 4 dL_law_946 rfl rfl ?_
    refine bd_callV (vs := fun (r : Int32) => some (.int r)) (wf := fun _ => p158.2) (st := []) (st1 := fun x159 => Value.int x159 :: []) C [] (fun r9 e9 => mX9_thrown C.flag N ol2 e9) mwX9_thrown miX9_thrown wd_1383 ol2 (by decide) rfl rfl rfl (Nat.le_of_ble_eq_true rfl) dL_law_947 ⟨rfl, rfl, Nat.le_of_ble_eq_true rfl, Nat.le_of_ble_eq_true rfl, by show 689 + _ + _ ≤ 603072; omega, by show 6140368 + _ + _ ≤ 7211114; omega⟩ (fun _ => rfl) (fun x159 ex159 => ?_)
    refine bd_iload C 1 dL_law_950 rfl ?_
    refine bd_icmp_eq C 957 dL_law_952 (by decide) (fun c160 => ?_) (fun c160 => ?_)
    · refine bd_iload C 1 dL_law_957 rfl ?_
      refine bd_if_ne C 974 dL_law_959 (by decide) (fun c161 => ?_) (fun c161 => ?_)
      · exact bd_wide (by omega) (by omega) (bd_sub (hb974 _ hk28 j p158.2 l1 l2 l3 l4 l5 cj ol1 ol2 ol3 ol4) [2, 3, 4, 5, 6, 7] rfl)
      · refine bd_aload_n C 5 dL_law_962 rfl rfl ?_
        refine bd_iconst C (v := 0) dL_law_963 (by decide) ?_
        refine bd_lald C dL_law_964 ol3 (fun x162 => ?_)
        refine bd_iload C 0 dL_law_965 rfl ?_
        refine bd_i2l C dL_law_967 ?_
        refine bd_lcmp C dL_law_968 ?_
        refine bd_if_eq C 974 dL_law_969 (by decide) (fun c163 => ?_) (fun c163 => ?_)
        · exact bd_wide (by omega) (by omega) (bd_sub (hb974 _ hk28 j p158.2 l1 l2 l3 l4 l5 cj ol1 ol2 ol3 ol4) [2, 3, 4, 5, 6, 7] rfl)
        · refine bd_iconst C (v := 0) dL_law_972 (by decide) ?_
          exact bd_none
    · refine bd_iconst C (v := 0) dL_law_955 (by decide) ?_
      exact bd_none
  have hb2001 : ∀ (k28 : Nat → Wd → Nat → Nat → Nat → Nat → Int32 → Option Unit), (∀ (j : Nat) (w : Wd) (l1 : Nat) (l2 : Nat) (l3 : Nat) (l4 : Nat) (l5 : Int32) (ol1 : okF F l1 8) (ol2 : okF F l2 9) (ol3 : okF F l3 12) (ol4 : okF F l4 16), BD g G F 9 qv (689 + j) (6140368 + 6 * j) (k28 j w l1 l2 l3 l4 l5) w 28 [(0, .ref b9), (1, .ref l1), (2, .ref l2), (3, .ref l3), (4, .ref l4), (5, .int l5)] []) → ∀  (j : Nat) (w : Wd) (l1 : Nat) (l2 : Nat) (l3 : Nat) (l4 : Nat) (l5 : Int32) (cj : j < 600) (ol1 : okF F l1 8) (ol2 : okF F l2 9) (ol3 : okF F l3 12) (ol4 : okF F l4 16), BD g G F 9 qv (689 + (j + 1)) (6140368 + 6 * (j + 1)) (fL_law_2001 F N L xs k28 j w l1 l2 l3 l4 l5) w 2001 [(0, .ref b9), (1, .ref l1), (2, .ref l2), (3, .ref l3), (4, .ref l4), (5, .int l5)] [] := by
    intro k28 hk28
    intro j w l1 l2 l3 l4 l5 cj ol1 ol2 ol3 ol4
    unfold fL_law_2001
    refine bd_goto C 2250 dL_law_2001 (by decide) ?_
    exact bd_wide (by omega) (by omega) (bd_sub (hb2250 _ hk28 j w l1 l2 l3 l4 l5 cj ol1 ol2 ol3 ol4) [0, 1, 2, 3, 4, 5] rfl)
  have hb1927 : ∀ (k28 : Nat → Wd → Nat → Nat → Nat → Nat → Int32 → Option Unit), (∀ (j : Nat) (w : Wd) (l1 : Nat) (l2 : Nat) (l3 : Nat) (l4 : Nat) (l5 : Int32) (ol1 : okF F l1 8) (ol2 : okF F l2 9) (ol3 : okF F l3 12) (ol4 : okF F l4 16), BD g G F 9 qv (689 + j) (6140368 + 6 * j) (k28 j w l1 l2 l3 l4 l5) w 28 [(0, .ref b9), (1, .ref l1), (2, .ref l2), (3, .ref l3), (4, .ref l4), (5, .int l5)] []) → ∀  (j : Nat) (w : Wd) (l1 : Nat) (l2 : Nat) (l3 : Nat) (l4 : Nat) (l5 : Int32) (cj : j < 600) (ol1 : okF F l1 8) (ol2 : okF F l2 9) (ol3 : okF F l3 12) (ol4 : okF F l4 16), BD g G F 9 qv (689 + j) (6140368 + 6 * j) (fL_law_1927 F N L xs k28 j w l1 l2 l3 l4 l5) w 1927 [(0, .ref b9), (1, .ref l1), (2, .ref l2), (3, .ref l3), (4, .ref l4), (5, .int l5)] [] := by
    intro k28 hk28
    intro j w l1 l2 l3 l4 l5 cj ol1 ol2 ol3 ol4
    unfold fL_law_1927
    refine bd_aload_n C 1 dL_law_1927 rfl rfl ?_
    refine bd_aload_n C 0 dL_law_1928 rfl rfl ?_
    refine bd_iload C 5 dL_law_1929 rfl ?_
    refine bd_iconst C (v := 1) dL_law_1931 (by decide) ?_
    refine bd_iadd C dL_law_1932 ?_
    refine bd_sld C hsx dL_law_1933 (fun x318 => ?_)
    refine bd_aload C 4 dL_law_1934 rfl ?_
    refine bd_callH (vs := fun (r : Int32 × Wd) => some (.int r.1)) (wf := fun (r : Int32 × Wd) => r.2) (st := []) (st1 := fun p319 => Value.int p319.1 :: []) C hNC [.ref l1, .int x318, .ref l4] (fun r9 e9 => mL_kappa C.flag N ol1 ol4 hcm e9) mwL_kappa wd_1153 rfl rfl (Nat.le_of_ble_eq_true rfl) dL_law_1936 ⟨rfl, rfl, Nat.le_of_ble_eq_true rfl, Nat.le_of_ble_eq_true rfl, by show 689 + _ + _ ≤ 603072; omega, by show 6140368 + _ + _ ≤ 7211114; omega⟩ (fun _ => rfl) (fun p319 ep319 => ?_)
    refine bd_istore C [(6, .int p319.1), (0, .ref b9), (1, .ref l1), (2, .ref l2), (3, .ref l3), (4, .ref l4), (5, .int l5)] dL_law_1939 (by decide) rfl ?_
    refine bd_aload_n C 3 dL_law_1941 rfl rfl ?_
    refine bd_aload_n C 1 dL_law_1942 rfl rfl ?_
    refine bd_iload C 6 dL_law_1943 rfl ?_
    refine bd_iconst C (v := 1) dL_law_1945 (by decide) ?_
    refine bd_iadd C dL_law_1946 ?_
    refine bd_sld C hsx dL_law_1947 (fun x320 => ?_)
    refine bd_callV (vs := fun (r : UInt64 × Wd) => some (.double r.1)) (wf := fun (r : UInt64 × Wd) => r.2) (st := []) (st1 := fun p321 => Value.double p321.1 :: []) C [.int x320] (fun r9 e9 => mX9_kappa C.flag N ol2 e9) mwX9_kappa miX9_kappa wd_1724 ol2 (by decide) rfl rfl rfl (Nat.le_of_ble_eq_true rfl) dL_law_1948 ⟨rfl, rfl, Nat.le_of_ble_eq_true rfl, Nat.le_of_ble_eq_true rfl, by show 689 + _ + _ ≤ 603072; omega, by show 6140368 + _ + _ ≤ 7211114; omega⟩ (fun _ => rfl) (fun p321 ep321 => ?_)
    refine bd_dstore C [(7, .double p321.1), (6, .int p319.1), (0, .ref b9), (1, .ref l1), (2, .ref l2), (3, .ref l3), (4, .ref l4), (5, .int l5)] dL_law_1951 (by decide) rfl ?_
    refine bd_aload_n C 4 dL_law_1953 rfl rfl ?_
    refine bd_callV (vs := fun (r : Int32) => some (.int r)) (wf := fun _ => p321.2) (st := []) (st1 := fun x322 => Value.int x322 :: []) C [] (fun r9 e9 => mX9_thrown C.flag N ol2 e9) mwX9_thrown miX9_thrown wd_1383 ol2 (by decide) rfl rfl rfl (Nat.le_of_ble_eq_true rfl) dL_law_1954 ⟨rfl, rfl, Nat.le_of_ble_eq_true rfl, Nat.le_of_ble_eq_true rfl, by show 689 + _ + _ ≤ 603072; omega, by show 6140368 + _ + _ ≤ 7211114; omega⟩ (fun _ => rfl) (fun x322 ex322 => ?_)
    refine bd_iload C 1 dL_law_1957 rfl ?_
    refine bd_icmp_eq C 1964 dL_law_1959 (by decide) (fun c323 => ?_) (fun c323 => ?_)
    · refine bd_iload C 1 dL_law_1964 rfl ?_
      refine bd_if_ne C 2001 dL_law_1966 (by decide) (fun c324 => ?_) (fun c324 => ?_)
      · exact bd_wide (by omega) (by omega) (bd_sub (hb2001 _ hk28 j p321.2 l1 l2 l3 l4 l5 cj ol1 ol2 ol3 ol4) [2, 3, 4, 5, 6, 7] rfl)
      · refine bd_aload C 6 dL_law_1969 rfl ?_
        refine bd_iconst C (v := 0) dL_law_1971 (by decide) ?_
        refine bd_dald C dL_law_1972 ol4 (fun x325 => ?_)
        refine bd_dload C 0 dL_law_1973 rfl ?_
        refine bd_dcmp C dL_law_1975 ?_
        refine bd_if_eq C 2001 dL_law_1976 (by decide) (fun c326 => ?_) (fun c326 => ?_)
        · exact bd_wide (by omega) (by omega) (bd_sub (hb2001 _ hk28 j p321.2 l1 l2 l3 l4 l5 cj ol1 ol2 ol3 ol4) [2, 3, 4, 5, 6, 7] rfl)
        · refine bd_aload C 6 dL_law_1979 rfl ?_
          refine bd_iconst C (v := 0) dL_law_1981 (by decide) ?_
          refine bd_dald C dL_law_1982 ol4 (fun x327 => ?_)
          refine bd_aload C 6 dL_law_1983 rfl ?_
          refine bd_iconst C (v := 0) dL_law_1985 (by decide) ?_
          refine bd_dald C dL_law_1986 ol4 (fun x328 => ?_)
          refine bd_dcmp C dL_law_1987 ?_
          refine bd_if_eq C 1999 dL_law_1988 (by decide) (fun c329 => ?_) (fun c329 => ?_)
          · refine bd_iconst C (v := 0) dL_law_1999 (by decide) ?_
            exact bd_none
          · refine bd_dload C 0 dL_law_1991 rfl ?_
            refine bd_dload C 0 dL_law_1993 rfl ?_
            refine bd_dcmp C dL_law_1995 ?_
            refine bd_if_ne C 2001 dL_law_1996 (by decide) (fun c330 => ?_) (fun c330 => ?_)
            · exact bd_wide (by omega) (by omega) (bd_sub (hb2001 _ hk28 j p321.2 l1 l2 l3 l4 l5 cj ol1 ol2 ol3 ol4) [2, 3, 4, 5, 6, 7] rfl)
            · refine bd_iconst C (v := 0) dL_law_1999 (by decide) ?_
              exact bd_none
    · refine bd_iconst C (v := 0) dL_law_1962 (by decide) ?_
      exact bd_none
  have hb2102 : ∀ (k28 : Nat → Wd → Nat → Nat → Nat → Nat → Int32 → Option Unit), (∀ (j : Nat) (w : Wd) (l1 : Nat) (l2 : Nat) (l3 : Nat) (l4 : Nat) (l5 : Int32) (ol1 : okF F l1 8) (ol2 : okF F l2 9) (ol3 : okF F l3 12) (ol4 : okF F l4 16), BD g G F 9 qv (689 + j) (6140368 + 6 * j) (k28 j w l1 l2 l3 l4 l5) w 28 [(0, .ref b9), (1, .ref l1), (2, .ref l2), (3, .ref l3), (4, .ref l4), (5, .int l5)] []) → ∀  (j : Nat) (w : Wd) (l1 : Nat) (l2 : Nat) (l3 : Nat) (l4 : Nat) (l5 : Int32) (cj : j < 600) (ol1 : okF F l1 8) (ol2 : okF F l2 9) (ol3 : okF F l3 12) (ol4 : okF F l4 16), BD g G F 9 qv (689 + (j + 1)) (6140368 + 6 * (j + 1)) (fL_law_2102 F N L xs k28 j w l1 l2 l3 l4 l5) w 2102 [(0, .ref b9), (1, .ref l1), (2, .ref l2), (3, .ref l3), (4, .ref l4), (5, .int l5)] [] := by
    intro k28 hk28
    intro j w l1 l2 l3 l4 l5 cj ol1 ol2 ol3 ol4
    unfold fL_law_2102
    refine bd_goto C 2250 dL_law_2102 (by decide) ?_
    exact bd_wide (by omega) (by omega) (bd_sub (hb2250 _ hk28 j w l1 l2 l3 l4 l5 cj ol1 ol2 ol3 ol4) [0, 1, 2, 3, 4, 5] rfl)
  have hb2061 : ∀ (k28 : Nat → Wd → Nat → Nat → Nat → Nat → Int32 → Option Unit), (∀ (j : Nat) (w : Wd) (l1 : Nat) (l2 : Nat) (l3 : Nat) (l4 : Nat) (l5 : Int32) (ol1 : okF F l1 8) (ol2 : okF F l2 9) (ol3 : okF F l3 12) (ol4 : okF F l4 16), BD g G F 9 qv (689 + j) (6140368 + 6 * j) (k28 j w l1 l2 l3 l4 l5) w 28 [(0, .ref b9), (1, .ref l1), (2, .ref l2), (3, .ref l3), (4, .ref l4), (5, .int l5)] []) → ∀  (j : Nat) (w : Wd) (l1 : Nat) (l2 : Nat) (l3 : Nat) (l4 : Nat) (l5 : Int32) (cj : j < 600) (ol1 : okF F l1 8) (ol2 : okF F l2 9) (ol3 : okF F l3 12) (ol4 : okF F l4 16), BD g G F 9 qv (689 + j) (6140368 + 6 * j) (fL_law_2061 F N L xs k28 j w l1 l2 l3 l4 l5) w 2061 [(0, .ref b9), (1, .ref l1), (2, .ref l2), (3, .ref l3), (4, .ref l4), (5, .int l5)] [] := by
    intro k28 hk28
    intro j w l1 l2 l3 l4 l5 cj ol1 ol2 ol3 ol4
    unfold fL_law_2061
    refine bd_aload_n C 1 dL_law_2061 rfl rfl ?_
    refine bd_aload_n C 3 dL_law_2062 rfl rfl ?_
    refine bd_callH (vs := fun (r : Int32 × Wd) => some (.int r.1)) (wf := fun (r : Int32 × Wd) => r.2) (st := []) (st1 := fun p341 => Value.int p341.1 :: []) C hNC [.ref l1, .ref l3] (fun r9 e9 => mL_errorPosition C.flag N ol1 ol3 hcm e9) mwL_errorPosition wd_1197 rfl rfl (Nat.le_of_ble_eq_true rfl) dL_law_2063 ⟨rfl, rfl, Nat.le_of_ble_eq_true rfl, Nat.le_of_ble_eq_true rfl, by show 689 + _ + _ ≤ 603072; omega, by show 6140368 + _ + _ ≤ 7211114; omega⟩ (fun _ => rfl) (fun p341 ep341 => ?_)
    refine bd_istore C [(6, .int p341.1), (0, .ref b9), (1, .ref l1), (2, .ref l2), (3, .ref l3), (4, .ref l4), (5, .int l5)] dL_law_2066 (by decide) rfl ?_
    refine bd_aload_n C 3 dL_law_2068 rfl rfl ?_
    refine bd_callV (vs := fun (r : Int32 × Wd) => some (.int r.1)) (wf := fun (r : Int32 × Wd) => r.2) (st := []) (st1 := fun p342 => Value.int p342.1 :: []) C [] (fun r9 e9 => mX9_errorPosition C.flag N ol2 e9) mwX9_errorPosition miX9_errorPosition wd_1755 ol2 (by decide) rfl rfl rfl (Nat.le_of_ble_eq_true rfl) dL_law_2069 ⟨rfl, rfl, Nat.le_of_ble_eq_true rfl, Nat.le_of_ble_eq_true rfl, by show 689 + _ + _ ≤ 603072; omega, by show 6140368 + _ + _ ≤ 7211114; omega⟩ (fun _ => rfl) (fun p342 ep342 => ?_)
    refine bd_istore C [(7, .int p342.1), (6, .int p341.1), (0, .ref b9), (1, .ref l1), (2, .ref l2), (3, .ref l3), (4, .ref l4), (5, .int l5)] dL_law_2072 (by decide) rfl ?_
    refine bd_aload_n C 4 dL_law_2074 rfl rfl ?_
    refine bd_callV (vs := fun (r : Int32) => some (.int r)) (wf := fun _ => p342.2) (st := []) (st1 := fun x343 => Value.int x343 :: []) C [] (fun r9 e9 => mX9_thrown C.flag N ol2 e9) mwX9_thrown miX9_thrown wd_1383 ol2 (by decide) rfl rfl rfl (Nat.le_of_ble_eq_true rfl) dL_law_2075 ⟨rfl, rfl, Nat.le_of_ble_eq_true rfl, Nat.le_of_ble_eq_true rfl, by show 689 + _ + _ ≤ 603072; omega, by show 6140368 + _ + _ ≤ 7211114; omega⟩ (fun _ => rfl) (fun x343 ex343 => ?_)
    refine bd_iload C 1 dL_law_2078 rfl ?_
    refine bd_icmp_eq C 2085 dL_law_2080 (by decide) (fun c344 => ?_) (fun c344 => ?_)
    · refine bd_iload C 1 dL_law_2085 rfl ?_
      refine bd_if_ne C 2102 dL_law_2087 (by decide) (fun c345 => ?_) (fun c345 => ?_)
      · exact bd_wide (by omega) (by omega) (bd_sub (hb2102 _ hk28 j p342.2 l1 l2 l3 l4 l5 cj ol1 ol2 ol3 ol4) [2, 3, 4, 5, 6, 7] rfl)
      · refine bd_aload_n C 5 dL_law_2090 rfl rfl ?_
        refine bd_iconst C (v := 0) dL_law_2091 (by decide) ?_
        refine bd_lald C dL_law_2092 ol3 (fun x346 => ?_)
        refine bd_iload C 0 dL_law_2093 rfl ?_
        refine bd_i2l C dL_law_2095 ?_
        refine bd_lcmp C dL_law_2096 ?_
        refine bd_if_eq C 2102 dL_law_2097 (by decide) (fun c347 => ?_) (fun c347 => ?_)
        · exact bd_wide (by omega) (by omega) (bd_sub (hb2102 _ hk28 j p342.2 l1 l2 l3 l4 l5 cj ol1 ol2 ol3 ol4) [2, 3, 4, 5, 6, 7] rfl)
        · refine bd_iconst C (v := 0) dL_law_2100 (by decide) ?_
          exact bd_none
    · refine bd_iconst C (v := 0) dL_law_2083 (by decide) ?_
      exact bd_none
  have hb1518 : ∀ (k28 : Nat → Wd → Nat → Nat → Nat → Nat → Int32 → Option Unit), (∀ (j : Nat) (w : Wd) (l1 : Nat) (l2 : Nat) (l3 : Nat) (l4 : Nat) (l5 : Int32) (ol1 : okF F l1 8) (ol2 : okF F l2 9) (ol3 : okF F l3 12) (ol4 : okF F l4 16), BD g G F 9 qv (689 + j) (6140368 + 6 * j) (k28 j w l1 l2 l3 l4 l5) w 28 [(0, .ref b9), (1, .ref l1), (2, .ref l2), (3, .ref l3), (4, .ref l4), (5, .int l5)] []) → ∀  (j : Nat) (w : Wd) (l1 : Nat) (l2 : Nat) (l3 : Nat) (l4 : Nat) (l5 : Int32) (cj : j < 600) (ol1 : okF F l1 8) (ol2 : okF F l2 9) (ol3 : okF F l3 12) (ol4 : okF F l4 16), BD g G F 9 qv (689 + (j + 1)) (6140368 + 6 * (j + 1)) (fL_law_1518 F N L xs k28 j w l1 l2 l3 l4 l5) w 1518 [(0, .ref b9), (1, .ref l1), (2, .ref l2), (3, .ref l3), (4, .ref l4), (5, .int l5)] [] := by
    intro k28 hk28
    intro j w l1 l2 l3 l4 l5 cj ol1 ol2 ol3 ol4
    unfold fL_law_1518
    refine bd_goto C 2250 dL_law_1518 (by decide) ?_
    exact bd_wide (by omega) (by omega) (bd_sub (hb2250 _ hk28 j w l1 l2 l3 l4 l5 cj ol1 ol2 ol3 ol4) [0, 1, 2, 3, 4, 5] rfl)
  have hb1485 : ∀ (k28 : Nat → Wd → Nat → Nat → Nat → Nat → Int32 → Option Unit), (∀ (j : Nat) (w : Wd) (l1 : Nat) (l2 : Nat) (l3 : Nat) (l4 : Nat) (l5 : Int32) (ol1 : okF F l1 8) (ol2 : okF F l2 9) (ol3 : okF F l3 12) (ol4 : okF F l4 16), BD g G F 9 qv (689 + j) (6140368 + 6 * j) (k28 j w l1 l2 l3 l4 l5) w 28 [(0, .ref b9), (1, .ref l1), (2, .ref l2), (3, .ref l3), (4, .ref l4), (5, .int l5)] []) → ∀  (j : Nat) (w : Wd) (l1 : Nat) (l2 : Nat) (l3 : Nat) (l4 : Nat) (l5 : Int32) (l6 : Int32) (s0 : Nat) (s1 : Int32) (s2 : Int32) (s3 : Int32) (cj : j < 600) (ol1 : okF F l1 8) (ol2 : okF F l2 9) (ol3 : okF F l3 12) (ol4 : okF F l4 16) (os0 : okF F s0 9), BD g G F 9 qv (689 + (j + 1)) (6140368 + 6 * (j + 1)) (fL_law_1485 F N L xs k28 j w l1 l2 l3 l4 l5 l6 s0 s1 s2 s3) w 1485 [(0, .ref b9), (1, .ref l1), (2, .ref l2), (3, .ref l3), (4, .ref l4), (5, .int l5), (6, .int l6)] [.int s3, .int s2, .int s1, .ref s0] := by
    intro k28 hk28
    intro j w l1 l2 l3 l4 l5 l6 s0 s1 s2 s3 cj ol1 ol2 ol3 ol4 os0
    unfold fL_law_1485
    refine bd_callV (vs := fun (r : Int32 × Wd) => some (.int r.1)) (wf := fun (r : Int32 × Wd) => r.2) (st := []) (st1 := fun p245 => Value.int p245.1 :: []) C [.int s1, .int s2, .int s3] (fun r9 e9 => mX9_alignment C.flag N os0 e9) mwX9_alignment miX9_alignment wd_1646 os0 (by decide) rfl rfl rfl (Nat.le_of_ble_eq_true rfl) dL_law_1485 ⟨rfl, rfl, Nat.le_of_ble_eq_true rfl, Nat.le_of_ble_eq_true rfl, by show 689 + _ + _ ≤ 603072; omega, by show 6140368 + _ + _ ≤ 7211114; omega⟩ (fun _ => rfl) (fun p245 ep245 => ?_)
    refine bd_istore C [(7, .int p245.1), (0, .ref b9), (1, .ref l1), (2, .ref l2), (3, .ref l3), (4, .ref l4), (5, .int l5), (6, .int l6)] dL_law_1488 (by decide) rfl ?_
    refine bd_aload_n C 3 dL_law_1490 rfl rfl ?_
    refine bd_callV (vs := fun (r : Int32) => some (.int r)) (wf := fun _ => p245.2) (st := []) (st1 := fun x246 => Value.int x246 :: []) C [] (fun r9 e9 => mX9_thrown C.flag N ol2 e9) mwX9_thrown miX9_thrown wd_1383 ol2 (by decide) rfl rfl rfl (Nat.le_of_ble_eq_true rfl) dL_law_1491 ⟨rfl, rfl, Nat.le_of_ble_eq_true rfl, Nat.le_of_ble_eq_true rfl, by show 689 + _ + _ ≤ 603072; omega, by show 6140368 + _ + _ ≤ 7211114; omega⟩ (fun _ => rfl) (fun x246 ex246 => ?_)
    refine bd_iload C 7 dL_law_1494 rfl ?_
    refine bd_icmp_eq C 1501 dL_law_1496 (by decide) (fun c247 => ?_) (fun c247 => ?_)
    · refine bd_iload C 7 dL_law_1501 rfl ?_
      refine bd_if_ne C 1518 dL_law_1503 (by decide) (fun c248 => ?_) (fun c248 => ?_)
      · exact bd_wide (by omega) (by omega) (bd_sub (hb1518 _ hk28 j p245.2 l1 l2 l3 l4 l5 cj ol1 ol2 ol3 ol4) [1, 2, 3, 4, 5, 6] rfl)
      · refine bd_aload_n C 4 dL_law_1506 rfl rfl ?_
        refine bd_iconst C (v := 0) dL_law_1507 (by decide) ?_
        refine bd_lald C dL_law_1508 ol3 (fun x249 => ?_)
        refine bd_iload C 0 dL_law_1509 rfl ?_
        refine bd_i2l C dL_law_1511 ?_
        refine bd_lcmp C dL_law_1512 ?_
        refine bd_if_eq C 1518 dL_law_1513 (by decide) (fun c250 => ?_) (fun c250 => ?_)
        · exact bd_wide (by omega) (by omega) (bd_sub (hb1518 _ hk28 j p245.2 l1 l2 l3 l4 l5 cj ol1 ol2 ol3 ol4) [1, 2, 3, 4, 5, 6] rfl)
        · refine bd_iconst C (v := 0) dL_law_1516 (by decide) ?_
          exact bd_none
    · refine bd_iconst C (v := 0) dL_law_1499 (by decide) ?_
      exact bd_none
  have hb1452 : ∀ (k28 : Nat → Wd → Nat → Nat → Nat → Nat → Int32 → Option Unit), (∀ (j : Nat) (w : Wd) (l1 : Nat) (l2 : Nat) (l3 : Nat) (l4 : Nat) (l5 : Int32) (ol1 : okF F l1 8) (ol2 : okF F l2 9) (ol3 : okF F l3 12) (ol4 : okF F l4 16), BD g G F 9 qv (689 + j) (6140368 + 6 * j) (k28 j w l1 l2 l3 l4 l5) w 28 [(0, .ref b9), (1, .ref l1), (2, .ref l2), (3, .ref l3), (4, .ref l4), (5, .int l5)] []) → ∀  (j : Nat) (w : Wd) (l1 : Nat) (l2 : Nat) (l3 : Nat) (l4 : Nat) (l5 : Int32) (s0 : Nat) (s1 : Int32) (s2 : Int32) (s3 : Int32) (cj : j < 600) (ol1 : okF F l1 8) (ol2 : okF F l2 9) (ol3 : okF F l3 12) (ol4 : okF F l4 16) (os0 : okF F s0 8), BD g G F 9 qv (689 + j) (6140368 + 6 * j) (fL_law_1452 F N L xs k28 j w l1 l2 l3 l4 l5 s0 s1 s2 s3) w 1452 [(0, .ref b9), (1, .ref l1), (2, .ref l2), (3, .ref l3), (4, .ref l4), (5, .int l5)] [.int s3, .int s2, .int s1, .ref s0] := by
    intro k28 hk28
    intro j w l1 l2 l3 l4 l5 s0 s1 s2 s3 cj ol1 ol2 ol3 ol4 os0
    unfold fL_law_1452
    refine bd_aload_n C 3 dL_law_1452 rfl rfl ?_
    refine bd_callH (vs := fun (r : Int32 × Wd) => some (.int r.1)) (wf := fun (r : Int32 × Wd) => r.2) (st := []) (st1 := fun p240 => Value.int p240.1 :: []) C hNC [.ref s0, .int s1, .int s2, .int s3, .ref l3] (fun r9 e9 => mL_alignment C.flag N os0 ol3 hcm e9) mwL_alignment wd_967 rfl rfl (Nat.le_of_ble_eq_true rfl) dL_law_1453 ⟨rfl, rfl, Nat.le_of_ble_eq_true rfl, Nat.le_of_ble_eq_true rfl, by show 689 + _ + _ ≤ 603072; omega, by show 6140368 + _ + _ ≤ 7211114; omega⟩ (fun _ => rfl) (fun p240 ep240 => ?_)
    refine bd_istore C [(6, .int p240.1), (0, .ref b9), (1, .ref l1), (2, .ref l2), (3, .ref l3), (4, .ref l4), (5, .int l5)] dL_law_1456 (by decide) rfl ?_
    refine bd_aload_n C 3 dL_law_1458 rfl rfl ?_
    refine bd_aload_n C 1 dL_law_1459 rfl rfl ?_
    refine bd_iload C 6 dL_law_1460 rfl ?_
    refine bd_iconst C (v := 1) dL_law_1462 (by decide) ?_
    refine bd_iadd C dL_law_1463 ?_
    refine bd_sld C hsx dL_law_1464 (fun x241 => ?_)
    refine bd_aload_n C 1 dL_law_1465 rfl rfl ?_
    refine bd_iload C 6 dL_law_1466 rfl ?_
    refine bd_iconst C (v := 2) dL_law_1468 (by decide) ?_
    refine bd_iadd C dL_law_1469 ?_
    refine bd_sld C hsx dL_law_1470 (fun x242 => ?_)
    refine bd_aload_n C 1 dL_law_1471 rfl rfl ?_
    refine bd_iload C 6 dL_law_1472 rfl ?_
    refine bd_iconst C (v := 3) dL_law_1474 (by decide) ?_
    refine bd_iadd C dL_law_1475 ?_
    refine bd_sld C hsx dL_law_1476 (fun x243 => ?_)
    refine bd_if_eq C 1484 dL_law_1477 (by decide) (fun c244 => ?_) (fun c244 => ?_)
    · refine bd_iconst C (v := 0) dL_law_1484 (by decide) ?_
      exact bd_wide (by omega) (by omega) (bd_sub (hb1485 _ hk28 j p240.2 l1 l2 l3 l4 l5 p240.1 l2 x241 x242 0 cj ol1 ol2 ol3 ol4 ol2) [1, 2, 3, 4, 5, 6, 0] rfl)
    · refine bd_iconst C (v := 1) dL_law_1480 (by decide) ?_
      refine bd_goto C 1485 dL_law_1481 (by decide) ?_
      exact bd_wide (by omega) (by omega) (bd_sub (hb1485 _ hk28 j p240.2 l1 l2 l3 l4 l5 p240.1 l2 x241 x242 1 cj ol1 ol2 ol3 ol4 ol2) [1, 2, 3, 4, 5, 6, 0] rfl)
  have hb1425 : ∀ (k28 : Nat → Wd → Nat → Nat → Nat → Nat → Int32 → Option Unit), (∀ (j : Nat) (w : Wd) (l1 : Nat) (l2 : Nat) (l3 : Nat) (l4 : Nat) (l5 : Int32) (ol1 : okF F l1 8) (ol2 : okF F l2 9) (ol3 : okF F l3 12) (ol4 : okF F l4 16), BD g G F 9 qv (689 + j) (6140368 + 6 * j) (k28 j w l1 l2 l3 l4 l5) w 28 [(0, .ref b9), (1, .ref l1), (2, .ref l2), (3, .ref l3), (4, .ref l4), (5, .int l5)] []) → ∀  (j : Nat) (w : Wd) (l1 : Nat) (l2 : Nat) (l3 : Nat) (l4 : Nat) (l5 : Int32) (cj : j < 600) (ol1 : okF F l1 8) (ol2 : okF F l2 9) (ol3 : okF F l3 12) (ol4 : okF F l4 16), BD g G F 9 qv (689 + j) (6140368 + 6 * j) (fL_law_1425 F N L xs k28 j w l1 l2 l3 l4 l5) w 1425 [(0, .ref b9), (1, .ref l1), (2, .ref l2), (3, .ref l3), (4, .ref l4), (5, .int l5)] [] := by
    intro k28 hk28
    intro j w l1 l2 l3 l4 l5 cj ol1 ol2 ol3 ol4
    unfold fL_law_1425
    refine bd_aload_n C 1 dL_law_1425 rfl rfl ?_
    refine bd_aload_n C 0 dL_law_1426 rfl rfl ?_
    refine bd_iload C 5 dL_law_1427 rfl ?_
    refine bd_iconst C (v := 1) dL_law_1429 (by decide) ?_
    refine bd_iadd C dL_law_1430 ?_
    refine bd_sld C hsx dL_law_1431 (fun x236 => ?_)
    refine bd_aload_n C 0 dL_law_1432 rfl rfl ?_
    refine bd_iload C 5 dL_law_1433 rfl ?_
    refine bd_iconst C (v := 2) dL_law_1435 (by decide) ?_
    refine bd_iadd C dL_law_1436 ?_
    refine bd_sld C hsx dL_law_1437 (fun x237 => ?_)
    refine bd_aload_n C 0 dL_law_1438 rfl rfl ?_
    refine bd_iload C 5 dL_law_1439 rfl ?_
    refine bd_iconst C (v := 3) dL_law_1441 (by decide) ?_
    refine bd_iadd C dL_law_1442 ?_
    refine bd_sld C hsx dL_law_1443 (fun x238 => ?_)
    refine bd_if_eq C 1451 dL_law_1444 (by decide) (fun c239 => ?_) (fun c239 => ?_)
    · refine bd_iconst C (v := 0) dL_law_1451 (by decide) ?_
      exact bd_wide (by omega) (by omega) (bd_sub (hb1452 _ hk28 j w l1 l2 l3 l4 l5 l1 x236 x237 0 cj ol1 ol2 ol3 ol4 ol1) [0, 1, 2, 3, 4, 5] rfl)
    · refine bd_iconst C (v := 1) dL_law_1447 (by decide) ?_
      refine bd_goto C 1452 dL_law_1448 (by decide) ?_
      exact bd_wide (by omega) (by omega) (bd_sub (hb1452 _ hk28 j w l1 l2 l3 l4 l5 l1 x236 x237 1 cj ol1 ol2 ol3 ol4 ol1) [0, 1, 2, 3, 4, 5] rfl)
  have hb2193 : ∀ (k28 : Nat → Wd → Nat → Nat → Nat → Nat → Int32 → Option Unit), (∀ (j : Nat) (w : Wd) (l1 : Nat) (l2 : Nat) (l3 : Nat) (l4 : Nat) (l5 : Int32) (ol1 : okF F l1 8) (ol2 : okF F l2 9) (ol3 : okF F l3 12) (ol4 : okF F l4 16), BD g G F 9 qv (689 + j) (6140368 + 6 * j) (k28 j w l1 l2 l3 l4 l5) w 28 [(0, .ref b9), (1, .ref l1), (2, .ref l2), (3, .ref l3), (4, .ref l4), (5, .int l5)] []) → ∀  (j : Nat) (w : Wd) (l1 : Nat) (l2 : Nat) (l3 : Nat) (l4 : Nat) (l5 : Int32) (cj : j < 600) (ol1 : okF F l1 8) (ol2 : okF F l2 9) (ol3 : okF F l3 12) (ol4 : okF F l4 16), BD g G F 9 qv (689 + j) (6140368 + 6 * j) (fL_law_2193 F N L xs k28 j w l1 l2 l3 l4 l5) w 2193 [(0, .ref b9), (1, .ref l1), (2, .ref l2), (3, .ref l3), (4, .ref l4), (5, .int l5)] [] := by
    intro k28 hk28
    intro j w l1 l2 l3 l4 l5 cj ol1 ol2 ol3 ol4
    unfold fL_law_2193
    refine bd_aload_n C 1 dL_law_2193 rfl rfl ?_
    refine bd_callV (vs := fun (r : Int32 × Wd) => some (.int r.1)) (wf := fun (r : Int32 × Wd) => r.2) (st := []) (st1 := fun p362 => Value.int p362.1 :: []) C [] (fun r9 e9 => mX8_snapshot C.flag N ol1 e9) mwX8_snapshot miX8_snapshot wd_452 ol1 (by decide) rfl rfl rfl (Nat.le_of_ble_eq_true rfl) dL_law_2194 ⟨rfl, rfl, Nat.le_of_ble_eq_true rfl, Nat.le_of_ble_eq_true rfl, by show 689 + _ + _ ≤ 603072; omega, by show 6140368 + _ + _ ≤ 7211114; omega⟩ (fun _ => rfl) (fun p362 ep362 => ?_)
    refine bd_aload_n C 2 dL_law_2197 rfl rfl ?_
    refine bd_callV (vs := fun (r : Int32 × Wd) => some (.int r.1)) (wf := fun (r : Int32 × Wd) => r.2) (st := [.int p362.1]) (st1 := fun p363 => Value.int p363.1 :: [.int p362.1]) C [] (fun r9 e9 => mX9_snapshot C.flag N ol2 e9) mwX9_snapshot miX9_snapshot wd_1767 ol2 (by decide) rfl rfl rfl (Nat.le_of_ble_eq_true rfl) dL_law_2198 ⟨rfl, rfl, Nat.le_of_ble_eq_true rfl, Nat.le_of_ble_eq_true rfl, by show 689 + _ + _ ≤ 603072; omega, by show 6140368 + _ + _ ≤ 7211114; omega⟩ (fun _ => rfl) (fun p363 ep363 => ?_)
    refine bd_icmp_eq C 2250 dL_law_2201 (by decide) (fun c364 => ?_) (fun c364 => ?_)
    · exact bd_wide (by omega) (by omega) (bd_sub (hb2250 _ hk28 j p363.2 l1 l2 l3 l4 l5 cj ol1 ol2 ol3 ol4) [0, 1, 2, 3, 4, 5] rfl)
    · refine bd_iconst C (v := 0) dL_law_2204 (by decide) ?_
      exact bd_none
  have hb586 : ∀ (k28 : Nat → Wd → Nat → Nat → Nat → Nat → Int32 → Option Unit), (∀ (j : Nat) (w : Wd) (l1 : Nat) (l2 : Nat) (l3 : Nat) (l4 : Nat) (l5 : Int32) (ol1 : okF F l1 8) (ol2 : okF F l2 9) (ol3 : okF F l3 12) (ol4 : okF F l4 16), BD g G F 9 qv (689 + j) (6140368 + 6 * j) (k28 j w l1 l2 l3 l4 l5) w 28 [(0, .ref b9), (1, .ref l1), (2, .ref l2), (3, .ref l3), (4, .ref l4), (5, .int l5)] []) → ∀  (j : Nat) (w : Wd) (l1 : Nat) (l2 : Nat) (l3 : Nat) (l4 : Nat) (l5 : Int32) (cj : j < 600) (ol1 : okF F l1 8) (ol2 : okF F l2 9) (ol3 : okF F l3 12) (ol4 : okF F l4 16), BD g G F 9 qv (689 + (j + 1)) (6140368 + 6 * (j + 1)) (fL_law_586 F N L xs k28 j w l1 l2 l3 l4 l5) w 586 [(0, .ref b9), (1, .ref l1), (2, .ref l2), (3, .ref l3), (4, .ref l4), (5, .int l5)] [] := by
    intro k28 hk28
    intro j w l1 l2 l3 l4 l5 cj ol1 ol2 ol3 ol4
    unfold fL_law_586
    refine bd_goto C 2250 dL_law_586 (by decide) ?_
    exact bd_wide (by omega) (by omega) (bd_sub (hb2250 _ hk28 j w l1 l2 l3 l4 l5 cj ol1 ol2 ol3 ol4) [0, 1, 2, 3, 4, 5] rfl)
  have hb533 : ∀ (k28 : Nat → Wd → Nat → Nat → Nat → Nat → Int32 → Option Unit), (∀ (j : Nat) (w : Wd) (l1 : Nat) (l2 : Nat) (l3 : Nat) (l4 : Nat) (l5 : Int32) (ol1 : okF F l1 8) (ol2 : okF F l2 9) (ol3 : okF F l3 12) (ol4 : okF F l4 16), BD g G F 9 qv (689 + j) (6140368 + 6 * j) (k28 j w l1 l2 l3 l4 l5) w 28 [(0, .ref b9), (1, .ref l1), (2, .ref l2), (3, .ref l3), (4, .ref l4), (5, .int l5)] []) → ∀  (j : Nat) (w : Wd) (l1 : Nat) (l2 : Nat) (l3 : Nat) (l4 : Nat) (l5 : Int32) (cj : j < 600) (ol1 : okF F l1 8) (ol2 : okF F l2 9) (ol3 : okF F l3 12) (ol4 : okF F l4 16), BD g G F 9 qv (689 + j) (6140368 + 6 * j) (fL_law_533 F N L xs k28 j w l1 l2 l3 l4 l5) w 533 [(0, .ref b9), (1, .ref l1), (2, .ref l2), (3, .ref l3), (4, .ref l4), (5, .int l5)] [] := by
    intro k28 hk28
    intro j w l1 l2 l3 l4 l5 cj ol1 ol2 ol3 ol4
    unfold fL_law_533
    refine bd_aload_n C 1 dL_law_533 rfl rfl ?_
    refine bd_aload_n C 0 dL_law_534 rfl rfl ?_
    refine bd_iload C 5 dL_law_535 rfl ?_
    refine bd_iconst C (v := 1) dL_law_537 (by decide) ?_
    refine bd_iadd C dL_law_538 ?_
    refine bd_sld C hsx dL_law_539 (fun x92 => ?_)
    refine bd_aload_n C 3 dL_law_540 rfl rfl ?_
    refine bd_callH (vs := fun (r : Int32 × Wd) => some (.int r.1)) (wf := fun (r : Int32 × Wd) => r.2) (st := []) (st1 := fun p93 => Value.int p93.1 :: []) C hNC [.ref l1, .int x92, .ref l3] (fun r9 e9 => mL_append C.flag N ol1 ol3 hcm e9) mwL_append wd_686 rfl rfl (Nat.le_of_ble_eq_true rfl) dL_law_541 ⟨rfl, rfl, Nat.le_of_ble_eq_true rfl, Nat.le_of_ble_eq_true rfl, by show 689 + _ + _ ≤ 603072; omega, by show 6140368 + _ + _ ≤ 7211114; omega⟩ (fun _ => rfl) (fun p93 ep93 => ?_)
    refine bd_istore C [(6, .int p93.1), (0, .ref b9), (1, .ref l1), (2, .ref l2), (3, .ref l3), (4, .ref l4), (5, .int l5)] dL_law_544 (by decide) rfl ?_
    refine bd_aload_n C 3 dL_law_546 rfl rfl ?_
    refine bd_aload_n C 1 dL_law_547 rfl rfl ?_
    refine bd_iload C 6 dL_law_548 rfl ?_
    refine bd_iconst C (v := 1) dL_law_550 (by decide) ?_
    refine bd_iadd C dL_law_551 ?_
    refine bd_sld C hsx dL_law_552 (fun x94 => ?_)
    refine bd_callV (vs := fun (r : Int32 × Wd) => some (.int r.1)) (wf := fun (r : Int32 × Wd) => r.2) (st := []) (st1 := fun p95 => Value.int p95.1 :: []) C [.int x94] (fun r9 e9 => mX9_append C.flag N ol2 e9) mwX9_append miX9_append wd_1471 ol2 (by decide) rfl rfl rfl (Nat.le_of_ble_eq_true rfl) dL_law_553 ⟨rfl, rfl, Nat.le_of_ble_eq_true rfl, Nat.le_of_ble_eq_true rfl, by show 689 + _ + _ ≤ 603072; omega, by show 6140368 + _ + _ ≤ 7211114; omega⟩ (fun _ => rfl) (fun p95 ep95 => ?_)
    refine bd_istore C [(7, .int p95.1), (6, .int p93.1), (0, .ref b9), (1, .ref l1), (2, .ref l2), (3, .ref l3), (4, .ref l4), (5, .int l5)] dL_law_556 (by decide) rfl ?_
    refine bd_aload_n C 4 dL_law_558 rfl rfl ?_
    refine bd_callV (vs := fun (r : Int32) => some (.int r)) (wf := fun _ => p95.2) (st := []) (st1 := fun x96 => Value.int x96 :: []) C [] (fun r9 e9 => mX9_thrown C.flag N ol2 e9) mwX9_thrown miX9_thrown wd_1383 ol2 (by decide) rfl rfl rfl (Nat.le_of_ble_eq_true rfl) dL_law_559 ⟨rfl, rfl, Nat.le_of_ble_eq_true rfl, Nat.le_of_ble_eq_true rfl, by show 689 + _ + _ ≤ 603072; omega, by show 6140368 + _ + _ ≤ 7211114; omega⟩ (fun _ => rfl) (fun x96 ex96 => ?_)
    refine bd_iload C 1 dL_law_562 rfl ?_
    refine bd_icmp_eq C 569 dL_law_564 (by decide) (fun c97 => ?_) (fun c97 => ?_)
    · refine bd_iload C 1 dL_law_569 rfl ?_
      refine bd_if_ne C 586 dL_law_571 (by decide) (fun c98 => ?_) (fun c98 => ?_)
      · exact bd_wide (by omega) (by omega) (bd_sub (hb586 _ hk28 j p95.2 l1 l2 l3 l4 l5 cj ol1 ol2 ol3 ol4) [2, 3, 4, 5, 6, 7] rfl)
      · refine bd_aload_n C 5 dL_law_574 rfl rfl ?_
        refine bd_iconst C (v := 0) dL_law_575 (by decide) ?_
        refine bd_lald C dL_law_576 ol3 (fun x99 => ?_)
        refine bd_iload C 0 dL_law_577 rfl ?_
        refine bd_i2l C dL_law_579 ?_
        refine bd_lcmp C dL_law_580 ?_
        refine bd_if_eq C 586 dL_law_581 (by decide) (fun c100 => ?_) (fun c100 => ?_)
        · exact bd_wide (by omega) (by omega) (bd_sub (hb586 _ hk28 j p95.2 l1 l2 l3 l4 l5 cj ol1 ol2 ol3 ol4) [2, 3, 4, 5, 6, 7] rfl)
        · refine bd_iconst C (v := 0) dL_law_584 (by decide) ?_
          exact bd_none
    · refine bd_iconst C (v := 0) dL_law_567 (by decide) ?_
      exact bd_none
  have hb1122 : ∀ (k28 : Nat → Wd → Nat → Nat → Nat → Nat → Int32 → Option Unit), (∀ (j : Nat) (w : Wd) (l1 : Nat) (l2 : Nat) (l3 : Nat) (l4 : Nat) (l5 : Int32) (ol1 : okF F l1 8) (ol2 : okF F l2 9) (ol3 : okF F l3 12) (ol4 : okF F l4 16), BD g G F 9 qv (689 + j) (6140368 + 6 * j) (k28 j w l1 l2 l3 l4 l5) w 28 [(0, .ref b9), (1, .ref l1), (2, .ref l2), (3, .ref l3), (4, .ref l4), (5, .int l5)] []) → ∀  (j : Nat) (w : Wd) (l1 : Nat) (l2 : Nat) (l3 : Nat) (l4 : Nat) (l5 : Int32) (cj : j < 600) (ol1 : okF F l1 8) (ol2 : okF F l2 9) (ol3 : okF F l3 12) (ol4 : okF F l4 16), BD g G F 9 qv (689 + (j + 1)) (6140368 + 6 * (j + 1)) (fL_law_1122 F N L xs k28 j w l1 l2 l3 l4 l5) w 1122 [(0, .ref b9), (1, .ref l1), (2, .ref l2), (3, .ref l3), (4, .ref l4), (5, .int l5)] [] := by
    intro k28 hk28
    intro j w l1 l2 l3 l4 l5 cj ol1 ol2 ol3 ol4
    unfold fL_law_1122
    refine bd_goto C 2250 dL_law_1122 (by decide) ?_
    exact bd_wide (by omega) (by omega) (bd_sub (hb2250 _ hk28 j w l1 l2 l3 l4 l5 cj ol1 ol2 ol3 ol4) [0, 1, 2, 3, 4, 5] rfl)
  have hb1045 : ∀ (k28 : Nat → Wd → Nat → Nat → Nat → Nat → Int32 → Option Unit), (∀ (j : Nat) (w : Wd) (l1 : Nat) (l2 : Nat) (l3 : Nat) (l4 : Nat) (l5 : Int32) (ol1 : okF F l1 8) (ol2 : okF F l2 9) (ol3 : okF F l3 12) (ol4 : okF F l4 16), BD g G F 9 qv (689 + j) (6140368 + 6 * j) (k28 j w l1 l2 l3 l4 l5) w 28 [(0, .ref b9), (1, .ref l1), (2, .ref l2), (3, .ref l3), (4, .ref l4), (5, .int l5)] []) → ∀  (j : Nat) (w : Wd) (l1 : Nat) (l2 : Nat) (l3 : Nat) (l4 : Nat) (l5 : Int32) (cj : j < 600) (ol1 : okF F l1 8) (ol2 : okF F l2 9) (ol3 : okF F l3 12) (ol4 : okF F l4 16), BD g G F 9 qv (689 + j) (6140368 + 6 * j) (fL_law_1045 F N L xs k28 j w l1 l2 l3 l4 l5) w 1045 [(0, .ref b9), (1, .ref l1), (2, .ref l2), (3, .ref l3), (4, .ref l4), (5, .int l5)] [] := by
    intro k28 hk28
    intro j w l1 l2 l3 l4 l5 cj ol1 ol2 ol3 ol4
    unfold fL_law_1045
    refine bd_aload_n C 1 dL_law_1045 rfl rfl ?_
    refine bd_aload_n C 0 dL_law_1046 rfl rfl ?_
    refine bd_iload C 5 dL_law_1047 rfl ?_
    refine bd_iconst C (v := 1) dL_law_1049 (by decide) ?_
    refine bd_iadd C dL_law_1050 ?_
    refine bd_sld C hsx dL_law_1051 (fun x175 => ?_)
    refine bd_aload_n C 0 dL_law_1052 rfl rfl ?_
    refine bd_iload C 5 dL_law_1053 rfl ?_
    refine bd_iconst C (v := 2) dL_law_1055 (by decide) ?_
    refine bd_iadd C dL_law_1056 ?_
    refine bd_sld C hsx dL_law_1057 (fun x176 => ?_)
    refine bd_aload_n C 0 dL_law_1058 rfl rfl ?_
    refine bd_iload C 5 dL_law_1059 rfl ?_
    refine bd_iconst C (v := 3) dL_law_1061 (by decide) ?_
    refine bd_iadd C dL_law_1062 ?_
    refine bd_sld C hsx dL_law_1063 (fun x177 => ?_)
    refine bd_aload_n C 3 dL_law_1064 rfl rfl ?_
    refine bd_callH (vs := fun (r : Int32 × Wd) => some (.int r.1)) (wf := fun (r : Int32 × Wd) => r.2) (st := []) (st1 := fun p178 => Value.int p178.1 :: []) C hNC [.ref l1, .int x175, .int x176, .int x177, .ref l3] (fun r9 e9 => mL_span C.flag N ol1 ol3 hcm e9) mwL_span wd_865 rfl rfl (Nat.le_of_ble_eq_true rfl) dL_law_1065 ⟨rfl, rfl, Nat.le_of_ble_eq_true rfl, Nat.le_of_ble_eq_true rfl, by show 689 + _ + _ ≤ 603072; omega, by show 6140368 + _ + _ ≤ 7211114; omega⟩ (fun _ => rfl) (fun p178 ep178 => ?_)
    refine bd_istore C [(6, .int p178.1), (0, .ref b9), (1, .ref l1), (2, .ref l2), (3, .ref l3), (4, .ref l4), (5, .int l5)] dL_law_1068 (by decide) rfl ?_
    refine bd_aload_n C 3 dL_law_1070 rfl rfl ?_
    refine bd_aload_n C 1 dL_law_1071 rfl rfl ?_
    refine bd_iload C 6 dL_law_1072 rfl ?_
    refine bd_iconst C (v := 1) dL_law_1074 (by decide) ?_
    refine bd_iadd C dL_law_1075 ?_
    refine bd_sld C hsx dL_law_1076 (fun x179 => ?_)
    refine bd_aload_n C 1 dL_law_1077 rfl rfl ?_
    refine bd_iload C 6 dL_law_1078 rfl ?_
    refine bd_iconst C (v := 2) dL_law_1080 (by decide) ?_
    refine bd_iadd C dL_law_1081 ?_
    refine bd_sld C hsx dL_law_1082 (fun x180 => ?_)
    refine bd_aload_n C 1 dL_law_1083 rfl rfl ?_
    refine bd_iload C 6 dL_law_1084 rfl ?_
    refine bd_iconst C (v := 3) dL_law_1086 (by decide) ?_
    refine bd_iadd C dL_law_1087 ?_
    refine bd_sld C hsx dL_law_1088 (fun x181 => ?_)
    refine bd_callV (vs := fun (r : Int32 × Wd) => some (.int r.1)) (wf := fun (r : Int32 × Wd) => r.2) (st := []) (st1 := fun p182 => Value.int p182.1 :: []) C [.int x179, .int x180, .int x181] (fun r9 e9 => mX9_span C.flag N ol2 e9) mwX9_span miX9_span wd_1598 ol2 (by decide) rfl rfl rfl (Nat.le_of_ble_eq_true rfl) dL_law_1089 ⟨rfl, rfl, Nat.le_of_ble_eq_true rfl, Nat.le_of_ble_eq_true rfl, by show 689 + _ + _ ≤ 603072; omega, by show 6140368 + _ + _ ≤ 7211114; omega⟩ (fun _ => rfl) (fun p182 ep182 => ?_)
    refine bd_istore C [(7, .int p182.1), (6, .int p178.1), (0, .ref b9), (1, .ref l1), (2, .ref l2), (3, .ref l3), (4, .ref l4), (5, .int l5)] dL_law_1092 (by decide) rfl ?_
    refine bd_aload_n C 4 dL_law_1094 rfl rfl ?_
    refine bd_callV (vs := fun (r : Int32) => some (.int r)) (wf := fun _ => p182.2) (st := []) (st1 := fun x183 => Value.int x183 :: []) C [] (fun r9 e9 => mX9_thrown C.flag N ol2 e9) mwX9_thrown miX9_thrown wd_1383 ol2 (by decide) rfl rfl rfl (Nat.le_of_ble_eq_true rfl) dL_law_1095 ⟨rfl, rfl, Nat.le_of_ble_eq_true rfl, Nat.le_of_ble_eq_true rfl, by show 689 + _ + _ ≤ 603072; omega, by show 6140368 + _ + _ ≤ 7211114; omega⟩ (fun _ => rfl) (fun x183 ex183 => ?_)
    refine bd_iload C 1 dL_law_1098 rfl ?_
    refine bd_icmp_eq C 1105 dL_law_1100 (by decide) (fun c184 => ?_) (fun c184 => ?_)
    · refine bd_iload C 1 dL_law_1105 rfl ?_
      refine bd_if_ne C 1122 dL_law_1107 (by decide) (fun c185 => ?_) (fun c185 => ?_)
      · exact bd_wide (by omega) (by omega) (bd_sub (hb1122 _ hk28 j p182.2 l1 l2 l3 l4 l5 cj ol1 ol2 ol3 ol4) [2, 3, 4, 5, 6, 7] rfl)
      · refine bd_aload_n C 5 dL_law_1110 rfl rfl ?_
        refine bd_iconst C (v := 0) dL_law_1111 (by decide) ?_
        refine bd_lald C dL_law_1112 ol3 (fun x186 => ?_)
        refine bd_iload C 0 dL_law_1113 rfl ?_
        refine bd_i2l C dL_law_1115 ?_
        refine bd_lcmp C dL_law_1116 ?_
        refine bd_if_eq C 1122 dL_law_1117 (by decide) (fun c187 => ?_) (fun c187 => ?_)
        · exact bd_wide (by omega) (by omega) (bd_sub (hb1122 _ hk28 j p182.2 l1 l2 l3 l4 l5 cj ol1 ol2 ol3 ol4) [2, 3, 4, 5, 6, 7] rfl)
        · refine bd_iconst C (v := 0) dL_law_1120 (by decide) ?_
          exact bd_none
    · refine bd_iconst C (v := 0) dL_law_1103 (by decide) ?_
      exact bd_none
  have hb474 : ∀ (k28 : Nat → Wd → Nat → Nat → Nat → Nat → Int32 → Option Unit), (∀ (j : Nat) (w : Wd) (l1 : Nat) (l2 : Nat) (l3 : Nat) (l4 : Nat) (l5 : Int32) (ol1 : okF F l1 8) (ol2 : okF F l2 9) (ol3 : okF F l3 12) (ol4 : okF F l4 16), BD g G F 9 qv (689 + j) (6140368 + 6 * j) (k28 j w l1 l2 l3 l4 l5) w 28 [(0, .ref b9), (1, .ref l1), (2, .ref l2), (3, .ref l3), (4, .ref l4), (5, .int l5)] []) → ∀  (j : Nat) (w : Wd) (l1 : Nat) (l2 : Nat) (l3 : Nat) (l4 : Nat) (l5 : Int32) (cj : j < 600) (ol1 : okF F l1 8) (ol2 : okF F l2 9) (ol3 : okF F l3 12) (ol4 : okF F l4 16), BD g G F 9 qv (689 + (j + 1)) (6140368 + 6 * (j + 1)) (fL_law_474 F N L xs k28 j w l1 l2 l3 l4 l5) w 474 [(0, .ref b9), (1, .ref l1), (2, .ref l2), (3, .ref l3), (4, .ref l4), (5, .int l5)] [] := by
    intro k28 hk28
    intro j w l1 l2 l3 l4 l5 cj ol1 ol2 ol3 ol4
    unfold fL_law_474
    refine bd_goto C 2250 dL_law_474 (by decide) ?_
    exact bd_wide (by omega) (by omega) (bd_sub (hb2250 _ hk28 j w l1 l2 l3 l4 l5 cj ol1 ol2 ol3 ol4) [0, 1, 2, 3, 4, 5] rfl)
  have hb409 : ∀ (k28 : Nat → Wd → Nat → Nat → Nat → Nat → Int32 → Option Unit), (∀ (j : Nat) (w : Wd) (l1 : Nat) (l2 : Nat) (l3 : Nat) (l4 : Nat) (l5 : Int32) (ol1 : okF F l1 8) (ol2 : okF F l2 9) (ol3 : okF F l3 12) (ol4 : okF F l4 16), BD g G F 9 qv (689 + j) (6140368 + 6 * j) (k28 j w l1 l2 l3 l4 l5) w 28 [(0, .ref b9), (1, .ref l1), (2, .ref l2), (3, .ref l3), (4, .ref l4), (5, .int l5)] []) → ∀  (j : Nat) (w : Wd) (l1 : Nat) (l2 : Nat) (l3 : Nat) (l4 : Nat) (l5 : Int32) (cj : j < 600) (ol1 : okF F l1 8) (ol2 : okF F l2 9) (ol3 : okF F l3 12) (ol4 : okF F l4 16), BD g G F 9 qv (689 + j) (6140368 + 6 * j) (fL_law_409 F N L xs k28 j w l1 l2 l3 l4 l5) w 409 [(0, .ref b9), (1, .ref l1), (2, .ref l2), (3, .ref l3), (4, .ref l4), (5, .int l5)] [] := by
    intro k28 hk28
    intro j w l1 l2 l3 l4 l5 cj ol1 ol2 ol3 ol4
    unfold fL_law_409
    refine bd_aload_n C 1 dL_law_409 rfl rfl ?_
    refine bd_aload_n C 0 dL_law_410 rfl rfl ?_
    refine bd_iload C 5 dL_law_411 rfl ?_
    refine bd_iconst C (v := 1) dL_law_413 (by decide) ?_
    refine bd_iadd C dL_law_414 ?_
    refine bd_sld C hsx dL_law_415 (fun x72 => ?_)
    refine bd_aload_n C 0 dL_law_416 rfl rfl ?_
    refine bd_iload C 5 dL_law_417 rfl ?_
    refine bd_iconst C (v := 2) dL_law_419 (by decide) ?_
    refine bd_iadd C dL_law_420 ?_
    refine bd_sld C hsx dL_law_421 (fun x73 => ?_)
    refine bd_aload_n C 3 dL_law_422 rfl rfl ?_
    refine bd_callH (vs := fun (r : Int32 × Wd) => some (.int r.1)) (wf := fun (r : Int32 × Wd) => r.2) (st := []) (st1 := fun p74 => Value.int p74.1 :: []) C hNC [.ref l1, .int x72, .int x73, .ref l3] (fun r9 e9 => mL_tier C.flag N ol1 ol3 hcm e9) mwL_tier wd_645 rfl rfl (Nat.le_of_ble_eq_true rfl) dL_law_423 ⟨rfl, rfl, Nat.le_of_ble_eq_true rfl, Nat.le_of_ble_eq_true rfl, by show 689 + _ + _ ≤ 603072; omega, by show 6140368 + _ + _ ≤ 7211114; omega⟩ (fun _ => rfl) (fun p74 ep74 => ?_)
    refine bd_istore C [(6, .int p74.1), (0, .ref b9), (1, .ref l1), (2, .ref l2), (3, .ref l3), (4, .ref l4), (5, .int l5)] dL_law_426 (by decide) rfl ?_
    refine bd_aload_n C 3 dL_law_428 rfl rfl ?_
    refine bd_aload_n C 1 dL_law_429 rfl rfl ?_
    refine bd_iload C 6 dL_law_430 rfl ?_
    refine bd_iconst C (v := 1) dL_law_432 (by decide) ?_
    refine bd_iadd C dL_law_433 ?_
    refine bd_sld C hsx dL_law_434 (fun x75 => ?_)
    refine bd_aload_n C 1 dL_law_435 rfl rfl ?_
    refine bd_iload C 6 dL_law_436 rfl ?_
    refine bd_iconst C (v := 2) dL_law_438 (by decide) ?_
    refine bd_iadd C dL_law_439 ?_
    refine bd_sld C hsx dL_law_440 (fun x76 => ?_)
    refine bd_callV (vs := fun (r : Int32 × Wd) => some (.int r.1)) (wf := fun (r : Int32 × Wd) => r.2) (st := []) (st1 := fun p77 => Value.int p77.1 :: []) C [.int x75, .int x76] (fun r9 e9 => mX9_tier C.flag N ol2 e9) mwX9_tier miX9_tier wd_1432 ol2 (by decide) rfl rfl rfl (Nat.le_of_ble_eq_true rfl) dL_law_441 ⟨rfl, rfl, Nat.le_of_ble_eq_true rfl, Nat.le_of_ble_eq_true rfl, by show 689 + _ + _ ≤ 603072; omega, by show 6140368 + _ + _ ≤ 7211114; omega⟩ (fun _ => rfl) (fun p77 ep77 => ?_)
    refine bd_istore C [(7, .int p77.1), (6, .int p74.1), (0, .ref b9), (1, .ref l1), (2, .ref l2), (3, .ref l3), (4, .ref l4), (5, .int l5)] dL_law_444 (by decide) rfl ?_
    refine bd_aload_n C 4 dL_law_446 rfl rfl ?_
    refine bd_callV (vs := fun (r : Int32) => some (.int r)) (wf := fun _ => p77.2) (st := []) (st1 := fun x78 => Value.int x78 :: []) C [] (fun r9 e9 => mX9_thrown C.flag N ol2 e9) mwX9_thrown miX9_thrown wd_1383 ol2 (by decide) rfl rfl rfl (Nat.le_of_ble_eq_true rfl) dL_law_447 ⟨rfl, rfl, Nat.le_of_ble_eq_true rfl, Nat.le_of_ble_eq_true rfl, by show 689 + _ + _ ≤ 603072; omega, by show 6140368 + _ + _ ≤ 7211114; omega⟩ (fun _ => rfl) (fun x78 ex78 => ?_)
    refine bd_iload C 1 dL_law_450 rfl ?_
    refine bd_icmp_eq C 457 dL_law_452 (by decide) (fun c79 => ?_) (fun c79 => ?_)
    · refine bd_iload C 1 dL_law_457 rfl ?_
      refine bd_if_ne C 474 dL_law_459 (by decide) (fun c80 => ?_) (fun c80 => ?_)
      · exact bd_wide (by omega) (by omega) (bd_sub (hb474 _ hk28 j p77.2 l1 l2 l3 l4 l5 cj ol1 ol2 ol3 ol4) [2, 3, 4, 5, 6, 7] rfl)
      · refine bd_aload_n C 5 dL_law_462 rfl rfl ?_
        refine bd_iconst C (v := 0) dL_law_463 (by decide) ?_
        refine bd_lald C dL_law_464 ol3 (fun x81 => ?_)
        refine bd_iload C 0 dL_law_465 rfl ?_
        refine bd_i2l C dL_law_467 ?_
        refine bd_lcmp C dL_law_468 ?_
        refine bd_if_eq C 474 dL_law_469 (by decide) (fun c82 => ?_) (fun c82 => ?_)
        · exact bd_wide (by omega) (by omega) (bd_sub (hb474 _ hk28 j p77.2 l1 l2 l3 l4 l5 cj ol1 ol2 ol3 ol4) [2, 3, 4, 5, 6, 7] rfl)
        · refine bd_iconst C (v := 0) dL_law_472 (by decide) ?_
          exact bd_none
    · refine bd_iconst C (v := 0) dL_law_455 (by decide) ?_
      exact bd_none
  have hb734 : ∀ (k28 : Nat → Wd → Nat → Nat → Nat → Nat → Int32 → Option Unit), (∀ (j : Nat) (w : Wd) (l1 : Nat) (l2 : Nat) (l3 : Nat) (l4 : Nat) (l5 : Int32) (ol1 : okF F l1 8) (ol2 : okF F l2 9) (ol3 : okF F l3 12) (ol4 : okF F l4 16), BD g G F 9 qv (689 + j) (6140368 + 6 * j) (k28 j w l1 l2 l3 l4 l5) w 28 [(0, .ref b9), (1, .ref l1), (2, .ref l2), (3, .ref l3), (4, .ref l4), (5, .int l5)] []) → ∀  (j : Nat) (w : Wd) (l1 : Nat) (l2 : Nat) (l3 : Nat) (l4 : Nat) (l5 : Int32) (cj : j < 600) (ol1 : okF F l1 8) (ol2 : okF F l2 9) (ol3 : okF F l3 12) (ol4 : okF F l4 16), BD g G F 9 qv (689 + (j + 1)) (6140368 + 6 * (j + 1)) (fL_law_734 F N L xs k28 j w l1 l2 l3 l4 l5) w 734 [(0, .ref b9), (1, .ref l1), (2, .ref l2), (3, .ref l3), (4, .ref l4), (5, .int l5)] [] := by
    intro k28 hk28
    intro j w l1 l2 l3 l4 l5 cj ol1 ol2 ol3 ol4
    unfold fL_law_734
    refine bd_goto C 2250 dL_law_734 (by decide) ?_
    exact bd_wide (by omega) (by omega) (bd_sub (hb2250 _ hk28 j w l1 l2 l3 l4 l5 cj ol1 ol2 ol3 ol4) [0, 1, 2, 3, 4, 5] rfl)
  have hb669 : ∀ (k28 : Nat → Wd → Nat → Nat → Nat → Nat → Int32 → Option Unit), (∀ (j : Nat) (w : Wd) (l1 : Nat) (l2 : Nat) (l3 : Nat) (l4 : Nat) (l5 : Int32) (ol1 : okF F l1 8) (ol2 : okF F l2 9) (ol3 : okF F l3 12) (ol4 : okF F l4 16), BD g G F 9 qv (689 + j) (6140368 + 6 * j) (k28 j w l1 l2 l3 l4 l5) w 28 [(0, .ref b9), (1, .ref l1), (2, .ref l2), (3, .ref l3), (4, .ref l4), (5, .int l5)] []) → ∀  (j : Nat) (w : Wd) (l1 : Nat) (l2 : Nat) (l3 : Nat) (l4 : Nat) (l5 : Int32) (cj : j < 600) (ol1 : okF F l1 8) (ol2 : okF F l2 9) (ol3 : okF F l3 12) (ol4 : okF F l4 16), BD g G F 9 qv (689 + j) (6140368 + 6 * j) (fL_law_669 F N L xs k28 j w l1 l2 l3 l4 l5) w 669 [(0, .ref b9), (1, .ref l1), (2, .ref l2), (3, .ref l3), (4, .ref l4), (5, .int l5)] [] := by
    intro k28 hk28
    intro j w l1 l2 l3 l4 l5 cj ol1 ol2 ol3 ol4
    unfold fL_law_669
    refine bd_aload_n C 1 dL_law_669 rfl rfl ?_
    refine bd_aload_n C 0 dL_law_670 rfl rfl ?_
    refine bd_iload C 5 dL_law_671 rfl ?_
    refine bd_iconst C (v := 1) dL_law_673 (by decide) ?_
    refine bd_iadd C dL_law_674 ?_
    refine bd_sld C hsx dL_law_675 (fun x114 => ?_)
    refine bd_aload_n C 0 dL_law_676 rfl rfl ?_
    refine bd_iload C 5 dL_law_677 rfl ?_
    refine bd_iconst C (v := 2) dL_law_679 (by decide) ?_
    refine bd_iadd C dL_law_680 ?_
    refine bd_sld C hsx dL_law_681 (fun x115 => ?_)
    refine bd_aload_n C 3 dL_law_682 rfl rfl ?_
    refine bd_callH (vs := fun (r : Int32 × Wd) => some (.int r.1)) (wf := fun (r : Int32 × Wd) => r.2) (st := []) (st1 := fun p116 => Value.int p116.1 :: []) C hNC [.ref l1, .int x114, .int x115, .ref l3] (fun r9 e9 => mL_removeSpan C.flag N ol1 ol3 hcm e9) mwL_removeSpan wd_792 rfl rfl (Nat.le_of_ble_eq_true rfl) dL_law_683 ⟨rfl, rfl, Nat.le_of_ble_eq_true rfl, Nat.le_of_ble_eq_true rfl, by show 689 + _ + _ ≤ 603072; omega, by show 6140368 + _ + _ ≤ 7211114; omega⟩ (fun _ => rfl) (fun p116 ep116 => ?_)
    refine bd_istore C [(6, .int p116.1), (0, .ref b9), (1, .ref l1), (2, .ref l2), (3, .ref l3), (4, .ref l4), (5, .int l5)] dL_law_686 (by decide) rfl ?_
    refine bd_aload_n C 3 dL_law_688 rfl rfl ?_
    refine bd_aload_n C 1 dL_law_689 rfl rfl ?_
    refine bd_iload C 6 dL_law_690 rfl ?_
    refine bd_iconst C (v := 1) dL_law_692 (by decide) ?_
    refine bd_iadd C dL_law_693 ?_
    refine bd_sld C hsx dL_law_694 (fun x117 => ?_)
    refine bd_aload_n C 1 dL_law_695 rfl rfl ?_
    refine bd_iload C 6 dL_law_696 rfl ?_
    refine bd_iconst C (v := 2) dL_law_698 (by decide) ?_
    refine bd_iadd C dL_law_699 ?_
    refine bd_sld C hsx dL_law_700 (fun x118 => ?_)
    refine bd_callV (vs := fun (r : Int32 × Wd) => some (.int r.1)) (wf := fun (r : Int32 × Wd) => r.2) (st := []) (st1 := fun p119 => Value.int p119.1 :: []) C [.int x117, .int x118] (fun r9 e9 => mX9_removeSpan C.flag N ol2 e9) mwX9_removeSpan miX9_removeSpan wd_1546 ol2 (by decide) rfl rfl rfl (Nat.le_of_ble_eq_true rfl) dL_law_701 ⟨rfl, rfl, Nat.le_of_ble_eq_true rfl, Nat.le_of_ble_eq_true rfl, by show 689 + _ + _ ≤ 603072; omega, by show 6140368 + _ + _ ≤ 7211114; omega⟩ (fun _ => rfl) (fun p119 ep119 => ?_)
    refine bd_istore C [(7, .int p119.1), (6, .int p116.1), (0, .ref b9), (1, .ref l1), (2, .ref l2), (3, .ref l3), (4, .ref l4), (5, .int l5)] dL_law_704 (by decide) rfl ?_
    refine bd_aload_n C 4 dL_law_706 rfl rfl ?_
    refine bd_callV (vs := fun (r : Int32) => some (.int r)) (wf := fun _ => p119.2) (st := []) (st1 := fun x120 => Value.int x120 :: []) C [] (fun r9 e9 => mX9_thrown C.flag N ol2 e9) mwX9_thrown miX9_thrown wd_1383 ol2 (by decide) rfl rfl rfl (Nat.le_of_ble_eq_true rfl) dL_law_707 ⟨rfl, rfl, Nat.le_of_ble_eq_true rfl, Nat.le_of_ble_eq_true rfl, by show 689 + _ + _ ≤ 603072; omega, by show 6140368 + _ + _ ≤ 7211114; omega⟩ (fun _ => rfl) (fun x120 ex120 => ?_)
    refine bd_iload C 1 dL_law_710 rfl ?_
    refine bd_icmp_eq C 717 dL_law_712 (by decide) (fun c121 => ?_) (fun c121 => ?_)
    · refine bd_iload C 1 dL_law_717 rfl ?_
      refine bd_if_ne C 734 dL_law_719 (by decide) (fun c122 => ?_) (fun c122 => ?_)
      · exact bd_wide (by omega) (by omega) (bd_sub (hb734 _ hk28 j p119.2 l1 l2 l3 l4 l5 cj ol1 ol2 ol3 ol4) [2, 3, 4, 5, 6, 7] rfl)
      · refine bd_aload_n C 5 dL_law_722 rfl rfl ?_
        refine bd_iconst C (v := 0) dL_law_723 (by decide) ?_
        refine bd_lald C dL_law_724 ol3 (fun x123 => ?_)
        refine bd_iload C 0 dL_law_725 rfl ?_
        refine bd_i2l C dL_law_727 ?_
        refine bd_lcmp C dL_law_728 ?_
        refine bd_if_eq C 734 dL_law_729 (by decide) (fun c124 => ?_) (fun c124 => ?_)
        · exact bd_wide (by omega) (by omega) (bd_sub (hb734 _ hk28 j p119.2 l1 l2 l3 l4 l5 cj ol1 ol2 ol3 ol4) [2, 3, 4, 5, 6, 7] rfl)
        · refine bd_iconst C (v := 0) dL_law_732 (by decide) ?_
          exact bd_none
    · refine bd_iconst C (v := 0) dL_law_715 (by decide) ?_
      exact bd_none
  have hb338 : ∀ (k28 : Nat → Wd → Nat → Nat → Nat → Nat → Int32 → Option Unit), (∀ (j : Nat) (w : Wd) (l1 : Nat) (l2 : Nat) (l3 : Nat) (l4 : Nat) (l5 : Int32) (ol1 : okF F l1 8) (ol2 : okF F l2 9) (ol3 : okF F l3 12) (ol4 : okF F l4 16), BD g G F 9 qv (689 + j) (6140368 + 6 * j) (k28 j w l1 l2 l3 l4 l5) w 28 [(0, .ref b9), (1, .ref l1), (2, .ref l2), (3, .ref l3), (4, .ref l4), (5, .int l5)] []) → ∀  (j : Nat) (w : Wd) (l1 : Nat) (l2 : Nat) (l3 : Nat) (l4 : Nat) (l5 : Int32) (cj : j < 600) (ol1 : okF F l1 8) (ol2 : okF F l2 9) (ol3 : okF F l3 12) (ol4 : okF F l4 16), BD g G F 9 qv (689 + (j + 1)) (6140368 + 6 * (j + 1)) (fL_law_338 F N L xs k28 j w l1 l2 l3 l4 l5) w 338 [(0, .ref b9), (1, .ref l1), (2, .ref l2), (3, .ref l3), (4, .ref l4), (5, .int l5)] [] := by
    intro k28 hk28
    intro j w l1 l2 l3 l4 l5 cj ol1 ol2 ol3 ol4
    unfold fL_law_338
    refine bd_goto C 2250 dL_law_338 (by decide) ?_
    exact bd_wide (by omega) (by omega) (bd_sub (hb2250 _ hk28 j w l1 l2 l3 l4 l5 cj ol1 ol2 ol3 ol4) [0, 1, 2, 3, 4, 5] rfl)
  have hb285 : ∀ (k28 : Nat → Wd → Nat → Nat → Nat → Nat → Int32 → Option Unit), (∀ (j : Nat) (w : Wd) (l1 : Nat) (l2 : Nat) (l3 : Nat) (l4 : Nat) (l5 : Int32) (ol1 : okF F l1 8) (ol2 : okF F l2 9) (ol3 : okF F l3 12) (ol4 : okF F l4 16), BD g G F 9 qv (689 + j) (6140368 + 6 * j) (k28 j w l1 l2 l3 l4 l5) w 28 [(0, .ref b9), (1, .ref l1), (2, .ref l2), (3, .ref l3), (4, .ref l4), (5, .int l5)] []) → ∀  (j : Nat) (w : Wd) (l1 : Nat) (l2 : Nat) (l3 : Nat) (l4 : Nat) (l5 : Int32) (cj : j < 600) (ol1 : okF F l1 8) (ol2 : okF F l2 9) (ol3 : okF F l3 12) (ol4 : okF F l4 16), BD g G F 9 qv (689 + j) (6140368 + 6 * j) (fL_law_285 F N L xs k28 j w l1 l2 l3 l4 l5) w 285 [(0, .ref b9), (1, .ref l1), (2, .ref l2), (3, .ref l3), (4, .ref l4), (5, .int l5)] [] := by
    intro k28 hk28
    intro j w l1 l2 l3 l4 l5 cj ol1 ol2 ol3 ol4
    unfold fL_law_285
    refine bd_aload_n C 1 dL_law_285 rfl rfl ?_
    refine bd_aload_n C 0 dL_law_286 rfl rfl ?_
    refine bd_iload C 5 dL_law_287 rfl ?_
    refine bd_iconst C (v := 1) dL_law_289 (by decide) ?_
    refine bd_iadd C dL_law_290 ?_
    refine bd_sld C hsx dL_law_291 (fun x52 => ?_)
    refine bd_aload_n C 3 dL_law_292 rfl rfl ?_
    refine bd_callH (vs := fun (r : Int32 × Wd) => some (.int r.1)) (wf := fun (r : Int32 × Wd) => r.2) (st := []) (st1 := fun p53 => Value.int p53.1 :: []) C hNC [.ref l1, .int x52, .ref l3] (fun r9 e9 => mL_select C.flag N ol1 ol3 hcm e9) mwL_select wd_631 rfl rfl (Nat.le_of_ble_eq_true rfl) dL_law_293 ⟨rfl, rfl, Nat.le_of_ble_eq_true rfl, Nat.le_of_ble_eq_true rfl, by show 689 + _ + _ ≤ 603072; omega, by show 6140368 + _ + _ ≤ 7211114; omega⟩ (fun _ => rfl) (fun p53 ep53 => ?_)
    refine bd_istore C [(6, .int p53.1), (0, .ref b9), (1, .ref l1), (2, .ref l2), (3, .ref l3), (4, .ref l4), (5, .int l5)] dL_law_296 (by decide) rfl ?_
    refine bd_aload_n C 3 dL_law_298 rfl rfl ?_
    refine bd_aload_n C 1 dL_law_299 rfl rfl ?_
    refine bd_iload C 6 dL_law_300 rfl ?_
    refine bd_iconst C (v := 1) dL_law_302 (by decide) ?_
    refine bd_iadd C dL_law_303 ?_
    refine bd_sld C hsx dL_law_304 (fun x54 => ?_)
    refine bd_callV (vs := fun (r : Int32 × Wd) => some (.int r.1)) (wf := fun (r : Int32 × Wd) => r.2) (st := []) (st1 := fun p55 => Value.int p55.1 :: []) C [.int x54] (fun r9 e9 => mX9_select C.flag N ol2 e9) mwX9_select miX9_select wd_1420 ol2 (by decide) rfl rfl rfl (Nat.le_of_ble_eq_true rfl) dL_law_305 ⟨rfl, rfl, Nat.le_of_ble_eq_true rfl, Nat.le_of_ble_eq_true rfl, by show 689 + _ + _ ≤ 603072; omega, by show 6140368 + _ + _ ≤ 7211114; omega⟩ (fun _ => rfl) (fun p55 ep55 => ?_)
    refine bd_istore C [(7, .int p55.1), (6, .int p53.1), (0, .ref b9), (1, .ref l1), (2, .ref l2), (3, .ref l3), (4, .ref l4), (5, .int l5)] dL_law_308 (by decide) rfl ?_
    refine bd_aload_n C 4 dL_law_310 rfl rfl ?_
    refine bd_callV (vs := fun (r : Int32) => some (.int r)) (wf := fun _ => p55.2) (st := []) (st1 := fun x56 => Value.int x56 :: []) C [] (fun r9 e9 => mX9_thrown C.flag N ol2 e9) mwX9_thrown miX9_thrown wd_1383 ol2 (by decide) rfl rfl rfl (Nat.le_of_ble_eq_true rfl) dL_law_311 ⟨rfl, rfl, Nat.le_of_ble_eq_true rfl, Nat.le_of_ble_eq_true rfl, by show 689 + _ + _ ≤ 603072; omega, by show 6140368 + _ + _ ≤ 7211114; omega⟩ (fun _ => rfl) (fun x56 ex56 => ?_)
    refine bd_iload C 1 dL_law_314 rfl ?_
    refine bd_icmp_eq C 321 dL_law_316 (by decide) (fun c57 => ?_) (fun c57 => ?_)
    · refine bd_iload C 1 dL_law_321 rfl ?_
      refine bd_if_ne C 338 dL_law_323 (by decide) (fun c58 => ?_) (fun c58 => ?_)
      · exact bd_wide (by omega) (by omega) (bd_sub (hb338 _ hk28 j p55.2 l1 l2 l3 l4 l5 cj ol1 ol2 ol3 ol4) [2, 3, 4, 5, 6, 7] rfl)
      · refine bd_aload_n C 5 dL_law_326 rfl rfl ?_
        refine bd_iconst C (v := 0) dL_law_327 (by decide) ?_
        refine bd_lald C dL_law_328 ol3 (fun x59 => ?_)
        refine bd_iload C 0 dL_law_329 rfl ?_
        refine bd_i2l C dL_law_331 ?_
        refine bd_lcmp C dL_law_332 ?_
        refine bd_if_eq C 338 dL_law_333 (by decide) (fun c60 => ?_) (fun c60 => ?_)
        · exact bd_wide (by omega) (by omega) (bd_sub (hb338 _ hk28 j p55.2 l1 l2 l3 l4 l5 cj ol1 ol2 ol3 ol4) [2, 3, 4, 5, 6, 7] rfl)
        · refine bd_iconst C (v := 0) dL_law_336 (by decide) ?_
          exact bd_none
    · refine bd_iconst C (v := 0) dL_law_319 (by decide) ?_
      exact bd_none
  have hb1630 : ∀ (k28 : Nat → Wd → Nat → Nat → Nat → Nat → Int32 → Option Unit), (∀ (j : Nat) (w : Wd) (l1 : Nat) (l2 : Nat) (l3 : Nat) (l4 : Nat) (l5 : Int32) (ol1 : okF F l1 8) (ol2 : okF F l2 9) (ol3 : okF F l3 12) (ol4 : okF F l4 16), BD g G F 9 qv (689 + j) (6140368 + 6 * j) (k28 j w l1 l2 l3 l4 l5) w 28 [(0, .ref b9), (1, .ref l1), (2, .ref l2), (3, .ref l3), (4, .ref l4), (5, .int l5)] []) → ∀  (j : Nat) (w : Wd) (l1 : Nat) (l2 : Nat) (l3 : Nat) (l4 : Nat) (l5 : Int32) (cj : j < 600) (ol1 : okF F l1 8) (ol2 : okF F l2 9) (ol3 : okF F l3 12) (ol4 : okF F l4 16), BD g G F 9 qv (689 + (j + 1)) (6140368 + 6 * (j + 1)) (fL_law_1630 F N L xs k28 j w l1 l2 l3 l4 l5) w 1630 [(0, .ref b9), (1, .ref l1), (2, .ref l2), (3, .ref l3), (4, .ref l4), (5, .int l5)] [] := by
    intro k28 hk28
    intro j w l1 l2 l3 l4 l5 cj ol1 ol2 ol3 ol4
    unfold fL_law_1630
    refine bd_goto C 2250 dL_law_1630 (by decide) ?_
    exact bd_wide (by omega) (by omega) (bd_sub (hb2250 _ hk28 j w l1 l2 l3 l4 l5 cj ol1 ol2 ol3 ol4) [0, 1, 2, 3, 4, 5] rfl)
  have hb1565 : ∀ (k28 : Nat → Wd → Nat → Nat → Nat → Nat → Int32 → Option Unit), (∀ (j : Nat) (w : Wd) (l1 : Nat) (l2 : Nat) (l3 : Nat) (l4 : Nat) (l5 : Int32) (ol1 : okF F l1 8) (ol2 : okF F l2 9) (ol3 : okF F l3 12) (ol4 : okF F l4 16), BD g G F 9 qv (689 + j) (6140368 + 6 * j) (k28 j w l1 l2 l3 l4 l5) w 28 [(0, .ref b9), (1, .ref l1), (2, .ref l2), (3, .ref l3), (4, .ref l4), (5, .int l5)] []) → ∀  (j : Nat) (w : Wd) (l1 : Nat) (l2 : Nat) (l3 : Nat) (l4 : Nat) (l5 : Int32) (cj : j < 600) (ol1 : okF F l1 8) (ol2 : okF F l2 9) (ol3 : okF F l3 12) (ol4 : okF F l4 16), BD g G F 9 qv (689 + j) (6140368 + 6 * j) (fL_law_1565 F N L xs k28 j w l1 l2 l3 l4 l5) w 1565 [(0, .ref b9), (1, .ref l1), (2, .ref l2), (3, .ref l3), (4, .ref l4), (5, .int l5)] [] := by
    intro k28 hk28
    intro j w l1 l2 l3 l4 l5 cj ol1 ol2 ol3 ol4
    unfold fL_law_1565
    refine bd_aload_n C 1 dL_law_1565 rfl rfl ?_
    refine bd_aload_n C 0 dL_law_1566 rfl rfl ?_
    refine bd_iload C 5 dL_law_1567 rfl ?_
    refine bd_iconst C (v := 1) dL_law_1569 (by decide) ?_
    refine bd_iadd C dL_law_1570 ?_
    refine bd_sld C hsx dL_law_1571 (fun x258 => ?_)
    refine bd_aload_n C 0 dL_law_1572 rfl rfl ?_
    refine bd_iload C 5 dL_law_1573 rfl ?_
    refine bd_iconst C (v := 2) dL_law_1575 (by decide) ?_
    refine bd_iadd C dL_law_1576 ?_
    refine bd_sld C hsx dL_law_1577 (fun x259 => ?_)
    refine bd_aload_n C 3 dL_law_1578 rfl rfl ?_
    refine bd_callH (vs := fun (r : Int32 × Wd) => some (.int r.1)) (wf := fun (r : Int32 × Wd) => r.2) (st := []) (st1 := fun p260 => Value.int p260.1 :: []) C hNC [.ref l1, .int x258, .int x259, .ref l3] (fun r9 e9 => mL_match C.flag N ol1 ol3 hcm e9) mwL_match wd_1036 rfl rfl (Nat.le_of_ble_eq_true rfl) dL_law_1579 ⟨rfl, rfl, Nat.le_of_ble_eq_true rfl, Nat.le_of_ble_eq_true rfl, by show 689 + _ + _ ≤ 603072; omega, by show 6140368 + _ + _ ≤ 7211114; omega⟩ (fun _ => rfl) (fun p260 ep260 => ?_)
    refine bd_istore C [(6, .int p260.1), (0, .ref b9), (1, .ref l1), (2, .ref l2), (3, .ref l3), (4, .ref l4), (5, .int l5)] dL_law_1582 (by decide) rfl ?_
    refine bd_aload_n C 3 dL_law_1584 rfl rfl ?_
    refine bd_aload_n C 1 dL_law_1585 rfl rfl ?_
    refine bd_iload C 6 dL_law_1586 rfl ?_
    refine bd_iconst C (v := 1) dL_law_1588 (by decide) ?_
    refine bd_iadd C dL_law_1589 ?_
    refine bd_sld C hsx dL_law_1590 (fun x261 => ?_)
    refine bd_aload_n C 1 dL_law_1591 rfl rfl ?_
    refine bd_iload C 6 dL_law_1592 rfl ?_
    refine bd_iconst C (v := 2) dL_law_1594 (by decide) ?_
    refine bd_iadd C dL_law_1595 ?_
    refine bd_sld C hsx dL_law_1596 (fun x262 => ?_)
    refine bd_callV (vs := fun (r : Int32 × Wd) => some (.int r.1)) (wf := fun (r : Int32 × Wd) => r.2) (st := []) (st1 := fun p263 => Value.int p263.1 :: []) C [.int x261, .int x262] (fun r9 e9 => mX9_match_ C.flag N ol2 e9) mwX9_match_ miX9_match_ wd_1683 ol2 (by decide) rfl rfl rfl (Nat.le_of_ble_eq_true rfl) dL_law_1597 ⟨rfl, rfl, Nat.le_of_ble_eq_true rfl, Nat.le_of_ble_eq_true rfl, by show 689 + _ + _ ≤ 603072; omega, by show 6140368 + _ + _ ≤ 7211114; omega⟩ (fun _ => rfl) (fun p263 ep263 => ?_)
    refine bd_istore C [(7, .int p263.1), (6, .int p260.1), (0, .ref b9), (1, .ref l1), (2, .ref l2), (3, .ref l3), (4, .ref l4), (5, .int l5)] dL_law_1600 (by decide) rfl ?_
    refine bd_aload_n C 4 dL_law_1602 rfl rfl ?_
    refine bd_callV (vs := fun (r : Int32) => some (.int r)) (wf := fun _ => p263.2) (st := []) (st1 := fun x264 => Value.int x264 :: []) C [] (fun r9 e9 => mX9_thrown C.flag N ol2 e9) mwX9_thrown miX9_thrown wd_1383 ol2 (by decide) rfl rfl rfl (Nat.le_of_ble_eq_true rfl) dL_law_1603 ⟨rfl, rfl, Nat.le_of_ble_eq_true rfl, Nat.le_of_ble_eq_true rfl, by show 689 + _ + _ ≤ 603072; omega, by show 6140368 + _ + _ ≤ 7211114; omega⟩ (fun _ => rfl) (fun x264 ex264 => ?_)
    refine bd_iload C 1 dL_law_1606 rfl ?_
    refine bd_icmp_eq C 1613 dL_law_1608 (by decide) (fun c265 => ?_) (fun c265 => ?_)
    · refine bd_iload C 1 dL_law_1613 rfl ?_
      refine bd_if_ne C 1630 dL_law_1615 (by decide) (fun c266 => ?_) (fun c266 => ?_)
      · exact bd_wide (by omega) (by omega) (bd_sub (hb1630 _ hk28 j p263.2 l1 l2 l3 l4 l5 cj ol1 ol2 ol3 ol4) [2, 3, 4, 5, 6, 7] rfl)
      · refine bd_aload_n C 5 dL_law_1618 rfl rfl ?_
        refine bd_iconst C (v := 0) dL_law_1619 (by decide) ?_
        refine bd_lald C dL_law_1620 ol3 (fun x267 => ?_)
        refine bd_iload C 0 dL_law_1621 rfl ?_
        refine bd_i2l C dL_law_1623 ?_
        refine bd_lcmp C dL_law_1624 ?_
        refine bd_if_eq C 1630 dL_law_1625 (by decide) (fun c268 => ?_) (fun c268 => ?_)
        · exact bd_wide (by omega) (by omega) (bd_sub (hb1630 _ hk28 j p263.2 l1 l2 l3 l4 l5 cj ol1 ol2 ol3 ol4) [2, 3, 4, 5, 6, 7] rfl)
        · refine bd_iconst C (v := 0) dL_law_1628 (by decide) ?_
          exact bd_none
    · refine bd_iconst C (v := 0) dL_law_1611 (by decide) ?_
      exact bd_none
  have hb2247 : ∀ (k28 : Nat → Wd → Nat → Nat → Nat → Nat → Int32 → Option Unit), (∀ (j : Nat) (w : Wd) (l1 : Nat) (l2 : Nat) (l3 : Nat) (l4 : Nat) (l5 : Int32) (ol1 : okF F l1 8) (ol2 : okF F l2 9) (ol3 : okF F l3 12) (ol4 : okF F l4 16), BD g G F 9 qv (689 + j) (6140368 + 6 * j) (k28 j w l1 l2 l3 l4 l5) w 28 [(0, .ref b9), (1, .ref l1), (2, .ref l2), (3, .ref l3), (4, .ref l4), (5, .int l5)] []) → ∀  (j : Nat) (w : Wd) (l1 : Nat) (l2 : Nat) (l3 : Nat) (l4 : Nat) (l5 : Int32) (cj : j < 600) (ol1 : okF F l1 8) (ol2 : okF F l2 9) (ol3 : okF F l3 12) (ol4 : okF F l4 16), BD g G F 9 qv (689 + (j + 1)) (6140368 + 6 * (j + 1)) (fL_law_2247 F N L xs k28 j w l1 l2 l3 l4 l5) w 2247 [(0, .ref b9), (1, .ref l1), (2, .ref l2), (3, .ref l3), (4, .ref l4), (5, .int l5)] [] := by
    intro k28 hk28
    intro j w l1 l2 l3 l4 l5 cj ol1 ol2 ol3 ol4
    unfold fL_law_2247
    refine bd_goto C 2250 dL_law_2247 (by decide) ?_
    exact bd_wide (by omega) (by omega) (bd_sub (hb2250 _ hk28 j w l1 l2 l3 l4 l5 cj ol1 ol2 ol3 ol4) [0, 1, 2, 3, 4, 5] rfl)
  have hb2206 : ∀ (k28 : Nat → Wd → Nat → Nat → Nat → Nat → Int32 → Option Unit), (∀ (j : Nat) (w : Wd) (l1 : Nat) (l2 : Nat) (l3 : Nat) (l4 : Nat) (l5 : Int32) (ol1 : okF F l1 8) (ol2 : okF F l2 9) (ol3 : okF F l3 12) (ol4 : okF F l4 16), BD g G F 9 qv (689 + j) (6140368 + 6 * j) (k28 j w l1 l2 l3 l4 l5) w 28 [(0, .ref b9), (1, .ref l1), (2, .ref l2), (3, .ref l3), (4, .ref l4), (5, .int l5)] []) → ∀  (j : Nat) (w : Wd) (l1 : Nat) (l2 : Nat) (l3 : Nat) (l4 : Nat) (l5 : Int32) (cj : j < 600) (ol1 : okF F l1 8) (ol2 : okF F l2 9) (ol3 : okF F l3 12) (ol4 : okF F l4 16), BD g G F 9 qv (689 + j) (6140368 + 6 * j) (fL_law_2206 F N L xs k28 j w l1 l2 l3 l4 l5) w 2206 [(0, .ref b9), (1, .ref l1), (2, .ref l2), (3, .ref l3), (4, .ref l4), (5, .int l5)] [] := by
    intro k28 hk28
    intro j w l1 l2 l3 l4 l5 cj ol1 ol2 ol3 ol4
    unfold fL_law_2206
    refine bd_aload_n C 1 dL_law_2206 rfl rfl ?_
    refine bd_aload_n C 3 dL_law_2207 rfl rfl ?_
    refine bd_callH (vs := fun (r : Int32 × Wd) => some (.int r.1)) (wf := fun (r : Int32 × Wd) => r.2) (st := []) (st1 := fun p365 => Value.int p365.1 :: []) C hNC [.ref l1, .ref l3] (fun r9 e9 => mL_restore C.flag N ol1 ol3 hcm e9) mwL_restore wd_1222 rfl rfl (Nat.le_of_ble_eq_true rfl) dL_law_2208 ⟨rfl, rfl, Nat.le_of_ble_eq_true rfl, Nat.le_of_ble_eq_true rfl, by show 689 + _ + _ ≤ 603072; omega, by show 6140368 + _ + _ ≤ 7211114; omega⟩ (fun _ => rfl) (fun p365 ep365 => ?_)
    refine bd_istore C [(6, .int p365.1), (0, .ref b9), (1, .ref l1), (2, .ref l2), (3, .ref l3), (4, .ref l4), (5, .int l5)] dL_law_2211 (by decide) rfl ?_
    refine bd_aload_n C 3 dL_law_2213 rfl rfl ?_
    refine bd_callV (vs := fun (r : Int32 × Wd) => some (.int r.1)) (wf := fun (r : Int32 × Wd) => r.2) (st := []) (st1 := fun p366 => Value.int p366.1 :: []) C [] (fun r9 e9 => mX9_restore C.flag N ol2 e9) mwX9_restore miX9_restore wd_1771 ol2 (by decide) rfl rfl rfl (Nat.le_of_ble_eq_true rfl) dL_law_2214 ⟨rfl, rfl, Nat.le_of_ble_eq_true rfl, Nat.le_of_ble_eq_true rfl, by show 689 + _ + _ ≤ 603072; omega, by show 6140368 + _ + _ ≤ 7211114; omega⟩ (fun _ => rfl) (fun p366 ep366 => ?_)
    refine bd_istore C [(7, .int p366.1), (6, .int p365.1), (0, .ref b9), (1, .ref l1), (2, .ref l2), (3, .ref l3), (4, .ref l4), (5, .int l5)] dL_law_2217 (by decide) rfl ?_
    refine bd_aload_n C 4 dL_law_2219 rfl rfl ?_
    refine bd_callV (vs := fun (r : Int32) => some (.int r)) (wf := fun _ => p366.2) (st := []) (st1 := fun x367 => Value.int x367 :: []) C [] (fun r9 e9 => mX9_thrown C.flag N ol2 e9) mwX9_thrown miX9_thrown wd_1383 ol2 (by decide) rfl rfl rfl (Nat.le_of_ble_eq_true rfl) dL_law_2220 ⟨rfl, rfl, Nat.le_of_ble_eq_true rfl, Nat.le_of_ble_eq_true rfl, by show 689 + _ + _ ≤ 603072; omega, by show 6140368 + _ + _ ≤ 7211114; omega⟩ (fun _ => rfl) (fun x367 ex367 => ?_)
    refine bd_iload C 1 dL_law_2223 rfl ?_
    refine bd_icmp_eq C 2230 dL_law_2225 (by decide) (fun c368 => ?_) (fun c368 => ?_)
    · refine bd_iload C 1 dL_law_2230 rfl ?_
      refine bd_if_ne C 2247 dL_law_2232 (by decide) (fun c369 => ?_) (fun c369 => ?_)
      · exact bd_wide (by omega) (by omega) (bd_sub (hb2247 _ hk28 j p366.2 l1 l2 l3 l4 l5 cj ol1 ol2 ol3 ol4) [2, 3, 4, 5, 6, 7] rfl)
      · refine bd_aload_n C 5 dL_law_2235 rfl rfl ?_
        refine bd_iconst C (v := 0) dL_law_2236 (by decide) ?_
        refine bd_lald C dL_law_2237 ol3 (fun x370 => ?_)
        refine bd_iload C 0 dL_law_2238 rfl ?_
        refine bd_i2l C dL_law_2240 ?_
        refine bd_lcmp C dL_law_2241 ?_
        refine bd_if_eq C 2247 dL_law_2242 (by decide) (fun c371 => ?_) (fun c371 => ?_)
        · exact bd_wide (by omega) (by omega) (bd_sub (hb2247 _ hk28 j p366.2 l1 l2 l3 l4 l5 cj ol1 ol2 ol3 ol4) [2, 3, 4, 5, 6, 7] rfl)
        · refine bd_iconst C (v := 0) dL_law_2245 (by decide) ?_
          exact bd_none
    · refine bd_iconst C (v := 0) dL_law_2228 (by decide) ?_
      exact bd_none
  have hb1778 : ∀ (k28 : Nat → Wd → Nat → Nat → Nat → Nat → Int32 → Option Unit), (∀ (j : Nat) (w : Wd) (l1 : Nat) (l2 : Nat) (l3 : Nat) (l4 : Nat) (l5 : Int32) (ol1 : okF F l1 8) (ol2 : okF F l2 9) (ol3 : okF F l3 12) (ol4 : okF F l4 16), BD g G F 9 qv (689 + j) (6140368 + 6 * j) (k28 j w l1 l2 l3 l4 l5) w 28 [(0, .ref b9), (1, .ref l1), (2, .ref l2), (3, .ref l3), (4, .ref l4), (5, .int l5)] []) → ∀  (j : Nat) (w : Wd) (l1 : Nat) (l2 : Nat) (l3 : Nat) (l4 : Nat) (l5 : Int32) (cj : j < 600) (ol1 : okF F l1 8) (ol2 : okF F l2 9) (ol3 : okF F l3 12) (ol4 : okF F l4 16), BD g G F 9 qv (689 + (j + 1)) (6140368 + 6 * (j + 1)) (fL_law_1778 F N L xs k28 j w l1 l2 l3 l4 l5) w 1778 [(0, .ref b9), (1, .ref l1), (2, .ref l2), (3, .ref l3), (4, .ref l4), (5, .int l5)] [] := by
    intro k28 hk28
    intro j w l1 l2 l3 l4 l5 cj ol1 ol2 ol3 ol4
    unfold fL_law_1778
    refine bd_goto C 2250 dL_law_1778 (by decide) ?_
    exact bd_wide (by omega) (by omega) (bd_sub (hb2250 _ hk28 j w l1 l2 l3 l4 l5 cj ol1 ol2 ol3 ol4) [0, 1, 2, 3, 4, 5] rfl)
  have hb1701 : ∀ (k28 : Nat → Wd → Nat → Nat → Nat → Nat → Int32 → Option Unit), (∀ (j : Nat) (w : Wd) (l1 : Nat) (l2 : Nat) (l3 : Nat) (l4 : Nat) (l5 : Int32) (ol1 : okF F l1 8) (ol2 : okF F l2 9) (ol3 : okF F l3 12) (ol4 : okF F l4 16), BD g G F 9 qv (689 + j) (6140368 + 6 * j) (k28 j w l1 l2 l3 l4 l5) w 28 [(0, .ref b9), (1, .ref l1), (2, .ref l2), (3, .ref l3), (4, .ref l4), (5, .int l5)] []) → ∀  (j : Nat) (w : Wd) (l1 : Nat) (l2 : Nat) (l3 : Nat) (l4 : Nat) (l5 : Int32) (cj : j < 600) (ol1 : okF F l1 8) (ol2 : okF F l2 9) (ol3 : okF F l3 12) (ol4 : okF F l4 16), BD g G F 9 qv (689 + j) (6140368 + 6 * j) (fL_law_1701 F N L xs k28 j w l1 l2 l3 l4 l5) w 1701 [(0, .ref b9), (1, .ref l1), (2, .ref l2), (3, .ref l3), (4, .ref l4), (5, .int l5)] [] := by
    intro k28 hk28
    intro j w l1 l2 l3 l4 l5 cj ol1 ol2 ol3 ol4
    unfold fL_law_1701
    refine bd_aload_n C 1 dL_law_1701 rfl rfl ?_
    refine bd_aload_n C 0 dL_law_1702 rfl rfl ?_
    refine bd_iload C 5 dL_law_1703 rfl ?_
    refine bd_iconst C (v := 1) dL_law_1705 (by decide) ?_
    refine bd_iadd C dL_law_1706 ?_
    refine bd_sld C hsx dL_law_1707 (fun x280 => ?_)
    refine bd_aload_n C 0 dL_law_1708 rfl rfl ?_
    refine bd_iload C 5 dL_law_1709 rfl ?_
    refine bd_iconst C (v := 2) dL_law_1711 (by decide) ?_
    refine bd_iadd C dL_law_1712 ?_
    refine bd_sld C hsx dL_law_1713 (fun x281 => ?_)
    refine bd_aload_n C 0 dL_law_1714 rfl rfl ?_
    refine bd_iload C 5 dL_law_1715 rfl ?_
    refine bd_iconst C (v := 3) dL_law_1717 (by decide) ?_
    refine bd_iadd C dL_law_1718 ?_
    refine bd_sld C hsx dL_law_1719 (fun x282 => ?_)
    refine bd_aload_n C 3 dL_law_1720 rfl rfl ?_
    refine bd_callH (vs := fun (r : Int32 × Wd) => some (.int r.1)) (wf := fun (r : Int32 × Wd) => r.2) (st := []) (st1 := fun p283 => Value.int p283.1 :: []) C hNC [.ref l1, .int x280, .int x281, .int x282, .ref l3] (fun r9 e9 => mL_merged C.flag N ol1 ol3 hcm e9) mwL_merged wd_1097 rfl rfl (Nat.le_of_ble_eq_true rfl) dL_law_1721 ⟨rfl, rfl, Nat.le_of_ble_eq_true rfl, Nat.le_of_ble_eq_true rfl, by show 689 + _ + _ ≤ 603072; omega, by show 6140368 + _ + _ ≤ 7211114; omega⟩ (fun _ => rfl) (fun p283 ep283 => ?_)
    refine bd_istore C [(6, .int p283.1), (0, .ref b9), (1, .ref l1), (2, .ref l2), (3, .ref l3), (4, .ref l4), (5, .int l5)] dL_law_1724 (by decide) rfl ?_
    refine bd_aload_n C 3 dL_law_1726 rfl rfl ?_
    refine bd_aload_n C 1 dL_law_1727 rfl rfl ?_
    refine bd_iload C 6 dL_law_1728 rfl ?_
    refine bd_iconst C (v := 1) dL_law_1730 (by decide) ?_
    refine bd_iadd C dL_law_1731 ?_
    refine bd_sld C hsx dL_law_1732 (fun x284 => ?_)
    refine bd_aload_n C 1 dL_law_1733 rfl rfl ?_
    refine bd_iload C 6 dL_law_1734 rfl ?_
    refine bd_iconst C (v := 2) dL_law_1736 (by decide) ?_
    refine bd_iadd C dL_law_1737 ?_
    refine bd_sld C hsx dL_law_1738 (fun x285 => ?_)
    refine bd_aload_n C 1 dL_law_1739 rfl rfl ?_
    refine bd_iload C 6 dL_law_1740 rfl ?_
    refine bd_iconst C (v := 3) dL_law_1742 (by decide) ?_
    refine bd_iadd C dL_law_1743 ?_
    refine bd_sld C hsx dL_law_1744 (fun x286 => ?_)
    refine bd_callV (vs := fun (r : Int32 × Wd) => some (.int r.1)) (wf := fun (r : Int32 × Wd) => r.2) (st := []) (st1 := fun p287 => Value.int p287.1 :: []) C [.int x284, .int x285, .int x286] (fun r9 e9 => mX9_merged C.flag N ol2 e9) mwX9_merged miX9_merged wd_1704 ol2 (by decide) rfl rfl rfl (Nat.le_of_ble_eq_true rfl) dL_law_1745 ⟨rfl, rfl, Nat.le_of_ble_eq_true rfl, Nat.le_of_ble_eq_true rfl, by show 689 + _ + _ ≤ 603072; omega, by show 6140368 + _ + _ ≤ 7211114; omega⟩ (fun _ => rfl) (fun p287 ep287 => ?_)
    refine bd_istore C [(7, .int p287.1), (6, .int p283.1), (0, .ref b9), (1, .ref l1), (2, .ref l2), (3, .ref l3), (4, .ref l4), (5, .int l5)] dL_law_1748 (by decide) rfl ?_
    refine bd_aload_n C 4 dL_law_1750 rfl rfl ?_
    refine bd_callV (vs := fun (r : Int32) => some (.int r)) (wf := fun _ => p287.2) (st := []) (st1 := fun x288 => Value.int x288 :: []) C [] (fun r9 e9 => mX9_thrown C.flag N ol2 e9) mwX9_thrown miX9_thrown wd_1383 ol2 (by decide) rfl rfl rfl (Nat.le_of_ble_eq_true rfl) dL_law_1751 ⟨rfl, rfl, Nat.le_of_ble_eq_true rfl, Nat.le_of_ble_eq_true rfl, by show 689 + _ + _ ≤ 603072; omega, by show 6140368 + _ + _ ≤ 7211114; omega⟩ (fun _ => rfl) (fun x288 ex288 => ?_)
    refine bd_iload C 1 dL_law_1754 rfl ?_
    refine bd_icmp_eq C 1761 dL_law_1756 (by decide) (fun c289 => ?_) (fun c289 => ?_)
    · refine bd_iload C 1 dL_law_1761 rfl ?_
      refine bd_if_ne C 1778 dL_law_1763 (by decide) (fun c290 => ?_) (fun c290 => ?_)
      · exact bd_wide (by omega) (by omega) (bd_sub (hb1778 _ hk28 j p287.2 l1 l2 l3 l4 l5 cj ol1 ol2 ol3 ol4) [2, 3, 4, 5, 6, 7] rfl)
      · refine bd_aload_n C 5 dL_law_1766 rfl rfl ?_
        refine bd_iconst C (v := 0) dL_law_1767 (by decide) ?_
        refine bd_lald C dL_law_1768 ol3 (fun x291 => ?_)
        refine bd_iload C 0 dL_law_1769 rfl ?_
        refine bd_i2l C dL_law_1771 ?_
        refine bd_lcmp C dL_law_1772 ?_
        refine bd_if_eq C 1778 dL_law_1773 (by decide) (fun c292 => ?_) (fun c292 => ?_)
        · exact bd_wide (by omega) (by omega) (bd_sub (hb1778 _ hk28 j p287.2 l1 l2 l3 l4 l5 cj ol1 ol2 ol3 ol4) [2, 3, 4, 5, 6, 7] rfl)
        · refine bd_iconst C (v := 0) dL_law_1776 (by decide) ?_
          exact bd_none
    · refine bd_iconst C (v := 0) dL_law_1759 (by decide) ?_
      exact bd_none
  have hb1270 : ∀ (k28 : Nat → Wd → Nat → Nat → Nat → Nat → Int32 → Option Unit), (∀ (j : Nat) (w : Wd) (l1 : Nat) (l2 : Nat) (l3 : Nat) (l4 : Nat) (l5 : Int32) (ol1 : okF F l1 8) (ol2 : okF F l2 9) (ol3 : okF F l3 12) (ol4 : okF F l4 16), BD g G F 9 qv (689 + j) (6140368 + 6 * j) (k28 j w l1 l2 l3 l4 l5) w 28 [(0, .ref b9), (1, .ref l1), (2, .ref l2), (3, .ref l3), (4, .ref l4), (5, .int l5)] []) → ∀  (j : Nat) (w : Wd) (l1 : Nat) (l2 : Nat) (l3 : Nat) (l4 : Nat) (l5 : Int32) (cj : j < 600) (ol1 : okF F l1 8) (ol2 : okF F l2 9) (ol3 : okF F l3 12) (ol4 : okF F l4 16), BD g G F 9 qv (689 + (j + 1)) (6140368 + 6 * (j + 1)) (fL_law_1270 F N L xs k28 j w l1 l2 l3 l4 l5) w 1270 [(0, .ref b9), (1, .ref l1), (2, .ref l2), (3, .ref l3), (4, .ref l4), (5, .int l5)] [] := by
    intro k28 hk28
    intro j w l1 l2 l3 l4 l5 cj ol1 ol2 ol3 ol4
    unfold fL_law_1270
    refine bd_goto C 2250 dL_law_1270 (by decide) ?_
    exact bd_wide (by omega) (by omega) (bd_sub (hb2250 _ hk28 j w l1 l2 l3 l4 l5 cj ol1 ol2 ol3 ol4) [0, 1, 2, 3, 4, 5] rfl)
  have hb1205 : ∀ (k28 : Nat → Wd → Nat → Nat → Nat → Nat → Int32 → Option Unit), (∀ (j : Nat) (w : Wd) (l1 : Nat) (l2 : Nat) (l3 : Nat) (l4 : Nat) (l5 : Int32) (ol1 : okF F l1 8) (ol2 : okF F l2 9) (ol3 : okF F l3 12) (ol4 : okF F l4 16), BD g G F 9 qv (689 + j) (6140368 + 6 * j) (k28 j w l1 l2 l3 l4 l5) w 28 [(0, .ref b9), (1, .ref l1), (2, .ref l2), (3, .ref l3), (4, .ref l4), (5, .int l5)] []) → ∀  (j : Nat) (w : Wd) (l1 : Nat) (l2 : Nat) (l3 : Nat) (l4 : Nat) (l5 : Int32) (cj : j < 600) (ol1 : okF F l1 8) (ol2 : okF F l2 9) (ol3 : okF F l3 12) (ol4 : okF F l4 16), BD g G F 9 qv (689 + j) (6140368 + 6 * j) (fL_law_1205 F N L xs k28 j w l1 l2 l3 l4 l5) w 1205 [(0, .ref b9), (1, .ref l1), (2, .ref l2), (3, .ref l3), (4, .ref l4), (5, .int l5)] [] := by
    intro k28 hk28
    intro j w l1 l2 l3 l4 l5 cj ol1 ol2 ol3 ol4
    unfold fL_law_1205
    refine bd_aload_n C 1 dL_law_1205 rfl rfl ?_
    refine bd_aload_n C 0 dL_law_1206 rfl rfl ?_
    refine bd_iload C 5 dL_law_1207 rfl ?_
    refine bd_iconst C (v := 1) dL_law_1209 (by decide) ?_
    refine bd_iadd C dL_law_1210 ?_
    refine bd_sld C hsx dL_law_1211 (fun x201 => ?_)
    refine bd_aload_n C 0 dL_law_1212 rfl rfl ?_
    refine bd_iload C 5 dL_law_1213 rfl ?_
    refine bd_iconst C (v := 2) dL_law_1215 (by decide) ?_
    refine bd_iadd C dL_law_1216 ?_
    refine bd_sld C hsx dL_law_1217 (fun x202 => ?_)
    refine bd_aload_n C 3 dL_law_1218 rfl rfl ?_
    refine bd_callH (vs := fun (r : Int32 × Wd) => some (.int r.1)) (wf := fun (r : Int32 × Wd) => r.2) (st := []) (st1 := fun p203 => Value.int p203.1 :: []) C hNC [.ref l1, .int x201, .int x202, .ref l3] (fun r9 e9 => mL_spanAt C.flag N ol1 ol3 hcm e9) mwL_spanAt wd_909 rfl rfl (Nat.le_of_ble_eq_true rfl) dL_law_1219 ⟨rfl, rfl, Nat.le_of_ble_eq_true rfl, Nat.le_of_ble_eq_true rfl, by show 689 + _ + _ ≤ 603072; omega, by show 6140368 + _ + _ ≤ 7211114; omega⟩ (fun _ => rfl) (fun p203 ep203 => ?_)
    refine bd_istore C [(6, .int p203.1), (0, .ref b9), (1, .ref l1), (2, .ref l2), (3, .ref l3), (4, .ref l4), (5, .int l5)] dL_law_1222 (by decide) rfl ?_
    refine bd_aload_n C 3 dL_law_1224 rfl rfl ?_
    refine bd_aload_n C 1 dL_law_1225 rfl rfl ?_
    refine bd_iload C 6 dL_law_1226 rfl ?_
    refine bd_iconst C (v := 1) dL_law_1228 (by decide) ?_
    refine bd_iadd C dL_law_1229 ?_
    refine bd_sld C hsx dL_law_1230 (fun x204 => ?_)
    refine bd_aload_n C 1 dL_law_1231 rfl rfl ?_
    refine bd_iload C 6 dL_law_1232 rfl ?_
    refine bd_iconst C (v := 2) dL_law_1234 (by decide) ?_
    refine bd_iadd C dL_law_1235 ?_
    refine bd_sld C hsx dL_law_1236 (fun x205 => ?_)
    refine bd_callV (vs := fun (r : Int32 × Wd) => some (.int r.1)) (wf := fun (r : Int32 × Wd) => r.2) (st := []) (st1 := fun p206 => Value.int p206.1 :: []) C [.int x204, .int x205] (fun r9 e9 => mX9_spanAt C.flag N ol2 e9) mwX9_spanAt miX9_spanAt wd_1614 ol2 (by decide) rfl rfl rfl (Nat.le_of_ble_eq_true rfl) dL_law_1237 ⟨rfl, rfl, Nat.le_of_ble_eq_true rfl, Nat.le_of_ble_eq_true rfl, by show 689 + _ + _ ≤ 603072; omega, by show 6140368 + _ + _ ≤ 7211114; omega⟩ (fun _ => rfl) (fun p206 ep206 => ?_)
    refine bd_istore C [(7, .int p206.1), (6, .int p203.1), (0, .ref b9), (1, .ref l1), (2, .ref l2), (3, .ref l3), (4, .ref l4), (5, .int l5)] dL_law_1240 (by decide) rfl ?_
    refine bd_aload_n C 4 dL_law_1242 rfl rfl ?_
    refine bd_callV (vs := fun (r : Int32) => some (.int r)) (wf := fun _ => p206.2) (st := []) (st1 := fun x207 => Value.int x207 :: []) C [] (fun r9 e9 => mX9_thrown C.flag N ol2 e9) mwX9_thrown miX9_thrown wd_1383 ol2 (by decide) rfl rfl rfl (Nat.le_of_ble_eq_true rfl) dL_law_1243 ⟨rfl, rfl, Nat.le_of_ble_eq_true rfl, Nat.le_of_ble_eq_true rfl, by show 689 + _ + _ ≤ 603072; omega, by show 6140368 + _ + _ ≤ 7211114; omega⟩ (fun _ => rfl) (fun x207 ex207 => ?_)
    refine bd_iload C 1 dL_law_1246 rfl ?_
    refine bd_icmp_eq C 1253 dL_law_1248 (by decide) (fun c208 => ?_) (fun c208 => ?_)
    · refine bd_iload C 1 dL_law_1253 rfl ?_
      refine bd_if_ne C 1270 dL_law_1255 (by decide) (fun c209 => ?_) (fun c209 => ?_)
      · exact bd_wide (by omega) (by omega) (bd_sub (hb1270 _ hk28 j p206.2 l1 l2 l3 l4 l5 cj ol1 ol2 ol3 ol4) [2, 3, 4, 5, 6, 7] rfl)
      · refine bd_aload_n C 5 dL_law_1258 rfl rfl ?_
        refine bd_iconst C (v := 0) dL_law_1259 (by decide) ?_
        refine bd_lald C dL_law_1260 ol3 (fun x210 => ?_)
        refine bd_iload C 0 dL_law_1261 rfl ?_
        refine bd_i2l C dL_law_1263 ?_
        refine bd_lcmp C dL_law_1264 ?_
        refine bd_if_eq C 1270 dL_law_1265 (by decide) (fun c211 => ?_) (fun c211 => ?_)
        · exact bd_wide (by omega) (by omega) (bd_sub (hb1270 _ hk28 j p206.2 l1 l2 l3 l4 l5 cj ol1 ol2 ol3 ol4) [2, 3, 4, 5, 6, 7] rfl)
        · refine bd_iconst C (v := 0) dL_law_1268 (by decide) ?_
          exact bd_none
    · refine bd_iconst C (v := 0) dL_law_1251 (by decide) ?_
      exact bd_none
  have hb1924 : ∀ (k28 : Nat → Wd → Nat → Nat → Nat → Nat → Int32 → Option Unit), (∀ (j : Nat) (w : Wd) (l1 : Nat) (l2 : Nat) (l3 : Nat) (l4 : Nat) (l5 : Int32) (ol1 : okF F l1 8) (ol2 : okF F l2 9) (ol3 : okF F l3 12) (ol4 : okF F l4 16), BD g G F 9 qv (689 + j) (6140368 + 6 * j) (k28 j w l1 l2 l3 l4 l5) w 28 [(0, .ref b9), (1, .ref l1), (2, .ref l2), (3, .ref l3), (4, .ref l4), (5, .int l5)] []) → ∀  (j : Nat) (w : Wd) (l1 : Nat) (l2 : Nat) (l3 : Nat) (l4 : Nat) (l5 : Int32) (cj : j < 600) (ol1 : okF F l1 8) (ol2 : okF F l2 9) (ol3 : okF F l3 12) (ol4 : okF F l4 16), BD g G F 9 qv (689 + (j + 1)) (6140368 + 6 * (j + 1)) (fL_law_1924 F N L xs k28 j w l1 l2 l3 l4 l5) w 1924 [(0, .ref b9), (1, .ref l1), (2, .ref l2), (3, .ref l3), (4, .ref l4), (5, .int l5)] [] := by
    intro k28 hk28
    intro j w l1 l2 l3 l4 l5 cj ol1 ol2 ol3 ol4
    unfold fL_law_1924
    refine bd_goto C 2250 dL_law_1924 (by decide) ?_
    exact bd_wide (by omega) (by omega) (bd_sub (hb2250 _ hk28 j w l1 l2 l3 l4 l5 cj ol1 ol2 ol3 ol4) [0, 1, 2, 3, 4, 5] rfl)
  have hb1849 : ∀ (k28 : Nat → Wd → Nat → Nat → Nat → Nat → Int32 → Option Unit), (∀ (j : Nat) (w : Wd) (l1 : Nat) (l2 : Nat) (l3 : Nat) (l4 : Nat) (l5 : Int32) (ol1 : okF F l1 8) (ol2 : okF F l2 9) (ol3 : okF F l3 12) (ol4 : okF F l4 16), BD g G F 9 qv (689 + j) (6140368 + 6 * j) (k28 j w l1 l2 l3 l4 l5) w 28 [(0, .ref b9), (1, .ref l1), (2, .ref l2), (3, .ref l3), (4, .ref l4), (5, .int l5)] []) → ∀  (j : Nat) (w : Wd) (l1 : Nat) (l2 : Nat) (l3 : Nat) (l4 : Nat) (l5 : Int32) (cj : j < 600) (ol1 : okF F l1 8) (ol2 : okF F l2 9) (ol3 : okF F l3 12) (ol4 : okF F l4 16), BD g G F 9 qv (689 + j) (6140368 + 6 * j) (fL_law_1849 F N L xs k28 j w l1 l2 l3 l4 l5) w 1849 [(0, .ref b9), (1, .ref l1), (2, .ref l2), (3, .ref l3), (4, .ref l4), (5, .int l5)] [] := by
    intro k28 hk28
    intro j w l1 l2 l3 l4 l5 cj ol1 ol2 ol3 ol4
    unfold fL_law_1849
    refine bd_aload_n C 1 dL_law_1849 rfl rfl ?_
    refine bd_aload_n C 0 dL_law_1850 rfl rfl ?_
    refine bd_iload C 5 dL_law_1851 rfl ?_
    refine bd_iconst C (v := 1) dL_law_1853 (by decide) ?_
    refine bd_iadd C dL_law_1854 ?_
    refine bd_sld C hsx dL_law_1855 (fun x304 => ?_)
    refine bd_aload C 4 dL_law_1856 rfl ?_
    refine bd_callH (vs := fun (r : Int32 × Wd) => some (.int r.1)) (wf := fun (r : Int32 × Wd) => r.2) (st := []) (st1 := fun p305 => Value.int p305.1 :: []) C hNC [.ref l1, .int x304, .ref l4] (fun r9 e9 => mL_agreement C.flag N ol1 ol4 hcm e9) mwL_agreement wd_1127 rfl rfl (Nat.le_of_ble_eq_true rfl) dL_law_1858 ⟨rfl, rfl, Nat.le_of_ble_eq_true rfl, Nat.le_of_ble_eq_true rfl, by show 689 + _ + _ ≤ 603072; omega, by show 6140368 + _ + _ ≤ 7211114; omega⟩ (fun _ => rfl) (fun p305 ep305 => ?_)
    refine bd_istore C [(6, .int p305.1), (0, .ref b9), (1, .ref l1), (2, .ref l2), (3, .ref l3), (4, .ref l4), (5, .int l5)] dL_law_1861 (by decide) rfl ?_
    refine bd_aload_n C 3 dL_law_1863 rfl rfl ?_
    refine bd_aload_n C 1 dL_law_1864 rfl rfl ?_
    refine bd_iload C 6 dL_law_1865 rfl ?_
    refine bd_iconst C (v := 1) dL_law_1867 (by decide) ?_
    refine bd_iadd C dL_law_1868 ?_
    refine bd_sld C hsx dL_law_1869 (fun x306 => ?_)
    refine bd_callV (vs := fun (r : UInt32 × Wd) => some (.float r.1)) (wf := fun (r : UInt32 × Wd) => r.2) (st := []) (st1 := fun p307 => Value.float p307.1 :: []) C [.int x306] (fun r9 e9 => mX9_agreement C.flag N ol2 e9) mwX9_agreement miX9_agreement wd_1720 ol2 (by decide) rfl rfl rfl (Nat.le_of_ble_eq_true rfl) dL_law_1870 ⟨rfl, rfl, Nat.le_of_ble_eq_true rfl, Nat.le_of_ble_eq_true rfl, by show 689 + _ + _ ≤ 603072; omega, by show 6140368 + _ + _ ≤ 7211114; omega⟩ (fun _ => rfl) (fun p307 ep307 => ?_)
    refine bd_fstore C [(7, .float p307.1), (6, .int p305.1), (0, .ref b9), (1, .ref l1), (2, .ref l2), (3, .ref l3), (4, .ref l4), (5, .int l5)] dL_law_1873 (by decide) rfl ?_
    refine bd_aload_n C 4 dL_law_1875 rfl rfl ?_
    refine bd_callV (vs := fun (r : Int32) => some (.int r)) (wf := fun _ => p307.2) (st := []) (st1 := fun x308 => Value.int x308 :: []) C [] (fun r9 e9 => mX9_thrown C.flag N ol2 e9) mwX9_thrown miX9_thrown wd_1383 ol2 (by decide) rfl rfl rfl (Nat.le_of_ble_eq_true rfl) dL_law_1876 ⟨rfl, rfl, Nat.le_of_ble_eq_true rfl, Nat.le_of_ble_eq_true rfl, by show 689 + _ + _ ≤ 603072; omega, by show 6140368 + _ + _ ≤ 7211114; omega⟩ (fun _ => rfl) (fun x308 ex308 => ?_)
    refine bd_iload C 1 dL_law_1879 rfl ?_
    refine bd_icmp_eq C 1886 dL_law_1881 (by decide) (fun c309 => ?_) (fun c309 => ?_)
    · refine bd_iload C 1 dL_law_1886 rfl ?_
      refine bd_if_ne C 1924 dL_law_1888 (by decide) (fun c310 => ?_) (fun c310 => ?_)
      · exact bd_wide (by omega) (by omega) (bd_sub (hb1924 _ hk28 j p307.2 l1 l2 l3 l4 l5 cj ol1 ol2 ol3 ol4) [2, 3, 4, 5, 6, 7] rfl)
      · refine bd_aload C 6 dL_law_1891 rfl ?_
        refine bd_iconst C (v := 0) dL_law_1893 (by decide) ?_
        refine bd_dald C dL_law_1894 ol4 (fun x311 => ?_)
        refine bd_fload C 0 dL_law_1895 rfl ?_
        refine bd_f2d C dL_law_1897 (fun v312 => ?_)
        refine bd_dcmp C dL_law_1898 ?_
        refine bd_if_eq C 1924 dL_law_1899 (by decide) (fun c313 => ?_) (fun c313 => ?_)
        · exact bd_wide (by omega) (by omega) (bd_sub (hb1924 _ hk28 j p307.2 l1 l2 l3 l4 l5 cj ol1 ol2 ol3 ol4) [2, 3, 4, 5, 6, 7] rfl)
        · refine bd_aload C 6 dL_law_1902 rfl ?_
          refine bd_iconst C (v := 0) dL_law_1904 (by decide) ?_
          refine bd_dald C dL_law_1905 ol4 (fun x314 => ?_)
          refine bd_aload C 6 dL_law_1906 rfl ?_
          refine bd_iconst C (v := 0) dL_law_1908 (by decide) ?_
          refine bd_dald C dL_law_1909 ol4 (fun x315 => ?_)
          refine bd_dcmp C dL_law_1910 ?_
          refine bd_if_eq C 1922 dL_law_1911 (by decide) (fun c316 => ?_) (fun c316 => ?_)
          · refine bd_iconst C (v := 0) dL_law_1922 (by decide) ?_
            exact bd_none
          · refine bd_fload C 0 dL_law_1914 rfl ?_
            refine bd_fload C 0 dL_law_1916 rfl ?_
            refine bd_fcmp C dL_law_1918 ?_
            refine bd_if_ne C 1924 dL_law_1919 (by decide) (fun c317 => ?_) (fun c317 => ?_)
            · exact bd_wide (by omega) (by omega) (bd_sub (hb1924 _ hk28 j p307.2 l1 l2 l3 l4 l5 cj ol1 ol2 ol3 ol4) [2, 3, 4, 5, 6, 7] rfl)
            · refine bd_iconst C (v := 0) dL_law_1922 (by decide) ?_
              exact bd_none
    · refine bd_iconst C (v := 0) dL_law_1884 (by decide) ?_
      exact bd_none
  have hb2146 : ∀ (k28 : Nat → Wd → Nat → Nat → Nat → Nat → Int32 → Option Unit), (∀ (j : Nat) (w : Wd) (l1 : Nat) (l2 : Nat) (l3 : Nat) (l4 : Nat) (l5 : Int32) (ol1 : okF F l1 8) (ol2 : okF F l2 9) (ol3 : okF F l3 12) (ol4 : okF F l4 16), BD g G F 9 qv (689 + j) (6140368 + 6 * j) (k28 j w l1 l2 l3 l4 l5) w 28 [(0, .ref b9), (1, .ref l1), (2, .ref l2), (3, .ref l3), (4, .ref l4), (5, .int l5)] []) → ∀  (j : Nat) (w : Wd) (l1 : Nat) (l2 : Nat) (l3 : Nat) (l4 : Nat) (l5 : Int32) (cj : j < 600) (ol1 : okF F l1 8) (ol2 : okF F l2 9) (ol3 : okF F l3 12) (ol4 : okF F l4 16), BD g G F 9 qv (689 + (j + 1)) (6140368 + 6 * (j + 1)) (fL_law_2146 F N L xs k28 j w l1 l2 l3 l4 l5) w 2146 [(0, .ref b9), (1, .ref l1), (2, .ref l2), (3, .ref l3), (4, .ref l4), (5, .int l5)] [] := by
    intro k28 hk28
    intro j w l1 l2 l3 l4 l5 cj ol1 ol2 ol3 ol4
    unfold fL_law_2146
    refine bd_goto C 2250 dL_law_2146 (by decide) ?_
    exact bd_wide (by omega) (by omega) (bd_sub (hb2250 _ hk28 j w l1 l2 l3 l4 l5 cj ol1 ol2 ol3 ol4) [0, 1, 2, 3, 4, 5] rfl)
  have hb2105 : ∀ (k28 : Nat → Wd → Nat → Nat → Nat → Nat → Int32 → Option Unit), (∀ (j : Nat) (w : Wd) (l1 : Nat) (l2 : Nat) (l3 : Nat) (l4 : Nat) (l5 : Int32) (ol1 : okF F l1 8) (ol2 : okF F l2 9) (ol3 : okF F l3 12) (ol4 : okF F l4 16), BD g G F 9 qv (689 + j) (6140368 + 6 * j) (k28 j w l1 l2 l3 l4 l5) w 28 [(0, .ref b9), (1, .ref l1), (2, .ref l2), (3, .ref l3), (4, .ref l4), (5, .int l5)] []) → ∀  (j : Nat) (w : Wd) (l1 : Nat) (l2 : Nat) (l3 : Nat) (l4 : Nat) (l5 : Int32) (cj : j < 600) (ol1 : okF F l1 8) (ol2 : okF F l2 9) (ol3 : okF F l3 12) (ol4 : okF F l4 16), BD g G F 9 qv (689 + j) (6140368 + 6 * j) (fL_law_2105 F N L xs k28 j w l1 l2 l3 l4 l5) w 2105 [(0, .ref b9), (1, .ref l1), (2, .ref l2), (3, .ref l3), (4, .ref l4), (5, .int l5)] [] := by
    intro k28 hk28
    intro j w l1 l2 l3 l4 l5 cj ol1 ol2 ol3 ol4
    unfold fL_law_2105
    refine bd_aload_n C 1 dL_law_2105 rfl rfl ?_
    refine bd_aload_n C 3 dL_law_2106 rfl rfl ?_
    refine bd_callH (vs := fun (r : Int32 × Wd) => some (.int r.1)) (wf := fun (r : Int32 × Wd) => r.2) (st := []) (st1 := fun p348 => Value.int p348.1 :: []) C hNC [.ref l1, .ref l3] (fun r9 e9 => mL_refusedItem C.flag N ol1 ol3 hcm e9) mwL_refusedItem wd_1204 rfl rfl (Nat.le_of_ble_eq_true rfl) dL_law_2107 ⟨rfl, rfl, Nat.le_of_ble_eq_true rfl, Nat.le_of_ble_eq_true rfl, by show 689 + _ + _ ≤ 603072; omega, by show 6140368 + _ + _ ≤ 7211114; omega⟩ (fun _ => rfl) (fun p348 ep348 => ?_)
    refine bd_istore C [(6, .int p348.1), (0, .ref b9), (1, .ref l1), (2, .ref l2), (3, .ref l3), (4, .ref l4), (5, .int l5)] dL_law_2110 (by decide) rfl ?_
    refine bd_aload_n C 3 dL_law_2112 rfl rfl ?_
    refine bd_callV (vs := fun (r : Int32 × Wd) => some (.int r.1)) (wf := fun (r : Int32 × Wd) => r.2) (st := []) (st1 := fun p349 => Value.int p349.1 :: []) C [] (fun r9 e9 => mX9_refusedItem C.flag N ol2 e9) mwX9_refusedItem miX9_refusedItem wd_1759 ol2 (by decide) rfl rfl rfl (Nat.le_of_ble_eq_true rfl) dL_law_2113 ⟨rfl, rfl, Nat.le_of_ble_eq_true rfl, Nat.le_of_ble_eq_true rfl, by show 689 + _ + _ ≤ 603072; omega, by show 6140368 + _ + _ ≤ 7211114; omega⟩ (fun _ => rfl) (fun p349 ep349 => ?_)
    refine bd_istore C [(7, .int p349.1), (6, .int p348.1), (0, .ref b9), (1, .ref l1), (2, .ref l2), (3, .ref l3), (4, .ref l4), (5, .int l5)] dL_law_2116 (by decide) rfl ?_
    refine bd_aload_n C 4 dL_law_2118 rfl rfl ?_
    refine bd_callV (vs := fun (r : Int32) => some (.int r)) (wf := fun _ => p349.2) (st := []) (st1 := fun x350 => Value.int x350 :: []) C [] (fun r9 e9 => mX9_thrown C.flag N ol2 e9) mwX9_thrown miX9_thrown wd_1383 ol2 (by decide) rfl rfl rfl (Nat.le_of_ble_eq_true rfl) dL_law_2119 ⟨rfl, rfl, Nat.le_of_ble_eq_true rfl, Nat.le_of_ble_eq_true rfl, by show 689 + _ + _ ≤ 603072; omega, by show 6140368 + _ + _ ≤ 7211114; omega⟩ (fun _ => rfl) (fun x350 ex350 => ?_)
    refine bd_iload C 1 dL_law_2122 rfl ?_
    refine bd_icmp_eq C 2129 dL_law_2124 (by decide) (fun c351 => ?_) (fun c351 => ?_)
    · refine bd_iload C 1 dL_law_2129 rfl ?_
      refine bd_if_ne C 2146 dL_law_2131 (by decide) (fun c352 => ?_) (fun c352 => ?_)
      · exact bd_wide (by omega) (by omega) (bd_sub (hb2146 _ hk28 j p349.2 l1 l2 l3 l4 l5 cj ol1 ol2 ol3 ol4) [2, 3, 4, 5, 6, 7] rfl)
      · refine bd_aload_n C 5 dL_law_2134 rfl rfl ?_
        refine bd_iconst C (v := 0) dL_law_2135 (by decide) ?_
        refine bd_lald C dL_law_2136 ol3 (fun x353 => ?_)
        refine bd_iload C 0 dL_law_2137 rfl ?_
        refine bd_i2l C dL_law_2139 ?_
        refine bd_lcmp C dL_law_2140 ?_
        refine bd_if_eq C 2146 dL_law_2141 (by decide) (fun c354 => ?_) (fun c354 => ?_)
        · exact bd_wide (by omega) (by omega) (bd_sub (hb2146 _ hk28 j p349.2 l1 l2 l3 l4 l5 cj ol1 ol2 ol3 ol4) [2, 3, 4, 5, 6, 7] rfl)
        · refine bd_iconst C (v := 0) dL_law_2144 (by decide) ?_
          exact bd_none
    · refine bd_iconst C (v := 0) dL_law_2127 (by decide) ?_
      exact bd_none
  have hb894 : ∀ (k28 : Nat → Wd → Nat → Nat → Nat → Nat → Int32 → Option Unit), (∀ (j : Nat) (w : Wd) (l1 : Nat) (l2 : Nat) (l3 : Nat) (l4 : Nat) (l5 : Int32) (ol1 : okF F l1 8) (ol2 : okF F l2 9) (ol3 : okF F l3 12) (ol4 : okF F l4 16), BD g G F 9 qv (689 + j) (6140368 + 6 * j) (k28 j w l1 l2 l3 l4 l5) w 28 [(0, .ref b9), (1, .ref l1), (2, .ref l2), (3, .ref l3), (4, .ref l4), (5, .int l5)] []) → ∀  (j : Nat) (w : Wd) (l1 : Nat) (l2 : Nat) (l3 : Nat) (l4 : Nat) (l5 : Int32) (cj : j < 600) (ol1 : okF F l1 8) (ol2 : okF F l2 9) (ol3 : okF F l3 12) (ol4 : okF F l4 16), BD g G F 9 qv (689 + (j + 1)) (6140368 + 6 * (j + 1)) (fL_law_894 F N L xs k28 j w l1 l2 l3 l4 l5) w 894 [(0, .ref b9), (1, .ref l1), (2, .ref l2), (3, .ref l3), (4, .ref l4), (5, .int l5)] [] := by
    intro k28 hk28
    intro j w l1 l2 l3 l4 l5 cj ol1 ol2 ol3 ol4
    unfold fL_law_894
    refine bd_goto C 2250 dL_law_894 (by decide) ?_
    exact bd_wide (by omega) (by omega) (bd_sub (hb2250 _ hk28 j w l1 l2 l3 l4 l5 cj ol1 ol2 ol3 ol4) [0, 1, 2, 3, 4, 5] rfl)
  have hb829 : ∀ (k28 : Nat → Wd → Nat → Nat → Nat → Nat → Int32 → Option Unit), (∀ (j : Nat) (w : Wd) (l1 : Nat) (l2 : Nat) (l3 : Nat) (l4 : Nat) (l5 : Int32) (ol1 : okF F l1 8) (ol2 : okF F l2 9) (ol3 : okF F l3 12) (ol4 : okF F l4 16), BD g G F 9 qv (689 + j) (6140368 + 6 * j) (k28 j w l1 l2 l3 l4 l5) w 28 [(0, .ref b9), (1, .ref l1), (2, .ref l2), (3, .ref l3), (4, .ref l4), (5, .int l5)] []) → ∀  (j : Nat) (w : Wd) (l1 : Nat) (l2 : Nat) (l3 : Nat) (l4 : Nat) (l5 : Int32) (cj : j < 600) (ol1 : okF F l1 8) (ol2 : okF F l2 9) (ol3 : okF F l3 12) (ol4 : okF F l4 16), BD g G F 9 qv (689 + j) (6140368 + 6 * j) (fL_law_829 F N L xs k28 j w l1 l2 l3 l4 l5) w 829 [(0, .ref b9), (1, .ref l1), (2, .ref l2), (3, .ref l3), (4, .ref l4), (5, .int l5)] [] := by
    intro k28 hk28
    intro j w l1 l2 l3 l4 l5 cj ol1 ol2 ol3 ol4
    unfold fL_law_829
    refine bd_aload_n C 1 dL_law_829 rfl rfl ?_
    refine bd_aload_n C 0 dL_law_830 rfl rfl ?_
    refine bd_iload C 5 dL_law_831 rfl ?_
    refine bd_iconst C (v := 1) dL_law_833 (by decide) ?_
    refine bd_iadd C dL_law_834 ?_
    refine bd_sld C hsx dL_law_835 (fun x140 => ?_)
    refine bd_aload_n C 0 dL_law_836 rfl rfl ?_
    refine bd_iload C 5 dL_law_837 rfl ?_
    refine bd_iconst C (v := 2) dL_law_839 (by decide) ?_
    refine bd_iadd C dL_law_840 ?_
    refine bd_sld C hsx dL_law_841 (fun x141 => ?_)
    refine bd_aload_n C 3 dL_law_842 rfl rfl ?_
    refine bd_callH (vs := fun (r : Int32 × Wd) => some (.int r.1)) (wf := fun (r : Int32 × Wd) => r.2) (st := []) (st1 := fun p142 => Value.int p142.1 :: []) C hNC [.ref l1, .int x140, .int x141, .ref l3] (fun r9 e9 => mL_rename C.flag N ol1 ol3 hcm e9) mwL_rename wd_833 rfl rfl (Nat.le_of_ble_eq_true rfl) dL_law_843 ⟨rfl, rfl, Nat.le_of_ble_eq_true rfl, Nat.le_of_ble_eq_true rfl, by show 689 + _ + _ ≤ 603072; omega, by show 6140368 + _ + _ ≤ 7211114; omega⟩ (fun _ => rfl) (fun p142 ep142 => ?_)
    refine bd_istore C [(6, .int p142.1), (0, .ref b9), (1, .ref l1), (2, .ref l2), (3, .ref l3), (4, .ref l4), (5, .int l5)] dL_law_846 (by decide) rfl ?_
    refine bd_aload_n C 3 dL_law_848 rfl rfl ?_
    refine bd_aload_n C 1 dL_law_849 rfl rfl ?_
    refine bd_iload C 6 dL_law_850 rfl ?_
    refine bd_iconst C (v := 1) dL_law_852 (by decide) ?_
    refine bd_iadd C dL_law_853 ?_
    refine bd_sld C hsx dL_law_854 (fun x143 => ?_)
    refine bd_aload_n C 1 dL_law_855 rfl rfl ?_
    refine bd_iload C 6 dL_law_856 rfl ?_
    refine bd_iconst C (v := 2) dL_law_858 (by decide) ?_
    refine bd_iadd C dL_law_859 ?_
    refine bd_sld C hsx dL_law_860 (fun x144 => ?_)
    refine bd_callV (vs := fun (r : Int32 × Wd) => some (.int r.1)) (wf := fun (r : Int32 × Wd) => r.2) (st := []) (st1 := fun p145 => Value.int p145.1 :: []) C [.int x143, .int x144] (fun r9 e9 => mX9_rename C.flag N ol2 e9) mwX9_rename miX9_rename wd_1578 ol2 (by decide) rfl rfl rfl (Nat.le_of_ble_eq_true rfl) dL_law_861 ⟨rfl, rfl, Nat.le_of_ble_eq_true rfl, Nat.le_of_ble_eq_true rfl, by show 689 + _ + _ ≤ 603072; omega, by show 6140368 + _ + _ ≤ 7211114; omega⟩ (fun _ => rfl) (fun p145 ep145 => ?_)
    refine bd_istore C [(7, .int p145.1), (6, .int p142.1), (0, .ref b9), (1, .ref l1), (2, .ref l2), (3, .ref l3), (4, .ref l4), (5, .int l5)] dL_law_864 (by decide) rfl ?_
    refine bd_aload_n C 4 dL_law_866 rfl rfl ?_
    refine bd_callV (vs := fun (r : Int32) => some (.int r)) (wf := fun _ => p145.2) (st := []) (st1 := fun x146 => Value.int x146 :: []) C [] (fun r9 e9 => mX9_thrown C.flag N ol2 e9) mwX9_thrown miX9_thrown wd_1383 ol2 (by decide) rfl rfl rfl (Nat.le_of_ble_eq_true rfl) dL_law_867 ⟨rfl, rfl, Nat.le_of_ble_eq_true rfl, Nat.le_of_ble_eq_true rfl, by show 689 + _ + _ ≤ 603072; omega, by show 6140368 + _ + _ ≤ 7211114; omega⟩ (fun _ => rfl) (fun x146 ex146 => ?_)
    refine bd_iload C 1 dL_law_870 rfl ?_
    refine bd_icmp_eq C 877 dL_law_872 (by decide) (fun c147 => ?_) (fun c147 => ?_)
    · refine bd_iload C 1 dL_law_877 rfl ?_
      refine bd_if_ne C 894 dL_law_879 (by decide) (fun c148 => ?_) (fun c148 => ?_)
      · exact bd_wide (by omega) (by omega) (bd_sub (hb894 _ hk28 j p145.2 l1 l2 l3 l4 l5 cj ol1 ol2 ol3 ol4) [2, 3, 4, 5, 6, 7] rfl)
      · refine bd_aload_n C 5 dL_law_882 rfl rfl ?_
        refine bd_iconst C (v := 0) dL_law_883 (by decide) ?_
        refine bd_lald C dL_law_884 ol3 (fun x149 => ?_)
        refine bd_iload C 0 dL_law_885 rfl ?_
        refine bd_i2l C dL_law_887 ?_
        refine bd_lcmp C dL_law_888 ?_
        refine bd_if_eq C 894 dL_law_889 (by decide) (fun c150 => ?_) (fun c150 => ?_)
        · exact bd_wide (by omega) (by omega) (bd_sub (hb894 _ hk28 j p145.2 l1 l2 l3 l4 l5 cj ol1 ol2 ol3 ol4) [2, 3, 4, 5, 6, 7] rfl)
        · refine bd_iconst C (v := 0) dL_law_892 (by decide) ?_
          exact bd_none
    · refine bd_iconst C (v := 0) dL_law_875 (by decide) ?_
      exact bd_none
  have hb192 : ∀ (k28 : Nat → Wd → Nat → Nat → Nat → Nat → Int32 → Option Unit), (∀ (j : Nat) (w : Wd) (l1 : Nat) (l2 : Nat) (l3 : Nat) (l4 : Nat) (l5 : Int32) (ol1 : okF F l1 8) (ol2 : okF F l2 9) (ol3 : okF F l3 12) (ol4 : okF F l4 16), BD g G F 9 qv (689 + j) (6140368 + 6 * j) (k28 j w l1 l2 l3 l4 l5) w 28 [(0, .ref b9), (1, .ref l1), (2, .ref l2), (3, .ref l3), (4, .ref l4), (5, .int l5)] []) → ∀  (j : Nat) (w : Wd) (l1 : Nat) (l2 : Nat) (l3 : Nat) (l4 : Nat) (l5 : Int32) (cj : j < 600) (ol1 : okF F l1 8) (ol2 : okF F l2 9) (ol3 : okF F l3 12) (ol4 : okF F l4 16), BD g G F 9 qv (689 + j) (6140368 + 6 * j) (fL_law_192 F N L xs k28 j w l1 l2 l3 l4 l5) w 192 [(0, .ref b9), (1, .ref l1), (2, .ref l2), (3, .ref l3), (4, .ref l4), (5, .int l5)] [] := by
    intro k28 hk28
    intro j w l1 l2 l3 l4 l5 cj ol1 ol2 ol3 ol4
    unfold fL_law_192
    refine bd_aload_n C 1 dL_law_192 rfl rfl ?_
    refine bd_callV (vs := fun (r : Int32 × Wd) => some (.int r.1)) (wf := fun (r : Int32 × Wd) => r.2) (st := []) (st1 := fun p36 => Value.int p36.1 :: []) C [] (fun r9 e9 => mX8_clear C.flag N ol1 e9) mwX8_clear miX8_clear wd_378 ol1 (by decide) rfl rfl rfl (Nat.le_of_ble_eq_true rfl) dL_law_193 ⟨rfl, rfl, Nat.le_of_ble_eq_true rfl, Nat.le_of_ble_eq_true rfl, by show 689 + _ + _ ≤ 603072; omega, by show 6140368 + _ + _ ≤ 7211114; omega⟩ (fun _ => rfl) (fun p36 ep36 => ?_)
    refine bd_aload_n C 2 dL_law_196 rfl rfl ?_
    refine bd_callV (vs := fun (r : Int32 × Wd) => some (.int r.1)) (wf := fun (r : Int32 × Wd) => r.2) (st := [.int p36.1]) (st1 := fun p37 => Value.int p37.1 :: [.int p36.1]) C [] (fun r9 e9 => mX9_clear C.flag N ol2 e9) mwX9_clear miX9_clear wd_1387 ol2 (by decide) rfl rfl rfl (Nat.le_of_ble_eq_true rfl) dL_law_197 ⟨rfl, rfl, Nat.le_of_ble_eq_true rfl, Nat.le_of_ble_eq_true rfl, by show 689 + _ + _ ≤ 603072; omega, by show 6140368 + _ + _ ≤ 7211114; omega⟩ (fun _ => rfl) (fun p37 ep37 => ?_)
    refine bd_icmp_eq C 2250 dL_law_200 (by decide) (fun c38 => ?_) (fun c38 => ?_)
    · exact bd_wide (by omega) (by omega) (bd_sub (hb2250 _ hk28 j p37.2 l1 l2 l3 l4 l5 cj ol1 ol2 ol3 ol4) [0, 1, 2, 3, 4, 5] rfl)
    · refine bd_iconst C (v := 0) dL_law_203 (by decide) ?_
      exact bd_none
  have hb1422 : ∀ (k28 : Nat → Wd → Nat → Nat → Nat → Nat → Int32 → Option Unit), (∀ (j : Nat) (w : Wd) (l1 : Nat) (l2 : Nat) (l3 : Nat) (l4 : Nat) (l5 : Int32) (ol1 : okF F l1 8) (ol2 : okF F l2 9) (ol3 : okF F l3 12) (ol4 : okF F l4 16), BD g G F 9 qv (689 + j) (6140368 + 6 * j) (k28 j w l1 l2 l3 l4 l5) w 28 [(0, .ref b9), (1, .ref l1), (2, .ref l2), (3, .ref l3), (4, .ref l4), (5, .int l5)] []) → ∀  (j : Nat) (w : Wd) (l1 : Nat) (l2 : Nat) (l3 : Nat) (l4 : Nat) (l5 : Int32) (cj : j < 600) (ol1 : okF F l1 8) (ol2 : okF F l2 9) (ol3 : okF F l3 12) (ol4 : okF F l4 16), BD g G F 9 qv (689 + (j + 1)) (6140368 + 6 * (j + 1)) (fL_law_1422 F N L xs k28 j w l1 l2 l3 l4 l5) w 1422 [(0, .ref b9), (1, .ref l1), (2, .ref l2), (3, .ref l3), (4, .ref l4), (5, .int l5)] [] := by
    intro k28 hk28
    intro j w l1 l2 l3 l4 l5 cj ol1 ol2 ol3 ol4
    unfold fL_law_1422
    refine bd_goto C 2250 dL_law_1422 (by decide) ?_
    exact bd_wide (by omega) (by omega) (bd_sub (hb2250 _ hk28 j w l1 l2 l3 l4 l5 cj ol1 ol2 ol3 ol4) [0, 1, 2, 3, 4, 5] rfl)
  have hb1345 : ∀ (k28 : Nat → Wd → Nat → Nat → Nat → Nat → Int32 → Option Unit), (∀ (j : Nat) (w : Wd) (l1 : Nat) (l2 : Nat) (l3 : Nat) (l4 : Nat) (l5 : Int32) (ol1 : okF F l1 8) (ol2 : okF F l2 9) (ol3 : okF F l3 12) (ol4 : okF F l4 16), BD g G F 9 qv (689 + j) (6140368 + 6 * j) (k28 j w l1 l2 l3 l4 l5) w 28 [(0, .ref b9), (1, .ref l1), (2, .ref l2), (3, .ref l3), (4, .ref l4), (5, .int l5)] []) → ∀  (j : Nat) (w : Wd) (l1 : Nat) (l2 : Nat) (l3 : Nat) (l4 : Nat) (l5 : Int32) (cj : j < 600) (ol1 : okF F l1 8) (ol2 : okF F l2 9) (ol3 : okF F l3 12) (ol4 : okF F l4 16), BD g G F 9 qv (689 + j) (6140368 + 6 * j) (fL_law_1345 F N L xs k28 j w l1 l2 l3 l4 l5) w 1345 [(0, .ref b9), (1, .ref l1), (2, .ref l2), (3, .ref l3), (4, .ref l4), (5, .int l5)] [] := by
    intro k28 hk28
    intro j w l1 l2 l3 l4 l5 cj ol1 ol2 ol3 ol4
    unfold fL_law_1345
    refine bd_aload_n C 1 dL_law_1345 rfl rfl ?_
    refine bd_aload_n C 0 dL_law_1346 rfl rfl ?_
    refine bd_iload C 5 dL_law_1347 rfl ?_
    refine bd_iconst C (v := 1) dL_law_1349 (by decide) ?_
    refine bd_iadd C dL_law_1350 ?_
    refine bd_sld C hsx dL_law_1351 (fun x223 => ?_)
    refine bd_aload_n C 0 dL_law_1352 rfl rfl ?_
    refine bd_iload C 5 dL_law_1353 rfl ?_
    refine bd_iconst C (v := 2) dL_law_1355 (by decide) ?_
    refine bd_iadd C dL_law_1356 ?_
    refine bd_sld C hsx dL_law_1357 (fun x224 => ?_)
    refine bd_aload_n C 0 dL_law_1358 rfl rfl ?_
    refine bd_iload C 5 dL_law_1359 rfl ?_
    refine bd_iconst C (v := 3) dL_law_1361 (by decide) ?_
    refine bd_iadd C dL_law_1362 ?_
    refine bd_sld C hsx dL_law_1363 (fun x225 => ?_)
    refine bd_aload_n C 3 dL_law_1364 rfl rfl ?_
    refine bd_callH (vs := fun (r : Int32 × Wd) => some (.int r.1)) (wf := fun (r : Int32 × Wd) => r.2) (st := []) (st1 := fun p226 => Value.int p226.1 :: []) C hNC [.ref l1, .int x223, .int x224, .int x225, .ref l3] (fun r9 e9 => mL_aligned C.flag N ol1 ol3 hcm e9) mwL_aligned wd_927 rfl rfl (Nat.le_of_ble_eq_true rfl) dL_law_1365 ⟨rfl, rfl, Nat.le_of_ble_eq_true rfl, Nat.le_of_ble_eq_true rfl, by show 689 + _ + _ ≤ 603072; omega, by show 6140368 + _ + _ ≤ 7211114; omega⟩ (fun _ => rfl) (fun p226 ep226 => ?_)
    refine bd_istore C [(6, .int p226.1), (0, .ref b9), (1, .ref l1), (2, .ref l2), (3, .ref l3), (4, .ref l4), (5, .int l5)] dL_law_1368 (by decide) rfl ?_
    refine bd_aload_n C 3 dL_law_1370 rfl rfl ?_
    refine bd_aload_n C 1 dL_law_1371 rfl rfl ?_
    refine bd_iload C 6 dL_law_1372 rfl ?_
    refine bd_iconst C (v := 1) dL_law_1374 (by decide) ?_
    refine bd_iadd C dL_law_1375 ?_
    refine bd_sld C hsx dL_law_1376 (fun x227 => ?_)
    refine bd_aload_n C 1 dL_law_1377 rfl rfl ?_
    refine bd_iload C 6 dL_law_1378 rfl ?_
    refine bd_iconst C (v := 2) dL_law_1380 (by decide) ?_
    refine bd_iadd C dL_law_1381 ?_
    refine bd_sld C hsx dL_law_1382 (fun x228 => ?_)
    refine bd_aload_n C 1 dL_law_1383 rfl rfl ?_
    refine bd_iload C 6 dL_law_1384 rfl ?_
    refine bd_iconst C (v := 3) dL_law_1386 (by decide) ?_
    refine bd_iadd C dL_law_1387 ?_
    refine bd_sld C hsx dL_law_1388 (fun x229 => ?_)
    refine bd_callV (vs := fun (r : Int32 × Wd) => some (.int r.1)) (wf := fun (r : Int32 × Wd) => r.2) (st := []) (st1 := fun p230 => Value.int p230.1 :: []) C [.int x227, .int x228, .int x229] (fun r9 e9 => mX9_aligned C.flag N ol2 e9) mwX9_aligned miX9_aligned wd_1622 ol2 (by decide) rfl rfl rfl (Nat.le_of_ble_eq_true rfl) dL_law_1389 ⟨rfl, rfl, Nat.le_of_ble_eq_true rfl, Nat.le_of_ble_eq_true rfl, by show 689 + _ + _ ≤ 603072; omega, by show 6140368 + _ + _ ≤ 7211114; omega⟩ (fun _ => rfl) (fun p230 ep230 => ?_)
    refine bd_istore C [(7, .int p230.1), (6, .int p226.1), (0, .ref b9), (1, .ref l1), (2, .ref l2), (3, .ref l3), (4, .ref l4), (5, .int l5)] dL_law_1392 (by decide) rfl ?_
    refine bd_aload_n C 4 dL_law_1394 rfl rfl ?_
    refine bd_callV (vs := fun (r : Int32) => some (.int r)) (wf := fun _ => p230.2) (st := []) (st1 := fun x231 => Value.int x231 :: []) C [] (fun r9 e9 => mX9_thrown C.flag N ol2 e9) mwX9_thrown miX9_thrown wd_1383 ol2 (by decide) rfl rfl rfl (Nat.le_of_ble_eq_true rfl) dL_law_1395 ⟨rfl, rfl, Nat.le_of_ble_eq_true rfl, Nat.le_of_ble_eq_true rfl, by show 689 + _ + _ ≤ 603072; omega, by show 6140368 + _ + _ ≤ 7211114; omega⟩ (fun _ => rfl) (fun x231 ex231 => ?_)
    refine bd_iload C 1 dL_law_1398 rfl ?_
    refine bd_icmp_eq C 1405 dL_law_1400 (by decide) (fun c232 => ?_) (fun c232 => ?_)
    · refine bd_iload C 1 dL_law_1405 rfl ?_
      refine bd_if_ne C 1422 dL_law_1407 (by decide) (fun c233 => ?_) (fun c233 => ?_)
      · exact bd_wide (by omega) (by omega) (bd_sub (hb1422 _ hk28 j p230.2 l1 l2 l3 l4 l5 cj ol1 ol2 ol3 ol4) [2, 3, 4, 5, 6, 7] rfl)
      · refine bd_aload_n C 5 dL_law_1410 rfl rfl ?_
        refine bd_iconst C (v := 0) dL_law_1411 (by decide) ?_
        refine bd_lald C dL_law_1412 ol3 (fun x234 => ?_)
        refine bd_iload C 0 dL_law_1413 rfl ?_
        refine bd_i2l C dL_law_1415 ?_
        refine bd_lcmp C dL_law_1416 ?_
        refine bd_if_eq C 1422 dL_law_1417 (by decide) (fun c235 => ?_) (fun c235 => ?_)
        · exact bd_wide (by omega) (by omega) (bd_sub (hb1422 _ hk28 j p230.2 l1 l2 l3 l4 l5 cj ol1 ol2 ol3 ol4) [2, 3, 4, 5, 6, 7] rfl)
        · refine bd_iconst C (v := 0) dL_law_1420 (by decide) ?_
          exact bd_none
    · refine bd_iconst C (v := 0) dL_law_1403 (by decide) ?_
      exact bd_none
  have hb282 : ∀ (k28 : Nat → Wd → Nat → Nat → Nat → Nat → Int32 → Option Unit), (∀ (j : Nat) (w : Wd) (l1 : Nat) (l2 : Nat) (l3 : Nat) (l4 : Nat) (l5 : Int32) (ol1 : okF F l1 8) (ol2 : okF F l2 9) (ol3 : okF F l3 12) (ol4 : okF F l4 16), BD g G F 9 qv (689 + j) (6140368 + 6 * j) (k28 j w l1 l2 l3 l4 l5) w 28 [(0, .ref b9), (1, .ref l1), (2, .ref l2), (3, .ref l3), (4, .ref l4), (5, .int l5)] []) → ∀  (j : Nat) (w : Wd) (l1 : Nat) (l2 : Nat) (l3 : Nat) (l4 : Nat) (l5 : Int32) (cj : j < 600) (ol1 : okF F l1 8) (ol2 : okF F l2 9) (ol3 : okF F l3 12) (ol4 : okF F l4 16), BD g G F 9 qv (689 + (j + 1)) (6140368 + 6 * (j + 1)) (fL_law_282 F N L xs k28 j w l1 l2 l3 l4 l5) w 282 [(0, .ref b9), (1, .ref l1), (2, .ref l2), (3, .ref l3), (4, .ref l4), (5, .int l5)] [] := by
    intro k28 hk28
    intro j w l1 l2 l3 l4 l5 cj ol1 ol2 ol3 ol4
    unfold fL_law_282
    refine bd_goto C 2250 dL_law_282 (by decide) ?_
    exact bd_wide (by omega) (by omega) (bd_sub (hb2250 _ hk28 j w l1 l2 l3 l4 l5 cj ol1 ol2 ol3 ol4) [0, 1, 2, 3, 4, 5] rfl)
  have hb205 : ∀ (k28 : Nat → Wd → Nat → Nat → Nat → Nat → Int32 → Option Unit), (∀ (j : Nat) (w : Wd) (l1 : Nat) (l2 : Nat) (l3 : Nat) (l4 : Nat) (l5 : Int32) (ol1 : okF F l1 8) (ol2 : okF F l2 9) (ol3 : okF F l3 12) (ol4 : okF F l4 16), BD g G F 9 qv (689 + j) (6140368 + 6 * j) (k28 j w l1 l2 l3 l4 l5) w 28 [(0, .ref b9), (1, .ref l1), (2, .ref l2), (3, .ref l3), (4, .ref l4), (5, .int l5)] []) → ∀  (j : Nat) (w : Wd) (l1 : Nat) (l2 : Nat) (l3 : Nat) (l4 : Nat) (l5 : Int32) (cj : j < 600) (ol1 : okF F l1 8) (ol2 : okF F l2 9) (ol3 : okF F l3 12) (ol4 : okF F l4 16), BD g G F 9 qv (689 + j) (6140368 + 6 * j) (fL_law_205 F N L xs k28 j w l1 l2 l3 l4 l5) w 205 [(0, .ref b9), (1, .ref l1), (2, .ref l2), (3, .ref l3), (4, .ref l4), (5, .int l5)] [] := by
    intro k28 hk28
    intro j w l1 l2 l3 l4 l5 cj ol1 ol2 ol3 ol4
    unfold fL_law_205
    refine bd_aload_n C 1 dL_law_205 rfl rfl ?_
    refine bd_aload_n C 0 dL_law_206 rfl rfl ?_
    refine bd_iload C 5 dL_law_207 rfl ?_
    refine bd_iconst C (v := 1) dL_law_209 (by decide) ?_
    refine bd_iadd C dL_law_210 ?_
    refine bd_sld C hsx dL_law_211 (fun x39 => ?_)
    refine bd_aload_n C 0 dL_law_212 rfl rfl ?_
    refine bd_iload C 5 dL_law_213 rfl ?_
    refine bd_iconst C (v := 2) dL_law_215 (by decide) ?_
    refine bd_iadd C dL_law_216 ?_
    refine bd_sld C hsx dL_law_217 (fun x40 => ?_)
    refine bd_aload_n C 0 dL_law_218 rfl rfl ?_
    refine bd_iload C 5 dL_law_219 rfl ?_
    refine bd_iconst C (v := 3) dL_law_221 (by decide) ?_
    refine bd_iadd C dL_law_222 ?_
    refine bd_sld C hsx dL_law_223 (fun x41 => ?_)
    refine bd_aload_n C 3 dL_law_224 rfl rfl ?_
    refine bd_callH (vs := fun (r : Int32 × Wd) => some (.int r.1)) (wf := fun (r : Int32 × Wd) => r.2) (st := []) (st1 := fun p42 => Value.int p42.1 :: []) C hNC [.ref l1, .int x39, .int x40, .int x41, .ref l3] (fun r9 e9 => mL_addTier C.flag N ol1 ol3 hcm e9) mwL_addTier wd_475 rfl rfl (Nat.le_of_ble_eq_true rfl) dL_law_225 ⟨rfl, rfl, Nat.le_of_ble_eq_true rfl, Nat.le_of_ble_eq_true rfl, by show 689 + _ + _ ≤ 603072; omega, by show 6140368 + _ + _ ≤ 7211114; omega⟩ (fun _ => rfl) (fun p42 ep42 => ?_)
    refine bd_istore C [(6, .int p42.1), (0, .ref b9), (1, .ref l1), (2, .ref l2), (3, .ref l3), (4, .ref l4), (5, .int l5)] dL_law_228 (by decide) rfl ?_
    refine bd_aload_n C 3 dL_law_230 rfl rfl ?_
    refine bd_aload_n C 1 dL_law_231 rfl rfl ?_
    refine bd_iload C 6 dL_law_232 rfl ?_
    refine bd_iconst C (v := 1) dL_law_234 (by decide) ?_
    refine bd_iadd C dL_law_235 ?_
    refine bd_sld C hsx dL_law_236 (fun x43 => ?_)
    refine bd_aload_n C 1 dL_law_237 rfl rfl ?_
    refine bd_iload C 6 dL_law_238 rfl ?_
    refine bd_iconst C (v := 2) dL_law_240 (by decide) ?_
    refine bd_iadd C dL_law_241 ?_
    refine bd_sld C hsx dL_law_242 (fun x44 => ?_)
    refine bd_aload_n C 1 dL_law_243 rfl rfl ?_
    refine bd_iload C 6 dL_law_244 rfl ?_
    refine bd_iconst C (v := 3) dL_law_246 (by decide) ?_
    refine bd_iadd C dL_law_247 ?_
    refine bd_sld C hsx dL_law_248 (fun x45 => ?_)
    refine bd_callV (vs := fun (r : Int32 × Wd) => some (.int r.1)) (wf := fun (r : Int32 × Wd) => r.2) (st := []) (st1 := fun p46 => Value.int p46.1 :: []) C [.int x43, .int x44, .int x45] (fun r9 e9 => mX9_addTier C.flag N ol2 e9) mwX9_addTier miX9_addTier wd_1395 ol2 (by decide) rfl rfl rfl (Nat.le_of_ble_eq_true rfl) dL_law_249 ⟨rfl, rfl, Nat.le_of_ble_eq_true rfl, Nat.le_of_ble_eq_true rfl, by show 689 + _ + _ ≤ 603072; omega, by show 6140368 + _ + _ ≤ 7211114; omega⟩ (fun _ => rfl) (fun p46 ep46 => ?_)
    refine bd_istore C [(7, .int p46.1), (6, .int p42.1), (0, .ref b9), (1, .ref l1), (2, .ref l2), (3, .ref l3), (4, .ref l4), (5, .int l5)] dL_law_252 (by decide) rfl ?_
    refine bd_aload_n C 4 dL_law_254 rfl rfl ?_
    refine bd_callV (vs := fun (r : Int32) => some (.int r)) (wf := fun _ => p46.2) (st := []) (st1 := fun x47 => Value.int x47 :: []) C [] (fun r9 e9 => mX9_thrown C.flag N ol2 e9) mwX9_thrown miX9_thrown wd_1383 ol2 (by decide) rfl rfl rfl (Nat.le_of_ble_eq_true rfl) dL_law_255 ⟨rfl, rfl, Nat.le_of_ble_eq_true rfl, Nat.le_of_ble_eq_true rfl, by show 689 + _ + _ ≤ 603072; omega, by show 6140368 + _ + _ ≤ 7211114; omega⟩ (fun _ => rfl) (fun x47 ex47 => ?_)
    refine bd_iload C 1 dL_law_258 rfl ?_
    refine bd_icmp_eq C 265 dL_law_260 (by decide) (fun c48 => ?_) (fun c48 => ?_)
    · refine bd_iload C 1 dL_law_265 rfl ?_
      refine bd_if_ne C 282 dL_law_267 (by decide) (fun c49 => ?_) (fun c49 => ?_)
      · exact bd_wide (by omega) (by omega) (bd_sub (hb282 _ hk28 j p46.2 l1 l2 l3 l4 l5 cj ol1 ol2 ol3 ol4) [2, 3, 4, 5, 6, 7] rfl)
      · refine bd_aload_n C 5 dL_law_270 rfl rfl ?_
        refine bd_iconst C (v := 0) dL_law_271 (by decide) ?_
        refine bd_lald C dL_law_272 ol3 (fun x50 => ?_)
        refine bd_iload C 0 dL_law_273 rfl ?_
        refine bd_i2l C dL_law_275 ?_
        refine bd_lcmp C dL_law_276 ?_
        refine bd_if_eq C 282 dL_law_277 (by decide) (fun c51 => ?_) (fun c51 => ?_)
        · exact bd_wide (by omega) (by omega) (bd_sub (hb282 _ hk28 j p46.2 l1 l2 l3 l4 l5 cj ol1 ol2 ol3 ol4) [2, 3, 4, 5, 6, 7] rfl)
        · refine bd_iconst C (v := 0) dL_law_280 (by decide) ?_
          exact bd_none
    · refine bd_iconst C (v := 0) dL_law_263 (by decide) ?_
      exact bd_none
  have hb666 : ∀ (k28 : Nat → Wd → Nat → Nat → Nat → Nat → Int32 → Option Unit), (∀ (j : Nat) (w : Wd) (l1 : Nat) (l2 : Nat) (l3 : Nat) (l4 : Nat) (l5 : Int32) (ol1 : okF F l1 8) (ol2 : okF F l2 9) (ol3 : okF F l3 12) (ol4 : okF F l4 16), BD g G F 9 qv (689 + j) (6140368 + 6 * j) (k28 j w l1 l2 l3 l4 l5) w 28 [(0, .ref b9), (1, .ref l1), (2, .ref l2), (3, .ref l3), (4, .ref l4), (5, .int l5)] []) → ∀  (j : Nat) (w : Wd) (l1 : Nat) (l2 : Nat) (l3 : Nat) (l4 : Nat) (l5 : Int32) (cj : j < 600) (ol1 : okF F l1 8) (ol2 : okF F l2 9) (ol3 : okF F l3 12) (ol4 : okF F l4 16), BD g G F 9 qv (689 + (j + 1)) (6140368 + 6 * (j + 1)) (fL_law_666 F N L xs k28 j w l1 l2 l3 l4 l5) w 666 [(0, .ref b9), (1, .ref l1), (2, .ref l2), (3, .ref l3), (4, .ref l4), (5, .int l5)] [] := by
    intro k28 hk28
    intro j w l1 l2 l3 l4 l5 cj ol1 ol2 ol3 ol4
    unfold fL_law_666
    refine bd_goto C 2250 dL_law_666 (by decide) ?_
    exact bd_wide (by omega) (by omega) (bd_sub (hb2250 _ hk28 j w l1 l2 l3 l4 l5 cj ol1 ol2 ol3 ol4) [0, 1, 2, 3, 4, 5] rfl)
  have hb589 : ∀ (k28 : Nat → Wd → Nat → Nat → Nat → Nat → Int32 → Option Unit), (∀ (j : Nat) (w : Wd) (l1 : Nat) (l2 : Nat) (l3 : Nat) (l4 : Nat) (l5 : Int32) (ol1 : okF F l1 8) (ol2 : okF F l2 9) (ol3 : okF F l3 12) (ol4 : okF F l4 16), BD g G F 9 qv (689 + j) (6140368 + 6 * j) (k28 j w l1 l2 l3 l4 l5) w 28 [(0, .ref b9), (1, .ref l1), (2, .ref l2), (3, .ref l3), (4, .ref l4), (5, .int l5)] []) → ∀  (j : Nat) (w : Wd) (l1 : Nat) (l2 : Nat) (l3 : Nat) (l4 : Nat) (l5 : Int32) (cj : j < 600) (ol1 : okF F l1 8) (ol2 : okF F l2 9) (ol3 : okF F l3 12) (ol4 : okF F l4 16), BD g G F 9 qv (689 + j) (6140368 + 6 * j) (fL_law_589 F N L xs k28 j w l1 l2 l3 l4 l5) w 589 [(0, .ref b9), (1, .ref l1), (2, .ref l2), (3, .ref l3), (4, .ref l4), (5, .int l5)] [] := by
    intro k28 hk28
    intro j w l1 l2 l3 l4 l5 cj ol1 ol2 ol3 ol4
    unfold fL_law_589
    refine bd_aload_n C 1 dL_law_589 rfl rfl ?_
    refine bd_aload_n C 0 dL_law_590 rfl rfl ?_
    refine bd_iload C 5 dL_law_591 rfl ?_
    refine bd_iconst C (v := 1) dL_law_593 (by decide) ?_
    refine bd_iadd C dL_law_594 ?_
    refine bd_sld C hsx dL_law_595 (fun x101 => ?_)
    refine bd_aload_n C 0 dL_law_596 rfl rfl ?_
    refine bd_iload C 5 dL_law_597 rfl ?_
    refine bd_iconst C (v := 2) dL_law_599 (by decide) ?_
    refine bd_iadd C dL_law_600 ?_
    refine bd_sld C hsx dL_law_601 (fun x102 => ?_)
    refine bd_aload_n C 0 dL_law_602 rfl rfl ?_
    refine bd_iload C 5 dL_law_603 rfl ?_
    refine bd_iconst C (v := 3) dL_law_605 (by decide) ?_
    refine bd_iadd C dL_law_606 ?_
    refine bd_sld C hsx dL_law_607 (fun x103 => ?_)
    refine bd_aload_n C 3 dL_law_608 rfl rfl ?_
    refine bd_callH (vs := fun (r : Int32 × Wd) => some (.int r.1)) (wf := fun (r : Int32 × Wd) => r.2) (st := []) (st1 := fun p104 => Value.int p104.1 :: []) C hNC [.ref l1, .int x101, .int x102, .int x103, .ref l3] (fun r9 e9 => mL_addSpan C.flag N ol1 ol3 hcm e9) mwL_addSpan wd_697 rfl rfl (Nat.le_of_ble_eq_true rfl) dL_law_609 ⟨rfl, rfl, Nat.le_of_ble_eq_true rfl, Nat.le_of_ble_eq_true rfl, by show 689 + _ + _ ≤ 603072; omega, by show 6140368 + _ + _ ≤ 7211114; omega⟩ (fun _ => rfl) (fun p104 ep104 => ?_)
    refine bd_istore C [(6, .int p104.1), (0, .ref b9), (1, .ref l1), (2, .ref l2), (3, .ref l3), (4, .ref l4), (5, .int l5)] dL_law_612 (by decide) rfl ?_
    refine bd_aload_n C 3 dL_law_614 rfl rfl ?_
    refine bd_aload_n C 1 dL_law_615 rfl rfl ?_
    refine bd_iload C 6 dL_law_616 rfl ?_
    refine bd_iconst C (v := 1) dL_law_618 (by decide) ?_
    refine bd_iadd C dL_law_619 ?_
    refine bd_sld C hsx dL_law_620 (fun x105 => ?_)
    refine bd_aload_n C 1 dL_law_621 rfl rfl ?_
    refine bd_iload C 6 dL_law_622 rfl ?_
    refine bd_iconst C (v := 2) dL_law_624 (by decide) ?_
    refine bd_iadd C dL_law_625 ?_
    refine bd_sld C hsx dL_law_626 (fun x106 => ?_)
    refine bd_aload_n C 1 dL_law_627 rfl rfl ?_
    refine bd_iload C 6 dL_law_628 rfl ?_
    refine bd_iconst C (v := 3) dL_law_630 (by decide) ?_
    refine bd_iadd C dL_law_631 ?_
    refine bd_sld C hsx dL_law_632 (fun x107 => ?_)
    refine bd_callV (vs := fun (r : Int32 × Wd) => some (.int r.1)) (wf := fun (r : Int32 × Wd) => r.2) (st := []) (st1 := fun p108 => Value.int p108.1 :: []) C [.int x105, .int x106, .int x107] (fun r9 e9 => mX9_addSpan C.flag N ol2 e9) mwX9_addSpan miX9_addSpan wd_1475 ol2 (by decide) rfl rfl rfl (Nat.le_of_ble_eq_true rfl) dL_law_633 ⟨rfl, rfl, Nat.le_of_ble_eq_true rfl, Nat.le_of_ble_eq_true rfl, by show 689 + _ + _ ≤ 603072; omega, by show 6140368 + _ + _ ≤ 7211114; omega⟩ (fun _ => rfl) (fun p108 ep108 => ?_)
    refine bd_istore C [(7, .int p108.1), (6, .int p104.1), (0, .ref b9), (1, .ref l1), (2, .ref l2), (3, .ref l3), (4, .ref l4), (5, .int l5)] dL_law_636 (by decide) rfl ?_
    refine bd_aload_n C 4 dL_law_638 rfl rfl ?_
    refine bd_callV (vs := fun (r : Int32) => some (.int r)) (wf := fun _ => p108.2) (st := []) (st1 := fun x109 => Value.int x109 :: []) C [] (fun r9 e9 => mX9_thrown C.flag N ol2 e9) mwX9_thrown miX9_thrown wd_1383 ol2 (by decide) rfl rfl rfl (Nat.le_of_ble_eq_true rfl) dL_law_639 ⟨rfl, rfl, Nat.le_of_ble_eq_true rfl, Nat.le_of_ble_eq_true rfl, by show 689 + _ + _ ≤ 603072; omega, by show 6140368 + _ + _ ≤ 7211114; omega⟩ (fun _ => rfl) (fun x109 ex109 => ?_)
    refine bd_iload C 1 dL_law_642 rfl ?_
    refine bd_icmp_eq C 649 dL_law_644 (by decide) (fun c110 => ?_) (fun c110 => ?_)
    · refine bd_iload C 1 dL_law_649 rfl ?_
      refine bd_if_ne C 666 dL_law_651 (by decide) (fun c111 => ?_) (fun c111 => ?_)
      · exact bd_wide (by omega) (by omega) (bd_sub (hb666 _ hk28 j p108.2 l1 l2 l3 l4 l5 cj ol1 ol2 ol3 ol4) [2, 3, 4, 5, 6, 7] rfl)
      · refine bd_aload_n C 5 dL_law_654 rfl rfl ?_
        refine bd_iconst C (v := 0) dL_law_655 (by decide) ?_
        refine bd_lald C dL_law_656 ol3 (fun x112 => ?_)
        refine bd_iload C 0 dL_law_657 rfl ?_
        refine bd_i2l C dL_law_659 ?_
        refine bd_lcmp C dL_law_660 ?_
        refine bd_if_eq C 666 dL_law_661 (by decide) (fun c113 => ?_) (fun c113 => ?_)
        · exact bd_wide (by omega) (by omega) (bd_sub (hb666 _ hk28 j p108.2 l1 l2 l3 l4 l5 cj ol1 ol2 ol3 ol4) [2, 3, 4, 5, 6, 7] rfl)
        · refine bd_iconst C (v := 0) dL_law_664 (by decide) ?_
          exact bd_none
    · refine bd_iconst C (v := 0) dL_law_647 (by decide) ?_
      exact bd_none
  have hb1042 : ∀ (k28 : Nat → Wd → Nat → Nat → Nat → Nat → Int32 → Option Unit), (∀ (j : Nat) (w : Wd) (l1 : Nat) (l2 : Nat) (l3 : Nat) (l4 : Nat) (l5 : Int32) (ol1 : okF F l1 8) (ol2 : okF F l2 9) (ol3 : okF F l3 12) (ol4 : okF F l4 16), BD g G F 9 qv (689 + j) (6140368 + 6 * j) (k28 j w l1 l2 l3 l4 l5) w 28 [(0, .ref b9), (1, .ref l1), (2, .ref l2), (3, .ref l3), (4, .ref l4), (5, .int l5)] []) → ∀  (j : Nat) (w : Wd) (l1 : Nat) (l2 : Nat) (l3 : Nat) (l4 : Nat) (l5 : Int32) (cj : j < 600) (ol1 : okF F l1 8) (ol2 : okF F l2 9) (ol3 : okF F l3 12) (ol4 : okF F l4 16), BD g G F 9 qv (689 + (j + 1)) (6140368 + 6 * (j + 1)) (fL_law_1042 F N L xs k28 j w l1 l2 l3 l4 l5) w 1042 [(0, .ref b9), (1, .ref l1), (2, .ref l2), (3, .ref l3), (4, .ref l4), (5, .int l5)] [] := by
    intro k28 hk28
    intro j w l1 l2 l3 l4 l5 cj ol1 ol2 ol3 ol4
    unfold fL_law_1042
    refine bd_goto C 2250 dL_law_1042 (by decide) ?_
    exact bd_wide (by omega) (by omega) (bd_sub (hb2250 _ hk28 j w l1 l2 l3 l4 l5 cj ol1 ol2 ol3 ol4) [0, 1, 2, 3, 4, 5] rfl)
  have hb977 : ∀ (k28 : Nat → Wd → Nat → Nat → Nat → Nat → Int32 → Option Unit), (∀ (j : Nat) (w : Wd) (l1 : Nat) (l2 : Nat) (l3 : Nat) (l4 : Nat) (l5 : Int32) (ol1 : okF F l1 8) (ol2 : okF F l2 9) (ol3 : okF F l3 12) (ol4 : okF F l4 16), BD g G F 9 qv (689 + j) (6140368 + 6 * j) (k28 j w l1 l2 l3 l4 l5) w 28 [(0, .ref b9), (1, .ref l1), (2, .ref l2), (3, .ref l3), (4, .ref l4), (5, .int l5)] []) → ∀  (j : Nat) (w : Wd) (l1 : Nat) (l2 : Nat) (l3 : Nat) (l4 : Nat) (l5 : Int32) (cj : j < 600) (ol1 : okF F l1 8) (ol2 : okF F l2 9) (ol3 : okF F l3 12) (ol4 : okF F l4 16), BD g G F 9 qv (689 + j) (6140368 + 6 * j) (fL_law_977 F N L xs k28 j w l1 l2 l3 l4 l5) w 977 [(0, .ref b9), (1, .ref l1), (2, .ref l2), (3, .ref l3), (4, .ref l4), (5, .int l5)] [] := by
    intro k28 hk28
    intro j w l1 l2 l3 l4 l5 cj ol1 ol2 ol3 ol4
    unfold fL_law_977
    refine bd_aload_n C 1 dL_law_977 rfl rfl ?_
    refine bd_aload_n C 0 dL_law_978 rfl rfl ?_
    refine bd_iload C 5 dL_law_979 rfl ?_
    refine bd_iconst C (v := 1) dL_law_981 (by decide) ?_
    refine bd_iadd C dL_law_982 ?_
    refine bd_sld C hsx dL_law_983 (fun x164 => ?_)
    refine bd_aload_n C 0 dL_law_984 rfl rfl ?_
    refine bd_iload C 5 dL_law_985 rfl ?_
    refine bd_iconst C (v := 2) dL_law_987 (by decide) ?_
    refine bd_iadd C dL_law_988 ?_
    refine bd_sld C hsx dL_law_989 (fun x165 => ?_)
    refine bd_aload_n C 3 dL_law_990 rfl rfl ?_
    refine bd_callH (vs := fun (r : Int32 × Wd) => some (.int r.1)) (wf := fun (r : Int32 × Wd) => r.2) (st := []) (st1 := fun p166 => Value.int p166.1 :: []) C hNC [.ref l1, .int x164, .int x165, .ref l3] (fun r9 e9 => mL_join C.flag N ol1 ol3 hcm e9) mwL_join wd_854 rfl rfl (Nat.le_of_ble_eq_true rfl) dL_law_991 ⟨rfl, rfl, Nat.le_of_ble_eq_true rfl, Nat.le_of_ble_eq_true rfl, by show 689 + _ + _ ≤ 603072; omega, by show 6140368 + _ + _ ≤ 7211114; omega⟩ (fun _ => rfl) (fun p166 ep166 => ?_)
    refine bd_istore C [(6, .int p166.1), (0, .ref b9), (1, .ref l1), (2, .ref l2), (3, .ref l3), (4, .ref l4), (5, .int l5)] dL_law_994 (by decide) rfl ?_
    refine bd_aload_n C 3 dL_law_996 rfl rfl ?_
    refine bd_aload_n C 1 dL_law_997 rfl rfl ?_
    refine bd_iload C 6 dL_law_998 rfl ?_
    refine bd_iconst C (v := 1) dL_law_1000 (by decide) ?_
    refine bd_iadd C dL_law_1001 ?_
    refine bd_sld C hsx dL_law_1002 (fun x167 => ?_)
    refine bd_aload_n C 1 dL_law_1003 rfl rfl ?_
    refine bd_iload C 6 dL_law_1004 rfl ?_
    refine bd_iconst C (v := 2) dL_law_1006 (by decide) ?_
    refine bd_iadd C dL_law_1007 ?_
    refine bd_sld C hsx dL_law_1008 (fun x168 => ?_)
    refine bd_callV (vs := fun (r : Int32 × Wd) => some (.int r.1)) (wf := fun (r : Int32 × Wd) => r.2) (st := []) (st1 := fun p169 => Value.int p169.1 :: []) C [.int x167, .int x168] (fun r9 e9 => mX9_join C.flag N ol2 e9) mwX9_join miX9_join wd_1594 ol2 (by decide) rfl rfl rfl (Nat.le_of_ble_eq_true rfl) dL_law_1009 ⟨rfl, rfl, Nat.le_of_ble_eq_true rfl, Nat.le_of_ble_eq_true rfl, by show 689 + _ + _ ≤ 603072; omega, by show 6140368 + _ + _ ≤ 7211114; omega⟩ (fun _ => rfl) (fun p169 ep169 => ?_)
    refine bd_istore C [(7, .int p169.1), (6, .int p166.1), (0, .ref b9), (1, .ref l1), (2, .ref l2), (3, .ref l3), (4, .ref l4), (5, .int l5)] dL_law_1012 (by decide) rfl ?_
    refine bd_aload_n C 4 dL_law_1014 rfl rfl ?_
    refine bd_callV (vs := fun (r : Int32) => some (.int r)) (wf := fun _ => p169.2) (st := []) (st1 := fun x170 => Value.int x170 :: []) C [] (fun r9 e9 => mX9_thrown C.flag N ol2 e9) mwX9_thrown miX9_thrown wd_1383 ol2 (by decide) rfl rfl rfl (Nat.le_of_ble_eq_true rfl) dL_law_1015 ⟨rfl, rfl, Nat.le_of_ble_eq_true rfl, Nat.le_of_ble_eq_true rfl, by show 689 + _ + _ ≤ 603072; omega, by show 6140368 + _ + _ ≤ 7211114; omega⟩ (fun _ => rfl) (fun x170 ex170 => ?_)
    refine bd_iload C 1 dL_law_1018 rfl ?_
    refine bd_icmp_eq C 1025 dL_law_1020 (by decide) (fun c171 => ?_) (fun c171 => ?_)
    · refine bd_iload C 1 dL_law_1025 rfl ?_
      refine bd_if_ne C 1042 dL_law_1027 (by decide) (fun c172 => ?_) (fun c172 => ?_)
      · exact bd_wide (by omega) (by omega) (bd_sub (hb1042 _ hk28 j p169.2 l1 l2 l3 l4 l5 cj ol1 ol2 ol3 ol4) [2, 3, 4, 5, 6, 7] rfl)
      · refine bd_aload_n C 5 dL_law_1030 rfl rfl ?_
        refine bd_iconst C (v := 0) dL_law_1031 (by decide) ?_
        refine bd_lald C dL_law_1032 ol3 (fun x173 => ?_)
        refine bd_iload C 0 dL_law_1033 rfl ?_
        refine bd_i2l C dL_law_1035 ?_
        refine bd_lcmp C dL_law_1036 ?_
        refine bd_if_eq C 1042 dL_law_1037 (by decide) (fun c174 => ?_) (fun c174 => ?_)
        · exact bd_wide (by omega) (by omega) (bd_sub (hb1042 _ hk28 j p169.2 l1 l2 l3 l4 l5 cj ol1 ol2 ol3 ol4) [2, 3, 4, 5, 6, 7] rfl)
        · refine bd_iconst C (v := 0) dL_law_1040 (by decide) ?_
          exact bd_none
    · refine bd_iconst C (v := 0) dL_law_1023 (by decide) ?_
      exact bd_none
  have hb2004 : ∀ (k28 : Nat → Wd → Nat → Nat → Nat → Nat → Int32 → Option Unit), (∀ (j : Nat) (w : Wd) (l1 : Nat) (l2 : Nat) (l3 : Nat) (l4 : Nat) (l5 : Int32) (ol1 : okF F l1 8) (ol2 : okF F l2 9) (ol3 : okF F l3 12) (ol4 : okF F l4 16), BD g G F 9 qv (689 + j) (6140368 + 6 * j) (k28 j w l1 l2 l3 l4 l5) w 28 [(0, .ref b9), (1, .ref l1), (2, .ref l2), (3, .ref l3), (4, .ref l4), (5, .int l5)] []) → ∀  (j : Nat) (w : Wd) (l1 : Nat) (l2 : Nat) (l3 : Nat) (l4 : Nat) (l5 : Int32) (cj : j < 600) (ol1 : okF F l1 8) (ol2 : okF F l2 9) (ol3 : okF F l3 12) (ol4 : okF F l4 16), BD g G F 9 qv (689 + j) (6140368 + 6 * j) (fL_law_2004 F N L xs k28 j w l1 l2 l3 l4 l5) w 2004 [(0, .ref b9), (1, .ref l1), (2, .ref l2), (3, .ref l3), (4, .ref l4), (5, .int l5)] [] := by
    intro k28 hk28
    intro j w l1 l2 l3 l4 l5 cj ol1 ol2 ol3 ol4
    unfold fL_law_2004
    refine bd_aload_n C 1 dL_law_2004 rfl rfl ?_
    refine bd_callV (vs := fun (r : Int32) => some (.int r)) (wf := fun _ => w) (st := []) (st1 := fun x331 => Value.int x331 :: []) C [] (fun r9 e9 => mX8_isConsistent C.flag N ol1 e9) mwX8_isConsistent miX8_isConsistent wd_390 ol1 (by decide) rfl rfl rfl (Nat.le_of_ble_eq_true rfl) dL_law_2005 ⟨rfl, rfl, Nat.le_of_ble_eq_true rfl, Nat.le_of_ble_eq_true rfl, by show 689 + _ + _ ≤ 603072; omega, by show 6140368 + _ + _ ≤ 7211114; omega⟩ (fun _ => rfl) (fun x331 ex331 => ?_)
    refine bd_aload_n C 2 dL_law_2008 rfl rfl ?_
    refine bd_callV (vs := fun (r : Int32 × Wd) => some (.int r.1)) (wf := fun (r : Int32 × Wd) => r.2) (st := [.int x331]) (st1 := fun p332 => Value.int p332.1 :: [.int x331]) C [] (fun r9 e9 => mX9_isConsistent C.flag N ol2 e9) mwX9_isConsistent miX9_isConsistent wd_1739 ol2 (by decide) rfl rfl rfl (Nat.le_of_ble_eq_true rfl) dL_law_2009 ⟨rfl, rfl, Nat.le_of_ble_eq_true rfl, Nat.le_of_ble_eq_true rfl, by show 689 + _ + _ ≤ 603072; omega, by show 6140368 + _ + _ ≤ 7211114; omega⟩ (fun _ => rfl) (fun p332 ep332 => ?_)
    refine bd_icmp_eq C 2250 dL_law_2012 (by decide) (fun c333 => ?_) (fun c333 => ?_)
    · exact bd_wide (by omega) (by omega) (bd_sub (hb2250 _ hk28 j p332.2 l1 l2 l3 l4 l5 cj ol1 ol2 ol3 ol4) [0, 1, 2, 3, 4, 5] rfl)
    · refine bd_iconst C (v := 0) dL_law_2015 (by decide) ?_
      exact bd_none
  have hb406 : ∀ (k28 : Nat → Wd → Nat → Nat → Nat → Nat → Int32 → Option Unit), (∀ (j : Nat) (w : Wd) (l1 : Nat) (l2 : Nat) (l3 : Nat) (l4 : Nat) (l5 : Int32) (ol1 : okF F l1 8) (ol2 : okF F l2 9) (ol3 : okF F l3 12) (ol4 : okF F l4 16), BD g G F 9 qv (689 + j) (6140368 + 6 * j) (k28 j w l1 l2 l3 l4 l5) w 28 [(0, .ref b9), (1, .ref l1), (2, .ref l2), (3, .ref l3), (4, .ref l4), (5, .int l5)] []) → ∀  (j : Nat) (w : Wd) (l1 : Nat) (l2 : Nat) (l3 : Nat) (l4 : Nat) (l5 : Int32) (cj : j < 600) (ol1 : okF F l1 8) (ol2 : okF F l2 9) (ol3 : okF F l3 12) (ol4 : okF F l4 16), BD g G F 9 qv (689 + (j + 1)) (6140368 + 6 * (j + 1)) (fL_law_406 F N L xs k28 j w l1 l2 l3 l4 l5) w 406 [(0, .ref b9), (1, .ref l1), (2, .ref l2), (3, .ref l3), (4, .ref l4), (5, .int l5)] [] := by
    intro k28 hk28
    intro j w l1 l2 l3 l4 l5 cj ol1 ol2 ol3 ol4
    unfold fL_law_406
    refine bd_goto C 2250 dL_law_406 (by decide) ?_
    exact bd_wide (by omega) (by omega) (bd_sub (hb2250 _ hk28 j w l1 l2 l3 l4 l5 cj ol1 ol2 ol3 ol4) [0, 1, 2, 3, 4, 5] rfl)
  have hb341 : ∀ (k28 : Nat → Wd → Nat → Nat → Nat → Nat → Int32 → Option Unit), (∀ (j : Nat) (w : Wd) (l1 : Nat) (l2 : Nat) (l3 : Nat) (l4 : Nat) (l5 : Int32) (ol1 : okF F l1 8) (ol2 : okF F l2 9) (ol3 : okF F l3 12) (ol4 : okF F l4 16), BD g G F 9 qv (689 + j) (6140368 + 6 * j) (k28 j w l1 l2 l3 l4 l5) w 28 [(0, .ref b9), (1, .ref l1), (2, .ref l2), (3, .ref l3), (4, .ref l4), (5, .int l5)] []) → ∀  (j : Nat) (w : Wd) (l1 : Nat) (l2 : Nat) (l3 : Nat) (l4 : Nat) (l5 : Int32) (cj : j < 600) (ol1 : okF F l1 8) (ol2 : okF F l2 9) (ol3 : okF F l3 12) (ol4 : okF F l4 16), BD g G F 9 qv (689 + j) (6140368 + 6 * j) (fL_law_341 F N L xs k28 j w l1 l2 l3 l4 l5) w 341 [(0, .ref b9), (1, .ref l1), (2, .ref l2), (3, .ref l3), (4, .ref l4), (5, .int l5)] [] := by
    intro k28 hk28
    intro j w l1 l2 l3 l4 l5 cj ol1 ol2 ol3 ol4
    unfold fL_law_341
    refine bd_aload_n C 1 dL_law_341 rfl rfl ?_
    refine bd_aload_n C 0 dL_law_342 rfl rfl ?_
    refine bd_iload C 5 dL_law_343 rfl ?_
    refine bd_iconst C (v := 1) dL_law_345 (by decide) ?_
    refine bd_iadd C dL_law_346 ?_
    refine bd_sld C hsx dL_law_347 (fun x61 => ?_)
    refine bd_aload_n C 0 dL_law_348 rfl rfl ?_
    refine bd_iload C 5 dL_law_349 rfl ?_
    refine bd_iconst C (v := 2) dL_law_351 (by decide) ?_
    refine bd_iadd C dL_law_352 ?_
    refine bd_sld C hsx dL_law_353 (fun x62 => ?_)
    refine bd_aload_n C 3 dL_law_354 rfl rfl ?_
    refine bd_callH (vs := fun (r : Int32 × Wd) => some (.int r.1)) (wf := fun (r : Int32 × Wd) => r.2) (st := []) (st1 := fun p63 => Value.int p63.1 :: []) C hNC [.ref l1, .int x61, .int x62, .ref l3] (fun r9 e9 => mL_setSetting C.flag N ol1 ol3 hcm e9) mwL_setSetting wd_638 rfl rfl (Nat.le_of_ble_eq_true rfl) dL_law_355 ⟨rfl, rfl, Nat.le_of_ble_eq_true rfl, Nat.le_of_ble_eq_true rfl, by show 689 + _ + _ ≤ 603072; omega, by show 6140368 + _ + _ ≤ 7211114; omega⟩ (fun _ => rfl) (fun p63 ep63 => ?_)
    refine bd_istore C [(6, .int p63.1), (0, .ref b9), (1, .ref l1), (2, .ref l2), (3, .ref l3), (4, .ref l4), (5, .int l5)] dL_law_358 (by decide) rfl ?_
    refine bd_aload_n C 3 dL_law_360 rfl rfl ?_
    refine bd_aload_n C 1 dL_law_361 rfl rfl ?_
    refine bd_iload C 6 dL_law_362 rfl ?_
    refine bd_iconst C (v := 1) dL_law_364 (by decide) ?_
    refine bd_iadd C dL_law_365 ?_
    refine bd_sld C hsx dL_law_366 (fun x64 => ?_)
    refine bd_aload_n C 1 dL_law_367 rfl rfl ?_
    refine bd_iload C 6 dL_law_368 rfl ?_
    refine bd_iconst C (v := 2) dL_law_370 (by decide) ?_
    refine bd_iadd C dL_law_371 ?_
    refine bd_sld C hsx dL_law_372 (fun x65 => ?_)
    refine bd_callV (vs := fun (r : Int32 × Wd) => some (.int r.1)) (wf := fun (r : Int32 × Wd) => r.2) (st := []) (st1 := fun p66 => Value.int p66.1 :: []) C [.int x64, .int x65] (fun r9 e9 => mX9_setSetting C.flag N ol2 e9) mwX9_setSetting miX9_setSetting wd_1428 ol2 (by decide) rfl rfl rfl (Nat.le_of_ble_eq_true rfl) dL_law_373 ⟨rfl, rfl, Nat.le_of_ble_eq_true rfl, Nat.le_of_ble_eq_true rfl, by show 689 + _ + _ ≤ 603072; omega, by show 6140368 + _ + _ ≤ 7211114; omega⟩ (fun _ => rfl) (fun p66 ep66 => ?_)
    refine bd_istore C [(7, .int p66.1), (6, .int p63.1), (0, .ref b9), (1, .ref l1), (2, .ref l2), (3, .ref l3), (4, .ref l4), (5, .int l5)] dL_law_376 (by decide) rfl ?_
    refine bd_aload_n C 4 dL_law_378 rfl rfl ?_
    refine bd_callV (vs := fun (r : Int32) => some (.int r)) (wf := fun _ => p66.2) (st := []) (st1 := fun x67 => Value.int x67 :: []) C [] (fun r9 e9 => mX9_thrown C.flag N ol2 e9) mwX9_thrown miX9_thrown wd_1383 ol2 (by decide) rfl rfl rfl (Nat.le_of_ble_eq_true rfl) dL_law_379 ⟨rfl, rfl, Nat.le_of_ble_eq_true rfl, Nat.le_of_ble_eq_true rfl, by show 689 + _ + _ ≤ 603072; omega, by show 6140368 + _ + _ ≤ 7211114; omega⟩ (fun _ => rfl) (fun x67 ex67 => ?_)
    refine bd_iload C 1 dL_law_382 rfl ?_
    refine bd_icmp_eq C 389 dL_law_384 (by decide) (fun c68 => ?_) (fun c68 => ?_)
    · refine bd_iload C 1 dL_law_389 rfl ?_
      refine bd_if_ne C 406 dL_law_391 (by decide) (fun c69 => ?_) (fun c69 => ?_)
      · exact bd_wide (by omega) (by omega) (bd_sub (hb406 _ hk28 j p66.2 l1 l2 l3 l4 l5 cj ol1 ol2 ol3 ol4) [2, 3, 4, 5, 6, 7] rfl)
      · refine bd_aload_n C 5 dL_law_394 rfl rfl ?_
        refine bd_iconst C (v := 0) dL_law_395 (by decide) ?_
        refine bd_lald C dL_law_396 ol3 (fun x70 => ?_)
        refine bd_iload C 0 dL_law_397 rfl ?_
        refine bd_i2l C dL_law_399 ?_
        refine bd_lcmp C dL_law_400 ?_
        refine bd_if_eq C 406 dL_law_401 (by decide) (fun c71 => ?_) (fun c71 => ?_)
        · exact bd_wide (by omega) (by omega) (bd_sub (hb406 _ hk28 j p66.2 l1 l2 l3 l4 l5 cj ol1 ol2 ol3 ol4) [2, 3, 4, 5, 6, 7] rfl)
        · refine bd_iconst C (v := 0) dL_law_404 (by decide) ?_
          exact bd_none
    · refine bd_iconst C (v := 0) dL_law_387 (by decide) ?_
      exact bd_none
  have hb530 : ∀ (k28 : Nat → Wd → Nat → Nat → Nat → Nat → Int32 → Option Unit), (∀ (j : Nat) (w : Wd) (l1 : Nat) (l2 : Nat) (l3 : Nat) (l4 : Nat) (l5 : Int32) (ol1 : okF F l1 8) (ol2 : okF F l2 9) (ol3 : okF F l3 12) (ol4 : okF F l4 16), BD g G F 9 qv (689 + j) (6140368 + 6 * j) (k28 j w l1 l2 l3 l4 l5) w 28 [(0, .ref b9), (1, .ref l1), (2, .ref l2), (3, .ref l3), (4, .ref l4), (5, .int l5)] []) → ∀  (j : Nat) (w : Wd) (l1 : Nat) (l2 : Nat) (l3 : Nat) (l4 : Nat) (l5 : Int32) (cj : j < 600) (ol1 : okF F l1 8) (ol2 : okF F l2 9) (ol3 : okF F l3 12) (ol4 : okF F l4 16), BD g G F 9 qv (689 + (j + 1)) (6140368 + 6 * (j + 1)) (fL_law_530 F N L xs k28 j w l1 l2 l3 l4 l5) w 530 [(0, .ref b9), (1, .ref l1), (2, .ref l2), (3, .ref l3), (4, .ref l4), (5, .int l5)] [] := by
    intro k28 hk28
    intro j w l1 l2 l3 l4 l5 cj ol1 ol2 ol3 ol4
    unfold fL_law_530
    refine bd_goto C 2250 dL_law_530 (by decide) ?_
    exact bd_wide (by omega) (by omega) (bd_sub (hb2250 _ hk28 j w l1 l2 l3 l4 l5 cj ol1 ol2 ol3 ol4) [0, 1, 2, 3, 4, 5] rfl)
  have hb477 : ∀ (k28 : Nat → Wd → Nat → Nat → Nat → Nat → Int32 → Option Unit), (∀ (j : Nat) (w : Wd) (l1 : Nat) (l2 : Nat) (l3 : Nat) (l4 : Nat) (l5 : Int32) (ol1 : okF F l1 8) (ol2 : okF F l2 9) (ol3 : okF F l3 12) (ol4 : okF F l4 16), BD g G F 9 qv (689 + j) (6140368 + 6 * j) (k28 j w l1 l2 l3 l4 l5) w 28 [(0, .ref b9), (1, .ref l1), (2, .ref l2), (3, .ref l3), (4, .ref l4), (5, .int l5)] []) → ∀  (j : Nat) (w : Wd) (l1 : Nat) (l2 : Nat) (l3 : Nat) (l4 : Nat) (l5 : Int32) (cj : j < 600) (ol1 : okF F l1 8) (ol2 : okF F l2 9) (ol3 : okF F l3 12) (ol4 : okF F l4 16), BD g G F 9 qv (689 + j) (6140368 + 6 * j) (fL_law_477 F N L xs k28 j w l1 l2 l3 l4 l5) w 477 [(0, .ref b9), (1, .ref l1), (2, .ref l2), (3, .ref l3), (4, .ref l4), (5, .int l5)] [] := by
    intro k28 hk28
    intro j w l1 l2 l3 l4 l5 cj ol1 ol2 ol3 ol4
    unfold fL_law_477
    refine bd_aload_n C 1 dL_law_477 rfl rfl ?_
    refine bd_aload_n C 0 dL_law_478 rfl rfl ?_
    refine bd_iload C 5 dL_law_479 rfl ?_
    refine bd_iconst C (v := 1) dL_law_481 (by decide) ?_
    refine bd_iadd C dL_law_482 ?_
    refine bd_sld C hsx dL_law_483 (fun x83 => ?_)
    refine bd_aload_n C 3 dL_law_484 rfl rfl ?_
    refine bd_callH (vs := fun (r : Int32 × Wd) => some (.int r.1)) (wf := fun (r : Int32 × Wd) => r.2) (st := []) (st1 := fun p84 => Value.int p84.1 :: []) C hNC [.ref l1, .int x83, .ref l3] (fun r9 e9 => mL_book C.flag N ol1 ol3 hcm e9) mwL_book wd_675 rfl rfl (Nat.le_of_ble_eq_true rfl) dL_law_485 ⟨rfl, rfl, Nat.le_of_ble_eq_true rfl, Nat.le_of_ble_eq_true rfl, by show 689 + _ + _ ≤ 603072; omega, by show 6140368 + _ + _ ≤ 7211114; omega⟩ (fun _ => rfl) (fun p84 ep84 => ?_)
    refine bd_istore C [(6, .int p84.1), (0, .ref b9), (1, .ref l1), (2, .ref l2), (3, .ref l3), (4, .ref l4), (5, .int l5)] dL_law_488 (by decide) rfl ?_
    refine bd_aload_n C 3 dL_law_490 rfl rfl ?_
    refine bd_aload_n C 1 dL_law_491 rfl rfl ?_
    refine bd_iload C 6 dL_law_492 rfl ?_
    refine bd_iconst C (v := 1) dL_law_494 (by decide) ?_
    refine bd_iadd C dL_law_495 ?_
    refine bd_sld C hsx dL_law_496 (fun x85 => ?_)
    refine bd_callV (vs := fun (r : Int32 × Wd) => some (.int r.1)) (wf := fun (r : Int32 × Wd) => r.2) (st := []) (st1 := fun p86 => Value.int p86.1 :: []) C [.int x85] (fun r9 e9 => mX9_book C.flag N ol2 e9) mwX9_book miX9_book wd_1467 ol2 (by decide) rfl rfl rfl (Nat.le_of_ble_eq_true rfl) dL_law_497 ⟨rfl, rfl, Nat.le_of_ble_eq_true rfl, Nat.le_of_ble_eq_true rfl, by show 689 + _ + _ ≤ 603072; omega, by show 6140368 + _ + _ ≤ 7211114; omega⟩ (fun _ => rfl) (fun p86 ep86 => ?_)
    refine bd_istore C [(7, .int p86.1), (6, .int p84.1), (0, .ref b9), (1, .ref l1), (2, .ref l2), (3, .ref l3), (4, .ref l4), (5, .int l5)] dL_law_500 (by decide) rfl ?_
    refine bd_aload_n C 4 dL_law_502 rfl rfl ?_
    refine bd_callV (vs := fun (r : Int32) => some (.int r)) (wf := fun _ => p86.2) (st := []) (st1 := fun x87 => Value.int x87 :: []) C [] (fun r9 e9 => mX9_thrown C.flag N ol2 e9) mwX9_thrown miX9_thrown wd_1383 ol2 (by decide) rfl rfl rfl (Nat.le_of_ble_eq_true rfl) dL_law_503 ⟨rfl, rfl, Nat.le_of_ble_eq_true rfl, Nat.le_of_ble_eq_true rfl, by show 689 + _ + _ ≤ 603072; omega, by show 6140368 + _ + _ ≤ 7211114; omega⟩ (fun _ => rfl) (fun x87 ex87 => ?_)
    refine bd_iload C 1 dL_law_506 rfl ?_
    refine bd_icmp_eq C 513 dL_law_508 (by decide) (fun c88 => ?_) (fun c88 => ?_)
    · refine bd_iload C 1 dL_law_513 rfl ?_
      refine bd_if_ne C 530 dL_law_515 (by decide) (fun c89 => ?_) (fun c89 => ?_)
      · exact bd_wide (by omega) (by omega) (bd_sub (hb530 _ hk28 j p86.2 l1 l2 l3 l4 l5 cj ol1 ol2 ol3 ol4) [2, 3, 4, 5, 6, 7] rfl)
      · refine bd_aload_n C 5 dL_law_518 rfl rfl ?_
        refine bd_iconst C (v := 0) dL_law_519 (by decide) ?_
        refine bd_lald C dL_law_520 ol3 (fun x90 => ?_)
        refine bd_iload C 0 dL_law_521 rfl ?_
        refine bd_i2l C dL_law_523 ?_
        refine bd_lcmp C dL_law_524 ?_
        refine bd_if_eq C 530 dL_law_525 (by decide) (fun c91 => ?_) (fun c91 => ?_)
        · exact bd_wide (by omega) (by omega) (bd_sub (hb530 _ hk28 j p86.2 l1 l2 l3 l4 l5 cj ol1 ol2 ol3 ol4) [2, 3, 4, 5, 6, 7] rfl)
        · refine bd_iconst C (v := 0) dL_law_528 (by decide) ?_
          exact bd_none
    · refine bd_iconst C (v := 0) dL_law_511 (by decide) ?_
      exact bd_none
  have hb826 : ∀ (k28 : Nat → Wd → Nat → Nat → Nat → Nat → Int32 → Option Unit), (∀ (j : Nat) (w : Wd) (l1 : Nat) (l2 : Nat) (l3 : Nat) (l4 : Nat) (l5 : Int32) (ol1 : okF F l1 8) (ol2 : okF F l2 9) (ol3 : okF F l3 12) (ol4 : okF F l4 16), BD g G F 9 qv (689 + j) (6140368 + 6 * j) (k28 j w l1 l2 l3 l4 l5) w 28 [(0, .ref b9), (1, .ref l1), (2, .ref l2), (3, .ref l3), (4, .ref l4), (5, .int l5)] []) → ∀  (j : Nat) (w : Wd) (l1 : Nat) (l2 : Nat) (l3 : Nat) (l4 : Nat) (l5 : Int32) (cj : j < 600) (ol1 : okF F l1 8) (ol2 : okF F l2 9) (ol3 : okF F l3 12) (ol4 : okF F l4 16), BD g G F 9 qv (689 + (j + 1)) (6140368 + 6 * (j + 1)) (fL_law_826 F N L xs k28 j w l1 l2 l3 l4 l5) w 826 [(0, .ref b9), (1, .ref l1), (2, .ref l2), (3, .ref l3), (4, .ref l4), (5, .int l5)] [] := by
    intro k28 hk28
    intro j w l1 l2 l3 l4 l5 cj ol1 ol2 ol3 ol4
    unfold fL_law_826
    refine bd_goto C 2250 dL_law_826 (by decide) ?_
    exact bd_wide (by omega) (by omega) (bd_sub (hb2250 _ hk28 j w l1 l2 l3 l4 l5 cj ol1 ol2 ol3 ol4) [0, 1, 2, 3, 4, 5] rfl)
  have hb737 : ∀ (k28 : Nat → Wd → Nat → Nat → Nat → Nat → Int32 → Option Unit), (∀ (j : Nat) (w : Wd) (l1 : Nat) (l2 : Nat) (l3 : Nat) (l4 : Nat) (l5 : Int32) (ol1 : okF F l1 8) (ol2 : okF F l2 9) (ol3 : okF F l3 12) (ol4 : okF F l4 16), BD g G F 9 qv (689 + j) (6140368 + 6 * j) (k28 j w l1 l2 l3 l4 l5) w 28 [(0, .ref b9), (1, .ref l1), (2, .ref l2), (3, .ref l3), (4, .ref l4), (5, .int l5)] []) → ∀  (j : Nat) (w : Wd) (l1 : Nat) (l2 : Nat) (l3 : Nat) (l4 : Nat) (l5 : Int32) (cj : j < 600) (ol1 : okF F l1 8) (ol2 : okF F l2 9) (ol3 : okF F l3 12) (ol4 : okF F l4 16), BD g G F 9 qv (689 + j) (6140368 + 6 * j) (fL_law_737 F N L xs k28 j w l1 l2 l3 l4 l5) w 737 [(0, .ref b9), (1, .ref l1), (2, .ref l2), (3, .ref l3), (4, .ref l4), (5, .int l5)] [] := by
    intro k28 hk28
    intro j w l1 l2 l3 l4 l5 cj ol1 ol2 ol3 ol4
    unfold fL_law_737
    refine bd_aload_n C 1 dL_law_737 rfl rfl ?_
    refine bd_aload_n C 0 dL_law_738 rfl rfl ?_
    refine bd_iload C 5 dL_law_739 rfl ?_
    refine bd_iconst C (v := 1) dL_law_741 (by decide) ?_
    refine bd_iadd C dL_law_742 ?_
    refine bd_sld C hsx dL_law_743 (fun x125 => ?_)
    refine bd_aload_n C 0 dL_law_744 rfl rfl ?_
    refine bd_iload C 5 dL_law_745 rfl ?_
    refine bd_iconst C (v := 2) dL_law_747 (by decide) ?_
    refine bd_iadd C dL_law_748 ?_
    refine bd_sld C hsx dL_law_749 (fun x126 => ?_)
    refine bd_aload_n C 0 dL_law_750 rfl rfl ?_
    refine bd_iload C 5 dL_law_751 rfl ?_
    refine bd_iconst C (v := 3) dL_law_753 (by decide) ?_
    refine bd_iadd C dL_law_754 ?_
    refine bd_sld C hsx dL_law_755 (fun x127 => ?_)
    refine bd_aload_n C 0 dL_law_756 rfl rfl ?_
    refine bd_iload C 5 dL_law_757 rfl ?_
    refine bd_iconst C (v := 4) dL_law_759 (by decide) ?_
    refine bd_iadd C dL_law_760 ?_
    refine bd_sld C hsx dL_law_761 (fun x128 => ?_)
    refine bd_aload_n C 3 dL_law_762 rfl rfl ?_
    refine bd_callH (vs := fun (r : Int32 × Wd) => some (.int r.1)) (wf := fun (r : Int32 × Wd) => r.2) (st := []) (st1 := fun p129 => Value.int p129.1 :: []) C hNC [.ref l1, .int x125, .int x126, .int x127, .int x128, .ref l3] (fun r9 e9 => mL_moveSpan C.flag N ol1 ol3 hcm e9) mwL_moveSpan wd_816 rfl rfl (Nat.le_of_ble_eq_true rfl) dL_law_763 ⟨rfl, rfl, Nat.le_of_ble_eq_true rfl, Nat.le_of_ble_eq_true rfl, by show 689 + _ + _ ≤ 603072; omega, by show 6140368 + _ + _ ≤ 7211114; omega⟩ (fun _ => rfl) (fun p129 ep129 => ?_)
    refine bd_istore C [(6, .int p129.1), (0, .ref b9), (1, .ref l1), (2, .ref l2), (3, .ref l3), (4, .ref l4), (5, .int l5)] dL_law_766 (by decide) rfl ?_
    refine bd_aload_n C 3 dL_law_768 rfl rfl ?_
    refine bd_aload_n C 1 dL_law_769 rfl rfl ?_
    refine bd_iload C 6 dL_law_770 rfl ?_
    refine bd_iconst C (v := 1) dL_law_772 (by decide) ?_
    refine bd_iadd C dL_law_773 ?_
    refine bd_sld C hsx dL_law_774 (fun x130 => ?_)
    refine bd_aload_n C 1 dL_law_775 rfl rfl ?_
    refine bd_iload C 6 dL_law_776 rfl ?_
    refine bd_iconst C (v := 2) dL_law_778 (by decide) ?_
    refine bd_iadd C dL_law_779 ?_
    refine bd_sld C hsx dL_law_780 (fun x131 => ?_)
    refine bd_aload_n C 1 dL_law_781 rfl rfl ?_
    refine bd_iload C 6 dL_law_782 rfl ?_
    refine bd_iconst C (v := 3) dL_law_784 (by decide) ?_
    refine bd_iadd C dL_law_785 ?_
    refine bd_sld C hsx dL_law_786 (fun x132 => ?_)
    refine bd_aload_n C 1 dL_law_787 rfl rfl ?_
    refine bd_iload C 6 dL_law_788 rfl ?_
    refine bd_iconst C (v := 4) dL_law_790 (by decide) ?_
    refine bd_iadd C dL_law_791 ?_
    refine bd_sld C hsx dL_law_792 (fun x133 => ?_)
    refine bd_callV (vs := fun (r : Int32 × Wd) => some (.int r.1)) (wf := fun (r : Int32 × Wd) => r.2) (st := []) (st1 := fun p134 => Value.int p134.1 :: []) C [.int x130, .int x131, .int x132, .int x133] (fun r9 e9 => mX9_moveSpan C.flag N ol2 e9) mwX9_moveSpan miX9_moveSpan wd_1562 ol2 (by decide) rfl rfl rfl (Nat.le_of_ble_eq_true rfl) dL_law_793 ⟨rfl, rfl, Nat.le_of_ble_eq_true rfl, Nat.le_of_ble_eq_true rfl, by show 689 + _ + _ ≤ 603072; omega, by show 6140368 + _ + _ ≤ 7211114; omega⟩ (fun _ => rfl) (fun p134 ep134 => ?_)
    refine bd_istore C [(7, .int p134.1), (6, .int p129.1), (0, .ref b9), (1, .ref l1), (2, .ref l2), (3, .ref l3), (4, .ref l4), (5, .int l5)] dL_law_796 (by decide) rfl ?_
    refine bd_aload_n C 4 dL_law_798 rfl rfl ?_
    refine bd_callV (vs := fun (r : Int32) => some (.int r)) (wf := fun _ => p134.2) (st := []) (st1 := fun x135 => Value.int x135 :: []) C [] (fun r9 e9 => mX9_thrown C.flag N ol2 e9) mwX9_thrown miX9_thrown wd_1383 ol2 (by decide) rfl rfl rfl (Nat.le_of_ble_eq_true rfl) dL_law_799 ⟨rfl, rfl, Nat.le_of_ble_eq_true rfl, Nat.le_of_ble_eq_true rfl, by show 689 + _ + _ ≤ 603072; omega, by show 6140368 + _ + _ ≤ 7211114; omega⟩ (fun _ => rfl) (fun x135 ex135 => ?_)
    refine bd_iload C 1 dL_law_802 rfl ?_
    refine bd_icmp_eq C 809 dL_law_804 (by decide) (fun c136 => ?_) (fun c136 => ?_)
    · refine bd_iload C 1 dL_law_809 rfl ?_
      refine bd_if_ne C 826 dL_law_811 (by decide) (fun c137 => ?_) (fun c137 => ?_)
      · exact bd_wide (by omega) (by omega) (bd_sub (hb826 _ hk28 j p134.2 l1 l2 l3 l4 l5 cj ol1 ol2 ol3 ol4) [2, 3, 4, 5, 6, 7] rfl)
      · refine bd_aload_n C 5 dL_law_814 rfl rfl ?_
        refine bd_iconst C (v := 0) dL_law_815 (by decide) ?_
        refine bd_lald C dL_law_816 ol3 (fun x138 => ?_)
        refine bd_iload C 0 dL_law_817 rfl ?_
        refine bd_i2l C dL_law_819 ?_
        refine bd_lcmp C dL_law_820 ?_
        refine bd_if_eq C 826 dL_law_821 (by decide) (fun c139 => ?_) (fun c139 => ?_)
        · exact bd_wide (by omega) (by omega) (bd_sub (hb826 _ hk28 j p134.2 l1 l2 l3 l4 l5 cj ol1 ol2 ol3 ol4) [2, 3, 4, 5, 6, 7] rfl)
        · refine bd_iconst C (v := 0) dL_law_824 (by decide) ?_
          exact bd_none
    · refine bd_iconst C (v := 0) dL_law_807 (by decide) ?_
      exact bd_none
  have hb1698 : ∀ (k28 : Nat → Wd → Nat → Nat → Nat → Nat → Int32 → Option Unit), (∀ (j : Nat) (w : Wd) (l1 : Nat) (l2 : Nat) (l3 : Nat) (l4 : Nat) (l5 : Int32) (ol1 : okF F l1 8) (ol2 : okF F l2 9) (ol3 : okF F l3 12) (ol4 : okF F l4 16), BD g G F 9 qv (689 + j) (6140368 + 6 * j) (k28 j w l1 l2 l3 l4 l5) w 28 [(0, .ref b9), (1, .ref l1), (2, .ref l2), (3, .ref l3), (4, .ref l4), (5, .int l5)] []) → ∀  (j : Nat) (w : Wd) (l1 : Nat) (l2 : Nat) (l3 : Nat) (l4 : Nat) (l5 : Int32) (cj : j < 600) (ol1 : okF F l1 8) (ol2 : okF F l2 9) (ol3 : okF F l3 12) (ol4 : okF F l4 16), BD g G F 9 qv (689 + (j + 1)) (6140368 + 6 * (j + 1)) (fL_law_1698 F N L xs k28 j w l1 l2 l3 l4 l5) w 1698 [(0, .ref b9), (1, .ref l1), (2, .ref l2), (3, .ref l3), (4, .ref l4), (5, .int l5)] [] := by
    intro k28 hk28
    intro j w l1 l2 l3 l4 l5 cj ol1 ol2 ol3 ol4
    unfold fL_law_1698
    refine bd_goto C 2250 dL_law_1698 (by decide) ?_
    exact bd_wide (by omega) (by omega) (bd_sub (hb2250 _ hk28 j w l1 l2 l3 l4 l5 cj ol1 ol2 ol3 ol4) [0, 1, 2, 3, 4, 5] rfl)
  have hb1633 : ∀ (k28 : Nat → Wd → Nat → Nat → Nat → Nat → Int32 → Option Unit), (∀ (j : Nat) (w : Wd) (l1 : Nat) (l2 : Nat) (l3 : Nat) (l4 : Nat) (l5 : Int32) (ol1 : okF F l1 8) (ol2 : okF F l2 9) (ol3 : okF F l3 12) (ol4 : okF F l4 16), BD g G F 9 qv (689 + j) (6140368 + 6 * j) (k28 j w l1 l2 l3 l4 l5) w 28 [(0, .ref b9), (1, .ref l1), (2, .ref l2), (3, .ref l3), (4, .ref l4), (5, .int l5)] []) → ∀  (j : Nat) (w : Wd) (l1 : Nat) (l2 : Nat) (l3 : Nat) (l4 : Nat) (l5 : Int32) (cj : j < 600) (ol1 : okF F l1 8) (ol2 : okF F l2 9) (ol3 : okF F l3 12) (ol4 : okF F l4 16), BD g G F 9 qv (689 + j) (6140368 + 6 * j) (fL_law_1633 F N L xs k28 j w l1 l2 l3 l4 l5) w 1633 [(0, .ref b9), (1, .ref l1), (2, .ref l2), (3, .ref l3), (4, .ref l4), (5, .int l5)] [] := by
    intro k28 hk28
    intro j w l1 l2 l3 l4 l5 cj ol1 ol2 ol3 ol4
    unfold fL_law_1633
    refine bd_aload_n C 1 dL_law_1633 rfl rfl ?_
    refine bd_aload_n C 0 dL_law_1634 rfl rfl ?_
    refine bd_iload C 5 dL_law_1635 rfl ?_
    refine bd_iconst C (v := 1) dL_law_1637 (by decide) ?_
    refine bd_iadd C dL_law_1638 ?_
    refine bd_sld C hsx dL_law_1639 (fun x269 => ?_)
    refine bd_aload_n C 0 dL_law_1640 rfl rfl ?_
    refine bd_iload C 5 dL_law_1641 rfl ?_
    refine bd_iconst C (v := 2) dL_law_1643 (by decide) ?_
    refine bd_iadd C dL_law_1644 ?_
    refine bd_sld C hsx dL_law_1645 (fun x270 => ?_)
    refine bd_aload_n C 3 dL_law_1646 rfl rfl ?_
    refine bd_callH (vs := fun (r : Int32 × Wd) => some (.int r.1)) (wf := fun (r : Int32 × Wd) => r.2) (st := []) (st1 := fun p271 => Value.int p271.1 :: []) C hNC [.ref l1, .int x269, .int x270, .ref l3] (fun r9 e9 => mL_merge C.flag N ol1 ol3 hcm e9) mwL_merge wd_1047 rfl rfl (Nat.le_of_ble_eq_true rfl) dL_law_1647 ⟨rfl, rfl, Nat.le_of_ble_eq_true rfl, Nat.le_of_ble_eq_true rfl, by show 689 + _ + _ ≤ 603072; omega, by show 6140368 + _ + _ ≤ 7211114; omega⟩ (fun _ => rfl) (fun p271 ep271 => ?_)
    refine bd_istore C [(6, .int p271.1), (0, .ref b9), (1, .ref l1), (2, .ref l2), (3, .ref l3), (4, .ref l4), (5, .int l5)] dL_law_1650 (by decide) rfl ?_
    refine bd_aload_n C 3 dL_law_1652 rfl rfl ?_
    refine bd_aload_n C 1 dL_law_1653 rfl rfl ?_
    refine bd_iload C 6 dL_law_1654 rfl ?_
    refine bd_iconst C (v := 1) dL_law_1656 (by decide) ?_
    refine bd_iadd C dL_law_1657 ?_
    refine bd_sld C hsx dL_law_1658 (fun x272 => ?_)
    refine bd_aload_n C 1 dL_law_1659 rfl rfl ?_
    refine bd_iload C 6 dL_law_1660 rfl ?_
    refine bd_iconst C (v := 2) dL_law_1662 (by decide) ?_
    refine bd_iadd C dL_law_1663 ?_
    refine bd_sld C hsx dL_law_1664 (fun x273 => ?_)
    refine bd_callV (vs := fun (r : Int32 × Wd) => some (.int r.1)) (wf := fun (r : Int32 × Wd) => r.2) (st := []) (st1 := fun p274 => Value.int p274.1 :: []) C [.int x272, .int x273] (fun r9 e9 => mX9_merge C.flag N ol2 e9) mwX9_merge miX9_merge wd_1687 ol2 (by decide) rfl rfl rfl (Nat.le_of_ble_eq_true rfl) dL_law_1665 ⟨rfl, rfl, Nat.le_of_ble_eq_true rfl, Nat.le_of_ble_eq_true rfl, by show 689 + _ + _ ≤ 603072; omega, by show 6140368 + _ + _ ≤ 7211114; omega⟩ (fun _ => rfl) (fun p274 ep274 => ?_)
    refine bd_istore C [(7, .int p274.1), (6, .int p271.1), (0, .ref b9), (1, .ref l1), (2, .ref l2), (3, .ref l3), (4, .ref l4), (5, .int l5)] dL_law_1668 (by decide) rfl ?_
    refine bd_aload_n C 4 dL_law_1670 rfl rfl ?_
    refine bd_callV (vs := fun (r : Int32) => some (.int r)) (wf := fun _ => p274.2) (st := []) (st1 := fun x275 => Value.int x275 :: []) C [] (fun r9 e9 => mX9_thrown C.flag N ol2 e9) mwX9_thrown miX9_thrown wd_1383 ol2 (by decide) rfl rfl rfl (Nat.le_of_ble_eq_true rfl) dL_law_1671 ⟨rfl, rfl, Nat.le_of_ble_eq_true rfl, Nat.le_of_ble_eq_true rfl, by show 689 + _ + _ ≤ 603072; omega, by show 6140368 + _ + _ ≤ 7211114; omega⟩ (fun _ => rfl) (fun x275 ex275 => ?_)
    refine bd_iload C 1 dL_law_1674 rfl ?_
    refine bd_icmp_eq C 1681 dL_law_1676 (by decide) (fun c276 => ?_) (fun c276 => ?_)
    · refine bd_iload C 1 dL_law_1681 rfl ?_
      refine bd_if_ne C 1698 dL_law_1683 (by decide) (fun c277 => ?_) (fun c277 => ?_)
      · exact bd_wide (by omega) (by omega) (bd_sub (hb1698 _ hk28 j p274.2 l1 l2 l3 l4 l5 cj ol1 ol2 ol3 ol4) [2, 3, 4, 5, 6, 7] rfl)
      · refine bd_aload_n C 5 dL_law_1686 rfl rfl ?_
        refine bd_iconst C (v := 0) dL_law_1687 (by decide) ?_
        refine bd_lald C dL_law_1688 ol3 (fun x278 => ?_)
        refine bd_iload C 0 dL_law_1689 rfl ?_
        refine bd_i2l C dL_law_1691 ?_
        refine bd_lcmp C dL_law_1692 ?_
        refine bd_if_eq C 1698 dL_law_1693 (by decide) (fun c279 => ?_) (fun c279 => ?_)
        · exact bd_wide (by omega) (by omega) (bd_sub (hb1698 _ hk28 j p274.2 l1 l2 l3 l4 l5 cj ol1 ol2 ol3 ol4) [2, 3, 4, 5, 6, 7] rfl)
        · refine bd_iconst C (v := 0) dL_law_1696 (by decide) ?_
          exact bd_none
    · refine bd_iconst C (v := 0) dL_law_1679 (by decide) ?_
      exact bd_none
  have hb2058 : ∀ (k28 : Nat → Wd → Nat → Nat → Nat → Nat → Int32 → Option Unit), (∀ (j : Nat) (w : Wd) (l1 : Nat) (l2 : Nat) (l3 : Nat) (l4 : Nat) (l5 : Int32) (ol1 : okF F l1 8) (ol2 : okF F l2 9) (ol3 : okF F l3 12) (ol4 : okF F l4 16), BD g G F 9 qv (689 + j) (6140368 + 6 * j) (k28 j w l1 l2 l3 l4 l5) w 28 [(0, .ref b9), (1, .ref l1), (2, .ref l2), (3, .ref l3), (4, .ref l4), (5, .int l5)] []) → ∀  (j : Nat) (w : Wd) (l1 : Nat) (l2 : Nat) (l3 : Nat) (l4 : Nat) (l5 : Int32) (cj : j < 600) (ol1 : okF F l1 8) (ol2 : okF F l2 9) (ol3 : okF F l3 12) (ol4 : okF F l4 16), BD g G F 9 qv (689 + (j + 1)) (6140368 + 6 * (j + 1)) (fL_law_2058 F N L xs k28 j w l1 l2 l3 l4 l5) w 2058 [(0, .ref b9), (1, .ref l1), (2, .ref l2), (3, .ref l3), (4, .ref l4), (5, .int l5)] [] := by
    intro k28 hk28
    intro j w l1 l2 l3 l4 l5 cj ol1 ol2 ol3 ol4
    unfold fL_law_2058
    refine bd_goto C 2250 dL_law_2058 (by decide) ?_
    exact bd_wide (by omega) (by omega) (bd_sub (hb2250 _ hk28 j w l1 l2 l3 l4 l5 cj ol1 ol2 ol3 ol4) [0, 1, 2, 3, 4, 5] rfl)
  have hb2017 : ∀ (k28 : Nat → Wd → Nat → Nat → Nat → Nat → Int32 → Option Unit), (∀ (j : Nat) (w : Wd) (l1 : Nat) (l2 : Nat) (l3 : Nat) (l4 : Nat) (l5 : Int32) (ol1 : okF F l1 8) (ol2 : okF F l2 9) (ol3 : okF F l3 12) (ol4 : okF F l4 16), BD g G F 9 qv (689 + j) (6140368 + 6 * j) (k28 j w l1 l2 l3 l4 l5) w 28 [(0, .ref b9), (1, .ref l1), (2, .ref l2), (3, .ref l3), (4, .ref l4), (5, .int l5)] []) → ∀  (j : Nat) (w : Wd) (l1 : Nat) (l2 : Nat) (l3 : Nat) (l4 : Nat) (l5 : Int32) (cj : j < 600) (ol1 : okF F l1 8) (ol2 : okF F l2 9) (ol3 : okF F l3 12) (ol4 : okF F l4 16), BD g G F 9 qv (689 + j) (6140368 + 6 * j) (fL_law_2017 F N L xs k28 j w l1 l2 l3 l4 l5) w 2017 [(0, .ref b9), (1, .ref l1), (2, .ref l2), (3, .ref l3), (4, .ref l4), (5, .int l5)] [] := by
    intro k28 hk28
    intro j w l1 l2 l3 l4 l5 cj ol1 ol2 ol3 ol4
    unfold fL_law_2017
    refine bd_aload_n C 1 dL_law_2017 rfl rfl ?_
    refine bd_aload_n C 3 dL_law_2018 rfl rfl ?_
    refine bd_callH (vs := fun (r : Int32 × Wd) => some (.int r.1)) (wf := fun (r : Int32 × Wd) => r.2) (st := []) (st1 := fun p334 => Value.int p334.1 :: []) C hNC [.ref l1, .ref l3] (fun r9 e9 => mL_read C.flag N ol1 ol3 hcm e9) mwL_read wd_1166 rfl rfl (Nat.le_of_ble_eq_true rfl) dL_law_2019 ⟨rfl, rfl, Nat.le_of_ble_eq_true rfl, Nat.le_of_ble_eq_true rfl, by show 689 + _ + _ ≤ 603072; omega, by show 6140368 + _ + _ ≤ 7211114; omega⟩ (fun _ => rfl) (fun p334 ep334 => ?_)
    refine bd_istore C [(6, .int p334.1), (0, .ref b9), (1, .ref l1), (2, .ref l2), (3, .ref l3), (4, .ref l4), (5, .int l5)] dL_law_2022 (by decide) rfl ?_
    refine bd_aload_n C 3 dL_law_2024 rfl rfl ?_
    refine bd_callV (vs := fun (r : Int32 × Wd) => some (.int r.1)) (wf := fun (r : Int32 × Wd) => r.2) (st := []) (st1 := fun p335 => Value.int p335.1 :: []) C [] (fun r9 e9 => mX9_read C.flag N ol2 e9) mwX9_read miX9_read wd_1743 ol2 (by decide) rfl rfl rfl (Nat.le_of_ble_eq_true rfl) dL_law_2025 ⟨rfl, rfl, Nat.le_of_ble_eq_true rfl, Nat.le_of_ble_eq_true rfl, by show 689 + _ + _ ≤ 603072; omega, by show 6140368 + _ + _ ≤ 7211114; omega⟩ (fun _ => rfl) (fun p335 ep335 => ?_)
    refine bd_istore C [(7, .int p335.1), (6, .int p334.1), (0, .ref b9), (1, .ref l1), (2, .ref l2), (3, .ref l3), (4, .ref l4), (5, .int l5)] dL_law_2028 (by decide) rfl ?_
    refine bd_aload_n C 4 dL_law_2030 rfl rfl ?_
    refine bd_callV (vs := fun (r : Int32) => some (.int r)) (wf := fun _ => p335.2) (st := []) (st1 := fun x336 => Value.int x336 :: []) C [] (fun r9 e9 => mX9_thrown C.flag N ol2 e9) mwX9_thrown miX9_thrown wd_1383 ol2 (by decide) rfl rfl rfl (Nat.le_of_ble_eq_true rfl) dL_law_2031 ⟨rfl, rfl, Nat.le_of_ble_eq_true rfl, Nat.le_of_ble_eq_true rfl, by show 689 + _ + _ ≤ 603072; omega, by show 6140368 + _ + _ ≤ 7211114; omega⟩ (fun _ => rfl) (fun x336 ex336 => ?_)
    refine bd_iload C 1 dL_law_2034 rfl ?_
    refine bd_icmp_eq C 2041 dL_law_2036 (by decide) (fun c337 => ?_) (fun c337 => ?_)
    · refine bd_iload C 1 dL_law_2041 rfl ?_
      refine bd_if_ne C 2058 dL_law_2043 (by decide) (fun c338 => ?_) (fun c338 => ?_)
      · exact bd_wide (by omega) (by omega) (bd_sub (hb2058 _ hk28 j p335.2 l1 l2 l3 l4 l5 cj ol1 ol2 ol3 ol4) [2, 3, 4, 5, 6, 7] rfl)
      · refine bd_aload_n C 5 dL_law_2046 rfl rfl ?_
        refine bd_iconst C (v := 0) dL_law_2047 (by decide) ?_
        refine bd_lald C dL_law_2048 ol3 (fun x339 => ?_)
        refine bd_iload C 0 dL_law_2049 rfl ?_
        refine bd_i2l C dL_law_2051 ?_
        refine bd_lcmp C dL_law_2052 ?_
        refine bd_if_eq C 2058 dL_law_2053 (by decide) (fun c340 => ?_) (fun c340 => ?_)
        · exact bd_wide (by omega) (by omega) (bd_sub (hb2058 _ hk28 j p335.2 l1 l2 l3 l4 l5 cj ol1 ol2 ol3 ol4) [2, 3, 4, 5, 6, 7] rfl)
        · refine bd_iconst C (v := 0) dL_law_2056 (by decide) ?_
          exact bd_none
    · refine bd_iconst C (v := 0) dL_law_2039 (by decide) ?_
      exact bd_none
  have hb1202 : ∀ (k28 : Nat → Wd → Nat → Nat → Nat → Nat → Int32 → Option Unit), (∀ (j : Nat) (w : Wd) (l1 : Nat) (l2 : Nat) (l3 : Nat) (l4 : Nat) (l5 : Int32) (ol1 : okF F l1 8) (ol2 : okF F l2 9) (ol3 : okF F l3 12) (ol4 : okF F l4 16), BD g G F 9 qv (689 + j) (6140368 + 6 * j) (k28 j w l1 l2 l3 l4 l5) w 28 [(0, .ref b9), (1, .ref l1), (2, .ref l2), (3, .ref l3), (4, .ref l4), (5, .int l5)] []) → ∀  (j : Nat) (w : Wd) (l1 : Nat) (l2 : Nat) (l3 : Nat) (l4 : Nat) (l5 : Int32) (cj : j < 600) (ol1 : okF F l1 8) (ol2 : okF F l2 9) (ol3 : okF F l3 12) (ol4 : okF F l4 16), BD g G F 9 qv (689 + (j + 1)) (6140368 + 6 * (j + 1)) (fL_law_1202 F N L xs k28 j w l1 l2 l3 l4 l5) w 1202 [(0, .ref b9), (1, .ref l1), (2, .ref l2), (3, .ref l3), (4, .ref l4), (5, .int l5)] [] := by
    intro k28 hk28
    intro j w l1 l2 l3 l4 l5 cj ol1 ol2 ol3 ol4
    unfold fL_law_1202
    refine bd_goto C 2250 dL_law_1202 (by decide) ?_
    exact bd_wide (by omega) (by omega) (bd_sub (hb2250 _ hk28 j w l1 l2 l3 l4 l5 cj ol1 ol2 ol3 ol4) [0, 1, 2, 3, 4, 5] rfl)
  have hb1125 : ∀ (k28 : Nat → Wd → Nat → Nat → Nat → Nat → Int32 → Option Unit), (∀ (j : Nat) (w : Wd) (l1 : Nat) (l2 : Nat) (l3 : Nat) (l4 : Nat) (l5 : Int32) (ol1 : okF F l1 8) (ol2 : okF F l2 9) (ol3 : okF F l3 12) (ol4 : okF F l4 16), BD g G F 9 qv (689 + j) (6140368 + 6 * j) (k28 j w l1 l2 l3 l4 l5) w 28 [(0, .ref b9), (1, .ref l1), (2, .ref l2), (3, .ref l3), (4, .ref l4), (5, .int l5)] []) → ∀  (j : Nat) (w : Wd) (l1 : Nat) (l2 : Nat) (l3 : Nat) (l4 : Nat) (l5 : Int32) (cj : j < 600) (ol1 : okF F l1 8) (ol2 : okF F l2 9) (ol3 : okF F l3 12) (ol4 : okF F l4 16), BD g G F 9 qv (689 + j) (6140368 + 6 * j) (fL_law_1125 F N L xs k28 j w l1 l2 l3 l4 l5) w 1125 [(0, .ref b9), (1, .ref l1), (2, .ref l2), (3, .ref l3), (4, .ref l4), (5, .int l5)] [] := by
    intro k28 hk28
    intro j w l1 l2 l3 l4 l5 cj ol1 ol2 ol3 ol4
    unfold fL_law_1125
    refine bd_aload_n C 1 dL_law_1125 rfl rfl ?_
    refine bd_aload_n C 0 dL_law_1126 rfl rfl ?_
    refine bd_iload C 5 dL_law_1127 rfl ?_
    refine bd_iconst C (v := 1) dL_law_1129 (by decide) ?_
    refine bd_iadd C dL_law_1130 ?_
    refine bd_sld C hsx dL_law_1131 (fun x188 => ?_)
    refine bd_aload_n C 0 dL_law_1132 rfl rfl ?_
    refine bd_iload C 5 dL_law_1133 rfl ?_
    refine bd_iconst C (v := 2) dL_law_1135 (by decide) ?_
    refine bd_iadd C dL_law_1136 ?_
    refine bd_sld C hsx dL_law_1137 (fun x189 => ?_)
    refine bd_aload_n C 0 dL_law_1138 rfl rfl ?_
    refine bd_iload C 5 dL_law_1139 rfl ?_
    refine bd_iconst C (v := 3) dL_law_1141 (by decide) ?_
    refine bd_iadd C dL_law_1142 ?_
    refine bd_sld C hsx dL_law_1143 (fun x190 => ?_)
    refine bd_aload_n C 3 dL_law_1144 rfl rfl ?_
    refine bd_callH (vs := fun (r : Int32 × Wd) => some (.int r.1)) (wf := fun (r : Int32 × Wd) => r.2) (st := []) (st1 := fun p191 => Value.int p191.1 :: []) C hNC [.ref l1, .int x188, .int x189, .int x190, .ref l3] (fun r9 e9 => mL_letter C.flag N ol1 ol3 hcm e9) mwL_letter wd_886 rfl rfl (Nat.le_of_ble_eq_true rfl) dL_law_1145 ⟨rfl, rfl, Nat.le_of_ble_eq_true rfl, Nat.le_of_ble_eq_true rfl, by show 689 + _ + _ ≤ 603072; omega, by show 6140368 + _ + _ ≤ 7211114; omega⟩ (fun _ => rfl) (fun p191 ep191 => ?_)
    refine bd_istore C [(6, .int p191.1), (0, .ref b9), (1, .ref l1), (2, .ref l2), (3, .ref l3), (4, .ref l4), (5, .int l5)] dL_law_1148 (by decide) rfl ?_
    refine bd_aload_n C 3 dL_law_1150 rfl rfl ?_
    refine bd_aload_n C 1 dL_law_1151 rfl rfl ?_
    refine bd_iload C 6 dL_law_1152 rfl ?_
    refine bd_iconst C (v := 1) dL_law_1154 (by decide) ?_
    refine bd_iadd C dL_law_1155 ?_
    refine bd_sld C hsx dL_law_1156 (fun x192 => ?_)
    refine bd_aload_n C 1 dL_law_1157 rfl rfl ?_
    refine bd_iload C 6 dL_law_1158 rfl ?_
    refine bd_iconst C (v := 2) dL_law_1160 (by decide) ?_
    refine bd_iadd C dL_law_1161 ?_
    refine bd_sld C hsx dL_law_1162 (fun x193 => ?_)
    refine bd_aload_n C 1 dL_law_1163 rfl rfl ?_
    refine bd_iload C 6 dL_law_1164 rfl ?_
    refine bd_iconst C (v := 3) dL_law_1166 (by decide) ?_
    refine bd_iadd C dL_law_1167 ?_
    refine bd_sld C hsx dL_law_1168 (fun x194 => ?_)
    refine bd_callV (vs := fun (r : Int32 × Wd) => some (.int r.1)) (wf := fun (r : Int32 × Wd) => r.2) (st := []) (st1 := fun p195 => Value.int p195.1 :: []) C [.int x192, .int x193, .int x194] (fun r9 e9 => mX9_letter C.flag N ol2 e9) mwX9_letter miX9_letter wd_1609 ol2 (by decide) rfl rfl rfl (Nat.le_of_ble_eq_true rfl) dL_law_1169 ⟨rfl, rfl, Nat.le_of_ble_eq_true rfl, Nat.le_of_ble_eq_true rfl, by show 689 + _ + _ ≤ 603072; omega, by show 6140368 + _ + _ ≤ 7211114; omega⟩ (fun _ => rfl) (fun p195 ep195 => ?_)
    refine bd_istore C [(7, .int p195.1), (6, .int p191.1), (0, .ref b9), (1, .ref l1), (2, .ref l2), (3, .ref l3), (4, .ref l4), (5, .int l5)] dL_law_1172 (by decide) rfl ?_
    refine bd_aload_n C 4 dL_law_1174 rfl rfl ?_
    refine bd_callV (vs := fun (r : Int32) => some (.int r)) (wf := fun _ => p195.2) (st := []) (st1 := fun x196 => Value.int x196 :: []) C [] (fun r9 e9 => mX9_thrown C.flag N ol2 e9) mwX9_thrown miX9_thrown wd_1383 ol2 (by decide) rfl rfl rfl (Nat.le_of_ble_eq_true rfl) dL_law_1175 ⟨rfl, rfl, Nat.le_of_ble_eq_true rfl, Nat.le_of_ble_eq_true rfl, by show 689 + _ + _ ≤ 603072; omega, by show 6140368 + _ + _ ≤ 7211114; omega⟩ (fun _ => rfl) (fun x196 ex196 => ?_)
    refine bd_iload C 1 dL_law_1178 rfl ?_
    refine bd_icmp_eq C 1185 dL_law_1180 (by decide) (fun c197 => ?_) (fun c197 => ?_)
    · refine bd_iload C 1 dL_law_1185 rfl ?_
      refine bd_if_ne C 1202 dL_law_1187 (by decide) (fun c198 => ?_) (fun c198 => ?_)
      · exact bd_wide (by omega) (by omega) (bd_sub (hb1202 _ hk28 j p195.2 l1 l2 l3 l4 l5 cj ol1 ol2 ol3 ol4) [2, 3, 4, 5, 6, 7] rfl)
      · refine bd_aload_n C 5 dL_law_1190 rfl rfl ?_
        refine bd_iconst C (v := 0) dL_law_1191 (by decide) ?_
        refine bd_lald C dL_law_1192 ol3 (fun x199 => ?_)
        refine bd_iload C 0 dL_law_1193 rfl ?_
        refine bd_i2l C dL_law_1195 ?_
        refine bd_lcmp C dL_law_1196 ?_
        refine bd_if_eq C 1202 dL_law_1197 (by decide) (fun c200 => ?_) (fun c200 => ?_)
        · exact bd_wide (by omega) (by omega) (bd_sub (hb1202 _ hk28 j p195.2 l1 l2 l3 l4 l5 cj ol1 ol2 ol3 ol4) [2, 3, 4, 5, 6, 7] rfl)
        · refine bd_iconst C (v := 0) dL_law_1200 (by decide) ?_
          exact bd_none
    · refine bd_iconst C (v := 0) dL_law_1183 (by decide) ?_
      exact bd_none
  have hb2190 : ∀ (k28 : Nat → Wd → Nat → Nat → Nat → Nat → Int32 → Option Unit), (∀ (j : Nat) (w : Wd) (l1 : Nat) (l2 : Nat) (l3 : Nat) (l4 : Nat) (l5 : Int32) (ol1 : okF F l1 8) (ol2 : okF F l2 9) (ol3 : okF F l3 12) (ol4 : okF F l4 16), BD g G F 9 qv (689 + j) (6140368 + 6 * j) (k28 j w l1 l2 l3 l4 l5) w 28 [(0, .ref b9), (1, .ref l1), (2, .ref l2), (3, .ref l3), (4, .ref l4), (5, .int l5)] []) → ∀  (j : Nat) (w : Wd) (l1 : Nat) (l2 : Nat) (l3 : Nat) (l4 : Nat) (l5 : Int32) (cj : j < 600) (ol1 : okF F l1 8) (ol2 : okF F l2 9) (ol3 : okF F l3 12) (ol4 : okF F l4 16), BD g G F 9 qv (689 + (j + 1)) (6140368 + 6 * (j + 1)) (fL_law_2190 F N L xs k28 j w l1 l2 l3 l4 l5) w 2190 [(0, .ref b9), (1, .ref l1), (2, .ref l2), (3, .ref l3), (4, .ref l4), (5, .int l5)] [] := by
    intro k28 hk28
    intro j w l1 l2 l3 l4 l5 cj ol1 ol2 ol3 ol4
    unfold fL_law_2190
    refine bd_goto C 2250 dL_law_2190 (by decide) ?_
    exact bd_wide (by omega) (by omega) (bd_sub (hb2250 _ hk28 j w l1 l2 l3 l4 l5 cj ol1 ol2 ol3 ol4) [0, 1, 2, 3, 4, 5] rfl)
  have hb2149 : ∀ (k28 : Nat → Wd → Nat → Nat → Nat → Nat → Int32 → Option Unit), (∀ (j : Nat) (w : Wd) (l1 : Nat) (l2 : Nat) (l3 : Nat) (l4 : Nat) (l5 : Int32) (ol1 : okF F l1 8) (ol2 : okF F l2 9) (ol3 : okF F l3 12) (ol4 : okF F l4 16), BD g G F 9 qv (689 + j) (6140368 + 6 * j) (k28 j w l1 l2 l3 l4 l5) w 28 [(0, .ref b9), (1, .ref l1), (2, .ref l2), (3, .ref l3), (4, .ref l4), (5, .int l5)] []) → ∀  (j : Nat) (w : Wd) (l1 : Nat) (l2 : Nat) (l3 : Nat) (l4 : Nat) (l5 : Int32) (cj : j < 600) (ol1 : okF F l1 8) (ol2 : okF F l2 9) (ol3 : okF F l3 12) (ol4 : okF F l4 16), BD g G F 9 qv (689 + j) (6140368 + 6 * j) (fL_law_2149 F N L xs k28 j w l1 l2 l3 l4 l5) w 2149 [(0, .ref b9), (1, .ref l1), (2, .ref l2), (3, .ref l3), (4, .ref l4), (5, .int l5)] [] := by
    intro k28 hk28
    intro j w l1 l2 l3 l4 l5 cj ol1 ol2 ol3 ol4
    unfold fL_law_2149
    refine bd_aload_n C 1 dL_law_2149 rfl rfl ?_
    refine bd_aload_n C 3 dL_law_2150 rfl rfl ?_
    refine bd_callH (vs := fun (r : Int32 × Wd) => some (.int r.1)) (wf := fun (r : Int32 × Wd) => r.2) (st := []) (st1 := fun p355 => Value.int p355.1 :: []) C hNC [.ref l1, .ref l3] (fun r9 e9 => mL_undo C.flag N ol1 ol3 hcm e9) mwL_undo wd_1211 rfl rfl (Nat.le_of_ble_eq_true rfl) dL_law_2151 ⟨rfl, rfl, Nat.le_of_ble_eq_true rfl, Nat.le_of_ble_eq_true rfl, by show 689 + _ + _ ≤ 603072; omega, by show 6140368 + _ + _ ≤ 7211114; omega⟩ (fun _ => rfl) (fun p355 ep355 => ?_)
    refine bd_istore C [(6, .int p355.1), (0, .ref b9), (1, .ref l1), (2, .ref l2), (3, .ref l3), (4, .ref l4), (5, .int l5)] dL_law_2154 (by decide) rfl ?_
    refine bd_aload_n C 3 dL_law_2156 rfl rfl ?_
    refine bd_callV (vs := fun (r : Int32 × Wd) => some (.int r.1)) (wf := fun (r : Int32 × Wd) => r.2) (st := []) (st1 := fun p356 => Value.int p356.1 :: []) C [] (fun r9 e9 => mX9_undo C.flag N ol2 e9) mwX9_undo miX9_undo wd_1763 ol2 (by decide) rfl rfl rfl (Nat.le_of_ble_eq_true rfl) dL_law_2157 ⟨rfl, rfl, Nat.le_of_ble_eq_true rfl, Nat.le_of_ble_eq_true rfl, by show 689 + _ + _ ≤ 603072; omega, by show 6140368 + _ + _ ≤ 7211114; omega⟩ (fun _ => rfl) (fun p356 ep356 => ?_)
    refine bd_istore C [(7, .int p356.1), (6, .int p355.1), (0, .ref b9), (1, .ref l1), (2, .ref l2), (3, .ref l3), (4, .ref l4), (5, .int l5)] dL_law_2160 (by decide) rfl ?_
    refine bd_aload_n C 4 dL_law_2162 rfl rfl ?_
    refine bd_callV (vs := fun (r : Int32) => some (.int r)) (wf := fun _ => p356.2) (st := []) (st1 := fun x357 => Value.int x357 :: []) C [] (fun r9 e9 => mX9_thrown C.flag N ol2 e9) mwX9_thrown miX9_thrown wd_1383 ol2 (by decide) rfl rfl rfl (Nat.le_of_ble_eq_true rfl) dL_law_2163 ⟨rfl, rfl, Nat.le_of_ble_eq_true rfl, Nat.le_of_ble_eq_true rfl, by show 689 + _ + _ ≤ 603072; omega, by show 6140368 + _ + _ ≤ 7211114; omega⟩ (fun _ => rfl) (fun x357 ex357 => ?_)
    refine bd_iload C 1 dL_law_2166 rfl ?_
    refine bd_icmp_eq C 2173 dL_law_2168 (by decide) (fun c358 => ?_) (fun c358 => ?_)
    · refine bd_iload C 1 dL_law_2173 rfl ?_
      refine bd_if_ne C 2190 dL_law_2175 (by decide) (fun c359 => ?_) (fun c359 => ?_)
      · exact bd_wide (by omega) (by omega) (bd_sub (hb2190 _ hk28 j p356.2 l1 l2 l3 l4 l5 cj ol1 ol2 ol3 ol4) [2, 3, 4, 5, 6, 7] rfl)
      · refine bd_aload_n C 5 dL_law_2178 rfl rfl ?_
        refine bd_iconst C (v := 0) dL_law_2179 (by decide) ?_
        refine bd_lald C dL_law_2180 ol3 (fun x360 => ?_)
        refine bd_iload C 0 dL_law_2181 rfl ?_
        refine bd_i2l C dL_law_2183 ?_
        refine bd_lcmp C dL_law_2184 ?_
        refine bd_if_eq C 2190 dL_law_2185 (by decide) (fun c361 => ?_) (fun c361 => ?_)
        · exact bd_wide (by omega) (by omega) (bd_sub (hb2190 _ hk28 j p356.2 l1 l2 l3 l4 l5 cj ol1 ol2 ol3 ol4) [2, 3, 4, 5, 6, 7] rfl)
        · refine bd_iconst C (v := 0) dL_law_2188 (by decide) ?_
          exact bd_none
    · refine bd_iconst C (v := 0) dL_law_2171 (by decide) ?_
      exact bd_none
  have hb1562 : ∀ (k28 : Nat → Wd → Nat → Nat → Nat → Nat → Int32 → Option Unit), (∀ (j : Nat) (w : Wd) (l1 : Nat) (l2 : Nat) (l3 : Nat) (l4 : Nat) (l5 : Int32) (ol1 : okF F l1 8) (ol2 : okF F l2 9) (ol3 : okF F l3 12) (ol4 : okF F l4 16), BD g G F 9 qv (689 + j) (6140368 + 6 * j) (k28 j w l1 l2 l3 l4 l5) w 28 [(0, .ref b9), (1, .ref l1), (2, .ref l2), (3, .ref l3), (4, .ref l4), (5, .int l5)] []) → ∀  (j : Nat) (w : Wd) (l1 : Nat) (l2 : Nat) (l3 : Nat) (l4 : Nat) (l5 : Int32) (cj : j < 600) (ol1 : okF F l1 8) (ol2 : okF F l2 9) (ol3 : okF F l3 12) (ol4 : okF F l4 16), BD g G F 9 qv (689 + (j + 1)) (6140368 + 6 * (j + 1)) (fL_law_1562 F N L xs k28 j w l1 l2 l3 l4 l5) w 1562 [(0, .ref b9), (1, .ref l1), (2, .ref l2), (3, .ref l3), (4, .ref l4), (5, .int l5)] [] := by
    intro k28 hk28
    intro j w l1 l2 l3 l4 l5 cj ol1 ol2 ol3 ol4
    unfold fL_law_1562
    refine bd_goto C 2250 dL_law_1562 (by decide) ?_
    exact bd_wide (by omega) (by omega) (bd_sub (hb2250 _ hk28 j w l1 l2 l3 l4 l5 cj ol1 ol2 ol3 ol4) [0, 1, 2, 3, 4, 5] rfl)
  have hb1521 : ∀ (k28 : Nat → Wd → Nat → Nat → Nat → Nat → Int32 → Option Unit), (∀ (j : Nat) (w : Wd) (l1 : Nat) (l2 : Nat) (l3 : Nat) (l4 : Nat) (l5 : Int32) (ol1 : okF F l1 8) (ol2 : okF F l2 9) (ol3 : okF F l3 12) (ol4 : okF F l4 16), BD g G F 9 qv (689 + j) (6140368 + 6 * j) (k28 j w l1 l2 l3 l4 l5) w 28 [(0, .ref b9), (1, .ref l1), (2, .ref l2), (3, .ref l3), (4, .ref l4), (5, .int l5)] []) → ∀  (j : Nat) (w : Wd) (l1 : Nat) (l2 : Nat) (l3 : Nat) (l4 : Nat) (l5 : Int32) (cj : j < 600) (ol1 : okF F l1 8) (ol2 : okF F l2 9) (ol3 : okF F l3 12) (ol4 : okF F l4 16), BD g G F 9 qv (689 + j) (6140368 + 6 * j) (fL_law_1521 F N L xs k28 j w l1 l2 l3 l4 l5) w 1521 [(0, .ref b9), (1, .ref l1), (2, .ref l2), (3, .ref l3), (4, .ref l4), (5, .int l5)] [] := by
    intro k28 hk28
    intro j w l1 l2 l3 l4 l5 cj ol1 ol2 ol3 ol4
    unfold fL_law_1521
    refine bd_aload_n C 1 dL_law_1521 rfl rfl ?_
    refine bd_aload_n C 3 dL_law_1522 rfl rfl ?_
    refine bd_callH (vs := fun (r : Int32 × Wd) => some (.int r.1)) (wf := fun (r : Int32 × Wd) => r.2) (st := []) (st1 := fun p251 => Value.int p251.1 :: []) C hNC [.ref l1, .ref l3] (fun r9 e9 => mL_search C.flag N ol1 ol3 hcm e9) mwL_search wd_974 rfl rfl (Nat.le_of_ble_eq_true rfl) dL_law_1523 ⟨rfl, rfl, Nat.le_of_ble_eq_true rfl, Nat.le_of_ble_eq_true rfl, by show 689 + _ + _ ≤ 603072; omega, by show 6140368 + _ + _ ≤ 7211114; omega⟩ (fun _ => rfl) (fun p251 ep251 => ?_)
    refine bd_istore C [(6, .int p251.1), (0, .ref b9), (1, .ref l1), (2, .ref l2), (3, .ref l3), (4, .ref l4), (5, .int l5)] dL_law_1526 (by decide) rfl ?_
    refine bd_aload_n C 3 dL_law_1528 rfl rfl ?_
    refine bd_callV (vs := fun (r : Int32 × Wd) => some (.int r.1)) (wf := fun (r : Int32 × Wd) => r.2) (st := []) (st1 := fun p252 => Value.int p252.1 :: []) C [] (fun r9 e9 => mX9_search C.flag N ol2 e9) mwX9_search miX9_search wd_1650 ol2 (by decide) rfl rfl rfl (Nat.le_of_ble_eq_true rfl) dL_law_1529 ⟨rfl, rfl, Nat.le_of_ble_eq_true rfl, Nat.le_of_ble_eq_true rfl, by show 689 + _ + _ ≤ 603072; omega, by show 6140368 + _ + _ ≤ 7211114; omega⟩ (fun _ => rfl) (fun p252 ep252 => ?_)
    refine bd_istore C [(7, .int p252.1), (6, .int p251.1), (0, .ref b9), (1, .ref l1), (2, .ref l2), (3, .ref l3), (4, .ref l4), (5, .int l5)] dL_law_1532 (by decide) rfl ?_
    refine bd_aload_n C 4 dL_law_1534 rfl rfl ?_
    refine bd_callV (vs := fun (r : Int32) => some (.int r)) (wf := fun _ => p252.2) (st := []) (st1 := fun x253 => Value.int x253 :: []) C [] (fun r9 e9 => mX9_thrown C.flag N ol2 e9) mwX9_thrown miX9_thrown wd_1383 ol2 (by decide) rfl rfl rfl (Nat.le_of_ble_eq_true rfl) dL_law_1535 ⟨rfl, rfl, Nat.le_of_ble_eq_true rfl, Nat.le_of_ble_eq_true rfl, by show 689 + _ + _ ≤ 603072; omega, by show 6140368 + _ + _ ≤ 7211114; omega⟩ (fun _ => rfl) (fun x253 ex253 => ?_)
    refine bd_iload C 1 dL_law_1538 rfl ?_
    refine bd_icmp_eq C 1545 dL_law_1540 (by decide) (fun c254 => ?_) (fun c254 => ?_)
    · refine bd_iload C 1 dL_law_1545 rfl ?_
      refine bd_if_ne C 1562 dL_law_1547 (by decide) (fun c255 => ?_) (fun c255 => ?_)
      · exact bd_wide (by omega) (by omega) (bd_sub (hb1562 _ hk28 j p252.2 l1 l2 l3 l4 l5 cj ol1 ol2 ol3 ol4) [2, 3, 4, 5, 6, 7] rfl)
      · refine bd_aload_n C 5 dL_law_1550 rfl rfl ?_
        refine bd_iconst C (v := 0) dL_law_1551 (by decide) ?_
        refine bd_lald C dL_law_1552 ol3 (fun x256 => ?_)
        refine bd_iload C 0 dL_law_1553 rfl ?_
        refine bd_i2l C dL_law_1555 ?_
        refine bd_lcmp C dL_law_1556 ?_
        refine bd_if_eq C 1562 dL_law_1557 (by decide) (fun c257 => ?_) (fun c257 => ?_)
        · exact bd_wide (by omega) (by omega) (bd_sub (hb1562 _ hk28 j p252.2 l1 l2 l3 l4 l5 cj ol1 ol2 ol3 ol4) [2, 3, 4, 5, 6, 7] rfl)
        · refine bd_iconst C (v := 0) dL_law_1560 (by decide) ?_
          exact bd_none
    · refine bd_iconst C (v := 0) dL_law_1543 (by decide) ?_
      exact bd_none
  have hb1846 : ∀ (k28 : Nat → Wd → Nat → Nat → Nat → Nat → Int32 → Option Unit), (∀ (j : Nat) (w : Wd) (l1 : Nat) (l2 : Nat) (l3 : Nat) (l4 : Nat) (l5 : Int32) (ol1 : okF F l1 8) (ol2 : okF F l2 9) (ol3 : okF F l3 12) (ol4 : okF F l4 16), BD g G F 9 qv (689 + j) (6140368 + 6 * j) (k28 j w l1 l2 l3 l4 l5) w 28 [(0, .ref b9), (1, .ref l1), (2, .ref l2), (3, .ref l3), (4, .ref l4), (5, .int l5)] []) → ∀  (j : Nat) (w : Wd) (l1 : Nat) (l2 : Nat) (l3 : Nat) (l4 : Nat) (l5 : Int32) (cj : j < 600) (ol1 : okF F l1 8) (ol2 : okF F l2 9) (ol3 : okF F l3 12) (ol4 : okF F l4 16), BD g G F 9 qv (689 + (j + 1)) (6140368 + 6 * (j + 1)) (fL_law_1846 F N L xs k28 j w l1 l2 l3 l4 l5) w 1846 [(0, .ref b9), (1, .ref l1), (2, .ref l2), (3, .ref l3), (4, .ref l4), (5, .int l5)] [] := by
    intro k28 hk28
    intro j w l1 l2 l3 l4 l5 cj ol1 ol2 ol3 ol4
    unfold fL_law_1846
    refine bd_goto C 2250 dL_law_1846 (by decide) ?_
    exact bd_wide (by omega) (by omega) (bd_sub (hb2250 _ hk28 j w l1 l2 l3 l4 l5 cj ol1 ol2 ol3 ol4) [0, 1, 2, 3, 4, 5] rfl)
  have hb1781 : ∀ (k28 : Nat → Wd → Nat → Nat → Nat → Nat → Int32 → Option Unit), (∀ (j : Nat) (w : Wd) (l1 : Nat) (l2 : Nat) (l3 : Nat) (l4 : Nat) (l5 : Int32) (ol1 : okF F l1 8) (ol2 : okF F l2 9) (ol3 : okF F l3 12) (ol4 : okF F l4 16), BD g G F 9 qv (689 + j) (6140368 + 6 * j) (k28 j w l1 l2 l3 l4 l5) w 28 [(0, .ref b9), (1, .ref l1), (2, .ref l2), (3, .ref l3), (4, .ref l4), (5, .int l5)] []) → ∀  (j : Nat) (w : Wd) (l1 : Nat) (l2 : Nat) (l3 : Nat) (l4 : Nat) (l5 : Int32) (cj : j < 600) (ol1 : okF F l1 8) (ol2 : okF F l2 9) (ol3 : okF F l3 12) (ol4 : okF F l4 16), BD g G F 9 qv (689 + j) (6140368 + 6 * j) (fL_law_1781 F N L xs k28 j w l1 l2 l3 l4 l5) w 1781 [(0, .ref b9), (1, .ref l1), (2, .ref l2), (3, .ref l3), (4, .ref l4), (5, .int l5)] [] := by
    intro k28 hk28
    intro j w l1 l2 l3 l4 l5 cj ol1 ol2 ol3 ol4
    unfold fL_law_1781
    refine bd_aload_n C 1 dL_law_1781 rfl rfl ?_
    refine bd_aload_n C 0 dL_law_1782 rfl rfl ?_
    refine bd_iload C 5 dL_law_1783 rfl ?_
    refine bd_iconst C (v := 1) dL_law_1785 (by decide) ?_
    refine bd_iadd C dL_law_1786 ?_
    refine bd_sld C hsx dL_law_1787 (fun x293 => ?_)
    refine bd_aload_n C 0 dL_law_1788 rfl rfl ?_
    refine bd_iload C 5 dL_law_1789 rfl ?_
    refine bd_iconst C (v := 2) dL_law_1791 (by decide) ?_
    refine bd_iadd C dL_law_1792 ?_
    refine bd_sld C hsx dL_law_1793 (fun x294 => ?_)
    refine bd_aload_n C 3 dL_law_1794 rfl rfl ?_
    refine bd_callH (vs := fun (r : Int32 × Wd) => some (.int r.1)) (wf := fun (r : Int32 × Wd) => r.2) (st := []) (st1 := fun p295 => Value.int p295.1 :: []) C hNC [.ref l1, .int x293, .int x294, .ref l3] (fun r9 e9 => mL_frames C.flag N ol1 ol3 hcm e9) mwL_frames wd_1109 rfl rfl (Nat.le_of_ble_eq_true rfl) dL_law_1795 ⟨rfl, rfl, Nat.le_of_ble_eq_true rfl, Nat.le_of_ble_eq_true rfl, by show 689 + _ + _ ≤ 603072; omega, by show 6140368 + _ + _ ≤ 7211114; omega⟩ (fun _ => rfl) (fun p295 ep295 => ?_)
    refine bd_istore C [(6, .int p295.1), (0, .ref b9), (1, .ref l1), (2, .ref l2), (3, .ref l3), (4, .ref l4), (5, .int l5)] dL_law_1798 (by decide) rfl ?_
    refine bd_aload_n C 3 dL_law_1800 rfl rfl ?_
    refine bd_aload_n C 1 dL_law_1801 rfl rfl ?_
    refine bd_iload C 6 dL_law_1802 rfl ?_
    refine bd_iconst C (v := 1) dL_law_1804 (by decide) ?_
    refine bd_iadd C dL_law_1805 ?_
    refine bd_sld C hsx dL_law_1806 (fun x296 => ?_)
    refine bd_aload_n C 1 dL_law_1807 rfl rfl ?_
    refine bd_iload C 6 dL_law_1808 rfl ?_
    refine bd_iconst C (v := 2) dL_law_1810 (by decide) ?_
    refine bd_iadd C dL_law_1811 ?_
    refine bd_sld C hsx dL_law_1812 (fun x297 => ?_)
    refine bd_callV (vs := fun (r : Int32 × Wd) => some (.int r.1)) (wf := fun (r : Int32 × Wd) => r.2) (st := []) (st1 := fun p298 => Value.int p298.1 :: []) C [.int x296, .int x297] (fun r9 e9 => mX9_frames C.flag N ol2 e9) mwX9_frames miX9_frames wd_1708 ol2 (by decide) rfl rfl rfl (Nat.le_of_ble_eq_true rfl) dL_law_1813 ⟨rfl, rfl, Nat.le_of_ble_eq_true rfl, Nat.le_of_ble_eq_true rfl, by show 689 + _ + _ ≤ 603072; omega, by show 6140368 + _ + _ ≤ 7211114; omega⟩ (fun _ => rfl) (fun p298 ep298 => ?_)
    refine bd_istore C [(7, .int p298.1), (6, .int p295.1), (0, .ref b9), (1, .ref l1), (2, .ref l2), (3, .ref l3), (4, .ref l4), (5, .int l5)] dL_law_1816 (by decide) rfl ?_
    refine bd_aload_n C 4 dL_law_1818 rfl rfl ?_
    refine bd_callV (vs := fun (r : Int32) => some (.int r)) (wf := fun _ => p298.2) (st := []) (st1 := fun x299 => Value.int x299 :: []) C [] (fun r9 e9 => mX9_thrown C.flag N ol2 e9) mwX9_thrown miX9_thrown wd_1383 ol2 (by decide) rfl rfl rfl (Nat.le_of_ble_eq_true rfl) dL_law_1819 ⟨rfl, rfl, Nat.le_of_ble_eq_true rfl, Nat.le_of_ble_eq_true rfl, by show 689 + _ + _ ≤ 603072; omega, by show 6140368 + _ + _ ≤ 7211114; omega⟩ (fun _ => rfl) (fun x299 ex299 => ?_)
    refine bd_iload C 1 dL_law_1822 rfl ?_
    refine bd_icmp_eq C 1829 dL_law_1824 (by decide) (fun c300 => ?_) (fun c300 => ?_)
    · refine bd_iload C 1 dL_law_1829 rfl ?_
      refine bd_if_ne C 1846 dL_law_1831 (by decide) (fun c301 => ?_) (fun c301 => ?_)
      · exact bd_wide (by omega) (by omega) (bd_sub (hb1846 _ hk28 j p298.2 l1 l2 l3 l4 l5 cj ol1 ol2 ol3 ol4) [2, 3, 4, 5, 6, 7] rfl)
      · refine bd_aload_n C 5 dL_law_1834 rfl rfl ?_
        refine bd_iconst C (v := 0) dL_law_1835 (by decide) ?_
        refine bd_lald C dL_law_1836 ol3 (fun x302 => ?_)
        refine bd_iload C 0 dL_law_1837 rfl ?_
        refine bd_i2l C dL_law_1839 ?_
        refine bd_lcmp C dL_law_1840 ?_
        refine bd_if_eq C 1846 dL_law_1841 (by decide) (fun c303 => ?_) (fun c303 => ?_)
        · exact bd_wide (by omega) (by omega) (bd_sub (hb1846 _ hk28 j p298.2 l1 l2 l3 l4 l5 cj ol1 ol2 ol3 ol4) [2, 3, 4, 5, 6, 7] rfl)
        · refine bd_iconst C (v := 0) dL_law_1844 (by decide) ?_
          exact bd_none
    · refine bd_iconst C (v := 0) dL_law_1827 (by decide) ?_
      exact bd_none
  have hb1342 : ∀ (k28 : Nat → Wd → Nat → Nat → Nat → Nat → Int32 → Option Unit), (∀ (j : Nat) (w : Wd) (l1 : Nat) (l2 : Nat) (l3 : Nat) (l4 : Nat) (l5 : Int32) (ol1 : okF F l1 8) (ol2 : okF F l2 9) (ol3 : okF F l3 12) (ol4 : okF F l4 16), BD g G F 9 qv (689 + j) (6140368 + 6 * j) (k28 j w l1 l2 l3 l4 l5) w 28 [(0, .ref b9), (1, .ref l1), (2, .ref l2), (3, .ref l3), (4, .ref l4), (5, .int l5)] []) → ∀  (j : Nat) (w : Wd) (l1 : Nat) (l2 : Nat) (l3 : Nat) (l4 : Nat) (l5 : Int32) (cj : j < 600) (ol1 : okF F l1 8) (ol2 : okF F l2 9) (ol3 : okF F l3 12) (ol4 : okF F l4 16), BD g G F 9 qv (689 + (j + 1)) (6140368 + 6 * (j + 1)) (fL_law_1342 F N L xs k28 j w l1 l2 l3 l4 l5) w 1342 [(0, .ref b9), (1, .ref l1), (2, .ref l2), (3, .ref l3), (4, .ref l4), (5, .int l5)] [] := by
    intro k28 hk28
    intro j w l1 l2 l3 l4 l5 cj ol1 ol2 ol3 ol4
    unfold fL_law_1342
    refine bd_goto C 2250 dL_law_1342 (by decide) ?_
    exact bd_wide (by omega) (by omega) (bd_sub (hb2250 _ hk28 j w l1 l2 l3 l4 l5 cj ol1 ol2 ol3 ol4) [0, 1, 2, 3, 4, 5] rfl)
  have hb1309 : ∀ (k28 : Nat → Wd → Nat → Nat → Nat → Nat → Int32 → Option Unit), (∀ (j : Nat) (w : Wd) (l1 : Nat) (l2 : Nat) (l3 : Nat) (l4 : Nat) (l5 : Int32) (ol1 : okF F l1 8) (ol2 : okF F l2 9) (ol3 : okF F l3 12) (ol4 : okF F l4 16), BD g G F 9 qv (689 + j) (6140368 + 6 * j) (k28 j w l1 l2 l3 l4 l5) w 28 [(0, .ref b9), (1, .ref l1), (2, .ref l2), (3, .ref l3), (4, .ref l4), (5, .int l5)] []) → ∀  (j : Nat) (w : Wd) (l1 : Nat) (l2 : Nat) (l3 : Nat) (l4 : Nat) (l5 : Int32) (l6 : Int32) (s0 : Nat) (s1 : Int32) (cj : j < 600) (ol1 : okF F l1 8) (ol2 : okF F l2 9) (ol3 : okF F l3 12) (ol4 : okF F l4 16) (os0 : okF F s0 9), BD g G F 9 qv (689 + (j + 1)) (6140368 + 6 * (j + 1)) (fL_law_1309 F N L xs k28 j w l1 l2 l3 l4 l5 l6 s0 s1) w 1309 [(0, .ref b9), (1, .ref l1), (2, .ref l2), (3, .ref l3), (4, .ref l4), (5, .int l5), (6, .int l6)] [.int s1, .ref s0] := by
    intro k28 hk28
    intro j w l1 l2 l3 l4 l5 l6 s0 s1 cj ol1 ol2 ol3 ol4 os0
    unfold fL_law_1309
    refine bd_callV (vs := fun (r : Int32 × Wd) => some (.int r.1)) (wf := fun (r : Int32 × Wd) => r.2) (st := []) (st1 := fun p217 => Value.int p217.1 :: []) C [.int s1] (fun r9 e9 => mX9_refusal C.flag N os0 e9) mwX9_refusal miX9_refusal wd_1618 os0 (by decide) rfl rfl rfl (Nat.le_of_ble_eq_true rfl) dL_law_1309 ⟨rfl, rfl, Nat.le_of_ble_eq_true rfl, Nat.le_of_ble_eq_true rfl, by show 689 + _ + _ ≤ 603072; omega, by show 6140368 + _ + _ ≤ 7211114; omega⟩ (fun _ => rfl) (fun p217 ep217 => ?_)
    refine bd_istore C [(7, .int p217.1), (0, .ref b9), (1, .ref l1), (2, .ref l2), (3, .ref l3), (4, .ref l4), (5, .int l5), (6, .int l6)] dL_law_1312 (by decide) rfl ?_
    refine bd_aload_n C 3 dL_law_1314 rfl rfl ?_
    refine bd_callV (vs := fun (r : Int32) => some (.int r)) (wf := fun _ => p217.2) (st := []) (st1 := fun x218 => Value.int x218 :: []) C [] (fun r9 e9 => mX9_thrown C.flag N ol2 e9) mwX9_thrown miX9_thrown wd_1383 ol2 (by decide) rfl rfl rfl (Nat.le_of_ble_eq_true rfl) dL_law_1315 ⟨rfl, rfl, Nat.le_of_ble_eq_true rfl, Nat.le_of_ble_eq_true rfl, by show 689 + _ + _ ≤ 603072; omega, by show 6140368 + _ + _ ≤ 7211114; omega⟩ (fun _ => rfl) (fun x218 ex218 => ?_)
    refine bd_iload C 7 dL_law_1318 rfl ?_
    refine bd_icmp_eq C 1325 dL_law_1320 (by decide) (fun c219 => ?_) (fun c219 => ?_)
    · refine bd_iload C 7 dL_law_1325 rfl ?_
      refine bd_if_ne C 1342 dL_law_1327 (by decide) (fun c220 => ?_) (fun c220 => ?_)
      · exact bd_wide (by omega) (by omega) (bd_sub (hb1342 _ hk28 j p217.2 l1 l2 l3 l4 l5 cj ol1 ol2 ol3 ol4) [1, 2, 3, 4, 5, 6] rfl)
      · refine bd_aload_n C 4 dL_law_1330 rfl rfl ?_
        refine bd_iconst C (v := 0) dL_law_1331 (by decide) ?_
        refine bd_lald C dL_law_1332 ol3 (fun x221 => ?_)
        refine bd_iload C 0 dL_law_1333 rfl ?_
        refine bd_i2l C dL_law_1335 ?_
        refine bd_lcmp C dL_law_1336 ?_
        refine bd_if_eq C 1342 dL_law_1337 (by decide) (fun c222 => ?_) (fun c222 => ?_)
        · exact bd_wide (by omega) (by omega) (bd_sub (hb1342 _ hk28 j p217.2 l1 l2 l3 l4 l5 cj ol1 ol2 ol3 ol4) [1, 2, 3, 4, 5, 6] rfl)
        · refine bd_iconst C (v := 0) dL_law_1340 (by decide) ?_
          exact bd_none
    · refine bd_iconst C (v := 0) dL_law_1323 (by decide) ?_
      exact bd_none
  have hb1288 : ∀ (k28 : Nat → Wd → Nat → Nat → Nat → Nat → Int32 → Option Unit), (∀ (j : Nat) (w : Wd) (l1 : Nat) (l2 : Nat) (l3 : Nat) (l4 : Nat) (l5 : Int32) (ol1 : okF F l1 8) (ol2 : okF F l2 9) (ol3 : okF F l3 12) (ol4 : okF F l4 16), BD g G F 9 qv (689 + j) (6140368 + 6 * j) (k28 j w l1 l2 l3 l4 l5) w 28 [(0, .ref b9), (1, .ref l1), (2, .ref l2), (3, .ref l3), (4, .ref l4), (5, .int l5)] []) → ∀  (j : Nat) (w : Wd) (l1 : Nat) (l2 : Nat) (l3 : Nat) (l4 : Nat) (l5 : Int32) (s0 : Nat) (s1 : Int32) (cj : j < 600) (ol1 : okF F l1 8) (ol2 : okF F l2 9) (ol3 : okF F l3 12) (ol4 : okF F l4 16) (os0 : okF F s0 8), BD g G F 9 qv (689 + j) (6140368 + 6 * j) (fL_law_1288 F N L xs k28 j w l1 l2 l3 l4 l5 s0 s1) w 1288 [(0, .ref b9), (1, .ref l1), (2, .ref l2), (3, .ref l3), (4, .ref l4), (5, .int l5)] [.int s1, .ref s0] := by
    intro k28 hk28
    intro j w l1 l2 l3 l4 l5 s0 s1 cj ol1 ol2 ol3 ol4 os0
    unfold fL_law_1288
    refine bd_aload_n C 3 dL_law_1288 rfl rfl ?_
    refine bd_callH (vs := fun (r : Int32 × Wd) => some (.int r.1)) (wf := fun (r : Int32 × Wd) => r.2) (st := []) (st1 := fun p214 => Value.int p214.1 :: []) C hNC [.ref s0, .int s1, .ref l3] (fun r9 e9 => mL_refusal C.flag N os0 ol3 hcm e9) mwL_refusal wd_920 rfl rfl (Nat.le_of_ble_eq_true rfl) dL_law_1289 ⟨rfl, rfl, Nat.le_of_ble_eq_true rfl, Nat.le_of_ble_eq_true rfl, by show 689 + _ + _ ≤ 603072; omega, by show 6140368 + _ + _ ≤ 7211114; omega⟩ (fun _ => rfl) (fun p214 ep214 => ?_)
    refine bd_istore C [(6, .int p214.1), (0, .ref b9), (1, .ref l1), (2, .ref l2), (3, .ref l3), (4, .ref l4), (5, .int l5)] dL_law_1292 (by decide) rfl ?_
    refine bd_aload_n C 3 dL_law_1294 rfl rfl ?_
    refine bd_aload_n C 1 dL_law_1295 rfl rfl ?_
    refine bd_iload C 6 dL_law_1296 rfl ?_
    refine bd_iconst C (v := 1) dL_law_1298 (by decide) ?_
    refine bd_iadd C dL_law_1299 ?_
    refine bd_sld C hsx dL_law_1300 (fun x215 => ?_)
    refine bd_if_eq C 1308 dL_law_1301 (by decide) (fun c216 => ?_) (fun c216 => ?_)
    · refine bd_iconst C (v := 0) dL_law_1308 (by decide) ?_
      exact bd_wide (by omega) (by omega) (bd_sub (hb1309 _ hk28 j p214.2 l1 l2 l3 l4 l5 p214.1 l2 0 cj ol1 ol2 ol3 ol4 ol2) [1, 2, 3, 4, 5, 6, 0] rfl)
    · refine bd_iconst C (v := 1) dL_law_1304 (by decide) ?_
      refine bd_goto C 1309 dL_law_1305 (by decide) ?_
      exact bd_wide (by omega) (by omega) (bd_sub (hb1309 _ hk28 j p214.2 l1 l2 l3 l4 l5 p214.1 l2 1 cj ol1 ol2 ol3 ol4 ol2) [1, 2, 3, 4, 5, 6, 0] rfl)
  have hb1273 : ∀ (k28 : Nat → Wd → Nat → Nat → Nat → Nat → Int32 → Option Unit), (∀ (j : Nat) (w : Wd) (l1 : Nat) (l2 : Nat) (l3 : Nat) (l4 : Nat) (l5 : Int32) (ol1 : okF F l1 8) (ol2 : okF F l2 9) (ol3 : okF F l3 12) (ol4 : okF F l4 16), BD g G F 9 qv (689 + j) (6140368 + 6 * j) (k28 j w l1 l2 l3 l4 l5) w 28 [(0, .ref b9), (1, .ref l1), (2, .ref l2), (3, .ref l3), (4, .ref l4), (5, .int l5)] []) → ∀  (j : Nat) (w : Wd) (l1 : Nat) (l2 : Nat) (l3 : Nat) (l4 : Nat) (l5 : Int32) (cj : j < 600) (ol1 : okF F l1 8) (ol2 : okF F l2 9) (ol3 : okF F l3 12) (ol4 : okF F l4 16), BD g G F 9 qv (689 + j) (6140368 + 6 * j) (fL_law_1273 F N L xs k28 j w l1 l2 l3 l4 l5) w 1273 [(0, .ref b9), (1, .ref l1), (2, .ref l2), (3, .ref l3), (4, .ref l4), (5, .int l5)] [] := by
    intro k28 hk28
    intro j w l1 l2 l3 l4 l5 cj ol1 ol2 ol3 ol4
    unfold fL_law_1273
    refine bd_aload_n C 1 dL_law_1273 rfl rfl ?_
    refine bd_aload_n C 0 dL_law_1274 rfl rfl ?_
    refine bd_iload C 5 dL_law_1275 rfl ?_
    refine bd_iconst C (v := 1) dL_law_1277 (by decide) ?_
    refine bd_iadd C dL_law_1278 ?_
    refine bd_sld C hsx dL_law_1279 (fun x212 => ?_)
    refine bd_if_eq C 1287 dL_law_1280 (by decide) (fun c213 => ?_) (fun c213 => ?_)
    · refine bd_iconst C (v := 0) dL_law_1287 (by decide) ?_
      exact bd_wide (by omega) (by omega) (bd_sub (hb1288 _ hk28 j w l1 l2 l3 l4 l5 l1 0 cj ol1 ol2 ol3 ol4 ol1) [0, 1, 2, 3, 4, 5] rfl)
    · refine bd_iconst C (v := 1) dL_law_1283 (by decide) ?_
      refine bd_goto C 1288 dL_law_1284 (by decide) ?_
      exact bd_wide (by omega) (by omega) (bd_sub (hb1288 _ hk28 j w l1 l2 l3 l4 l5 l1 1 cj ol1 ol2 ol3 ol4 ol1) [0, 1, 2, 3, 4, 5] rfl)
  have hb28 : ∀ (n : Nat) (j : Nat) (w : Wd) (l1 : Nat) (l2 : Nat) (l3 : Nat) (l4 : Nat) (l5 : Int32) (ol1 : okF F l1 8) (ol2 : okF F l2 9) (ol3 : okF F l3 12) (ol4 : okF F l4 16), BD g G F 9 qv (689 + j) (6140368 + 6 * j) (fL_law_28 F N L xs n j w l1 l2 l3 l4 l5) w 28 [(0, .ref b9), (1, .ref l1), (2, .ref l2), (3, .ref l3), (4, .ref l4), (5, .int l5)] [] := by
    intro n
    induction n with
    | zero =>
      intro j w l1 l2 l3 l4 l5 ol1 ol2 ol3 ol4
      unfold fL_law_28
      exact bd_none
    | succ n ih =>
      intro j w l1 l2 l3 l4 l5 ol1 ol2 ol3 ol4
      unfold fL_law_28
      refine bd_ckJ (fun cj => ?_)
      refine bd_iload C 5 dL_law_28 rfl ?_
      refine bd_aload_n C 0 dL_law_30 rfl rfl ?_
      refine bd_slen C hsx dL_law_31 ?_
      refine bd_iconst C (v := 5) dL_law_32 (by decide) ?_
      refine bd_isub C dL_law_33 ?_
      refine bd_icmp_gt C 2256 dL_law_34 (by decide) (fun c1 => ?_) (fun c1 => ?_)
      · refine bd_iconst C (v := 1) dL_law_2256 (by decide) ?_
        exact hret9 (by omega) (by omega) dL_law_2257
      · refine bd_aload_n C 0 dL_law_37 rfl rfl ?_
        refine bd_iload C 5 dL_law_38 rfl ?_
        refine bd_sld C hsx dL_law_40 (fun x2 => ?_)
        refine bd_bipush C (v := 63) dL_law_41 (by decide) ?_
        refine bd_iand C dL_law_43 ?_
        refine bd_ite (fun c3 => ?_) (fun c3 => ?_)
        · refine bd_tableIn C (off := 148) 192 dL_law_44 (by rw [c3]; decide) (by rw [c3]; decide) (by rw [c3]; rfl) (by decide) ?_
          exact bd_wide (by omega) (by omega) (bd_sub (hb192 _ ih j w l1 l2 l3 l4 l5 cj ol1 ol2 ol3 ol4) [0, 1, 2, 3, 4, 5] rfl)
        · refine bd_ite (fun c4 => ?_) (fun c4 => ?_)
          · refine bd_tableIn C (off := 161) 205 dL_law_44 (by rw [c4]; decide) (by rw [c4]; decide) (by rw [c4]; rfl) (by decide) ?_
            exact bd_wide (by omega) (by omega) (bd_sub (hb205 _ ih j w l1 l2 l3 l4 l5 cj ol1 ol2 ol3 ol4) [0, 1, 2, 3, 4, 5] rfl)
          · refine bd_ite (fun c5 => ?_) (fun c5 => ?_)
            · refine bd_tableIn C (off := 241) 285 dL_law_44 (by rw [c5]; decide) (by rw [c5]; decide) (by rw [c5]; rfl) (by decide) ?_
              exact bd_wide (by omega) (by omega) (bd_sub (hb285 _ ih j w l1 l2 l3 l4 l5 cj ol1 ol2 ol3 ol4) [0, 1, 2, 3, 4, 5] rfl)
            · refine bd_ite (fun c6 => ?_) (fun c6 => ?_)
              · refine bd_tableIn C (off := 297) 341 dL_law_44 (by rw [c6]; decide) (by rw [c6]; decide) (by rw [c6]; rfl) (by decide) ?_
                exact bd_wide (by omega) (by omega) (bd_sub (hb341 _ ih j w l1 l2 l3 l4 l5 cj ol1 ol2 ol3 ol4) [0, 1, 2, 3, 4, 5] rfl)
              · refine bd_ite (fun c7 => ?_) (fun c7 => ?_)
                · refine bd_tableIn C (off := 365) 409 dL_law_44 (by rw [c7]; decide) (by rw [c7]; decide) (by rw [c7]; rfl) (by decide) ?_
                  exact bd_wide (by omega) (by omega) (bd_sub (hb409 _ ih j w l1 l2 l3 l4 l5 cj ol1 ol2 ol3 ol4) [0, 1, 2, 3, 4, 5] rfl)
                · refine bd_ite (fun c8 => ?_) (fun c8 => ?_)
                  · refine bd_tableIn C (off := 433) 477 dL_law_44 (by rw [c8]; decide) (by rw [c8]; decide) (by rw [c8]; rfl) (by decide) ?_
                    exact bd_wide (by omega) (by omega) (bd_sub (hb477 _ ih j w l1 l2 l3 l4 l5 cj ol1 ol2 ol3 ol4) [0, 1, 2, 3, 4, 5] rfl)
                  · refine bd_ite (fun c9 => ?_) (fun c9 => ?_)
                    · refine bd_tableIn C (off := 489) 533 dL_law_44 (by rw [c9]; decide) (by rw [c9]; decide) (by rw [c9]; rfl) (by decide) ?_
                      exact bd_wide (by omega) (by omega) (bd_sub (hb533 _ ih j w l1 l2 l3 l4 l5 cj ol1 ol2 ol3 ol4) [0, 1, 2, 3, 4, 5] rfl)
                    · refine bd_ite (fun c10 => ?_) (fun c10 => ?_)
                      · refine bd_tableIn C (off := 545) 589 dL_law_44 (by rw [c10]; decide) (by rw [c10]; decide) (by rw [c10]; rfl) (by decide) ?_
                        exact bd_wide (by omega) (by omega) (bd_sub (hb589 _ ih j w l1 l2 l3 l4 l5 cj ol1 ol2 ol3 ol4) [0, 1, 2, 3, 4, 5] rfl)
                      · refine bd_ite (fun c11 => ?_) (fun c11 => ?_)
                        · refine bd_tableIn C (off := 625) 669 dL_law_44 (by rw [c11]; decide) (by rw [c11]; decide) (by rw [c11]; rfl) (by decide) ?_
                          exact bd_wide (by omega) (by omega) (bd_sub (hb669 _ ih j w l1 l2 l3 l4 l5 cj ol1 ol2 ol3 ol4) [0, 1, 2, 3, 4, 5] rfl)
                        · refine bd_ite (fun c12 => ?_) (fun c12 => ?_)
                          · refine bd_tableIn C (off := 693) 737 dL_law_44 (by rw [c12]; decide) (by rw [c12]; decide) (by rw [c12]; rfl) (by decide) ?_
                            exact bd_wide (by omega) (by omega) (bd_sub (hb737 _ ih j w l1 l2 l3 l4 l5 cj ol1 ol2 ol3 ol4) [0, 1, 2, 3, 4, 5] rfl)
                          · refine bd_ite (fun c13 => ?_) (fun c13 => ?_)
                            · refine bd_tableIn C (off := 785) 829 dL_law_44 (by rw [c13]; decide) (by rw [c13]; decide) (by rw [c13]; rfl) (by decide) ?_
                              exact bd_wide (by omega) (by omega) (bd_sub (hb829 _ ih j w l1 l2 l3 l4 l5 cj ol1 ol2 ol3 ol4) [0, 1, 2, 3, 4, 5] rfl)
                            · refine bd_ite (fun c14 => ?_) (fun c14 => ?_)
                              · refine bd_tableIn C (off := 853) 897 dL_law_44 (by rw [c14]; decide) (by rw [c14]; decide) (by rw [c14]; rfl) (by decide) ?_
                                exact bd_wide (by omega) (by omega) (bd_sub (hb897 _ ih j w l1 l2 l3 l4 l5 cj ol1 ol2 ol3 ol4) [0, 1, 2, 3, 4, 5] rfl)
                              · refine bd_ite (fun c15 => ?_) (fun c15 => ?_)
                                · refine bd_tableIn C (off := 933) 977 dL_law_44 (by rw [c15]; decide) (by rw [c15]; decide) (by rw [c15]; rfl) (by decide) ?_
                                  exact bd_wide (by omega) (by omega) (bd_sub (hb977 _ ih j w l1 l2 l3 l4 l5 cj ol1 ol2 ol3 ol4) [0, 1, 2, 3, 4, 5] rfl)
                                · refine bd_ite (fun c16 => ?_) (fun c16 => ?_)
                                  · refine bd_tableIn C (off := 1001) 1045 dL_law_44 (by rw [c16]; decide) (by rw [c16]; decide) (by rw [c16]; rfl) (by decide) ?_
                                    exact bd_wide (by omega) (by omega) (bd_sub (hb1045 _ ih j w l1 l2 l3 l4 l5 cj ol1 ol2 ol3 ol4) [0, 1, 2, 3, 4, 5] rfl)
                                  · refine bd_ite (fun c17 => ?_) (fun c17 => ?_)
                                    · refine bd_tableIn C (off := 1081) 1125 dL_law_44 (by rw [c17]; decide) (by rw [c17]; decide) (by rw [c17]; rfl) (by decide) ?_
                                      exact bd_wide (by omega) (by omega) (bd_sub (hb1125 _ ih j w l1 l2 l3 l4 l5 cj ol1 ol2 ol3 ol4) [0, 1, 2, 3, 4, 5] rfl)
                                    · refine bd_ite (fun c18 => ?_) (fun c18 => ?_)
                                      · refine bd_tableIn C (off := 1161) 1205 dL_law_44 (by rw [c18]; decide) (by rw [c18]; decide) (by rw [c18]; rfl) (by decide) ?_
                                        exact bd_wide (by omega) (by omega) (bd_sub (hb1205 _ ih j w l1 l2 l3 l4 l5 cj ol1 ol2 ol3 ol4) [0, 1, 2, 3, 4, 5] rfl)
                                      · refine bd_ite (fun c19 => ?_) (fun c19 => ?_)
                                        · refine bd_tableIn C (off := 1229) 1273 dL_law_44 (by rw [c19]; decide) (by rw [c19]; decide) (by rw [c19]; rfl) (by decide) ?_
                                          exact bd_wide (by omega) (by omega) (bd_sub (hb1273 _ ih j w l1 l2 l3 l4 l5 cj ol1 ol2 ol3 ol4) [0, 1, 2, 3, 4, 5] rfl)
                                        · refine bd_ite (fun c20 => ?_) (fun c20 => ?_)
                                          · refine bd_tableIn C (off := 1301) 1345 dL_law_44 (by rw [c20]; decide) (by rw [c20]; decide) (by rw [c20]; rfl) (by decide) ?_
                                            exact bd_wide (by omega) (by omega) (bd_sub (hb1345 _ ih j w l1 l2 l3 l4 l5 cj ol1 ol2 ol3 ol4) [0, 1, 2, 3, 4, 5] rfl)
                                          · refine bd_ite (fun c21 => ?_) (fun c21 => ?_)
                                            · refine bd_tableIn C (off := 1381) 1425 dL_law_44 (by rw [c21]; decide) (by rw [c21]; decide) (by rw [c21]; rfl) (by decide) ?_
                                              exact bd_wide (by omega) (by omega) (bd_sub (hb1425 _ ih j w l1 l2 l3 l4 l5 cj ol1 ol2 ol3 ol4) [0, 1, 2, 3, 4, 5] rfl)
                                            · refine bd_ite (fun c22 => ?_) (fun c22 => ?_)
                                              · refine bd_tableIn C (off := 1477) 1521 dL_law_44 (by rw [c22]; decide) (by rw [c22]; decide) (by rw [c22]; rfl) (by decide) ?_
                                                exact bd_wide (by omega) (by omega) (bd_sub (hb1521 _ ih j w l1 l2 l3 l4 l5 cj ol1 ol2 ol3 ol4) [0, 1, 2, 3, 4, 5] rfl)
                                              · refine bd_ite (fun c23 => ?_) (fun c23 => ?_)
                                                · refine bd_tableIn C (off := 1521) 1565 dL_law_44 (by rw [c23]; decide) (by rw [c23]; decide) (by rw [c23]; rfl) (by decide) ?_
                                                  exact bd_wide (by omega) (by omega) (bd_sub (hb1565 _ ih j w l1 l2 l3 l4 l5 cj ol1 ol2 ol3 ol4) [0, 1, 2, 3, 4, 5] rfl)
                                                · refine bd_ite (fun c24 => ?_) (fun c24 => ?_)
                                                  · refine bd_tableIn C (off := 1589) 1633 dL_law_44 (by rw [c24]; decide) (by rw [c24]; decide) (by rw [c24]; rfl) (by decide) ?_
                                                    exact bd_wide (by omega) (by omega) (bd_sub (hb1633 _ ih j w l1 l2 l3 l4 l5 cj ol1 ol2 ol3 ol4) [0, 1, 2, 3, 4, 5] rfl)
                                                  · refine bd_ite (fun c25 => ?_) (fun c25 => ?_)
                                                    · refine bd_tableIn C (off := 1657) 1701 dL_law_44 (by rw [c25]; decide) (by rw [c25]; decide) (by rw [c25]; rfl) (by decide) ?_
                                                      exact bd_wide (by omega) (by omega) (bd_sub (hb1701 _ ih j w l1 l2 l3 l4 l5 cj ol1 ol2 ol3 ol4) [0, 1, 2, 3, 4, 5] rfl)
                                                    · refine bd_ite (fun c26 => ?_) (fun c26 => ?_)
                                                      · refine bd_tableIn C (off := 1737) 1781 dL_law_44 (by rw [c26]; decide) (by rw [c26]; decide) (by rw [c26]; rfl) (by decide) ?_
                                                        exact bd_wide (by omega) (by omega) (bd_sub (hb1781 _ ih j w l1 l2 l3 l4 l5 cj ol1 ol2 ol3 ol4) [0, 1, 2, 3, 4, 5] rfl)
                                                      · refine bd_ite (fun c27 => ?_) (fun c27 => ?_)
                                                        · refine bd_tableIn C (off := 1805) 1849 dL_law_44 (by rw [c27]; decide) (by rw [c27]; decide) (by rw [c27]; rfl) (by decide) ?_
                                                          exact bd_wide (by omega) (by omega) (bd_sub (hb1849 _ ih j w l1 l2 l3 l4 l5 cj ol1 ol2 ol3 ol4) [0, 1, 2, 3, 4, 5] rfl)
                                                        · refine bd_ite (fun c28 => ?_) (fun c28 => ?_)
                                                          · refine bd_tableIn C (off := 1883) 1927 dL_law_44 (by rw [c28]; decide) (by rw [c28]; decide) (by rw [c28]; rfl) (by decide) ?_
                                                            exact bd_wide (by omega) (by omega) (bd_sub (hb1927 _ ih j w l1 l2 l3 l4 l5 cj ol1 ol2 ol3 ol4) [0, 1, 2, 3, 4, 5] rfl)
                                                          · refine bd_ite (fun c29 => ?_) (fun c29 => ?_)
                                                            · refine bd_tableIn C (off := 1960) 2004 dL_law_44 (by rw [c29]; decide) (by rw [c29]; decide) (by rw [c29]; rfl) (by decide) ?_
                                                              exact bd_wide (by omega) (by omega) (bd_sub (hb2004 _ ih j w l1 l2 l3 l4 l5 cj ol1 ol2 ol3 ol4) [0, 1, 2, 3, 4, 5] rfl)
                                                            · refine bd_ite (fun c30 => ?_) (fun c30 => ?_)
                                                              · refine bd_tableIn C (off := 1973) 2017 dL_law_44 (by rw [c30]; decide) (by rw [c30]; decide) (by rw [c30]; rfl) (by decide) ?_
                                                                exact bd_wide (by omega) (by omega) (bd_sub (hb2017 _ ih j w l1 l2 l3 l4 l5 cj ol1 ol2 ol3 ol4) [0, 1, 2, 3, 4, 5] rfl)
                                                              · refine bd_ite (fun c31 => ?_) (fun c31 => ?_)
                                                                · refine bd_tableIn C (off := 2017) 2061 dL_law_44 (by rw [c31]; decide) (by rw [c31]; decide) (by rw [c31]; rfl) (by decide) ?_
                                                                  exact bd_wide (by omega) (by omega) (bd_sub (hb2061 _ ih j w l1 l2 l3 l4 l5 cj ol1 ol2 ol3 ol4) [0, 1, 2, 3, 4, 5] rfl)
                                                                · refine bd_ite (fun c32 => ?_) (fun c32 => ?_)
                                                                  · refine bd_tableIn C (off := 2061) 2105 dL_law_44 (by rw [c32]; decide) (by rw [c32]; decide) (by rw [c32]; rfl) (by decide) ?_
                                                                    exact bd_wide (by omega) (by omega) (bd_sub (hb2105 _ ih j w l1 l2 l3 l4 l5 cj ol1 ol2 ol3 ol4) [0, 1, 2, 3, 4, 5] rfl)
                                                                  · refine bd_ite (fun c33 => ?_) (fun c33 => ?_)
                                                                    · refine bd_tableIn C (off := 2105) 2149 dL_law_44 (by rw [c33]; decide) (by rw [c33]; decide) (by rw [c33]; rfl) (by decide) ?_
                                                                      exact bd_wide (by omega) (by omega) (bd_sub (hb2149 _ ih j w l1 l2 l3 l4 l5 cj ol1 ol2 ol3 ol4) [0, 1, 2, 3, 4, 5] rfl)
                                                                    · refine bd_ite (fun c34 => ?_) (fun c34 => ?_)
                                                                      · refine bd_tableIn C (off := 2149) 2193 dL_law_44 (by rw [c34]; decide) (by rw [c34]; decide) (by rw [c34]; rfl) (by decide) ?_
                                                                        exact bd_wide (by omega) (by omega) (bd_sub (hb2193 _ ih j w l1 l2 l3 l4 l5 cj ol1 ol2 ol3 ol4) [0, 1, 2, 3, 4, 5] rfl)
                                                                      · refine bd_ite (fun c35 => ?_) (fun c35 => ?_)
                                                                        · refine bd_tableIn C (off := 2162) 2206 dL_law_44 (by rw [c35]; decide) (by rw [c35]; decide) (by rw [c35]; rfl) (by decide) ?_
                                                                          exact bd_wide (by omega) (by omega) (bd_sub (hb2206 _ ih j w l1 l2 l3 l4 l5 cj ol1 ol2 ol3 ol4) [0, 1, 2, 3, 4, 5] rfl)
                                                                        · refine bd_tableOut C 2250 dL_law_44 (tbl_out 33 _ (fun j hj => by match j, hj with | 0, _ => exact c3 | 1, _ => exact c4 | 2, _ => exact c5 | 3, _ => exact c6 | 4, _ => exact c7 | 5, _ => exact c8 | 6, _ => exact c9 | 7, _ => exact c10 | 8, _ => exact c11 | 9, _ => exact c12 | 10, _ => exact c13 | 11, _ => exact c14 | 12, _ => exact c15 | 13, _ => exact c16 | 14, _ => exact c17 | 15, _ => exact c18 | 16, _ => exact c19 | 17, _ => exact c20 | 18, _ => exact c21 | 19, _ => exact c22 | 20, _ => exact c23 | 21, _ => exact c24 | 22, _ => exact c25 | 23, _ => exact c26 | 24, _ => exact c27 | 25, _ => exact c28 | 26, _ => exact c29 | 27, _ => exact c30 | 28, _ => exact c31 | 29, _ => exact c32 | 30, _ => exact c33 | 31, _ => exact c34 | 32, _ => exact c35 | j + 33, h9 => exact absurd h9 (by omega)) (by decide)) (by decide) ?_
                                                                          exact bd_wide (by omega) (by omega) (bd_sub (hb2250 _ ih j w l1 l2 l3 l4 l5 cj ol1 ol2 ol3 ol4) [0, 1, 2, 3, 4, 5] rfl)
  exact hb28
