abbrev rmX5_readFrom : Room := { frames := 15, cells := 0, slots := 0, locals := 414 }
abbrev qX5_readFrom (G : Gy) (F : Fr) (g : Bd) : (Int32 × Wd) → State → Prop := fun r => QM G F g 0 0 ((fun (r : Int32 × Wd) => some (.int r.1)) r) ((fun (r : Int32 × Wd) => r.2) r)
set_option maxRecDepth 20000 in
set_option maxHeartbeats 4000000 in
theorem mX5_readFrom {l : Launch} (hf9 : l.stackTraces = false) {G : Gy} {F : Fr} (N : Nat) {w : Wd} {l0 : Nat} {l1 : Nat} {l2 : Nat} {r : Int32 × Wd} (ol0 : okF F l0 5) (ol1 : okF F l1 3) (ol2 : okF F l2 1) (e9 : fX5_readFrom F N w l0 l1 l2 = some r) : Met l yX5_readFrom [.code yX5_readFrom cX5_readFrom 4 (some .boolean)] rmX5_readFrom (PcB G F w [.ref l0, .ref l1, .ref l2]) (QB G F ((fun (r : Int32 × Wd) => some (.int r.1)) r) ((fun (r : Int32 × Wd) => r.2) r)) 0 0 (AF F) := by
  refine bd_met (vs := fun (r : Int32 × Wd) => some (.int r.1)) (wf := fun (r : Int32 × Wd) => r.2) hf9 (by decide) (Nat.le_of_ble_eq_true rfl) e9 (fun g C hret hini => ?_)
  clear e9 r
  have hb11 : ∀ (n : Nat) (w : Wd) (l0 : Nat) (l1 : Nat) (l2 : Nat) (l3 : Int32) (ol0 : okF F l0 5) (ol1 : okF F l1 3) (ol2 : okF F l2 1), BD g G F 4 (qX5_readFrom G F g) 0 0 (fX5_readFrom_11 F N n w l0 l1 l2 l3) w 11 [(0, .ref l0), (1, .ref l1), (2, .ref l2), (3, .int l3)] [] := by
    intro n
    induction n with
    | zero =>
      intro w l0 l1 l2 l3 ol0 ol1 ol2
      unfold fX5_readFrom_11
      exact bd_none
    | succ n ih =>
      intro w l0 l1 l2 l3 ol0 ol1 ol2
      unfold fX5_readFrom_11
      refine bd_iload_n C 3 dX5_readFrom_11 rfl rfl ?_
      refine bd_iconst C (v := 4) dX5_readFrom_12 (by decide) ?_
      refine bd_icmp_ge C 63 dX5_readFrom_13 (by decide) (fun c1 => ?_) (fun c1 => ?_)
      · refine bd_iconst C (v := 0) dX5_readFrom_63 (by decide) ?_
        exact bd_zret C hret rfl _ _ rfl rfl rfl dX5_readFrom_64 (Nat.le_refl _) (Nat.le_refl _)
      · refine bd_aload_n C 0 dX5_readFrom_16 rfl rfl ?_
        refine bd_aload_n C 1 dX5_readFrom_17 rfl rfl ?_
        refine bd_aload_n C 2 dX5_readFrom_18 rfl rfl ?_
        refine bd_iload_n C 3 dX5_readFrom_19 rfl rfl ?_
        refine bd_callV (vs := fun (r : Int32 × Wd) => some (.int r.1)) (wf := fun (r : Int32 × Wd) => r.2) (st := []) (st1 := fun p2 => Value.int p2.1 :: []) C [.ref l1, .ref l2, .int l3] (fun r9 e9 => mX5_readPart C.flag N ol0 ol1 ol2 e9) mwX5_readPart miX5_readPart wd_986 ol0 (by decide) rfl rfl rfl (Nat.le_of_ble_eq_true rfl) dX5_readFrom_20 ⟨rfl, rfl, Nat.le_of_ble_eq_true rfl, Nat.le_of_ble_eq_true rfl, Nat.le_of_ble_eq_true rfl, Nat.le_of_ble_eq_true rfl⟩ (fun _ => rfl) (fun p2 ep2 => ?_)
        refine bd_if_ne C 28 dX5_readFrom_23 (by decide) (fun c3 => ?_) (fun c3 => ?_)
        · refine bd_aload_n C 0 dX5_readFrom_28 rfl rfl ?_
          refine bd_iload_n C 3 dX5_readFrom_29 rfl rfl ?_
          refine bd_iconst C (v := 1) dX5_readFrom_30 (by decide) ?_
          refine bd_iadd C dX5_readFrom_31 ?_
          refine bd_pI C fi506 ftX5 fu506 wd_320 rfl rfl rfl dX5_readFrom_32 ol0 (fun w4 => ?_)
          refine bd_aload_n C 1 dX5_readFrom_35 rfl rfl ?_
          refine bd_callV (vs := fun (r : Int32) => some (.int r)) (wf := fun _ => w4) (st := []) (st1 := fun x5 => Value.int x5 :: []) C [] (fun r9 e9 => mX3_isAtEnd C.flag N ol1 e9) mwX3_isAtEnd miX3_isAtEnd wd_1000 ol1 (by decide) rfl rfl rfl (Nat.le_of_ble_eq_true rfl) dX5_readFrom_36 ⟨rfl, rfl, Nat.le_of_ble_eq_true rfl, Nat.le_of_ble_eq_true rfl, Nat.le_of_ble_eq_true rfl, Nat.le_of_ble_eq_true rfl⟩ (fun _ => rfl) (fun x5 ex5 => ?_)
          refine bd_if_eq C 44 dX5_readFrom_39 (by decide) (fun c6 => ?_) (fun c6 => ?_)
          · refine bd_aload_n C 0 dX5_readFrom_44 rfl rfl ?_
            refine bd_aload_n C 1 dX5_readFrom_45 rfl rfl ?_
            refine bd_iload_n C 3 dX5_readFrom_46 rfl rfl ?_
            refine bd_iconst C (v := 1) dX5_readFrom_47 (by decide) ?_
            refine bd_iadd C dX5_readFrom_48 ?_
            refine bd_callV (vs := fun (r : Int32 × Wd) => some (.int r.1)) (wf := fun (r : Int32 × Wd) => r.2) (st := []) (st1 := fun p7 => Value.int p7.1 :: []) C [.ref l1, .int (l3 + 1)] (fun r9 e9 => mX5_readLink C.flag N ol0 ol1 e9) mwX5_readLink miX5_readLink wd_1001 ol0 (by decide) rfl rfl rfl (Nat.le_of_ble_eq_true rfl) dX5_readFrom_49 ⟨rfl, rfl, Nat.le_of_ble_eq_true rfl, Nat.le_of_ble_eq_true rfl, Nat.le_of_ble_eq_true rfl, Nat.le_of_ble_eq_true rfl⟩ (fun _ => rfl) (fun p7 ep7 => ?_)
            refine bd_if_ne C 57 dX5_readFrom_52 (by decide) (fun c8 => ?_) (fun c8 => ?_)
            · refine bd_iinc C (v := l3 + 1) 3 [(3, .int (l3 + 1)), (0, .ref l0), (1, .ref l1), (2, .ref l2)] dX5_readFrom_57 rfl rfl (by decide) rfl ?_
              refine bd_goto C 11 dX5_readFrom_60 (by decide) ?_
              exact bd_sub (ih p7.2 l0 l1 l2 (l3 + 1) ol0 ol1 ol2) [1, 2, 3, 0] rfl
            · refine bd_iconst C (v := 0) dX5_readFrom_55 (by decide) ?_
              exact bd_zret C hret rfl _ _ rfl rfl rfl dX5_readFrom_56 (Nat.le_refl _) (Nat.le_refl _)
          · refine bd_iconst C (v := 1) dX5_readFrom_42 (by decide) ?_
            exact bd_zret C hret rfl _ _ rfl rfl rfl dX5_readFrom_43 (Nat.le_refl _) (Nat.le_refl _)
        · refine bd_iconst C (v := 0) dX5_readFrom_26 (by decide) ?_
          exact bd_zret C hret rfl _ _ rfl rfl rfl dX5_readFrom_27 (Nat.le_refl _) (Nat.le_refl _)
  unfold fX5_readFrom
  refine bd_sub (lv' := [(0, .ref l0), (1, .ref l1), (2, .ref l2)]) ?_ [0, 1, 2] rfl
  refine bd_aload_n C 1 dX5_readFrom_0 rfl rfl ?_
  refine bd_callV (vs := fun _ => none) (wf := fun (r : Wd) => r) (st := []) (st1 := fun p9 => []) C [] (fun r9 e9 => mX3_restart C.flag N ol1 e9) mwX3_restart miX3_restart wd_985 ol1 (by decide) rfl rfl rfl (Nat.le_of_ble_eq_true rfl) dX5_readFrom_1 ⟨rfl, rfl, Nat.le_of_ble_eq_true rfl, Nat.le_of_ble_eq_true rfl, Nat.le_of_ble_eq_true rfl, Nat.le_of_ble_eq_true rfl⟩ (fun _ => rfl) (fun p9 ep9 => ?_)
  refine bd_aload_n C 0 dX5_readFrom_4 rfl rfl ?_
  refine bd_iconst C (v := 0) dX5_readFrom_5 (by decide) ?_
  refine bd_pI C fi506 ftX5 fu506 wd_320 rfl rfl rfl dX5_readFrom_6 ol0 (fun w10 => ?_)
  refine bd_iconst C (v := 0) dX5_readFrom_9 (by decide) ?_
  refine bd_istore_n C [(3, .int 0), (0, .ref l0), (1, .ref l1), (2, .ref l2)] dX5_readFrom_10 rfl (by decide) rfl ?_
  exact bd_sub (hb11 N w10 l0 l1 l2 0 ol0 ol1 ol2) [1, 2, 3, 0] rfl
abbrev rmX5_rowOf : Room := { frames := 12, cells := 0, slots := 0, locals := 345 }
abbrev qX5_rowOf (G : Gy) (F : Fr) (g : Bd) (w : Wd) : Nat → State → Prop := fun r => QM G F g 0 0 ((fun (r : Nat) => some (.ref r)) r) ((fun _ => w) r)
set_option maxRecDepth 20000 in
set_option maxHeartbeats 4000000 in
theorem mX5_rowOf {l : Launch} (hf9 : l.stackTraces = false) {G : Gy} {F : Fr} (N : Nat) {w : Wd} {l0 : Nat} {l1 : Nat} {l2 : Int32} {r : Nat} (ol0 : okF F l0 5) (ol1 : okF F l1 1) (e9 : fX5_rowOf F N w l0 l1 l2 = some r) : Met l yX5_rowOf [.code yX5_rowOf cX5_rowOf 4 (some (.object "LessonTiers$Row"))] rmX5_rowOf (PcB G F w [.ref l0, .ref l1, .int l2]) (QB G F ((fun (r : Nat) => some (.ref r)) r) ((fun _ => w) r)) 0 0 (AF F) := by
  refine bd_met (vs := fun (r : Nat) => some (.ref r)) (wf := fun _ => w) hf9 (by decide) (Nat.le_of_ble_eq_true rfl) e9 (fun g C hret hini => ?_)
  clear e9 r
  have hb9 : ∀  (l0 : Nat) (ol0 : okF F l0 5), BD g G F 4 (qX5_rowOf G F g w) 0 0 (fX5_rowOf_9 F N w l0) w 9 [(0, .ref l0)] [] := by
    intro l0 ol0
    unfold fX5_rowOf_9
    refine bd_aload_n C 0 dX5_rowOf_9 rfl rfl ?_
    refine bd_gR C fi505 fv505 wd_319 dX5_rowOf_10 ol0 (fun r1 gr1 hr1 => ?_)
    exact bd_aret C hret rfl _ _ rfl rfl dX5_rowOf_13 (Nat.le_refl _) (Nat.le_refl _)
  have hb51 : ∀  (l0 : Nat) (ol0 : okF F l0 5), BD g G F 4 (qX5_rowOf G F g w) 0 0 (fX5_rowOf_51 F N w l0) w 51 [(0, .ref l0)] [] := by
    intro l0 ol0
    unfold fX5_rowOf_51
    refine bd_aload_n C 0 dX5_rowOf_51 rfl rfl ?_
    refine bd_gR C fi505 fv505 wd_319 dX5_rowOf_52 ol0 (fun r2 gr2 hr2 => ?_)
    exact bd_aret C hret rfl _ _ rfl rfl dX5_rowOf_55 (Nat.le_refl _) (Nat.le_refl _)
  unfold fX5_rowOf
  refine bd_sub (lv' := [(0, .ref l0), (1, .ref l1), (2, .int l2)]) ?_ [0, 1, 2] rfl
  refine bd_iload_n C 2 dX5_rowOf_0 rfl rfl ?_
  refine bd_if_lt C 9 dX5_rowOf_1 (by decide) (fun c3 => ?_) (fun c3 => ?_)
  · exact bd_sub (hb9 l0 ol0) [0] rfl
  · refine bd_iload_n C 2 dX5_rowOf_4 rfl rfl ?_
    refine bd_iconst C (v := 4) dX5_rowOf_5 (by decide) ?_
    refine bd_icmp_lt C 14 dX5_rowOf_6 (by decide) (fun c4 => ?_) (fun c4 => ?_)
    · refine bd_aload_n C 0 dX5_rowOf_14 rfl rfl ?_
      refine bd_gR C fi500 fv500 wd_314 dX5_rowOf_15 ol0 (fun r5 gr5 hr5 => ?_)
      refine bd_iload_n C 2 dX5_rowOf_18 rfl rfl ?_
      refine bd_iald C dX5_rowOf_19 hr5 (fun x6 => ?_)
      refine bd_istore_n C [(3, .int x6), (0, .ref l0), (1, .ref l1), (2, .int l2)] dX5_rowOf_20 rfl (by decide) rfl ?_
      refine bd_aload_n C 2 dX5_rowOf_21 rfl rfl ?_
      refine bd_iload_n C 0 dX5_rowOf_22 rfl rfl ?_
      refine bd_callV (vs := fun (r : Int32) => some (.int r)) (wf := fun _ => w) (st := []) (st1 := fun x7 => Value.int x7 :: []) C [.int x6] (fun r9 e9 => mX1_hasTier C.flag N ol1 e9) mwX1_hasTier miX1_hasTier wd_1013 ol1 (by decide) rfl rfl rfl (Nat.le_of_ble_eq_true rfl) dX5_rowOf_23 ⟨rfl, rfl, Nat.le_of_ble_eq_true rfl, Nat.le_of_ble_eq_true rfl, Nat.le_of_ble_eq_true rfl, Nat.le_of_ble_eq_true rfl⟩ (fun _ => rfl) (fun x7 ex7 => ?_)
      refine bd_if_eq C 51 dX5_rowOf_26 (by decide) (fun c8 => ?_) (fun c8 => ?_)
      · exact bd_sub (hb51 l0 ol0) [1] rfl
      · refine bd_aload_n C 2 dX5_rowOf_29 rfl rfl ?_
        refine bd_iload_n C 0 dX5_rowOf_30 rfl rfl ?_
        refine bd_callV (vs := fun (r : Int32) => some (.int r)) (wf := fun _ => w) (st := []) (st1 := fun x9 => Value.int x9 :: []) C [.int x6] (fun r9 e9 => mX1_kindOf C.flag N ol1 e9) mwX1_kindOf miX1_kindOf wd_998 ol1 (by decide) rfl rfl rfl (Nat.le_of_ble_eq_true rfl) dX5_rowOf_31 ⟨rfl, rfl, Nat.le_of_ble_eq_true rfl, Nat.le_of_ble_eq_true rfl, Nat.le_of_ble_eq_true rfl, Nat.le_of_ble_eq_true rfl⟩ (fun _ => rfl) (fun x9 ex9 => ?_)
        refine bd_aload_n C 1 dX5_rowOf_34 rfl rfl ?_
        refine bd_gR C fi501 fv501 wd_315 dX5_rowOf_35 ol0 (fun r10 gr10 hr10 => ?_)
        refine bd_iload_n C 3 dX5_rowOf_38 rfl rfl ?_
        refine bd_iald C dX5_rowOf_39 hr10 (fun x11 => ?_)
        refine bd_icmp_ne C 51 dX5_rowOf_40 (by decide) (fun c12 => ?_) (fun c12 => ?_)
        · exact bd_sub (hb51 l0 ol0) [1] rfl
        · refine bd_aload_n C 2 dX5_rowOf_43 rfl rfl ?_
          refine bd_iload_n C 0 dX5_rowOf_44 rfl rfl ?_
          refine bd_callV (vs := fun (r : Nat) => some (.ref r)) (wf := fun _ => w) (st := []) (st1 := fun x13 => Value.ref x13 :: []) C [.int x6] (fun r9 e9 => mX1_present C.flag N ol1 e9) mwX1_present miX1_present wd_1014 ol1 (by decide) rfl rfl rfl (Nat.le_of_ble_eq_true rfl) dX5_rowOf_45 ⟨rfl, rfl, Nat.le_of_ble_eq_true rfl, Nat.le_of_ble_eq_true rfl, Nat.le_of_ble_eq_true rfl, Nat.le_of_ble_eq_true rfl⟩ (fun _ => rfl) (fun x13 ex13 => ?_)
          refine bd_ckF (fun h14 => ?_)
          refine bd_goto C 55 dX5_rowOf_48 (by decide) ?_
          exact bd_aret C hret rfl _ _ rfl rfl dX5_rowOf_55 (Nat.le_refl _) (Nat.le_refl _)
    · exact bd_sub (hb9 l0 ol0) [0] rfl
abbrev rmX5_fits : Room := { frames := 11, cells := 0, slots := 0, locals := 321 }
abbrev qX5_fits (G : Gy) (F : Fr) (g : Bd) (w : Wd) : Int32 → State → Prop := fun r => QM G F g 0 0 ((fun (r : Int32) => some (.int r)) r) ((fun _ => w) r)
set_option maxRecDepth 20000 in
set_option maxHeartbeats 4000000 in
theorem mX5_fits {l : Launch} (hf9 : l.stackTraces = false) {G : Gy} {F : Fr} (N : Nat) {w : Wd} {l0 : Nat} {l1 : Nat} {l2 : Int32} {l3 : Int32} {r : Int32} (ol0 : okF F l0 5) (ol1 : okF F l1 7) (e9 : fX5_fits F N w l0 l1 l2 l3 = some r) : Met l yX5_fits [.code yX5_fits cX5_fits 5 (some .boolean)] rmX5_fits (PcB G F w [.ref l0, .ref l1, .int l2, .int l3]) (QB G F ((fun (r : Int32) => some (.int r)) r) ((fun _ => w) r)) 0 0 (AF F) := by
  refine bd_met (vs := fun (r : Int32) => some (.int r)) (wf := fun _ => w) hf9 (by decide) (Nat.le_of_ble_eq_true rfl) e9 (fun g C hret hini => ?_)
  clear e9 r
  have hb71 : BD g G F 5 (qX5_fits G F g w) 0 0 (fX5_fits_71 F N w) w 71 [] [] := by
    unfold fX5_fits_71
    refine bd_iconst C (v := 1) dX5_fits_71 (by decide) ?_
    refine bd_goto C 76 dX5_fits_72 (by decide) ?_
    exact bd_zret C hret rfl _ _ rfl rfl rfl dX5_fits_76 (Nat.le_refl _) (Nat.le_refl _)
  have hb38 : ∀  (l0 : Nat) (l1 : Nat) (l2 : Int32) (l3 : Int32) (s0 : Int32) (ol0 : okF F l0 5) (ol1 : okF F l1 7), BD g G F 5 (qX5_fits G F g w) 0 0 (fX5_fits_38 F N w l0 l1 l2 l3 s0) w 38 [(0, .ref l0), (1, .ref l1), (2, .int l2), (3, .int l3)] [.int s0] := by
    intro l0 l1 l2 l3 s0 ol0 ol1
    unfold fX5_fits_38
    refine bd_istore C [(4, .int s0), (0, .ref l0), (1, .ref l1), (2, .int l2), (3, .int l3)] dX5_fits_38 (by decide) rfl ?_
    refine bd_aload_n C 1 dX5_fits_40 rfl rfl ?_
    refine bd_gR C fi502 fv502 wd_316 dX5_fits_41 ol0 (fun r1 gr1 hr1 => ?_)
    refine bd_iload_n C 4 dX5_fits_44 rfl rfl ?_
    refine bd_lald C dX5_fits_45 hr1 (fun x2 => ?_)
    refine bd_lconst C (v := 0) dX5_fits_46 (by decide) ?_
    refine bd_lcmp C dX5_fits_47 ?_
    refine bd_if_eq C 71 dX5_fits_48 (by decide) (fun c3 => ?_) (fun c3 => ?_)
    · exact bd_sub (hb71) [] rfl
    · refine bd_aload_n C 1 dX5_fits_51 rfl rfl ?_
      refine bd_gR C fi502 fv502 wd_316 dX5_fits_52 ol0 (fun r4 gr4 hr4 => ?_)
      refine bd_iload_n C 4 dX5_fits_55 rfl rfl ?_
      refine bd_lald C dX5_fits_56 hr4 (fun x5 => ?_)
      refine bd_aload_n C 2 dX5_fits_57 rfl rfl ?_
      refine bd_iload_n C 3 dX5_fits_58 rfl rfl ?_
      refine bd_callV (vs := fun (r : Int64) => some (.long r)) (wf := fun _ => w) (st := [.long x5]) (st1 := fun x6 => Value.long x6 :: [.long x5]) C [.int l2] (fun r9 e9 => mX7_label C.flag N ol1 e9) mwX7_label miX7_label wd_1019 ol1 (by decide) rfl rfl rfl (Nat.le_of_ble_eq_true rfl) dX5_fits_59 ⟨rfl, rfl, Nat.le_of_ble_eq_true rfl, Nat.le_of_ble_eq_true rfl, Nat.le_of_ble_eq_true rfl, Nat.le_of_ble_eq_true rfl⟩ (fun _ => rfl) (fun x6 ex6 => ?_)
      refine bd_lcmp C dX5_fits_62 ?_
      refine bd_if_eq C 71 dX5_fits_63 (by decide) (fun c7 => ?_) (fun c7 => ?_)
      · exact bd_sub (hb71) [] rfl
      · refine bd_iload C 0 dX5_fits_66 rfl ?_
        refine bd_if_eq C 75 dX5_fits_68 (by decide) (fun c8 => ?_) (fun c8 => ?_)
        · refine bd_iconst C (v := 0) dX5_fits_75 (by decide) ?_
          exact bd_zret C hret rfl _ _ rfl rfl rfl dX5_fits_76 (Nat.le_refl _) (Nat.le_refl _)
        · exact bd_sub (hb71) [] rfl
  have hb37 : ∀  (l0 : Nat) (l1 : Nat) (l2 : Int32) (l3 : Int32) (ol0 : okF F l0 5) (ol1 : okF F l1 7), BD g G F 5 (qX5_fits G F g w) 0 0 (fX5_fits_37 F N w l0 l1 l2 l3) w 37 [(0, .ref l0), (1, .ref l1), (2, .int l2), (3, .int l3)] [] := by
    intro l0 l1 l2 l3 ol0 ol1
    unfold fX5_fits_37
    refine bd_iconst C (v := 0) dX5_fits_37 (by decide) ?_
    exact bd_sub (hb38 l0 l1 l2 l3 0 ol0 ol1) [0, 1, 2, 3] rfl
  unfold fX5_fits
  refine bd_sub (lv' := [(0, .ref l0), (1, .ref l1), (2, .int l2), (3, .int l3)]) ?_ [0, 1, 2, 3] rfl
  refine bd_iload_n C 3 dX5_fits_0 rfl rfl ?_
  refine bd_if_lt C 9 dX5_fits_1 (by decide) (fun c9 => ?_) (fun c9 => ?_)
  · refine bd_iconst C (v := 0) dX5_fits_9 (by decide) ?_
    exact bd_zret C hret rfl _ _ rfl rfl rfl dX5_fits_10 (Nat.le_refl _) (Nat.le_refl _)
  · refine bd_iload_n C 3 dX5_fits_4 rfl rfl ?_
    refine bd_iconst C (v := 4) dX5_fits_5 (by decide) ?_
    refine bd_icmp_lt C 11 dX5_fits_6 (by decide) (fun c10 => ?_) (fun c10 => ?_)
    · refine bd_aload_n C 0 dX5_fits_11 rfl rfl ?_
      refine bd_gR C fi501 fv501 wd_315 dX5_fits_12 ol0 (fun r11 gr11 hr11 => ?_)
      refine bd_iload_n C 3 dX5_fits_15 rfl rfl ?_
      refine bd_iald C dX5_fits_16 hr11 (fun x12 => ?_)
      refine bd_iconst C (v := 1) dX5_fits_17 (by decide) ?_
      refine bd_icmp_ne C 37 dX5_fits_18 (by decide) (fun c13 => ?_) (fun c13 => ?_)
      · exact bd_sub (hb37 l0 l1 l2 l3 ol0 ol1) [0, 1, 2, 3] rfl
      · refine bd_aload_n C 1 dX5_fits_21 rfl rfl ?_
        refine bd_iload_n C 2 dX5_fits_22 rfl rfl ?_
        refine bd_callV (vs := fun (r : Int64) => some (.long r)) (wf := fun _ => w) (st := []) (st1 := fun x14 => Value.long x14 :: []) C [.int l2] (fun r9 e9 => mX7_label C.flag N ol1 e9) mwX7_label miX7_label wd_1019 ol1 (by decide) rfl rfl rfl (Nat.le_of_ble_eq_true rfl) dX5_fits_23 ⟨rfl, rfl, Nat.le_of_ble_eq_true rfl, Nat.le_of_ble_eq_true rfl, Nat.le_of_ble_eq_true rfl, Nat.le_of_ble_eq_true rfl⟩ (fun _ => rfl) (fun x14 ex14 => ?_)
        refine bd_ldc2 C (v := 98) wd_1020 dX5_fits_26 ?_
        refine bd_lcmp C dX5_fits_29 ?_
        refine bd_if_ne C 37 dX5_fits_30 (by decide) (fun c15 => ?_) (fun c15 => ?_)
        · exact bd_sub (hb37 l0 l1 l2 l3 ol0 ol1) [0, 1, 2, 3] rfl
        · refine bd_iconst C (v := 1) dX5_fits_33 (by decide) ?_
          refine bd_goto C 38 dX5_fits_34 (by decide) ?_
          exact bd_sub (hb38 l0 l1 l2 l3 1 ol0 ol1) [0, 1, 2, 3] rfl
    · refine bd_iconst C (v := 0) dX5_fits_9 (by decide) ?_
      exact bd_zret C hret rfl _ _ rfl rfl rfl dX5_fits_10 (Nat.le_refl _) (Nat.le_refl _)
abbrev rmX5_isLinked : Room := { frames := 11, cells := 0, slots := 0, locals := 321 }
abbrev qX5_isLinked (G : Gy) (F : Fr) (g : Bd) (w : Wd) : Int32 → State → Prop := fun r => QM G F g 0 0 ((fun (r : Int32) => some (.int r)) r) ((fun _ => w) r)
set_option maxRecDepth 20000 in
set_option maxHeartbeats 4000000 in
theorem mX5_isLinked {l : Launch} (hf9 : l.stackTraces = false) {G : Gy} {F : Fr} (N : Nat) {w : Wd} {l0 : Nat} {l1 : Nat} {l2 : Int32} {l3 : Nat} {l4 : Int32} {l5 : Int32} {l6 : Int32} {r : Int32} (ol0 : okF F l0 5) (ol1 : okF F l1 7) (ol3 : okF F l3 7) (e9 : fX5_isLinked F N w l0 l1 l2 l3 l4 l5 l6 = some r) : Met l yX5_isLinked [.code yX5_isLinked cX5_isLinked 8 (some .boolean)] rmX5_isLinked (PcB G F w [.ref l0, .ref l1, .int l2, .ref l3, .int l4, .int l5, .int l6]) (QB G F ((fun (r : Int32) => some (.int r)) r) ((fun _ => w) r)) 0 0 (AF F) := by
  refine bd_met (vs := fun (r : Int32) => some (.int r)) (wf := fun _ => w) hf9 (by decide) (Nat.le_of_ble_eq_true rfl) e9 (fun g C hret hini => ?_)
  clear e9 r
  have hb55 : ∀  (l1 : Nat) (l2 : Int32) (l3 : Nat) (l4 : Int32) (l6 : Int32) (ol1 : okF F l1 7) (ol3 : okF F l3 7), BD g G F 8 (qX5_isLinked G F g w) 0 0 (fX5_isLinked_55 F N w l1 l2 l3 l4 l6) w 55 [(1, .ref l1), (2, .int l2), (3, .ref l3), (4, .int l4), (6, .int l6)] [] := by
    intro l1 l2 l3 l4 l6 ol1 ol3
    unfold fX5_isLinked_55
    refine bd_aload_n C 2 dX5_isLinked_55 rfl rfl ?_
    refine bd_iload C 3 dX5_isLinked_56 rfl ?_
    refine bd_callV (vs := fun (r : Int32) => some (.int r)) (wf := fun _ => w) (st := []) (st1 := fun x1 => Value.int x1 :: []) C [.int l4] (fun r9 e9 => mX7_first C.flag N ol3 e9) mwX7_first miX7_first wd_1029 ol3 (by decide) rfl rfl rfl (Nat.le_of_ble_eq_true rfl) dX5_isLinked_58 ⟨rfl, rfl, Nat.le_of_ble_eq_true rfl, Nat.le_of_ble_eq_true rfl, Nat.le_of_ble_eq_true rfl, Nat.le_of_ble_eq_true rfl⟩ (fun _ => rfl) (fun x1 ex1 => ?_)
    refine bd_aload_n C 0 dX5_isLinked_61 rfl rfl ?_
    refine bd_iload_n C 1 dX5_isLinked_62 rfl rfl ?_
    refine bd_callV (vs := fun (r : Int32) => some (.int r)) (wf := fun _ => w) (st := [.int x1]) (st1 := fun x2 => Value.int x2 :: [.int x1]) C [.int l2] (fun r9 e9 => mX7_end C.flag N ol1 e9) mwX7_end miX7_end wd_1030 ol1 (by decide) rfl rfl rfl (Nat.le_of_ble_eq_true rfl) dX5_isLinked_63 ⟨rfl, rfl, Nat.le_of_ble_eq_true rfl, Nat.le_of_ble_eq_true rfl, Nat.le_of_ble_eq_true rfl, Nat.le_of_ble_eq_true rfl⟩ (fun _ => rfl) (fun x2 ex2 => ?_)
    refine bd_isub C dX5_isLinked_66 ?_
    refine bd_bnd (tp := Value.int) (fun v3 ev3 => ?_)
    refine bd_istore C [(7, .int v3), (1, .ref l1), (2, .int l2), (3, .ref l3), (4, .int l4), (6, .int l6)] dX5_isLinked_67 (by decide) rfl ?_
    refine bd_iload C 0 dX5_isLinked_69 rfl ?_
    refine bd_if_lt C 85 dX5_isLinked_71 (by decide) (fun c4 => ?_) (fun c4 => ?_)
    · refine bd_iconst C (v := 0) dX5_isLinked_85 (by decide) ?_
      exact bd_zret C hret rfl _ _ rfl rfl rfl dX5_isLinked_86 (Nat.le_refl _) (Nat.le_refl _)
    · refine bd_iload C 0 dX5_isLinked_74 rfl ?_
      refine bd_iload C 5 dX5_isLinked_76 rfl ?_
      refine bd_icmp_gt C 85 dX5_isLinked_78 (by decide) (fun c5 => ?_) (fun c5 => ?_)
      · refine bd_iconst C (v := 0) dX5_isLinked_85 (by decide) ?_
        exact bd_zret C hret rfl _ _ rfl rfl rfl dX5_isLinked_86 (Nat.le_refl _) (Nat.le_refl _)
      · refine bd_iconst C (v := 1) dX5_isLinked_81 (by decide) ?_
        refine bd_goto C 86 dX5_isLinked_82 (by decide) ?_
        exact bd_zret C hret rfl _ _ rfl rfl rfl dX5_isLinked_86 (Nat.le_refl _) (Nat.le_refl _)
  unfold fX5_isLinked
  refine bd_sub (lv' := [(0, .ref l0), (1, .ref l1), (2, .int l2), (3, .ref l3), (4, .int l4), (5, .int l5), (6, .int l6)]) ?_ [0, 1, 2, 3, 4, 5, 6] rfl
  refine bd_iload C 5 dX5_isLinked_0 rfl ?_
  refine bd_if_lt C 55 dX5_isLinked_2 (by decide) (fun c6 => ?_) (fun c6 => ?_)
  · exact bd_sub (hb55 l1 l2 l3 l4 l6 ol1 ol3) [1, 2, 3, 4, 6] rfl
  · refine bd_iload C 5 dX5_isLinked_5 rfl ?_
    refine bd_iconst C (v := 4) dX5_isLinked_7 (by decide) ?_
    refine bd_icmp_ge C 55 dX5_isLinked_8 (by decide) (fun c7 => ?_) (fun c7 => ?_)
    · exact bd_sub (hb55 l1 l2 l3 l4 l6 ol1 ol3) [1, 2, 3, 4, 6] rfl
    · refine bd_aload_n C 0 dX5_isLinked_11 rfl rfl ?_
      refine bd_gR C fi503 fv503 wd_317 dX5_isLinked_12 ol0 (fun r8 gr8 hr8 => ?_)
      refine bd_iload C 5 dX5_isLinked_15 rfl ?_
      refine bd_zald C dX5_isLinked_17 hr8 (fun x9 => ?_)
      refine bd_if_eq C 55 dX5_isLinked_18 (by decide) (fun c10 => ?_) (fun c10 => ?_)
      · exact bd_sub (hb55 l1 l2 l3 l4 l6 ol1 ol3) [1, 2, 3, 4, 6] rfl
      · refine bd_aload_n C 1 dX5_isLinked_21 rfl rfl ?_
        refine bd_iload_n C 2 dX5_isLinked_22 rfl rfl ?_
        refine bd_callV (vs := fun (r : Int32) => some (.int r)) (wf := fun _ => w) (st := []) (st1 := fun x11 => Value.int x11 :: []) C [.int l2] (fun r9 e9 => mX7_first C.flag N ol1 e9) mwX7_first miX7_first wd_1029 ol1 (by decide) rfl rfl rfl (Nat.le_of_ble_eq_true rfl) dX5_isLinked_23 ⟨rfl, rfl, Nat.le_of_ble_eq_true rfl, Nat.le_of_ble_eq_true rfl, Nat.le_of_ble_eq_true rfl, Nat.le_of_ble_eq_true rfl⟩ (fun _ => rfl) (fun x11 ex11 => ?_)
        refine bd_aload_n C 3 dX5_isLinked_26 rfl rfl ?_
        refine bd_iload C 4 dX5_isLinked_27 rfl ?_
        refine bd_callV (vs := fun (r : Int32) => some (.int r)) (wf := fun _ => w) (st := [.int x11]) (st1 := fun x12 => Value.int x12 :: [.int x11]) C [.int l4] (fun r9 e9 => mX7_end C.flag N ol3 e9) mwX7_end miX7_end wd_1030 ol3 (by decide) rfl rfl rfl (Nat.le_of_ble_eq_true rfl) dX5_isLinked_29 ⟨rfl, rfl, Nat.le_of_ble_eq_true rfl, Nat.le_of_ble_eq_true rfl, Nat.le_of_ble_eq_true rfl, Nat.le_of_ble_eq_true rfl⟩ (fun _ => rfl) (fun x12 ex12 => ?_)
        refine bd_icmp_ge C 53 dX5_isLinked_32 (by decide) (fun c13 => ?_) (fun c13 => ?_)
        · refine bd_iconst C (v := 0) dX5_isLinked_53 (by decide) ?_
          exact bd_zret C hret rfl _ _ rfl rfl rfl dX5_isLinked_54 (Nat.le_refl _) (Nat.le_refl _)
        · refine bd_aload_n C 3 dX5_isLinked_35 rfl rfl ?_
          refine bd_iload C 4 dX5_isLinked_36 rfl ?_
          refine bd_callV (vs := fun (r : Int32) => some (.int r)) (wf := fun _ => w) (st := []) (st1 := fun x14 => Value.int x14 :: []) C [.int l4] (fun r9 e9 => mX7_first C.flag N ol3 e9) mwX7_first miX7_first wd_1029 ol3 (by decide) rfl rfl rfl (Nat.le_of_ble_eq_true rfl) dX5_isLinked_38 ⟨rfl, rfl, Nat.le_of_ble_eq_true rfl, Nat.le_of_ble_eq_true rfl, Nat.le_of_ble_eq_true rfl, Nat.le_of_ble_eq_true rfl⟩ (fun _ => rfl) (fun x14 ex14 => ?_)
          refine bd_aload_n C 1 dX5_isLinked_41 rfl rfl ?_
          refine bd_iload_n C 2 dX5_isLinked_42 rfl rfl ?_
          refine bd_callV (vs := fun (r : Int32) => some (.int r)) (wf := fun _ => w) (st := [.int x14]) (st1 := fun x15 => Value.int x15 :: [.int x14]) C [.int l2] (fun r9 e9 => mX7_end C.flag N ol1 e9) mwX7_end miX7_end wd_1030 ol1 (by decide) rfl rfl rfl (Nat.le_of_ble_eq_true rfl) dX5_isLinked_43 ⟨rfl, rfl, Nat.le_of_ble_eq_true rfl, Nat.le_of_ble_eq_true rfl, Nat.le_of_ble_eq_true rfl, Nat.le_of_ble_eq_true rfl⟩ (fun _ => rfl) (fun x15 ex15 => ?_)
          refine bd_icmp_ge C 53 dX5_isLinked_46 (by decide) (fun c16 => ?_) (fun c16 => ?_)
          · refine bd_iconst C (v := 0) dX5_isLinked_53 (by decide) ?_
            exact bd_zret C hret rfl _ _ rfl rfl rfl dX5_isLinked_54 (Nat.le_refl _) (Nat.le_refl _)
          · refine bd_iconst C (v := 1) dX5_isLinked_49 (by decide) ?_
            refine bd_goto C 54 dX5_isLinked_50 (by decide) ?_
            exact bd_zret C hret rfl _ _ rfl rfl rfl dX5_isLinked_54 (Nat.le_refl _) (Nat.le_refl _)
abbrev rmX5_waysFrom : Room := { frames := 10, cells := 0, slots := 0, locals := 300 }
abbrev qX5_waysFrom (G : Gy) (F : Fr) (g : Bd) (w : Wd) : Int32 → State → Prop := fun r => QM G F g 0 0 ((fun (r : Int32) => some (.int r)) r) ((fun _ => w) r)
set_option maxRecDepth 20000 in
set_option maxHeartbeats 4000000 in
theorem mX5_waysFrom {l : Launch} (hf9 : l.stackTraces = false) {G : Gy} {F : Fr} (N : Nat) {w : Wd} {l0 : Nat} {l1 : Int32} {l2 : Int32} {r : Int32} (ol0 : okF F l0 5) (e9 : fX5_waysFrom F N w l0 l1 l2 = some r) : Met l yX5_waysFrom [.code yX5_waysFrom cX5_waysFrom 4 (some .int)] rmX5_waysFrom (PcB G F w [.ref l0, .int l1, .int l2]) (QB G F ((fun (r : Int32) => some (.int r)) r) ((fun _ => w) r)) 0 0 (AF F) := by
  refine bd_met (vs := fun (r : Int32) => some (.int r)) (wf := fun _ => w) hf9 (by decide) (Nat.le_of_ble_eq_true rfl) e9 (fun g C hret hini => ?_)
  clear e9 r
  unfold fX5_waysFrom
  refine bd_sub (lv' := [(0, .ref l0), (1, .int l1), (2, .int l2)]) ?_ [0, 1, 2] rfl
  refine bd_iload_n C 1 dX5_waysFrom_0 rfl rfl ?_
  refine bd_bipush C (v := 30) dX5_waysFrom_1 (by decide) ?_
  refine bd_imul C dX5_waysFrom_3 ?_
  refine bd_iload_n C 2 dX5_waysFrom_4 rfl rfl ?_
  refine bd_iadd C dX5_waysFrom_5 ?_
  refine bd_bnd (tp := Value.int) (fun v1 ev1 => ?_)
  refine bd_istore_n C [(3, .int v1), (0, .ref l0), (1, .int l1), (2, .int l2)] dX5_waysFrom_6 rfl (by decide) rfl ?_
  refine bd_iload_n C 3 dX5_waysFrom_7 rfl rfl ?_
  refine bd_if_lt C 39 dX5_waysFrom_8 (by decide) (fun c2 => ?_) (fun c2 => ?_)
  · refine bd_iconst C (v := 0) dX5_waysFrom_39 (by decide) ?_
    exact bd_iret C hret rfl _ _ rfl rfl dX5_waysFrom_40 (Nat.le_refl _) (Nat.le_refl _)
  · refine bd_iload_n C 3 dX5_waysFrom_11 rfl rfl ?_
    refine bd_bipush C (v := 30) dX5_waysFrom_12 (by decide) ?_
    refine bd_icmp_ge C 39 dX5_waysFrom_14 (by decide) (fun c3 => ?_) (fun c3 => ?_)
    · refine bd_iconst C (v := 0) dX5_waysFrom_39 (by decide) ?_
      exact bd_iret C hret rfl _ _ rfl rfl dX5_waysFrom_40 (Nat.le_refl _) (Nat.le_refl _)
    · refine bd_iload_n C 0 dX5_waysFrom_17 rfl rfl ?_
      refine bd_if_lt C 39 dX5_waysFrom_18 (by decide) (fun c4 => ?_) (fun c4 => ?_)
      · refine bd_iconst C (v := 0) dX5_waysFrom_39 (by decide) ?_
        exact bd_iret C hret rfl _ _ rfl rfl dX5_waysFrom_40 (Nat.le_refl _) (Nat.le_refl _)
      · refine bd_iload_n C 0 dX5_waysFrom_21 rfl rfl ?_
        refine bd_aload_n C 1 dX5_waysFrom_22 rfl rfl ?_
        refine bd_gR C fi504 fv504 wd_318 dX5_waysFrom_23 ol0 (fun r5 gr5 hr5 => ?_)
        refine bd_alen C dX5_waysFrom_26 hr5 (by decide) 1 rfl ?_
        refine bd_icmp_ge C 39 dX5_waysFrom_27 (by decide) (fun c6 => ?_) (fun c6 => ?_)
        · refine bd_iconst C (v := 0) dX5_waysFrom_39 (by decide) ?_
          exact bd_iret C hret rfl _ _ rfl rfl dX5_waysFrom_40 (Nat.le_refl _) (Nat.le_refl _)
        · refine bd_aload_n C 1 dX5_waysFrom_30 rfl rfl ?_
          refine bd_gR C fi504 fv504 wd_318 dX5_waysFrom_31 ol0 (fun r7 gr7 hr7 => ?_)
          refine bd_iload_n C 0 dX5_waysFrom_34 rfl rfl ?_
          refine bd_iald C dX5_waysFrom_35 hr7 (fun x8 => ?_)
          refine bd_goto C 40 dX5_waysFrom_36 (by decide) ?_
          exact bd_iret C hret rfl _ _ rfl rfl dX5_waysFrom_40 (Nat.le_refl _) (Nat.le_refl _)
abbrev rmX5_countOn : Room := { frames := 13, cells := 0, slots := 0, locals := 368 }
abbrev qX5_countOn (G : Gy) (F : Fr) (g : Bd) (w : Wd) : Int32 → State → Prop := fun r => QM G F g 0 0 ((fun (r : Int32) => some (.int r)) r) ((fun _ => w) r)
set_option maxRecDepth 20000 in
set_option maxHeartbeats 4000000 in
theorem mX5_countOn {l : Launch} (hf9 : l.stackTraces = false) {G : Gy} {F : Fr} (N : Nat) {w : Wd} {l0 : Nat} {l1 : Nat} {l2 : Int32} {l3 : Nat} {l4 : Int32} {r : Int32} (ol0 : okF F l0 5) (ol1 : okF F l1 1) (ol3 : okF F l3 7) (e9 : fX5_countOn F N w l0 l1 l2 l3 l4 = some r) : Met l yX5_countOn [.code yX5_countOn cX5_countOn 8 (some .int)] rmX5_countOn (PcB G F w [.ref l0, .ref l1, .int l2, .ref l3, .int l4]) (QB G F ((fun (r : Int32) => some (.int r)) r) ((fun _ => w) r)) 0 0 (AF F) := by
  refine bd_met (vs := fun (r : Int32) => some (.int r)) (wf := fun _ => w) hf9 (by decide) (Nat.le_of_ble_eq_true rfl) e9 (fun g C hret hini => ?_)
  clear e9 r
  have hb74 : ∀ (k28 : Nat → Nat → Int32 → Nat → Int32 → Nat → Int32 → Int32 → Option (Int32)), (∀ (l0 : Nat) (l1 : Nat) (l2 : Int32) (l3 : Nat) (l4 : Int32) (l5 : Nat) (l6 : Int32) (l7 : Int32) (ol0 : okF F l0 5) (ol1 : okF F l1 1) (ol3 : okF F l3 7) (ol5 : okF F l5 7), BD g G F 8 (qX5_countOn G F g w) 0 0 (k28 l0 l1 l2 l3 l4 l5 l6 l7) w 28 [(0, .ref l0), (1, .ref l1), (2, .int l2), (3, .ref l3), (4, .int l4), (5, .ref l5), (6, .int l6), (7, .int l7)] []) → ∀  (l0 : Nat) (l1 : Nat) (l2 : Int32) (l3 : Nat) (l4 : Int32) (l5 : Nat) (l7 : Int32) (s0 : Int32) (s1 : Int32) (ol0 : okF F l0 5) (ol1 : okF F l1 1) (ol3 : okF F l3 7) (ol5 : okF F l5 7), BD g G F 8 (qX5_countOn G F g w) 0 0 (fX5_countOn_74 F N w k28 l0 l1 l2 l3 l4 l5 l7 s0 s1) w 74 [(0, .ref l0), (1, .ref l1), (2, .int l2), (3, .ref l3), (4, .int l4), (5, .ref l5), (7, .int l7)] [.int s1, .int s0] := by
    intro k28 hk28
    intro l0 l1 l2 l3 l4 l5 l7 s0 s1 ol0 ol1 ol3 ol5
    unfold fX5_countOn_74
    refine bd_iadd C dX5_countOn_74 ?_
    refine bd_bnd (tp := Value.int) (fun v5 ev5 => ?_)
    refine bd_istore C [(6, .int v5), (0, .ref l0), (1, .ref l1), (2, .int l2), (3, .ref l3), (4, .int l4), (5, .ref l5), (7, .int l7)] dX5_countOn_75 (by decide) rfl ?_
    refine bd_iinc C (v := l7 + 1) 7 [(7, .int (l7 + 1)), (6, .int v5), (0, .ref l0), (1, .ref l1), (2, .int l2), (3, .ref l3), (4, .int l4), (5, .ref l5)] dX5_countOn_77 rfl rfl (by decide) rfl ?_
    refine bd_goto C 28 dX5_countOn_80 (by decide) ?_
    exact bd_sub (hk28 l0 l1 l2 l3 l4 l5 v5 (l7 + 1) ol0 ol1 ol3 ol5) [2, 3, 4, 5, 6, 7, 1, 0] rfl
  have hb28 : ∀ (n : Nat) (l0 : Nat) (l1 : Nat) (l2 : Int32) (l3 : Nat) (l4 : Int32) (l5 : Nat) (l6 : Int32) (l7 : Int32) (ol0 : okF F l0 5) (ol1 : okF F l1 1) (ol3 : okF F l3 7) (ol5 : okF F l5 7), BD g G F 8 (qX5_countOn G F g w) 0 0 (fX5_countOn_28 F N w n l0 l1 l2 l3 l4 l5 l6 l7) w 28 [(0, .ref l0), (1, .ref l1), (2, .int l2), (3, .ref l3), (4, .int l4), (5, .ref l5), (6, .int l6), (7, .int l7)] [] := by
    intro n
    induction n with
    | zero =>
      intro l0 l1 l2 l3 l4 l5 l6 l7 ol0 ol1 ol3 ol5
      unfold fX5_countOn_28
      exact bd_none
    | succ n ih =>
      intro l0 l1 l2 l3 l4 l5 l6 l7 ol0 ol1 ol3 ol5
      unfold fX5_countOn_28
      refine bd_iload C 7 dX5_countOn_28 rfl ?_
      refine bd_aload C 5 dX5_countOn_30 rfl ?_
      refine bd_gIN C fi703 fv703 wd_137 dX5_countOn_32 ol5 ?_
      refine bd_icmp_ge C 83 dX5_countOn_35 (by decide) (fun c1 => ?_) (fun c1 => ?_)
      · refine bd_iload C 6 dX5_countOn_83 rfl ?_
        refine bd_sipush C (v := 1000) dX5_countOn_85 (by decide) ?_
        refine bd_mmin C wd_1035 wd_625 wd_104 wd_626 dX5_countOn_88 ⟨Nat.le_of_ble_eq_true rfl, Nat.le_of_ble_eq_true rfl, Nat.zero_le _, Nat.zero_le _⟩ ?_
        exact bd_iret C hret rfl _ _ rfl rfl dX5_countOn_91 (Nat.le_refl _) (Nat.le_refl _)
      · refine bd_iload C 6 dX5_countOn_38 rfl ?_
        refine bd_aload_n C 0 dX5_countOn_40 rfl rfl ?_
        refine bd_aload_n C 3 dX5_countOn_41 rfl rfl ?_
        refine bd_iload C 4 dX5_countOn_42 rfl ?_
        refine bd_aload C 5 dX5_countOn_44 rfl ?_
        refine bd_iload C 7 dX5_countOn_46 rfl ?_
        refine bd_iload_n C 2 dX5_countOn_48 rfl rfl ?_
        refine bd_iconst C (v := 1) dX5_countOn_49 (by decide) ?_
        refine bd_iadd C dX5_countOn_50 ?_
        refine bd_aload_n C 1 dX5_countOn_51 rfl rfl ?_
        refine bd_gIN C fi108 fv108 wd_164 dX5_countOn_52 ol1 ?_
        refine bd_callV (vs := fun (r : Int32) => some (.int r)) (wf := fun _ => w) (st := [.int l6]) (st1 := fun x2 => Value.int x2 :: [.int l6]) C [.ref l3, .int l4, .ref l5, .int l7, .int (l2 + 1), .int (gI w 108 l1)] (fun r9 e9 => mX5_isLinked C.flag N ol0 ol3 ol5 e9) mwX5_isLinked miX5_isLinked wd_1025 ol0 (by decide) rfl rfl rfl (Nat.le_of_ble_eq_true rfl) dX5_countOn_55 ⟨rfl, rfl, Nat.le_of_ble_eq_true rfl, Nat.le_of_ble_eq_true rfl, Nat.le_of_ble_eq_true rfl, Nat.le_of_ble_eq_true rfl⟩ (fun _ => rfl) (fun x2 ex2 => ?_)
        refine bd_if_eq C 73 dX5_countOn_58 (by decide) (fun c3 => ?_) (fun c3 => ?_)
        · refine bd_iconst C (v := 0) dX5_countOn_73 (by decide) ?_
          exact bd_sub (hb74 _ ih l0 l1 l2 l3 l4 l5 l7 l6 0 ol0 ol1 ol3 ol5) [0, 1, 2, 3, 4, 5, 7] rfl
        · refine bd_aload_n C 0 dX5_countOn_61 rfl rfl ?_
          refine bd_iload_n C 2 dX5_countOn_62 rfl rfl ?_
          refine bd_iconst C (v := 1) dX5_countOn_63 (by decide) ?_
          refine bd_iadd C dX5_countOn_64 ?_
          refine bd_iload C 7 dX5_countOn_65 rfl ?_
          refine bd_callV (vs := fun (r : Int32) => some (.int r)) (wf := fun _ => w) (st := [.int l6]) (st1 := fun x4 => Value.int x4 :: [.int l6]) C [.int (l2 + 1), .int l7] (fun r9 e9 => mX5_waysFrom C.flag N ol0 e9) mwX5_waysFrom miX5_waysFrom wd_1031 ol0 (by decide) rfl rfl rfl (Nat.le_of_ble_eq_true rfl) dX5_countOn_67 ⟨rfl, rfl, Nat.le_of_ble_eq_true rfl, Nat.le_of_ble_eq_true rfl, Nat.le_of_ble_eq_true rfl, Nat.le_of_ble_eq_true rfl⟩ (fun _ => rfl) (fun x4 ex4 => ?_)
          refine bd_goto C 74 dX5_countOn_70 (by decide) ?_
          exact bd_sub (hb74 _ ih l0 l1 l2 l3 l4 l5 l7 l6 x4 ol0 ol1 ol3 ol5) [0, 1, 2, 3, 4, 5, 7] rfl
  unfold fX5_countOn
  refine bd_sub (lv' := [(0, .ref l0), (1, .ref l1), (2, .int l2), (3, .ref l3), (4, .int l4)]) ?_ [0, 1, 2, 3, 4] rfl
  refine bd_iload_n C 2 dX5_countOn_0 rfl rfl ?_
  refine bd_aload_n C 0 dX5_countOn_1 rfl rfl ?_
  refine bd_gI C fi506 fv506 wd_320 dX5_countOn_2 ol0 ?_
  refine bd_iconst C (v := 1) dX5_countOn_5 (by decide) ?_
  refine bd_isub C dX5_countOn_6 ?_
  refine bd_icmp_ne C 12 dX5_countOn_7 (by decide) (fun c6 => ?_) (fun c6 => ?_)
  · refine bd_aload_n C 0 dX5_countOn_12 rfl rfl ?_
    refine bd_aload_n C 1 dX5_countOn_13 rfl rfl ?_
    refine bd_iload_n C 2 dX5_countOn_14 rfl rfl ?_
    refine bd_iconst C (v := 1) dX5_countOn_15 (by decide) ?_
    refine bd_iadd C dX5_countOn_16 ?_
    refine bd_callV (vs := fun (r : Nat) => some (.ref r)) (wf := fun _ => w) (st := []) (st1 := fun x7 => Value.ref x7 :: []) C [.ref l1, .int (l2 + 1)] (fun r9 e9 => mX5_rowOf C.flag N ol0 ol1 e9) mwX5_rowOf miX5_rowOf wd_1009 ol0 (by decide) rfl rfl rfl (Nat.le_of_ble_eq_true rfl) dX5_countOn_17 ⟨rfl, rfl, Nat.le_of_ble_eq_true rfl, Nat.le_of_ble_eq_true rfl, Nat.le_of_ble_eq_true rfl, Nat.le_of_ble_eq_true rfl⟩ (fun _ => rfl) (fun x7 ex7 => ?_)
    refine bd_ckF (fun h8 => ?_)
    refine bd_astore C [(5, .ref x7), (0, .ref l0), (1, .ref l1), (2, .int l2), (3, .ref l3), (4, .int l4)] dX5_countOn_20 (by decide) rfl ?_
    refine bd_iconst C (v := 0) dX5_countOn_22 (by decide) ?_
    refine bd_istore C [(6, .int 0), (5, .ref x7), (0, .ref l0), (1, .ref l1), (2, .int l2), (3, .ref l3), (4, .int l4)] dX5_countOn_23 (by decide) rfl ?_
    refine bd_iconst C (v := 0) dX5_countOn_25 (by decide) ?_
    refine bd_istore C [(7, .int 0), (6, .int 0), (5, .ref x7), (0, .ref l0), (1, .ref l1), (2, .int l2), (3, .ref l3), (4, .int l4)] dX5_countOn_26 (by decide) rfl ?_
    exact bd_sub (hb28 N l0 l1 l2 l3 l4 x7 0 0 ol0 ol1 ol3 h8) [3, 4, 5, 6, 7, 2, 1, 0] rfl
  · refine bd_iconst C (v := 1) dX5_countOn_10 (by decide) ?_
    exact bd_iret C hret rfl _ _ rfl rfl dX5_countOn_11 (Nat.le_refl _) (Nat.le_refl _)
abbrev rmX5_countMatches : Room := { frames := 14, cells := 0, slots := 0, locals := 395 }
abbrev qX5_countMatches (G : Gy) (F : Fr) (g : Bd) : (Int32 × Wd) → State → Prop := fun r => QM G F g 0 0 ((fun (r : Int32 × Wd) => some (.int r.1)) r) ((fun (r : Int32 × Wd) => r.2) r)
set_option maxRecDepth 20000 in
set_option maxHeartbeats 4000000 in
theorem mX5_countMatches {l : Launch} (hf9 : l.stackTraces = false) {G : Gy} {F : Fr} (N : Nat) {w : Wd} {l0 : Nat} {l1 : Nat} {r : Int32 × Wd} (ol0 : okF F l0 5) (ol1 : okF F l1 1) (e9 : fX5_countMatches F N w l0 l1 = some r) : Met l yX5_countMatches [.code yX5_countMatches cX5_countMatches 8 (some .int)] rmX5_countMatches (PcB G F w [.ref l0, .ref l1]) (QB G F ((fun (r : Int32 × Wd) => some (.int r.1)) r) ((fun (r : Int32 × Wd) => r.2) r)) 0 0 (AF F) := by
  refine bd_met (vs := fun (r : Int32 × Wd) => some (.int r.1)) (wf := fun (r : Int32 × Wd) => r.2) hf9 (by decide) (Nat.le_of_ble_eq_true rfl) e9 (fun g C hret hini => ?_)
  clear e9 r
  have hb115 : ∀ (k9 : Wd → Nat → Nat → Int32 → Int32 → Option (Int32 × Wd)), (∀ (w : Wd) (l0 : Nat) (l1 : Nat) (l2 : Int32) (l3 : Int32) (ol0 : okF F l0 5) (ol1 : okF F l1 1), BD g G F 8 (qX5_countMatches G F g) 0 0 (k9 w l0 l1 l2 l3) w 9 [(0, .ref l0), (1, .ref l1), (2, .int l2), (3, .int l3)] []) → ∀  (w : Wd) (l0 : Nat) (l1 : Nat) (l2 : Int32) (l3 : Int32) (ol0 : okF F l0 5) (ol1 : okF F l1 1), BD g G F 8 (qX5_countMatches G F g) 0 0 (fX5_countMatches_115 F N k9 w l0 l1 l2 l3) w 115 [(0, .ref l0), (1, .ref l1), (2, .int l2), (3, .int l3)] [] := by
    intro k9 hk9
    intro w l0 l1 l2 l3 ol0 ol1
    unfold fX5_countMatches_115
    refine bd_iinc C (v := l3 + (-1)) 3 [(3, .int (l3 + (-1))), (0, .ref l0), (1, .ref l1), (2, .int l2)] dX5_countMatches_115 rfl rfl (by decide) rfl ?_
    refine bd_goto C 9 dX5_countMatches_118 (by decide) ?_
    exact bd_sub (hk9 w l0 l1 l2 (l3 + (-1)) ol0 ol1) [1, 2, 3, 0] rfl
  have hb104 : ∀ (k9 : Wd → Nat → Nat → Int32 → Int32 → Option (Int32 × Wd)), (∀ (w : Wd) (l0 : Nat) (l1 : Nat) (l2 : Int32) (l3 : Int32) (ol0 : okF F l0 5) (ol1 : okF F l1 1), BD g G F 8 (qX5_countMatches G F g) 0 0 (k9 w l0 l1 l2 l3) w 9 [(0, .ref l0), (1, .ref l1), (2, .int l2), (3, .int l3)] []) → ∀ (k26 : Wd → Nat → Nat → Int32 → Int32 → Nat → Int32 → Option (Int32 × Wd)), (∀ (w : Wd) (l0 : Nat) (l1 : Nat) (l2 : Int32) (l3 : Int32) (l4 : Nat) (l5 : Int32) (ol0 : okF F l0 5) (ol1 : okF F l1 1) (ol4 : okF F l4 7), BD g G F 8 (qX5_countMatches G F g) 0 0 (k26 w l0 l1 l2 l3 l4 l5) w 26 [(0, .ref l0), (1, .ref l1), (2, .int l2), (3, .int l3), (4, .ref l4), (5, .int l5)] []) → ∀  (w : Wd) (l0 : Nat) (l1 : Nat) (l2 : Int32) (l3 : Int32) (l4 : Nat) (l5 : Int32) (l6 : Int32) (ol0 : okF F l0 5) (ol1 : okF F l1 1) (ol4 : okF F l4 7), BD g G F 8 (qX5_countMatches G F g) 0 0 (fX5_countMatches_104 F N k9 k26 w l0 l1 l2 l3 l4 l5 l6) w 104 [(0, .ref l0), (1, .ref l1), (2, .int l2), (3, .int l3), (4, .ref l4), (5, .int l5), (6, .int l6)] [] := by
    intro k9 hk9 k26 hk26
    intro w l0 l1 l2 l3 l4 l5 l6 ol0 ol1 ol4
    unfold fX5_countMatches_104
    refine bd_iload_n C 2 dX5_countMatches_104 rfl rfl ?_
    refine bd_iload C 6 dX5_countMatches_105 rfl ?_
    refine bd_iadd C dX5_countMatches_107 ?_
    refine bd_bnd (tp := Value.int) (fun v15 ev15 => ?_)
    refine bd_istore_n C [(2, .int v15), (0, .ref l0), (1, .ref l1), (3, .int l3), (4, .ref l4), (5, .int l5), (6, .int l6)] dX5_countMatches_108 rfl (by decide) rfl ?_
    refine bd_iinc C (v := l5 + 1) 5 [(5, .int (l5 + 1)), (2, .int v15), (0, .ref l0), (1, .ref l1), (3, .int l3), (4, .ref l4), (6, .int l6)] dX5_countMatches_109 rfl rfl (by decide) rfl ?_
    refine bd_goto C 26 dX5_countMatches_112 (by decide) ?_
    exact bd_sub (hk26 w l0 l1 v15 l3 l4 (l5 + 1) ol0 ol1 ol4) [2, 3, 1, 4, 5, 0] rfl
  have hb69 : ∀ (k9 : Wd → Nat → Nat → Int32 → Int32 → Option (Int32 × Wd)), (∀ (w : Wd) (l0 : Nat) (l1 : Nat) (l2 : Int32) (l3 : Int32) (ol0 : okF F l0 5) (ol1 : okF F l1 1), BD g G F 8 (qX5_countMatches G F g) 0 0 (k9 w l0 l1 l2 l3) w 9 [(0, .ref l0), (1, .ref l1), (2, .int l2), (3, .int l3)] []) → ∀ (k26 : Wd → Nat → Nat → Int32 → Int32 → Nat → Int32 → Option (Int32 × Wd)), (∀ (w : Wd) (l0 : Nat) (l1 : Nat) (l2 : Int32) (l3 : Int32) (l4 : Nat) (l5 : Int32) (ol0 : okF F l0 5) (ol1 : okF F l1 1) (ol4 : okF F l4 7), BD g G F 8 (qX5_countMatches G F g) 0 0 (k26 w l0 l1 l2 l3 l4 l5) w 26 [(0, .ref l0), (1, .ref l1), (2, .int l2), (3, .int l3), (4, .ref l4), (5, .int l5)] []) → ∀  (w : Wd) (l0 : Nat) (l1 : Nat) (l2 : Int32) (l3 : Int32) (l4 : Nat) (l5 : Int32) (s0 : Int32) (ol0 : okF F l0 5) (ol1 : okF F l1 1) (ol4 : okF F l4 7), BD g G F 8 (qX5_countMatches G F g) 0 0 (fX5_countMatches_69 F N k9 k26 w l0 l1 l2 l3 l4 l5 s0) w 69 [(0, .ref l0), (1, .ref l1), (2, .int l2), (3, .int l3), (4, .ref l4), (5, .int l5)] [.int s0] := by
    intro k9 hk9 k26 hk26
    intro w l0 l1 l2 l3 l4 l5 s0 ol0 ol1 ol4
    unfold fX5_countMatches_69
    refine bd_istore C [(6, .int s0), (0, .ref l0), (1, .ref l1), (2, .int l2), (3, .int l3), (4, .ref l4), (5, .int l5)] dX5_countMatches_69 (by decide) rfl ?_
    refine bd_iload_n C 4 dX5_countMatches_71 rfl rfl ?_
    refine bd_bipush C (v := 30) dX5_countMatches_72 (by decide) ?_
    refine bd_imul C dX5_countMatches_74 ?_
    refine bd_iload C 6 dX5_countMatches_75 rfl ?_
    refine bd_iadd C dX5_countMatches_77 ?_
    refine bd_bnd (tp := Value.int) (fun v9 ev9 => ?_)
    refine bd_istore C [(7, .int v9), (6, .int s0), (0, .ref l0), (1, .ref l1), (2, .int l2), (3, .int l3), (4, .ref l4), (5, .int l5)] dX5_countMatches_78 (by decide) rfl ?_
    refine bd_iload C 0 dX5_countMatches_80 rfl ?_
    refine bd_if_lt C 104 dX5_countMatches_82 (by decide) (fun c10 => ?_) (fun c10 => ?_)
    · exact bd_sub (hb104 _ hk9 _ hk26 w l0 l1 l2 l3 l4 l5 s0 ol0 ol1 ol4) [2, 3, 4, 5, 6, 7, 1] rfl
    · refine bd_iload C 0 dX5_countMatches_85 rfl ?_
      refine bd_aload_n C 2 dX5_countMatches_87 rfl rfl ?_
      refine bd_gR C fi504 fv504 wd_318 dX5_countMatches_88 ol0 (fun r11 gr11 hr11 => ?_)
      refine bd_alen C dX5_countMatches_91 hr11 (by decide) 1 rfl ?_
      refine bd_icmp_ge C 104 dX5_countMatches_92 (by decide) (fun c12 => ?_) (fun c12 => ?_)
      · exact bd_sub (hb104 _ hk9 _ hk26 w l0 l1 l2 l3 l4 l5 s0 ol0 ol1 ol4) [2, 3, 4, 5, 6, 7, 1] rfl
      · refine bd_aload_n C 2 dX5_countMatches_95 rfl rfl ?_
        refine bd_gR C fi504 fv504 wd_318 dX5_countMatches_96 ol0 (fun r13 gr13 hr13 => ?_)
        refine bd_iload C 0 dX5_countMatches_99 rfl ?_
        refine bd_iload C 1 dX5_countMatches_101 rfl ?_
        refine bd_iast C dX5_countMatches_103 hr13 (fun w14 => ?_)
        exact bd_sub (hb104 _ hk9 _ hk26 w14 l0 l1 l2 l3 l4 l5 s0 ol0 ol1 ol4) [2, 3, 4, 5, 6, 7, 1] rfl
  have hb26 : ∀ (k9 : Wd → Nat → Nat → Int32 → Int32 → Option (Int32 × Wd)), (∀ (w : Wd) (l0 : Nat) (l1 : Nat) (l2 : Int32) (l3 : Int32) (ol0 : okF F l0 5) (ol1 : okF F l1 1), BD g G F 8 (qX5_countMatches G F g) 0 0 (k9 w l0 l1 l2 l3) w 9 [(0, .ref l0), (1, .ref l1), (2, .int l2), (3, .int l3)] []) → ∀ (n : Nat) (w : Wd) (l0 : Nat) (l1 : Nat) (l2 : Int32) (l3 : Int32) (l4 : Nat) (l5 : Int32) (ol0 : okF F l0 5) (ol1 : okF F l1 1) (ol4 : okF F l4 7), BD g G F 8 (qX5_countMatches G F g) 0 0 (fX5_countMatches_26 F N k9 n w l0 l1 l2 l3 l4 l5) w 26 [(0, .ref l0), (1, .ref l1), (2, .int l2), (3, .int l3), (4, .ref l4), (5, .int l5)] [] := by
    intro k9 hk9
    intro n
    induction n with
    | zero =>
      intro w l0 l1 l2 l3 l4 l5 ol0 ol1 ol4
      unfold fX5_countMatches_26
      exact bd_none
    | succ n ih =>
      intro w l0 l1 l2 l3 l4 l5 ol0 ol1 ol4
      unfold fX5_countMatches_26
      refine bd_iload C 5 dX5_countMatches_26 rfl ?_
      refine bd_aload C 4 dX5_countMatches_28 rfl ?_
      refine bd_gIN C fi703 fv703 wd_137 dX5_countMatches_30 ol4 ?_
      refine bd_icmp_ge C 115 dX5_countMatches_33 (by decide) (fun c4 => ?_) (fun c4 => ?_)
      · exact bd_sub (hb115 _ hk9 w l0 l1 l2 l3 ol0 ol1) [0, 1, 2, 3] rfl
      · refine bd_iload C 5 dX5_countMatches_36 rfl ?_
        refine bd_bipush C (v := 30) dX5_countMatches_38 (by decide) ?_
        refine bd_icmp_ge C 115 dX5_countMatches_40 (by decide) (fun c5 => ?_) (fun c5 => ?_)
        · exact bd_sub (hb115 _ hk9 w l0 l1 l2 l3 ol0 ol1) [0, 1, 2, 3] rfl
        · refine bd_aload_n C 0 dX5_countMatches_43 rfl rfl ?_
          refine bd_aload C 4 dX5_countMatches_44 rfl ?_
          refine bd_iload C 5 dX5_countMatches_46 rfl ?_
          refine bd_iload_n C 3 dX5_countMatches_48 rfl rfl ?_
          refine bd_callV (vs := fun (r : Int32) => some (.int r)) (wf := fun _ => w) (st := []) (st1 := fun x6 => Value.int x6 :: []) C [.ref l4, .int l5, .int l3] (fun r9 e9 => mX5_fits C.flag N ol0 ol4 e9) mwX5_fits miX5_fits wd_1015 ol0 (by decide) rfl rfl rfl (Nat.le_of_ble_eq_true rfl) dX5_countMatches_49 ⟨rfl, rfl, Nat.le_of_ble_eq_true rfl, Nat.le_of_ble_eq_true rfl, Nat.le_of_ble_eq_true rfl, Nat.le_of_ble_eq_true rfl⟩ (fun _ => rfl) (fun x6 ex6 => ?_)
          refine bd_if_eq C 68 dX5_countMatches_52 (by decide) (fun c7 => ?_) (fun c7 => ?_)
          · refine bd_iconst C (v := 0) dX5_countMatches_68 (by decide) ?_
            exact bd_sub (hb69 _ hk9 _ ih w l0 l1 l2 l3 l4 l5 0 ol0 ol1 ol4) [0, 1, 2, 3, 4, 5] rfl
          · refine bd_aload_n C 0 dX5_countMatches_55 rfl rfl ?_
            refine bd_aload_n C 1 dX5_countMatches_56 rfl rfl ?_
            refine bd_iload_n C 3 dX5_countMatches_57 rfl rfl ?_
            refine bd_aload C 4 dX5_countMatches_58 rfl ?_
            refine bd_iload C 5 dX5_countMatches_60 rfl ?_
            refine bd_callV (vs := fun (r : Int32) => some (.int r)) (wf := fun _ => w) (st := []) (st1 := fun x8 => Value.int x8 :: []) C [.ref l1, .int l3, .ref l4, .int l5] (fun r9 e9 => mX5_countOn C.flag N ol0 ol1 ol4 e9) mwX5_countOn miX5_countOn wd_1021 ol0 (by decide) rfl rfl rfl (Nat.le_of_ble_eq_true rfl) dX5_countMatches_62 ⟨rfl, rfl, Nat.le_of_ble_eq_true rfl, Nat.le_of_ble_eq_true rfl, Nat.le_of_ble_eq_true rfl, Nat.le_of_ble_eq_true rfl⟩ (fun _ => rfl) (fun x8 ex8 => ?_)
            refine bd_goto C 69 dX5_countMatches_65 (by decide) ?_
            exact bd_sub (hb69 _ hk9 _ ih w l0 l1 l2 l3 l4 l5 x8 ol0 ol1 ol4) [0, 1, 2, 3, 4, 5] rfl
  have hb9 : ∀ (n : Nat) (w : Wd) (l0 : Nat) (l1 : Nat) (l2 : Int32) (l3 : Int32) (ol0 : okF F l0 5) (ol1 : okF F l1 1), BD g G F 8 (qX5_countMatches G F g) 0 0 (fX5_countMatches_9 F N n w l0 l1 l2 l3) w 9 [(0, .ref l0), (1, .ref l1), (2, .int l2), (3, .int l3)] [] := by
    intro n
    induction n with
    | zero =>
      intro w l0 l1 l2 l3 ol0 ol1
      unfold fX5_countMatches_9
      exact bd_none
    | succ n ih =>
      intro w l0 l1 l2 l3 ol0 ol1
      unfold fX5_countMatches_9
      refine bd_iload_n C 3 dX5_countMatches_9 rfl rfl ?_
      refine bd_if_lt C 121 dX5_countMatches_10 (by decide) (fun c1 => ?_) (fun c1 => ?_)
      · refine bd_iload_n C 2 dX5_countMatches_121 rfl rfl ?_
        refine bd_sipush C (v := 1000) dX5_countMatches_122 (by decide) ?_
        refine bd_mmin C wd_1035 wd_625 wd_104 wd_626 dX5_countMatches_125 ⟨Nat.le_of_ble_eq_true rfl, Nat.le_of_ble_eq_true rfl, Nat.zero_le _, Nat.zero_le _⟩ ?_
        exact bd_iret C hret rfl _ _ rfl rfl dX5_countMatches_128 (Nat.le_refl _) (Nat.le_refl _)
      · refine bd_aload_n C 0 dX5_countMatches_13 rfl rfl ?_
        refine bd_aload_n C 1 dX5_countMatches_14 rfl rfl ?_
        refine bd_iload_n C 3 dX5_countMatches_15 rfl rfl ?_
        refine bd_callV (vs := fun (r : Nat) => some (.ref r)) (wf := fun _ => w) (st := []) (st1 := fun x2 => Value.ref x2 :: []) C [.ref l1, .int l3] (fun r9 e9 => mX5_rowOf C.flag N ol0 ol1 e9) mwX5_rowOf miX5_rowOf wd_1009 ol0 (by decide) rfl rfl rfl (Nat.le_of_ble_eq_true rfl) dX5_countMatches_16 ⟨rfl, rfl, Nat.le_of_ble_eq_true rfl, Nat.le_of_ble_eq_true rfl, Nat.le_of_ble_eq_true rfl, Nat.le_of_ble_eq_true rfl⟩ (fun _ => rfl) (fun x2 ex2 => ?_)
        refine bd_ckF (fun h3 => ?_)
        refine bd_astore C [(4, .ref x2), (0, .ref l0), (1, .ref l1), (2, .int l2), (3, .int l3)] dX5_countMatches_19 (by decide) rfl ?_
        refine bd_iconst C (v := 0) dX5_countMatches_21 (by decide) ?_
        refine bd_istore_n C [(2, .int 0), (4, .ref x2), (0, .ref l0), (1, .ref l1), (3, .int l3)] dX5_countMatches_22 rfl (by decide) rfl ?_
        refine bd_iconst C (v := 0) dX5_countMatches_23 (by decide) ?_
        refine bd_istore C [(5, .int 0), (2, .int 0), (4, .ref x2), (0, .ref l0), (1, .ref l1), (3, .int l3)] dX5_countMatches_24 (by decide) rfl ?_
        exact bd_sub (hb26 _ ih N w l0 l1 0 l3 x2 0 ol0 ol1 h3) [3, 4, 1, 5, 2, 0] rfl
  unfold fX5_countMatches
  refine bd_sub (lv' := [(0, .ref l0), (1, .ref l1)]) ?_ [0, 1] rfl
  refine bd_iconst C (v := 0) dX5_countMatches_0 (by decide) ?_
  refine bd_istore_n C [(2, .int 0), (0, .ref l0), (1, .ref l1)] dX5_countMatches_1 rfl (by decide) rfl ?_
  refine bd_aload_n C 1 dX5_countMatches_2 rfl rfl ?_
  refine bd_gI C fi506 fv506 wd_320 dX5_countMatches_3 ol0 ?_
  refine bd_iconst C (v := 1) dX5_countMatches_6 (by decide) ?_
  refine bd_isub C dX5_countMatches_7 ?_
  refine bd_bnd (tp := Value.int) (fun v16 ev16 => ?_)
  refine bd_istore_n C [(3, .int v16), (2, .int 0), (0, .ref l0), (1, .ref l1)] dX5_countMatches_8 rfl (by decide) rfl ?_
  exact bd_sub (hb9 N w l0 l1 0 v16 ol0 ol1) [2, 3, 1, 0] rfl
abbrev rmX5_spanOf : Room := { frames := 13, cells := 0, slots := 0, locals := 368 }
abbrev qX5_spanOf (G : Gy) (F : Fr) (g : Bd) (w : Wd) : Int32 → State → Prop := fun r => QM G F g 0 0 ((fun (r : Int32) => some (.int r)) r) ((fun _ => w) r)
set_option maxRecDepth 20000 in
set_option maxHeartbeats 4000000 in
theorem mX5_spanOf {l : Launch} (hf9 : l.stackTraces = false) {G : Gy} {F : Fr} (N : Nat) {w : Wd} {l0 : Nat} {l1 : Nat} {l2 : Int32} {l3 : Int32} {r : Int32} (ol0 : okF F l0 5) (ol1 : okF F l1 1) (e9 : fX5_spanOf F N w l0 l1 l2 l3 = some r) : Met l yX5_spanOf [.code yX5_spanOf cX5_spanOf 13 (some .int)] rmX5_spanOf (PcB G F w [.ref l0, .ref l1, .int l2, .int l3]) (QB G F ((fun (r : Int32) => some (.int r)) r) ((fun _ => w) r)) 0 0 (AF F) := by
  refine bd_met (vs := fun (r : Int32) => some (.int r)) (wf := fun _ => w) hf9 (by decide) (Nat.le_of_ble_eq_true rfl) e9 (fun g C hret hini => ?_)
  clear e9 r
  have hb136 : ∀ (k15 : Nat → Nat → Int32 → Int32 → Nat → Int32 → Int32 → Option (Int32)), (∀ (l0 : Nat) (l1 : Nat) (l3 : Int32) (l4 : Int32) (l5 : Nat) (l6 : Int32) (l7 : Int32) (ol0 : okF F l0 5) (ol1 : okF F l1 1) (ol5 : okF F l5 7), BD g G F 13 (qX5_spanOf G F g w) 0 0 (k15 l0 l1 l3 l4 l5 l6 l7) w 15 [(0, .ref l0), (1, .ref l1), (3, .int l3), (4, .int l4), (5, .ref l5), (6, .int l6), (7, .int l7)] []) → ∀  (l0 : Nat) (l1 : Nat) (l3 : Int32) (l4 : Int32) (l7 : Int32) (l8 : Nat) (l9 : Int32) (ol0 : okF F l0 5) (ol1 : okF F l1 1) (ol8 : okF F l8 7), BD g G F 13 (qX5_spanOf G F g w) 0 0 (fX5_spanOf_136 F N w k15 l0 l1 l3 l4 l7 l8 l9) w 136 [(0, .ref l0), (1, .ref l1), (3, .int l3), (4, .int l4), (7, .int l7), (8, .ref l8), (9, .int l9)] [] := by
    intro k15 hk15
    intro l0 l1 l3 l4 l7 l8 l9 ol0 ol1 ol8
    unfold fX5_spanOf_136
    refine bd_aload C 5 dX5_spanOf_136 rfl ?_
    refine bd_astore C [(5, .ref l8), (0, .ref l0), (1, .ref l1), (3, .int l3), (4, .int l4), (7, .int l7), (8, .ref l8), (9, .int l9)] dX5_spanOf_138 (by decide) rfl ?_
    refine bd_iload C 7 dX5_spanOf_140 rfl ?_
    refine bd_istore C [(6, .int l9), (5, .ref l8), (0, .ref l0), (1, .ref l1), (3, .int l3), (4, .int l4), (7, .int l7), (8, .ref l8), (9, .int l9)] dX5_spanOf_142 (by decide) rfl ?_
    refine bd_iinc C (v := l7 + 1) 6 [(7, .int (l7 + 1)), (6, .int l9), (5, .ref l8), (0, .ref l0), (1, .ref l1), (3, .int l3), (4, .int l4), (8, .ref l8), (9, .int l9)] dX5_spanOf_144 rfl rfl (by decide) rfl ?_
    refine bd_goto C 15 dX5_spanOf_147 (by decide) ?_
    exact bd_sub (hk15 l0 l1 l3 l4 l8 l9 (l7 + 1) ol0 ol1 ol8) [3, 4, 5, 6, 2, 1, 0] rfl
  have hb130 : ∀ (k15 : Nat → Nat → Int32 → Int32 → Nat → Int32 → Int32 → Option (Int32)), (∀ (l0 : Nat) (l1 : Nat) (l3 : Int32) (l4 : Int32) (l5 : Nat) (l6 : Int32) (l7 : Int32) (ol0 : okF F l0 5) (ol1 : okF F l1 1) (ol5 : okF F l5 7), BD g G F 13 (qX5_spanOf G F g w) 0 0 (k15 l0 l1 l3 l4 l5 l6 l7) w 15 [(0, .ref l0), (1, .ref l1), (3, .int l3), (4, .int l4), (5, .ref l5), (6, .int l6), (7, .int l7)] []) → ∀ (k42 : Nat → Nat → Int32 → Int32 → Nat → Int32 → Int32 → Nat → Int32 → Int32 → Option (Int32)), (∀ (l0 : Nat) (l1 : Nat) (l3 : Int32) (l4 : Int32) (l5 : Nat) (l6 : Int32) (l7 : Int32) (l8 : Nat) (l9 : Int32) (l10 : Int32) (ol0 : okF F l0 5) (ol1 : okF F l1 1) (ol5 : okF F l5 7) (ol8 : okF F l8 7), BD g G F 13 (qX5_spanOf G F g w) 0 0 (k42 l0 l1 l3 l4 l5 l6 l7 l8 l9 l10) w 42 [(0, .ref l0), (1, .ref l1), (3, .int l3), (4, .int l4), (5, .ref l5), (6, .int l6), (7, .int l7), (8, .ref l8), (9, .int l9), (10, .int l10)] []) → ∀  (l0 : Nat) (l1 : Nat) (l3 : Int32) (l4 : Int32) (l5 : Nat) (l6 : Int32) (l7 : Int32) (l8 : Nat) (l9 : Int32) (l10 : Int32) (ol0 : okF F l0 5) (ol1 : okF F l1 1) (ol5 : okF F l5 7) (ol8 : okF F l8 7), BD g G F 13 (qX5_spanOf G F g w) 0 0 (fX5_spanOf_130 F N w k15 k42 l0 l1 l3 l4 l5 l6 l7 l8 l9 l10) w 130 [(0, .ref l0), (1, .ref l1), (3, .int l3), (4, .int l4), (5, .ref l5), (6, .int l6), (7, .int l7), (8, .ref l8), (9, .int l9), (10, .int l10)] [] := by
    intro k15 hk15 k42 hk42
    intro l0 l1 l3 l4 l5 l6 l7 l8 l9 l10 ol0 ol1 ol5 ol8
    unfold fX5_spanOf_130
    refine bd_iinc C (v := l10 + 1) 9 [(10, .int (l10 + 1)), (0, .ref l0), (1, .ref l1), (3, .int l3), (4, .int l4), (5, .ref l5), (6, .int l6), (7, .int l7), (8, .ref l8), (9, .int l9)] dX5_spanOf_130 rfl rfl (by decide) rfl ?_
    refine bd_goto C 42 dX5_spanOf_133 (by decide) ?_
    exact bd_sub (hk42 l0 l1 l3 l4 l5 l6 l7 l8 l9 (l10 + 1) ol0 ol1 ol5 ol8) [1, 2, 3, 4, 5, 6, 7, 8, 9, 0] rfl
  have hb107 : ∀ (k15 : Nat → Nat → Int32 → Int32 → Nat → Int32 → Int32 → Option (Int32)), (∀ (l0 : Nat) (l1 : Nat) (l3 : Int32) (l4 : Int32) (l5 : Nat) (l6 : Int32) (l7 : Int32) (ol0 : okF F l0 5) (ol1 : okF F l1 1) (ol5 : okF F l5 7), BD g G F 13 (qX5_spanOf G F g w) 0 0 (k15 l0 l1 l3 l4 l5 l6 l7) w 15 [(0, .ref l0), (1, .ref l1), (3, .int l3), (4, .int l4), (5, .ref l5), (6, .int l6), (7, .int l7)] []) → ∀ (k42 : Nat → Nat → Int32 → Int32 → Nat → Int32 → Int32 → Nat → Int32 → Int32 → Option (Int32)), (∀ (l0 : Nat) (l1 : Nat) (l3 : Int32) (l4 : Int32) (l5 : Nat) (l6 : Int32) (l7 : Int32) (l8 : Nat) (l9 : Int32) (l10 : Int32) (ol0 : okF F l0 5) (ol1 : okF F l1 1) (ol5 : okF F l5 7) (ol8 : okF F l8 7), BD g G F 13 (qX5_spanOf G F g w) 0 0 (k42 l0 l1 l3 l4 l5 l6 l7 l8 l9 l10) w 42 [(0, .ref l0), (1, .ref l1), (3, .int l3), (4, .int l4), (5, .ref l5), (6, .int l6), (7, .int l7), (8, .ref l8), (9, .int l9), (10, .int l10)] []) → ∀  (l0 : Nat) (l1 : Nat) (l3 : Int32) (l4 : Int32) (l5 : Nat) (l6 : Int32) (l7 : Int32) (l8 : Nat) (l9 : Int32) (l10 : Int32) (s0 : Int32) (ol0 : okF F l0 5) (ol1 : okF F l1 1) (ol5 : okF F l5 7) (ol8 : okF F l8 7), BD g G F 13 (qX5_spanOf G F g w) 0 0 (fX5_spanOf_107 F N w k15 k42 l0 l1 l3 l4 l5 l6 l7 l8 l9 l10 s0) w 107 [(0, .ref l0), (1, .ref l1), (3, .int l3), (4, .int l4), (5, .ref l5), (6, .int l6), (7, .int l7), (8, .ref l8), (9, .int l9), (10, .int l10)] [.int s0] := by
    intro k15 hk15 k42 hk42
    intro l0 l1 l3 l4 l5 l6 l7 l8 l9 l10 s0 ol0 ol1 ol5 ol8
    unfold fX5_spanOf_107
    refine bd_istore C [(12, .int s0), (0, .ref l0), (1, .ref l1), (3, .int l3), (4, .int l4), (5, .ref l5), (6, .int l6), (7, .int l7), (8, .ref l8), (9, .int l9), (10, .int l10)] dX5_spanOf_107 (by decide) rfl ?_
    refine bd_iload C 4 dX5_spanOf_109 rfl ?_
    refine bd_iload C 0 dX5_spanOf_111 rfl ?_
    refine bd_icmp_ge C 123 dX5_spanOf_113 (by decide) (fun c12 => ?_) (fun c12 => ?_)
    · refine bd_iload C 4 dX5_spanOf_123 rfl ?_
      refine bd_iload C 0 dX5_spanOf_125 rfl ?_
      refine bd_isub C dX5_spanOf_127 ?_
      refine bd_bnd (tp := Value.int) (fun v13 ev13 => ?_)
      refine bd_istore C [(4, .int v13), (12, .int s0), (0, .ref l0), (1, .ref l1), (3, .int l3), (5, .ref l5), (6, .int l6), (7, .int l7), (8, .ref l8), (9, .int l9), (10, .int l10)] dX5_spanOf_128 (by decide) rfl ?_
      exact bd_sub (hb130 _ hk15 _ hk42 l0 l1 l3 v13 l5 l6 l7 l8 l9 l10 ol0 ol1 ol5 ol8) [2, 3, 4, 0, 5, 6, 7, 8, 9, 10] rfl
    · refine bd_iload C 10 dX5_spanOf_116 rfl ?_
      refine bd_istore C [(9, .int l10), (12, .int s0), (0, .ref l0), (1, .ref l1), (3, .int l3), (4, .int l4), (5, .ref l5), (6, .int l6), (7, .int l7), (8, .ref l8), (10, .int l10)] dX5_spanOf_118 (by decide) rfl ?_
      refine bd_goto C 130 dX5_spanOf_120 (by decide) ?_
      exact bd_sub (hb130 _ hk15 _ hk42 l0 l1 l3 l4 l5 l6 l7 l8 l10 l10 ol0 ol1 ol5 ol8) [2, 3, 4, 5, 6, 7, 8, 9, 0, 10] rfl
  have hb88 : ∀ (k15 : Nat → Nat → Int32 → Int32 → Nat → Int32 → Int32 → Option (Int32)), (∀ (l0 : Nat) (l1 : Nat) (l3 : Int32) (l4 : Int32) (l5 : Nat) (l6 : Int32) (l7 : Int32) (ol0 : okF F l0 5) (ol1 : okF F l1 1) (ol5 : okF F l5 7), BD g G F 13 (qX5_spanOf G F g w) 0 0 (k15 l0 l1 l3 l4 l5 l6 l7) w 15 [(0, .ref l0), (1, .ref l1), (3, .int l3), (4, .int l4), (5, .ref l5), (6, .int l6), (7, .int l7)] []) → ∀ (k42 : Nat → Nat → Int32 → Int32 → Nat → Int32 → Int32 → Nat → Int32 → Int32 → Option (Int32)), (∀ (l0 : Nat) (l1 : Nat) (l3 : Int32) (l4 : Int32) (l5 : Nat) (l6 : Int32) (l7 : Int32) (l8 : Nat) (l9 : Int32) (l10 : Int32) (ol0 : okF F l0 5) (ol1 : okF F l1 1) (ol5 : okF F l5 7) (ol8 : okF F l8 7), BD g G F 13 (qX5_spanOf G F g w) 0 0 (k42 l0 l1 l3 l4 l5 l6 l7 l8 l9 l10) w 42 [(0, .ref l0), (1, .ref l1), (3, .int l3), (4, .int l4), (5, .ref l5), (6, .int l6), (7, .int l7), (8, .ref l8), (9, .int l9), (10, .int l10)] []) → ∀  (l0 : Nat) (l1 : Nat) (l3 : Int32) (l4 : Int32) (l5 : Nat) (l6 : Int32) (l7 : Int32) (l8 : Nat) (l9 : Int32) (l10 : Int32) (s0 : Int32) (ol0 : okF F l0 5) (ol1 : okF F l1 1) (ol5 : okF F l5 7) (ol8 : okF F l8 7), BD g G F 13 (qX5_spanOf G F g w) 0 0 (fX5_spanOf_88 F N w k15 k42 l0 l1 l3 l4 l5 l6 l7 l8 l9 l10 s0) w 88 [(0, .ref l0), (1, .ref l1), (3, .int l3), (4, .int l4), (5, .ref l5), (6, .int l6), (7, .int l7), (8, .ref l8), (9, .int l9), (10, .int l10)] [.int s0] := by
    intro k15 hk15 k42 hk42
    intro l0 l1 l3 l4 l5 l6 l7 l8 l9 l10 s0 ol0 ol1 ol5 ol8
    unfold fX5_spanOf_88
    refine bd_istore C [(11, .int s0), (0, .ref l0), (1, .ref l1), (3, .int l3), (4, .int l4), (5, .ref l5), (6, .int l6), (7, .int l7), (8, .ref l8), (9, .int l9), (10, .int l10)] dX5_spanOf_88 (by decide) rfl ?_
    refine bd_iload C 0 dX5_spanOf_90 rfl ?_
    refine bd_if_eq C 106 dX5_spanOf_92 (by decide) (fun c10 => ?_) (fun c10 => ?_)
    · refine bd_iconst C (v := 0) dX5_spanOf_106 (by decide) ?_
      exact bd_sub (hb107 _ hk15 _ hk42 l0 l1 l3 l4 l5 l6 l7 l8 l9 l10 0 ol0 ol1 ol5 ol8) [1, 2, 3, 4, 5, 6, 7, 8, 9, 10] rfl
    · refine bd_aload_n C 1 dX5_spanOf_95 rfl rfl ?_
      refine bd_iload C 7 dX5_spanOf_96 rfl ?_
      refine bd_iload C 10 dX5_spanOf_98 rfl ?_
      refine bd_callV (vs := fun (r : Int32) => some (.int r)) (wf := fun _ => w) (st := []) (st1 := fun x11 => Value.int x11 :: []) C [.int l7, .int l10] (fun r9 e9 => mX5_waysFrom C.flag N ol0 e9) mwX5_waysFrom miX5_waysFrom wd_1031 ol0 (by decide) rfl rfl rfl (Nat.le_of_ble_eq_true rfl) dX5_spanOf_100 ⟨rfl, rfl, Nat.le_of_ble_eq_true rfl, Nat.le_of_ble_eq_true rfl, Nat.le_of_ble_eq_true rfl, Nat.le_of_ble_eq_true rfl⟩ (fun _ => rfl) (fun x11 ex11 => ?_)
      refine bd_goto C 107 dX5_spanOf_103 (by decide) ?_
      exact bd_sub (hb107 _ hk15 _ hk42 l0 l1 l3 l4 l5 l6 l7 l8 l9 l10 x11 ol0 ol1 ol5 ol8) [1, 2, 3, 4, 5, 6, 7, 8, 9, 10] rfl
  have hb83 : ∀ (k15 : Nat → Nat → Int32 → Int32 → Nat → Int32 → Int32 → Option (Int32)), (∀ (l0 : Nat) (l1 : Nat) (l3 : Int32) (l4 : Int32) (l5 : Nat) (l6 : Int32) (l7 : Int32) (ol0 : okF F l0 5) (ol1 : okF F l1 1) (ol5 : okF F l5 7), BD g G F 13 (qX5_spanOf G F g w) 0 0 (k15 l0 l1 l3 l4 l5 l6 l7) w 15 [(0, .ref l0), (1, .ref l1), (3, .int l3), (4, .int l4), (5, .ref l5), (6, .int l6), (7, .int l7)] []) → ∀ (k42 : Nat → Nat → Int32 → Int32 → Nat → Int32 → Int32 → Nat → Int32 → Int32 → Option (Int32)), (∀ (l0 : Nat) (l1 : Nat) (l3 : Int32) (l4 : Int32) (l5 : Nat) (l6 : Int32) (l7 : Int32) (l8 : Nat) (l9 : Int32) (l10 : Int32) (ol0 : okF F l0 5) (ol1 : okF F l1 1) (ol5 : okF F l5 7) (ol8 : okF F l8 7), BD g G F 13 (qX5_spanOf G F g w) 0 0 (k42 l0 l1 l3 l4 l5 l6 l7 l8 l9 l10) w 42 [(0, .ref l0), (1, .ref l1), (3, .int l3), (4, .int l4), (5, .ref l5), (6, .int l6), (7, .int l7), (8, .ref l8), (9, .int l9), (10, .int l10)] []) → ∀  (l0 : Nat) (l1 : Nat) (l3 : Int32) (l4 : Int32) (l5 : Nat) (l6 : Int32) (l7 : Int32) (l8 : Nat) (l9 : Int32) (l10 : Int32) (ol0 : okF F l0 5) (ol1 : okF F l1 1) (ol5 : okF F l5 7) (ol8 : okF F l8 7), BD g G F 13 (qX5_spanOf G F g w) 0 0 (fX5_spanOf_83 F N w k15 k42 l0 l1 l3 l4 l5 l6 l7 l8 l9 l10) w 83 [(0, .ref l0), (1, .ref l1), (3, .int l3), (4, .int l4), (5, .ref l5), (6, .int l6), (7, .int l7), (8, .ref l8), (9, .int l9), (10, .int l10)] [] := by
    intro k15 hk15 k42 hk42
    intro l0 l1 l3 l4 l5 l6 l7 l8 l9 l10 ol0 ol1 ol5 ol8
    unfold fX5_spanOf_83
    refine bd_iconst C (v := 1) dX5_spanOf_83 (by decide) ?_
    refine bd_goto C 88 dX5_spanOf_84 (by decide) ?_
    exact bd_sub (hb88 _ hk15 _ hk42 l0 l1 l3 l4 l5 l6 l7 l8 l9 l10 1 ol0 ol1 ol5 ol8) [0, 1, 2, 3, 4, 5, 6, 7, 8, 9] rfl
  have hb42 : ∀ (k15 : Nat → Nat → Int32 → Int32 → Nat → Int32 → Int32 → Option (Int32)), (∀ (l0 : Nat) (l1 : Nat) (l3 : Int32) (l4 : Int32) (l5 : Nat) (l6 : Int32) (l7 : Int32) (ol0 : okF F l0 5) (ol1 : okF F l1 1) (ol5 : okF F l5 7), BD g G F 13 (qX5_spanOf G F g w) 0 0 (k15 l0 l1 l3 l4 l5 l6 l7) w 15 [(0, .ref l0), (1, .ref l1), (3, .int l3), (4, .int l4), (5, .ref l5), (6, .int l6), (7, .int l7)] []) → ∀ (n : Nat) (l0 : Nat) (l1 : Nat) (l3 : Int32) (l4 : Int32) (l5 : Nat) (l6 : Int32) (l7 : Int32) (l8 : Nat) (l9 : Int32) (l10 : Int32) (ol0 : okF F l0 5) (ol1 : okF F l1 1) (ol5 : okF F l5 7) (ol8 : okF F l8 7), BD g G F 13 (qX5_spanOf G F g w) 0 0 (fX5_spanOf_42 F N w k15 n l0 l1 l3 l4 l5 l6 l7 l8 l9 l10) w 42 [(0, .ref l0), (1, .ref l1), (3, .int l3), (4, .int l4), (5, .ref l5), (6, .int l6), (7, .int l7), (8, .ref l8), (9, .int l9), (10, .int l10)] [] := by
    intro k15 hk15
    intro n
    induction n with
    | zero =>
      intro l0 l1 l3 l4 l5 l6 l7 l8 l9 l10 ol0 ol1 ol5 ol8
      unfold fX5_spanOf_42
      exact bd_none
    | succ n ih =>
      intro l0 l1 l3 l4 l5 l6 l7 l8 l9 l10 ol0 ol1 ol5 ol8
      unfold fX5_spanOf_42
      refine bd_iload C 9 dX5_spanOf_42 rfl ?_
      refine bd_aload C 7 dX5_spanOf_44 rfl ?_
      refine bd_gIN C fi703 fv703 wd_137 dX5_spanOf_46 ol8 ?_
      refine bd_icmp_ge C 136 dX5_spanOf_49 (by decide) (fun c5 => ?_) (fun c5 => ?_)
      · exact bd_sub (hb136 _ hk15 l0 l1 l3 l4 l7 l8 l9 ol0 ol1 ol8) [0, 1, 2, 3, 6, 7, 8] rfl
      · refine bd_iload C 8 dX5_spanOf_52 rfl ?_
        refine bd_if_ge C 136 dX5_spanOf_54 (by decide) (fun c6 => ?_) (fun c6 => ?_)
        · exact bd_sub (hb136 _ hk15 l0 l1 l3 l4 l7 l8 l9 ol0 ol1 ol8) [0, 1, 2, 3, 6, 7, 8] rfl
        · refine bd_iload C 6 dX5_spanOf_57 rfl ?_
          refine bd_if_eq C 83 dX5_spanOf_59 (by decide) (fun c7 => ?_) (fun c7 => ?_)
          · exact bd_sub (hb83 _ hk15 _ ih l0 l1 l3 l4 l5 l6 l7 l8 l9 l10 ol0 ol1 ol5 ol8) [0, 1, 2, 3, 4, 5, 6, 7, 8, 9] rfl
          · refine bd_aload_n C 0 dX5_spanOf_62 rfl rfl ?_
            refine bd_aload C 4 dX5_spanOf_63 rfl ?_
            refine bd_iload C 5 dX5_spanOf_65 rfl ?_
            refine bd_aload C 7 dX5_spanOf_67 rfl ?_
            refine bd_iload C 9 dX5_spanOf_69 rfl ?_
            refine bd_iload C 6 dX5_spanOf_71 rfl ?_
            refine bd_aload_n C 1 dX5_spanOf_73 rfl rfl ?_
            refine bd_gIN C fi108 fv108 wd_164 dX5_spanOf_74 ol1 ?_
            refine bd_callV (vs := fun (r : Int32) => some (.int r)) (wf := fun _ => w) (st := []) (st1 := fun x8 => Value.int x8 :: []) C [.ref l5, .int l6, .ref l8, .int l10, .int l7, .int (gI w 108 l1)] (fun r9 e9 => mX5_isLinked C.flag N ol0 ol5 ol8 e9) mwX5_isLinked miX5_isLinked wd_1025 ol0 (by decide) rfl rfl rfl (Nat.le_of_ble_eq_true rfl) dX5_spanOf_77 ⟨rfl, rfl, Nat.le_of_ble_eq_true rfl, Nat.le_of_ble_eq_true rfl, Nat.le_of_ble_eq_true rfl, Nat.le_of_ble_eq_true rfl⟩ (fun _ => rfl) (fun x8 ex8 => ?_)
            refine bd_if_eq C 87 dX5_spanOf_80 (by decide) (fun c9 => ?_) (fun c9 => ?_)
            · refine bd_iconst C (v := 0) dX5_spanOf_87 (by decide) ?_
              exact bd_sub (hb88 _ hk15 _ ih l0 l1 l3 l4 l5 l6 l7 l8 l9 l10 0 ol0 ol1 ol5 ol8) [0, 1, 2, 3, 4, 5, 6, 7, 8, 9] rfl
            · exact bd_sub (hb83 _ hk15 _ ih l0 l1 l3 l4 l5 l6 l7 l8 l9 l10 ol0 ol1 ol5 ol8) [0, 1, 2, 3, 4, 5, 6, 7, 8, 9] rfl
  have hb15 : ∀ (n : Nat) (l0 : Nat) (l1 : Nat) (l3 : Int32) (l4 : Int32) (l5 : Nat) (l6 : Int32) (l7 : Int32) (ol0 : okF F l0 5) (ol1 : okF F l1 1) (ol5 : okF F l5 7), BD g G F 13 (qX5_spanOf G F g w) 0 0 (fX5_spanOf_15 F N w n l0 l1 l3 l4 l5 l6 l7) w 15 [(0, .ref l0), (1, .ref l1), (3, .int l3), (4, .int l4), (5, .ref l5), (6, .int l6), (7, .int l7)] [] := by
    intro n
    induction n with
    | zero =>
      intro l0 l1 l3 l4 l5 l6 l7 ol0 ol1 ol5
      unfold fX5_spanOf_15
      exact bd_none
    | succ n ih =>
      intro l0 l1 l3 l4 l5 l6 l7 ol0 ol1 ol5
      unfold fX5_spanOf_15
      refine bd_iload C 6 dX5_spanOf_15 rfl ?_
      refine bd_iload_n C 2 dX5_spanOf_17 rfl rfl ?_
      refine bd_icmp_gt C 150 dX5_spanOf_18 (by decide) (fun c1 => ?_) (fun c1 => ?_)
      · refine bd_iload C 5 dX5_spanOf_150 rfl ?_
        exact bd_iret C hret rfl _ _ rfl rfl dX5_spanOf_152 (Nat.le_refl _) (Nat.le_refl _)
      · refine bd_iload C 6 dX5_spanOf_21 rfl ?_
        refine bd_iconst C (v := 4) dX5_spanOf_23 (by decide) ?_
        refine bd_icmp_ge C 150 dX5_spanOf_24 (by decide) (fun c2 => ?_) (fun c2 => ?_)
        · refine bd_iload C 5 dX5_spanOf_150 rfl ?_
          exact bd_iret C hret rfl _ _ rfl rfl dX5_spanOf_152 (Nat.le_refl _) (Nat.le_refl _)
        · refine bd_aload_n C 0 dX5_spanOf_27 rfl rfl ?_
          refine bd_aload_n C 1 dX5_spanOf_28 rfl rfl ?_
          refine bd_iload C 6 dX5_spanOf_29 rfl ?_
          refine bd_callV (vs := fun (r : Nat) => some (.ref r)) (wf := fun _ => w) (st := []) (st1 := fun x3 => Value.ref x3 :: []) C [.ref l1, .int l7] (fun r9 e9 => mX5_rowOf C.flag N ol0 ol1 e9) mwX5_rowOf miX5_rowOf wd_1009 ol0 (by decide) rfl rfl rfl (Nat.le_of_ble_eq_true rfl) dX5_spanOf_31 ⟨rfl, rfl, Nat.le_of_ble_eq_true rfl, Nat.le_of_ble_eq_true rfl, Nat.le_of_ble_eq_true rfl, Nat.le_of_ble_eq_true rfl⟩ (fun _ => rfl) (fun x3 ex3 => ?_)
          refine bd_ckF (fun h4 => ?_)
          refine bd_astore C [(8, .ref x3), (0, .ref l0), (1, .ref l1), (3, .int l3), (4, .int l4), (5, .ref l5), (6, .int l6), (7, .int l7)] dX5_spanOf_34 (by decide) rfl ?_
          refine bd_iconst C (v := (-1)) dX5_spanOf_36 (by decide) ?_
          refine bd_istore C [(9, .int (-1)), (8, .ref x3), (0, .ref l0), (1, .ref l1), (3, .int l3), (4, .int l4), (5, .ref l5), (6, .int l6), (7, .int l7)] dX5_spanOf_37 (by decide) rfl ?_
          refine bd_iconst C (v := 0) dX5_spanOf_39 (by decide) ?_
          refine bd_istore C [(10, .int 0), (9, .int (-1)), (8, .ref x3), (0, .ref l0), (1, .ref l1), (3, .int l3), (4, .int l4), (5, .ref l5), (6, .int l6), (7, .int l7)] dX5_spanOf_40 (by decide) rfl ?_
          exact bd_sub (hb42 _ ih N l0 l1 l3 l4 l5 l6 l7 x3 (-1) 0 ol0 ol1 ol5 h4) [3, 4, 5, 6, 7, 8, 9, 2, 1, 0] rfl
  unfold fX5_spanOf
  refine bd_sub (lv' := [(0, .ref l0), (1, .ref l1), (2, .int l2), (3, .int l3)]) ?_ [0, 1, 2, 3] rfl
  refine bd_iload_n C 2 dX5_spanOf_0 rfl rfl ?_
  refine bd_istore C [(4, .int l2), (0, .ref l0), (1, .ref l1), (2, .int l2), (3, .int l3)] dX5_spanOf_1 (by decide) rfl ?_
  refine bd_aload_n C 1 dX5_spanOf_3 rfl rfl ?_
  refine bd_gR C fi505 fv505 wd_319 dX5_spanOf_4 ol0 (fun r14 gr14 hr14 => ?_)
  refine bd_astore C [(5, .ref r14), (4, .int l2), (0, .ref l0), (1, .ref l1), (2, .int l2), (3, .int l3)] dX5_spanOf_7 (by decide) rfl ?_
  refine bd_iconst C (v := (-1)) dX5_spanOf_9 (by decide) ?_
  refine bd_istore C [(6, .int (-1)), (5, .ref r14), (4, .int l2), (0, .ref l0), (1, .ref l1), (2, .int l2), (3, .int l3)] dX5_spanOf_10 (by decide) rfl ?_
  refine bd_iconst C (v := 0) dX5_spanOf_12 (by decide) ?_
  refine bd_istore C [(7, .int 0), (6, .int (-1)), (5, .ref r14), (4, .int l2), (0, .ref l0), (1, .ref l1), (2, .int l2), (3, .int l3)] dX5_spanOf_13 (by decide) rfl ?_
  exact bd_sub (hb15 N l0 l1 l3 l2 r14 (-1) 0 ol0 ol1 hr14) [4, 5, 7, 3, 2, 1, 0] rfl
abbrev rmX7_length : Room := { frames := 11, cells := 0, slots := 0, locals := 321 }
abbrev qX7_length (G : Gy) (F : Fr) (g : Bd) (w : Wd) : Int32 → State → Prop := fun r => QM G F g 0 0 ((fun (r : Int32) => some (.int r)) r) ((fun _ => w) r)
set_option maxRecDepth 20000 in
set_option maxHeartbeats 4000000 in
theorem mX7_length {l : Launch} (hf9 : l.stackTraces = false) {G : Gy} {F : Fr} (N : Nat) {w : Wd} {l0 : Nat} {l1 : Int32} {r : Int32} (ol0 : okF F l0 7) (e9 : fX7_length F N w l0 l1 = some r) : Met l yX7_length [.code yX7_length cX7_length 2 (some .int)] rmX7_length (PcB G F w [.ref l0, .int l1]) (QB G F ((fun (r : Int32) => some (.int r)) r) ((fun _ => w) r)) 0 0 (AF F) := by
  refine bd_met (vs := fun (r : Int32) => some (.int r)) (wf := fun _ => w) hf9 (by decide) (Nat.le_of_ble_eq_true rfl) e9 (fun g C hret hini => ?_)
  clear e9 r
  unfold fX7_length
  refine bd_sub (lv' := [(0, .ref l0), (1, .int l1)]) ?_ [0, 1] rfl
  refine bd_aload_n C 0 dX7_length_0 rfl rfl ?_
  refine bd_iload_n C 1 dX7_length_1 rfl rfl ?_
  refine bd_callV (vs := fun (r : Int32) => some (.int r)) (wf := fun _ => w) (st := []) (st1 := fun x1 => Value.int x1 :: []) C [.int l1] (fun r9 e9 => mX7_end C.flag N ol0 e9) mwX7_end miX7_end wd_406 ol0 (by decide) rfl rfl rfl (Nat.le_of_ble_eq_true rfl) dX7_length_2 ⟨rfl, rfl, Nat.le_of_ble_eq_true rfl, Nat.le_of_ble_eq_true rfl, Nat.le_of_ble_eq_true rfl, Nat.le_of_ble_eq_true rfl⟩ (fun _ => rfl) (fun x1 ex1 => ?_)
  refine bd_aload_n C 0 dX7_length_5 rfl rfl ?_
  refine bd_iload_n C 1 dX7_length_6 rfl rfl ?_
  refine bd_callV (vs := fun (r : Int32) => some (.int r)) (wf := fun _ => w) (st := [.int x1]) (st1 := fun x2 => Value.int x2 :: [.int x1]) C [.int l1] (fun r9 e9 => mX7_first C.flag N ol0 e9) mwX7_first miX7_first wd_402 ol0 (by decide) rfl rfl rfl (Nat.le_of_ble_eq_true rfl) dX7_length_7 ⟨rfl, rfl, Nat.le_of_ble_eq_true rfl, Nat.le_of_ble_eq_true rfl, Nat.le_of_ble_eq_true rfl, Nat.le_of_ble_eq_true rfl⟩ (fun _ => rfl) (fun x2 ex2 => ?_)
  refine bd_isub C dX7_length_10 ?_
  exact bd_iret C hret rfl _ _ rfl rfl dX7_length_11 (Nat.le_refl _) (Nat.le_refl _)
abbrev rmX7_spanWith : Room := { frames := 11, cells := 0, slots := 0, locals := 321 }
abbrev qX7_spanWith (G : Gy) (F : Fr) (g : Bd) (w : Wd) : Int32 → State → Prop := fun r => QM G F g 0 0 ((fun (r : Int32) => some (.int r)) r) ((fun _ => w) r)
set_option maxRecDepth 20000 in
set_option maxHeartbeats 4000000 in
theorem mX7_spanWith {l : Launch} (hf9 : l.stackTraces = false) {G : Gy} {F : Fr} (N : Nat) {w : Wd} {l0 : Nat} {l1 : Int32} {r : Int32} (ol0 : okF F l0 7) (e9 : fX7_spanWith F N w l0 l1 = some r) : Met l yX7_spanWith [.code yX7_spanWith cX7_spanWith 3 (some .int)] rmX7_spanWith (PcB G F w [.ref l0, .int l1]) (QB G F ((fun (r : Int32) => some (.int r)) r) ((fun _ => w) r)) 0 0 (AF F) := by
  refine bd_met (vs := fun (r : Int32) => some (.int r)) (wf := fun _ => w) hf9 (by decide) (Nat.le_of_ble_eq_true rfl) e9 (fun g C hret hini => ?_)
  clear e9 r
  have hb30 : ∀ (k2 : Nat → Int32 → Int32 → Option (Int32)), (∀ (l0 : Nat) (l1 : Int32) (l2 : Int32) (ol0 : okF F l0 7), BD g G F 3 (qX7_spanWith G F g w) 0 0 (k2 l0 l1 l2) w 2 [(0, .ref l0), (1, .int l1), (2, .int l2)] []) → ∀  (l0 : Nat) (l1 : Int32) (l2 : Int32) (ol0 : okF F l0 7), BD g G F 3 (qX7_spanWith G F g w) 0 0 (fX7_spanWith_30 F N w k2 l0 l1 l2) w 30 [(0, .ref l0), (1, .int l1), (2, .int l2)] [] := by
    intro k2 hk2
    intro l0 l1 l2 ol0
    unfold fX7_spanWith_30
    refine bd_iinc C (v := l2 + 1) 2 [(2, .int (l2 + 1)), (0, .ref l0), (1, .int l1)] dX7_spanWith_30 rfl rfl (by decide) rfl ?_
    refine bd_goto C 2 dX7_spanWith_33 (by decide) ?_
    exact bd_sub (hk2 l0 l1 (l2 + 1) ol0) [1, 2, 0] rfl
  have hb2 : ∀ (n : Nat) (l0 : Nat) (l1 : Int32) (l2 : Int32) (ol0 : okF F l0 7), BD g G F 3 (qX7_spanWith G F g w) 0 0 (fX7_spanWith_2 F N w n l0 l1 l2) w 2 [(0, .ref l0), (1, .int l1), (2, .int l2)] [] := by
    intro n
    induction n with
    | zero =>
      intro l0 l1 l2 ol0
      unfold fX7_spanWith_2
      exact bd_none
    | succ n ih =>
      intro l0 l1 l2 ol0
      unfold fX7_spanWith_2
      refine bd_iload_n C 2 dX7_spanWith_2 rfl rfl ?_
      refine bd_aload_n C 0 dX7_spanWith_3 rfl rfl ?_
      refine bd_gI C fi703 fv703 wd_136 dX7_spanWith_4 ol0 ?_
      refine bd_icmp_ge C 36 dX7_spanWith_7 (by decide) (fun c1 => ?_) (fun c1 => ?_)
      · refine bd_iconst C (v := (-1)) dX7_spanWith_36 (by decide) ?_
        exact bd_iret C hret rfl _ _ rfl rfl dX7_spanWith_37 (Nat.le_refl _) (Nat.le_refl _)
      · refine bd_aload_n C 0 dX7_spanWith_10 rfl rfl ?_
        refine bd_iload_n C 2 dX7_spanWith_11 rfl rfl ?_
        refine bd_callV (vs := fun (r : Int32) => some (.int r)) (wf := fun _ => w) (st := []) (st1 := fun x2 => Value.int x2 :: []) C [.int l2] (fun r9 e9 => mX7_first C.flag N ol0 e9) mwX7_first miX7_first wd_402 ol0 (by decide) rfl rfl rfl (Nat.le_of_ble_eq_true rfl) dX7_spanWith_12 ⟨rfl, rfl, Nat.le_of_ble_eq_true rfl, Nat.le_of_ble_eq_true rfl, Nat.le_of_ble_eq_true rfl, Nat.le_of_ble_eq_true rfl⟩ (fun _ => rfl) (fun x2 ex2 => ?_)
        refine bd_iload_n C 1 dX7_spanWith_15 rfl rfl ?_
        refine bd_icmp_gt C 30 dX7_spanWith_16 (by decide) (fun c3 => ?_) (fun c3 => ?_)
        · exact bd_sub (hb30 _ ih l0 l1 l2 ol0) [0, 1, 2] rfl
        · refine bd_iload_n C 1 dX7_spanWith_19 rfl rfl ?_
          refine bd_aload_n C 0 dX7_spanWith_20 rfl rfl ?_
          refine bd_iload_n C 2 dX7_spanWith_21 rfl rfl ?_
          refine bd_callV (vs := fun (r : Int32) => some (.int r)) (wf := fun _ => w) (st := [.int l1]) (st1 := fun x4 => Value.int x4 :: [.int l1]) C [.int l2] (fun r9 e9 => mX7_end C.flag N ol0 e9) mwX7_end miX7_end wd_406 ol0 (by decide) rfl rfl rfl (Nat.le_of_ble_eq_true rfl) dX7_spanWith_22 ⟨rfl, rfl, Nat.le_of_ble_eq_true rfl, Nat.le_of_ble_eq_true rfl, Nat.le_of_ble_eq_true rfl, Nat.le_of_ble_eq_true rfl⟩ (fun _ => rfl) (fun x4 ex4 => ?_)
          refine bd_icmp_ge C 30 dX7_spanWith_25 (by decide) (fun c5 => ?_) (fun c5 => ?_)
          · exact bd_sub (hb30 _ ih l0 l1 l2 ol0) [0, 1, 2] rfl
          · refine bd_iload_n C 2 dX7_spanWith_28 rfl rfl ?_
            exact bd_iret C hret rfl _ _ rfl rfl dX7_spanWith_29 (Nat.le_refl _) (Nat.le_refl _)
  unfold fX7_spanWith
  refine bd_sub (lv' := [(0, .ref l0), (1, .int l1)]) ?_ [0, 1] rfl
  refine bd_iconst C (v := 0) dX7_spanWith_0 (by decide) ?_
  refine bd_istore_n C [(2, .int 0), (0, .ref l0), (1, .int l1)] dX7_spanWith_1 rfl (by decide) rfl ?_
  exact bd_sub (hb2 N l0 l1 0 ol0) [1, 2, 0] rfl
abbrev rmX7_frameSum : Room := { frames := 12, cells := 0, slots := 0, locals := 342 }
abbrev qX7_frameSum (G : Gy) (F : Fr) (g : Bd) (w : Wd) : Int32 → State → Prop := fun r => QM G F g 0 0 ((fun (r : Int32) => some (.int r)) r) ((fun _ => w) r)
set_option maxRecDepth 20000 in
set_option maxHeartbeats 4000000 in
theorem mX7_frameSum {l : Launch} (hf9 : l.stackTraces = false) {G : Gy} {F : Fr} (N : Nat) {w : Wd} {l0 : Nat} {r : Int32} (ol0 : okF F l0 7) (e9 : fX7_frameSum F N w l0 = some r) : Met l yX7_frameSum [.code yX7_frameSum cX7_frameSum 3 (some .int)] rmX7_frameSum (PcB G F w [.ref l0]) (QB G F ((fun (r : Int32) => some (.int r)) r) ((fun _ => w) r)) 0 0 (AF F) := by
  refine bd_met (vs := fun (r : Int32) => some (.int r)) (wf := fun _ => w) hf9 (by decide) (Nat.le_of_ble_eq_true rfl) e9 (fun g C hret hini => ?_)
  clear e9 r
  have hb4 : ∀ (n : Nat) (l0 : Nat) (l1 : Int32) (l2 : Int32) (ol0 : okF F l0 7), BD g G F 3 (qX7_frameSum G F g w) 0 0 (fX7_frameSum_4 F N w n l0 l1 l2) w 4 [(0, .ref l0), (1, .int l1), (2, .int l2)] [] := by
    intro n
    induction n with
    | zero =>
      intro l0 l1 l2 ol0
      unfold fX7_frameSum_4
      exact bd_none
    | succ n ih =>
      intro l0 l1 l2 ol0
      unfold fX7_frameSum_4
      refine bd_iload_n C 2 dX7_frameSum_4 rfl rfl ?_
      refine bd_aload_n C 0 dX7_frameSum_5 rfl rfl ?_
      refine bd_gI C fi703 fv703 wd_136 dX7_frameSum_6 ol0 ?_
      refine bd_icmp_ge C 26 dX7_frameSum_9 (by decide) (fun c1 => ?_) (fun c1 => ?_)
      · refine bd_iload_n C 1 dX7_frameSum_26 rfl rfl ?_
        exact bd_iret C hret rfl _ _ rfl rfl dX7_frameSum_27 (Nat.le_refl _) (Nat.le_refl _)
      · refine bd_iload_n C 1 dX7_frameSum_12 rfl rfl ?_
        refine bd_aload_n C 0 dX7_frameSum_13 rfl rfl ?_
        refine bd_iload_n C 2 dX7_frameSum_14 rfl rfl ?_
        refine bd_callV (vs := fun (r : Int32) => some (.int r)) (wf := fun _ => w) (st := [.int l1]) (st1 := fun x2 => Value.int x2 :: [.int l1]) C [.int l2] (fun r9 e9 => mX7_length C.flag N ol0 e9) mwX7_length miX7_length wd_421 ol0 (by decide) rfl rfl rfl (Nat.le_of_ble_eq_true rfl) dX7_frameSum_15 ⟨rfl, rfl, Nat.le_of_ble_eq_true rfl, Nat.le_of_ble_eq_true rfl, Nat.le_of_ble_eq_true rfl, Nat.le_of_ble_eq_true rfl⟩ (fun _ => rfl) (fun x2 ex2 => ?_)
        refine bd_iadd C dX7_frameSum_18 ?_
        refine bd_bnd (tp := Value.int) (fun v3 ev3 => ?_)
        refine bd_istore_n C [(1, .int v3), (0, .ref l0), (2, .int l2)] dX7_frameSum_19 rfl (by decide) rfl ?_
        refine bd_iinc C (v := l2 + 1) 2 [(2, .int (l2 + 1)), (1, .int v3), (0, .ref l0)] dX7_frameSum_20 rfl rfl (by decide) rfl ?_
        refine bd_goto C 4 dX7_frameSum_23 (by decide) ?_
        exact bd_sub (ih l0 v3 (l2 + 1) ol0) [2, 1, 0] rfl
  unfold fX7_frameSum
  refine bd_sub (lv' := [(0, .ref l0)]) ?_ [0] rfl
  refine bd_iconst C (v := 0) dX7_frameSum_0 (by decide) ?_
  refine bd_istore_n C [(1, .int 0), (0, .ref l0)] dX7_frameSum_1 rfl (by decide) rfl ?_
  refine bd_iconst C (v := 0) dX7_frameSum_2 (by decide) ?_
  refine bd_istore_n C [(2, .int 0), (1, .int 0), (0, .ref l0)] dX7_frameSum_3 rfl (by decide) rfl ?_
  exact bd_sub (hb4 N l0 0 0 ol0) [2, 1, 0] rfl
abbrev rmX7_isLabelNew : Room := { frames := 11, cells := 0, slots := 0, locals := 321 }
abbrev qX7_isLabelNew (G : Gy) (F : Fr) (g : Bd) (w : Wd) : Int32 → State → Prop := fun r => QM G F g 0 0 ((fun (r : Int32) => some (.int r)) r) ((fun _ => w) r)
set_option maxRecDepth 20000 in
set_option maxHeartbeats 4000000 in
theorem mX7_isLabelNew {l : Launch} (hf9 : l.stackTraces = false) {G : Gy} {F : Fr} (N : Nat) {w : Wd} {l0 : Nat} {l1 : Int32} {r : Int32} (ol0 : okF F l0 7) (e9 : fX7_isLabelNew F N w l0 l1 = some r) : Met l yX7_isLabelNew [.code yX7_isLabelNew cX7_isLabelNew 3 (some .boolean)] rmX7_isLabelNew (PcB G F w [.ref l0, .int l1]) (QB G F ((fun (r : Int32) => some (.int r)) r) ((fun _ => w) r)) 0 0 (AF F) := by
  refine bd_met (vs := fun (r : Int32) => some (.int r)) (wf := fun _ => w) hf9 (by decide) (Nat.le_of_ble_eq_true rfl) e9 (fun g C hret hini => ?_)
  clear e9 r
  have hb2 : ∀ (n : Nat) (l0 : Nat) (l1 : Int32) (l2 : Int32) (ol0 : okF F l0 7), BD g G F 3 (qX7_isLabelNew G F g w) 0 0 (fX7_isLabelNew_2 F N w n l0 l1 l2) w 2 [(0, .ref l0), (1, .int l1), (2, .int l2)] [] := by
    intro n
    induction n with
    | zero =>
      intro l0 l1 l2 ol0
      unfold fX7_isLabelNew_2
      exact bd_none
    | succ n ih =>
      intro l0 l1 l2 ol0
      unfold fX7_isLabelNew_2
      refine bd_iload_n C 2 dX7_isLabelNew_2 rfl rfl ?_
      refine bd_iload_n C 1 dX7_isLabelNew_3 rfl rfl ?_
      refine bd_icmp_ge C 29 dX7_isLabelNew_4 (by decide) (fun c1 => ?_) (fun c1 => ?_)
      · refine bd_iconst C (v := 1) dX7_isLabelNew_29 (by decide) ?_
        exact bd_zret C hret rfl _ _ rfl rfl rfl dX7_isLabelNew_30 (Nat.le_refl _) (Nat.le_refl _)
      · refine bd_aload_n C 0 dX7_isLabelNew_7 rfl rfl ?_
        refine bd_iload_n C 2 dX7_isLabelNew_8 rfl rfl ?_
        refine bd_callV (vs := fun (r : Int64) => some (.long r)) (wf := fun _ => w) (st := []) (st1 := fun x2 => Value.long x2 :: []) C [.int l2] (fun r9 e9 => mX7_label C.flag N ol0 e9) mwX7_label miX7_label wd_671 ol0 (by decide) rfl rfl rfl (Nat.le_of_ble_eq_true rfl) dX7_isLabelNew_9 ⟨rfl, rfl, Nat.le_of_ble_eq_true rfl, Nat.le_of_ble_eq_true rfl, Nat.le_of_ble_eq_true rfl, Nat.le_of_ble_eq_true rfl⟩ (fun _ => rfl) (fun x2 ex2 => ?_)
        refine bd_aload_n C 0 dX7_isLabelNew_12 rfl rfl ?_
        refine bd_iload_n C 1 dX7_isLabelNew_13 rfl rfl ?_
        refine bd_callV (vs := fun (r : Int64) => some (.long r)) (wf := fun _ => w) (st := [.long x2]) (st1 := fun x3 => Value.long x3 :: [.long x2]) C [.int l1] (fun r9 e9 => mX7_label C.flag N ol0 e9) mwX7_label miX7_label wd_671 ol0 (by decide) rfl rfl rfl (Nat.le_of_ble_eq_true rfl) dX7_isLabelNew_14 ⟨rfl, rfl, Nat.le_of_ble_eq_true rfl, Nat.le_of_ble_eq_true rfl, Nat.le_of_ble_eq_true rfl, Nat.le_of_ble_eq_true rfl⟩ (fun _ => rfl) (fun x3 ex3 => ?_)
        refine bd_lcmp C dX7_isLabelNew_17 ?_
        refine bd_if_ne C 23 dX7_isLabelNew_18 (by decide) (fun c4 => ?_) (fun c4 => ?_)
        · refine bd_iinc C (v := l2 + 1) 2 [(2, .int (l2 + 1)), (0, .ref l0), (1, .int l1)] dX7_isLabelNew_23 rfl rfl (by decide) rfl ?_
          refine bd_goto C 2 dX7_isLabelNew_26 (by decide) ?_
          exact bd_sub (ih l0 l1 (l2 + 1) ol0) [1, 2, 0] rfl
        · refine bd_iconst C (v := 0) dX7_isLabelNew_21 (by decide) ?_
          exact bd_zret C hret rfl _ _ rfl rfl rfl dX7_isLabelNew_22 (Nat.le_refl _) (Nat.le_refl _)
  unfold fX7_isLabelNew
  refine bd_sub (lv' := [(0, .ref l0), (1, .int l1)]) ?_ [0, 1] rfl
  refine bd_iconst C (v := 0) dX7_isLabelNew_0 (by decide) ?_
  refine bd_istore_n C [(2, .int 0), (0, .ref l0), (1, .int l1)] dX7_isLabelNew_1 rfl (by decide) rfl ?_
  exact bd_sub (hb2 N l0 l1 0 ol0) [1, 2, 0] rfl
abbrev rmX7_labelCount : Room := { frames := 12, cells := 0, slots := 0, locals := 343 }
abbrev qX7_labelCount (G : Gy) (F : Fr) (g : Bd) (w : Wd) : Int32 → State → Prop := fun r => QM G F g 0 0 ((fun (r : Int32) => some (.int r)) r) ((fun _ => w) r)
set_option maxRecDepth 20000 in
set_option maxHeartbeats 4000000 in
theorem mX7_labelCount {l : Launch} (hf9 : l.stackTraces = false) {G : Gy} {F : Fr} (N : Nat) {w : Wd} {l0 : Nat} {r : Int32} (ol0 : okF F l0 7) (e9 : fX7_labelCount F N w l0 = some r) : Met l yX7_labelCount [.code yX7_labelCount cX7_labelCount 3 (some .int)] rmX7_labelCount (PcB G F w [.ref l0]) (QB G F ((fun (r : Int32) => some (.int r)) r) ((fun _ => w) r)) 0 0 (AF F) := by
  refine bd_met (vs := fun (r : Int32) => some (.int r)) (wf := fun _ => w) hf9 (by decide) (Nat.le_of_ble_eq_true rfl) e9 (fun g C hret hini => ?_)
  clear e9 r
  have hb26 : ∀ (k4 : Nat → Int32 → Int32 → Option (Int32)), (∀ (l0 : Nat) (l1 : Int32) (l2 : Int32) (ol0 : okF F l0 7), BD g G F 3 (qX7_labelCount G F g w) 0 0 (k4 l0 l1 l2) w 4 [(0, .ref l0), (1, .int l1), (2, .int l2)] []) → ∀  (l0 : Nat) (l2 : Int32) (s0 : Int32) (s1 : Int32) (ol0 : okF F l0 7), BD g G F 3 (qX7_labelCount G F g w) 0 0 (fX7_labelCount_26 F N w k4 l0 l2 s0 s1) w 26 [(0, .ref l0), (2, .int l2)] [.int s1, .int s0] := by
    intro k4 hk4
    intro l0 l2 s0 s1 ol0
    unfold fX7_labelCount_26
    refine bd_iadd C dX7_labelCount_26 ?_
    refine bd_bnd (tp := Value.int) (fun v4 ev4 => ?_)
    refine bd_istore_n C [(1, .int v4), (0, .ref l0), (2, .int l2)] dX7_labelCount_27 rfl (by decide) rfl ?_
    refine bd_iinc C (v := l2 + 1) 2 [(2, .int (l2 + 1)), (1, .int v4), (0, .ref l0)] dX7_labelCount_28 rfl rfl (by decide) rfl ?_
    refine bd_goto C 4 dX7_labelCount_31 (by decide) ?_
    exact bd_sub (hk4 l0 v4 (l2 + 1) ol0) [2, 1, 0] rfl
  have hb4 : ∀ (n : Nat) (l0 : Nat) (l1 : Int32) (l2 : Int32) (ol0 : okF F l0 7), BD g G F 3 (qX7_labelCount G F g w) 0 0 (fX7_labelCount_4 F N w n l0 l1 l2) w 4 [(0, .ref l0), (1, .int l1), (2, .int l2)] [] := by
    intro n
    induction n with
    | zero =>
      intro l0 l1 l2 ol0
      unfold fX7_labelCount_4
      exact bd_none
    | succ n ih =>
      intro l0 l1 l2 ol0
      unfold fX7_labelCount_4
      refine bd_iload_n C 2 dX7_labelCount_4 rfl rfl ?_
      refine bd_aload_n C 0 dX7_labelCount_5 rfl rfl ?_
      refine bd_gI C fi703 fv703 wd_136 dX7_labelCount_6 ol0 ?_
      refine bd_icmp_ge C 34 dX7_labelCount_9 (by decide) (fun c1 => ?_) (fun c1 => ?_)
      · refine bd_iload_n C 1 dX7_labelCount_34 rfl rfl ?_
        exact bd_iret C hret rfl _ _ rfl rfl dX7_labelCount_35 (Nat.le_refl _) (Nat.le_refl _)
      · refine bd_iload_n C 1 dX7_labelCount_12 rfl rfl ?_
        refine bd_aload_n C 0 dX7_labelCount_13 rfl rfl ?_
        refine bd_iload_n C 2 dX7_labelCount_14 rfl rfl ?_
        refine bd_callV (vs := fun (r : Int32) => some (.int r)) (wf := fun _ => w) (st := [.int l1]) (st1 := fun x2 => Value.int x2 :: [.int l1]) C [.int l2] (fun r9 e9 => mX7_isLabelNew C.flag N ol0 e9) mwX7_isLabelNew miX7_isLabelNew wd_667 ol0 (by decide) rfl rfl rfl (Nat.le_of_ble_eq_true rfl) dX7_labelCount_15 ⟨rfl, rfl, Nat.le_of_ble_eq_true rfl, Nat.le_of_ble_eq_true rfl, Nat.le_of_ble_eq_true rfl, Nat.le_of_ble_eq_true rfl⟩ (fun _ => rfl) (fun x2 ex2 => ?_)
        refine bd_if_eq C 25 dX7_labelCount_18 (by decide) (fun c3 => ?_) (fun c3 => ?_)
        · refine bd_iconst C (v := 0) dX7_labelCount_25 (by decide) ?_
          exact bd_sub (hb26 _ ih l0 l2 l1 0 ol0) [0, 2] rfl
        · refine bd_iconst C (v := 1) dX7_labelCount_21 (by decide) ?_
          refine bd_goto C 26 dX7_labelCount_22 (by decide) ?_
          exact bd_sub (hb26 _ ih l0 l2 l1 1 ol0) [0, 2] rfl
  unfold fX7_labelCount
  refine bd_sub (lv' := [(0, .ref l0)]) ?_ [0] rfl
  refine bd_iconst C (v := 0) dX7_labelCount_0 (by decide) ?_
  refine bd_istore_n C [(1, .int 0), (0, .ref l0)] dX7_labelCount_1 rfl (by decide) rfl ?_
  refine bd_iconst C (v := 0) dX7_labelCount_2 (by decide) ?_
  refine bd_istore_n C [(2, .int 0), (1, .int 0), (0, .ref l0)] dX7_labelCount_3 rfl (by decide) rfl ?_
  exact bd_sub (hb4 N l0 0 0 ol0) [2, 1, 0] rfl
abbrev rmX7_isInOrder : Room := { frames := 11, cells := 0, slots := 0, locals := 321 }
abbrev qX7_isInOrder (G : Gy) (F : Fr) (g : Bd) (w : Wd) : Int32 → State → Prop := fun r => QM G F g 0 0 ((fun (r : Int32) => some (.int r)) r) ((fun _ => w) r)
set_option maxRecDepth 20000 in
set_option maxHeartbeats 4000000 in
theorem mX7_isInOrder {l : Launch} (hf9 : l.stackTraces = false) {G : Gy} {F : Fr} (N : Nat) {w : Wd} {l0 : Nat} {r : Int32} (ol0 : okF F l0 7) (e9 : fX7_isInOrder F N w l0 = some r) : Met l yX7_isInOrder [.code yX7_isInOrder cX7_isInOrder 3 (some .boolean)] rmX7_isInOrder (PcB G F w [.ref l0]) (QB G F ((fun (r : Int32) => some (.int r)) r) ((fun _ => w) r)) 0 0 (AF F) := by
  refine bd_met (vs := fun (r : Int32) => some (.int r)) (wf := fun _ => w) hf9 (by decide) (Nat.le_of_ble_eq_true rfl) e9 (fun g C hret hini => ?_)
  clear e9 r
  have hb4 : ∀ (n : Nat) (l0 : Nat) (l1 : Int32) (l2 : Int32) (ol0 : okF F l0 7), BD g G F 3 (qX7_isInOrder G F g w) 0 0 (fX7_isInOrder_4 F N w n l0 l1 l2) w 4 [(0, .ref l0), (1, .int l1), (2, .int l2)] [] := by
    intro n
    induction n with
    | zero =>
      intro l0 l1 l2 ol0
      unfold fX7_isInOrder_4
      exact bd_none
    | succ n ih =>
      intro l0 l1 l2 ol0
      unfold fX7_isInOrder_4
      refine bd_iload_n C 2 dX7_isInOrder_4 rfl rfl ?_
      refine bd_aload_n C 0 dX7_isInOrder_5 rfl rfl ?_
      refine bd_gI C fi703 fv703 wd_136 dX7_isInOrder_6 ol0 ?_
      refine bd_icmp_ge C 59 dX7_isInOrder_9 (by decide) (fun c1 => ?_) (fun c1 => ?_)
      · refine bd_iconst C (v := 1) dX7_isInOrder_59 (by decide) ?_
        exact bd_zret C hret rfl _ _ rfl rfl rfl dX7_isInOrder_60 (Nat.le_refl _) (Nat.le_refl _)
      · refine bd_aload_n C 0 dX7_isInOrder_12 rfl rfl ?_
        refine bd_iload_n C 2 dX7_isInOrder_13 rfl rfl ?_
        refine bd_callV (vs := fun (r : Int32) => some (.int r)) (wf := fun _ => w) (st := []) (st1 := fun x2 => Value.int x2 :: []) C [.int l2] (fun r9 e9 => mX7_first C.flag N ol0 e9) mwX7_first miX7_first wd_402 ol0 (by decide) rfl rfl rfl (Nat.le_of_ble_eq_true rfl) dX7_isInOrder_14 ⟨rfl, rfl, Nat.le_of_ble_eq_true rfl, Nat.le_of_ble_eq_true rfl, Nat.le_of_ble_eq_true rfl, Nat.le_of_ble_eq_true rfl⟩ (fun _ => rfl) (fun x2 ex2 => ?_)
        refine bd_iload_n C 1 dX7_isInOrder_17 rfl rfl ?_
        refine bd_icmp_lt C 45 dX7_isInOrder_18 (by decide) (fun c3 => ?_) (fun c3 => ?_)
        · refine bd_iconst C (v := 0) dX7_isInOrder_45 (by decide) ?_
          exact bd_zret C hret rfl _ _ rfl rfl rfl dX7_isInOrder_46 (Nat.le_refl _) (Nat.le_refl _)
        · refine bd_aload_n C 0 dX7_isInOrder_21 rfl rfl ?_
          refine bd_iload_n C 2 dX7_isInOrder_22 rfl rfl ?_
          refine bd_callV (vs := fun (r : Int32) => some (.int r)) (wf := fun _ => w) (st := []) (st1 := fun x4 => Value.int x4 :: []) C [.int l2] (fun r9 e9 => mX7_end C.flag N ol0 e9) mwX7_end miX7_end wd_406 ol0 (by decide) rfl rfl rfl (Nat.le_of_ble_eq_true rfl) dX7_isInOrder_23 ⟨rfl, rfl, Nat.le_of_ble_eq_true rfl, Nat.le_of_ble_eq_true rfl, Nat.le_of_ble_eq_true rfl, Nat.le_of_ble_eq_true rfl⟩ (fun _ => rfl) (fun x4 ex4 => ?_)
          refine bd_aload_n C 0 dX7_isInOrder_26 rfl rfl ?_
          refine bd_iload_n C 2 dX7_isInOrder_27 rfl rfl ?_
          refine bd_callV (vs := fun (r : Int32) => some (.int r)) (wf := fun _ => w) (st := [.int x4]) (st1 := fun x5 => Value.int x5 :: [.int x4]) C [.int l2] (fun r9 e9 => mX7_first C.flag N ol0 e9) mwX7_first miX7_first wd_402 ol0 (by decide) rfl rfl rfl (Nat.le_of_ble_eq_true rfl) dX7_isInOrder_28 ⟨rfl, rfl, Nat.le_of_ble_eq_true rfl, Nat.le_of_ble_eq_true rfl, Nat.le_of_ble_eq_true rfl, Nat.le_of_ble_eq_true rfl⟩ (fun _ => rfl) (fun x5 ex5 => ?_)
          refine bd_icmp_le C 45 dX7_isInOrder_31 (by decide) (fun c6 => ?_) (fun c6 => ?_)
          · refine bd_iconst C (v := 0) dX7_isInOrder_45 (by decide) ?_
            exact bd_zret C hret rfl _ _ rfl rfl rfl dX7_isInOrder_46 (Nat.le_refl _) (Nat.le_refl _)
          · refine bd_aload_n C 0 dX7_isInOrder_34 rfl rfl ?_
            refine bd_iload_n C 2 dX7_isInOrder_35 rfl rfl ?_
            refine bd_callV (vs := fun (r : Int32) => some (.int r)) (wf := fun _ => w) (st := []) (st1 := fun x7 => Value.int x7 :: []) C [.int l2] (fun r9 e9 => mX7_end C.flag N ol0 e9) mwX7_end miX7_end wd_406 ol0 (by decide) rfl rfl rfl (Nat.le_of_ble_eq_true rfl) dX7_isInOrder_36 ⟨rfl, rfl, Nat.le_of_ble_eq_true rfl, Nat.le_of_ble_eq_true rfl, Nat.le_of_ble_eq_true rfl, Nat.le_of_ble_eq_true rfl⟩ (fun _ => rfl) (fun x7 ex7 => ?_)
            refine bd_sipush C (v := 1000) dX7_isInOrder_39 (by decide) ?_
            refine bd_icmp_le C 47 dX7_isInOrder_42 (by decide) (fun c8 => ?_) (fun c8 => ?_)
            · refine bd_aload_n C 0 dX7_isInOrder_47 rfl rfl ?_
              refine bd_iload_n C 2 dX7_isInOrder_48 rfl rfl ?_
              refine bd_callV (vs := fun (r : Int32) => some (.int r)) (wf := fun _ => w) (st := []) (st1 := fun x9 => Value.int x9 :: []) C [.int l2] (fun r9 e9 => mX7_end C.flag N ol0 e9) mwX7_end miX7_end wd_406 ol0 (by decide) rfl rfl rfl (Nat.le_of_ble_eq_true rfl) dX7_isInOrder_49 ⟨rfl, rfl, Nat.le_of_ble_eq_true rfl, Nat.le_of_ble_eq_true rfl, Nat.le_of_ble_eq_true rfl, Nat.le_of_ble_eq_true rfl⟩ (fun _ => rfl) (fun x9 ex9 => ?_)
              refine bd_istore_n C [(1, .int x9), (0, .ref l0), (2, .int l2)] dX7_isInOrder_52 rfl (by decide) rfl ?_
              refine bd_iinc C (v := l2 + 1) 2 [(2, .int (l2 + 1)), (1, .int x9), (0, .ref l0)] dX7_isInOrder_53 rfl rfl (by decide) rfl ?_
              refine bd_goto C 4 dX7_isInOrder_56 (by decide) ?_
              exact bd_sub (ih l0 x9 (l2 + 1) ol0) [2, 1, 0] rfl
            · refine bd_iconst C (v := 0) dX7_isInOrder_45 (by decide) ?_
              exact bd_zret C hret rfl _ _ rfl rfl rfl dX7_isInOrder_46 (Nat.le_refl _) (Nat.le_refl _)
  unfold fX7_isInOrder
  refine bd_sub (lv' := [(0, .ref l0)]) ?_ [0] rfl
  refine bd_iconst C (v := 0) dX7_isInOrder_0 (by decide) ?_
  refine bd_istore_n C [(1, .int 0), (0, .ref l0)] dX7_isInOrder_1 rfl (by decide) rfl ?_
  refine bd_iconst C (v := 0) dX7_isInOrder_2 (by decide) ?_
  refine bd_istore_n C [(2, .int 0), (1, .int 0), (0, .ref l0)] dX7_isInOrder_3 rfl (by decide) rfl ?_
  exact bd_sub (hb4 N l0 0 0 ol0) [2, 1, 0] rfl
abbrev rmX7_coveredFrames : Room := { frames := 11, cells := 0, slots := 0, locals := 321 }
abbrev qX7_coveredFrames (G : Gy) (F : Fr) (g : Bd) (w : Wd) : Int32 → State → Prop := fun r => QM G F g 0 0 ((fun (r : Int32) => some (.int r)) r) ((fun _ => w) r)
set_option maxRecDepth 20000 in
set_option maxHeartbeats 4000000 in
theorem mX7_coveredFrames {l : Launch} (hf9 : l.stackTraces = false) {G : Gy} {F : Fr} (N : Nat) {w : Wd} {l0 : Nat} {r : Int32} (ol0 : okF F l0 7) (e9 : fX7_coveredFrames F N w l0 = some r) : Met l yX7_coveredFrames [.code yX7_coveredFrames cX7_coveredFrames 4 (some .int)] rmX7_coveredFrames (PcB G F w [.ref l0]) (QB G F ((fun (r : Int32) => some (.int r)) r) ((fun _ => w) r)) 0 0 (AF F) := by
  refine bd_met (vs := fun (r : Int32) => some (.int r)) (wf := fun _ => w) hf9 (by decide) (Nat.le_of_ble_eq_true rfl) e9 (fun g C hret hini => ?_)
  clear e9 r
  have hb6 : ∀ (n : Nat) (l0 : Nat) (l1 : Int32) (l2 : Int32) (l3 : Int32) (ol0 : okF F l0 7), BD g G F 4 (qX7_coveredFrames G F g w) 0 0 (fX7_coveredFrames_6 F N w n l0 l1 l2 l3) w 6 [(0, .ref l0), (1, .int l1), (2, .int l2), (3, .int l3)] [] := by
    intro n
    induction n with
    | zero =>
      intro l0 l1 l2 l3 ol0
      unfold fX7_coveredFrames_6
      exact bd_none
    | succ n ih =>
      intro l0 l1 l2 l3 ol0
      unfold fX7_coveredFrames_6
      refine bd_iload_n C 3 dX7_coveredFrames_6 rfl rfl ?_
      refine bd_aload_n C 0 dX7_coveredFrames_7 rfl rfl ?_
      refine bd_gI C fi703 fv703 wd_136 dX7_coveredFrames_8 ol0 ?_
      refine bd_icmp_ge C 52 dX7_coveredFrames_11 (by decide) (fun c1 => ?_) (fun c1 => ?_)
      · refine bd_iload_n C 1 dX7_coveredFrames_52 rfl rfl ?_
        exact bd_iret C hret rfl _ _ rfl rfl dX7_coveredFrames_53 (Nat.le_refl _) (Nat.le_refl _)
      · refine bd_iload_n C 1 dX7_coveredFrames_14 rfl rfl ?_
        refine bd_iconst C (v := 0) dX7_coveredFrames_15 (by decide) ?_
        refine bd_aload_n C 0 dX7_coveredFrames_16 rfl rfl ?_
        refine bd_iload_n C 3 dX7_coveredFrames_17 rfl rfl ?_
        refine bd_callV (vs := fun (r : Int32) => some (.int r)) (wf := fun _ => w) (st := [.int 0, .int l1]) (st1 := fun x2 => Value.int x2 :: [.int 0, .int l1]) C [.int l3] (fun r9 e9 => mX7_end C.flag N ol0 e9) mwX7_end miX7_end wd_406 ol0 (by decide) rfl rfl rfl (Nat.le_of_ble_eq_true rfl) dX7_coveredFrames_18 ⟨rfl, rfl, Nat.le_of_ble_eq_true rfl, Nat.le_of_ble_eq_true rfl, Nat.le_of_ble_eq_true rfl, Nat.le_of_ble_eq_true rfl⟩ (fun _ => rfl) (fun x2 ex2 => ?_)
        refine bd_aload_n C 0 dX7_coveredFrames_21 rfl rfl ?_
        refine bd_iload_n C 3 dX7_coveredFrames_22 rfl rfl ?_
        refine bd_callV (vs := fun (r : Int32) => some (.int r)) (wf := fun _ => w) (st := [.int x2, .int 0, .int l1]) (st1 := fun x3 => Value.int x3 :: [.int x2, .int 0, .int l1]) C [.int l3] (fun r9 e9 => mX7_first C.flag N ol0 e9) mwX7_first miX7_first wd_402 ol0 (by decide) rfl rfl rfl (Nat.le_of_ble_eq_true rfl) dX7_coveredFrames_23 ⟨rfl, rfl, Nat.le_of_ble_eq_true rfl, Nat.le_of_ble_eq_true rfl, Nat.le_of_ble_eq_true rfl, Nat.le_of_ble_eq_true rfl⟩ (fun _ => rfl) (fun x3 ex3 => ?_)
        refine bd_iload_n C 2 dX7_coveredFrames_26 rfl rfl ?_
        refine bd_mmax C wd_414 wd_415 wd_104 wd_416 dX7_coveredFrames_27 ⟨Nat.le_of_ble_eq_true rfl, Nat.le_of_ble_eq_true rfl, Nat.zero_le _, Nat.zero_le _⟩ ?_
        refine bd_isub C dX7_coveredFrames_30 ?_
        refine bd_mmax C wd_414 wd_415 wd_104 wd_416 dX7_coveredFrames_31 ⟨Nat.le_of_ble_eq_true rfl, Nat.le_of_ble_eq_true rfl, Nat.zero_le _, Nat.zero_le _⟩ ?_
        refine bd_iadd C dX7_coveredFrames_34 ?_
        refine bd_bnd (tp := Value.int) (fun v4 ev4 => ?_)
        refine bd_istore_n C [(1, .int v4), (0, .ref l0), (2, .int l2), (3, .int l3)] dX7_coveredFrames_35 rfl (by decide) rfl ?_
        refine bd_iload_n C 2 dX7_coveredFrames_36 rfl rfl ?_
        refine bd_aload_n C 1 dX7_coveredFrames_37 rfl rfl ?_
        refine bd_iload_n C 3 dX7_coveredFrames_38 rfl rfl ?_
        refine bd_callV (vs := fun (r : Int32) => some (.int r)) (wf := fun _ => w) (st := [.int l2]) (st1 := fun x5 => Value.int x5 :: [.int l2]) C [.int l3] (fun r9 e9 => mX7_end C.flag N ol0 e9) mwX7_end miX7_end wd_406 ol0 (by decide) rfl rfl rfl (Nat.le_of_ble_eq_true rfl) dX7_coveredFrames_39 ⟨rfl, rfl, Nat.le_of_ble_eq_true rfl, Nat.le_of_ble_eq_true rfl, Nat.le_of_ble_eq_true rfl, Nat.le_of_ble_eq_true rfl⟩ (fun _ => rfl) (fun x5 ex5 => ?_)
        refine bd_mmax C wd_414 wd_415 wd_104 wd_416 dX7_coveredFrames_42 ⟨Nat.le_of_ble_eq_true rfl, Nat.le_of_ble_eq_true rfl, Nat.zero_le _, Nat.zero_le _⟩ ?_
        refine bd_bnd (tp := Value.int) (fun v6 ev6 => ?_)
        refine bd_istore_n C [(2, .int v6), (1, .int v4), (0, .ref l0), (3, .int l3)] dX7_coveredFrames_45 rfl (by decide) rfl ?_
        refine bd_iinc C (v := l3 + 1) 3 [(3, .int (l3 + 1)), (2, .int v6), (1, .int v4), (0, .ref l0)] dX7_coveredFrames_46 rfl rfl (by decide) rfl ?_
        refine bd_goto C 6 dX7_coveredFrames_49 (by decide) ?_
        exact bd_sub (ih l0 v4 v6 (l3 + 1) ol0) [3, 2, 1, 0] rfl
  unfold fX7_coveredFrames
  refine bd_sub (lv' := [(0, .ref l0)]) ?_ [0] rfl
  refine bd_iconst C (v := 0) dX7_coveredFrames_0 (by decide) ?_
  refine bd_istore_n C [(1, .int 0), (0, .ref l0)] dX7_coveredFrames_1 rfl (by decide) rfl ?_
  refine bd_iconst C (v := 0) dX7_coveredFrames_2 (by decide) ?_
  refine bd_istore_n C [(2, .int 0), (1, .int 0), (0, .ref l0)] dX7_coveredFrames_3 rfl (by decide) rfl ?_
  refine bd_iconst C (v := 0) dX7_coveredFrames_4 (by decide) ?_
  refine bd_istore_n C [(3, .int 0), (2, .int 0), (1, .int 0), (0, .ref l0)] dX7_coveredFrames_5 rfl (by decide) rfl ?_
  exact bd_sub (hb6 N l0 0 0 0 ol0) [3, 2, 1, 0] rfl
abbrev rmX7_commonFrames : Room := { frames := 11, cells := 0, slots := 0, locals := 321 }
abbrev qX7_commonFrames (G : Gy) (F : Fr) (g : Bd) (w : Wd) : Int32 → State → Prop := fun r => QM G F g 0 0 ((fun (r : Int32) => some (.int r)) r) ((fun _ => w) r)
set_option maxRecDepth 20000 in
set_option maxHeartbeats 4000000 in
theorem mX7_commonFrames {l : Launch} (hf9 : l.stackTraces = false) {G : Gy} {F : Fr} (N : Nat) {w : Wd} {l0 : Nat} {l1 : Nat} {l2 : Int32} {r : Int32} (ol0 : okF F l0 7) (ol1 : okF F l1 7) (e9 : fX7_commonFrames F N w l0 l1 l2 = some r) : Met l yX7_commonFrames [.code yX7_commonFrames cX7_commonFrames 7 (some .int)] rmX7_commonFrames (PcB G F w [.ref l0, .ref l1, .int l2]) (QB G F ((fun (r : Int32) => some (.int r)) r) ((fun _ => w) r)) 0 0 (AF F) := by
  refine bd_met (vs := fun (r : Int32) => some (.int r)) (wf := fun _ => w) hf9 (by decide) (Nat.le_of_ble_eq_true rfl) e9 (fun g C hret hini => ?_)
  clear e9 r
  have hb88 : ∀ (k5 : Nat → Nat → Int32 → Int32 → Int32 → Option (Int32)), (∀ (l0 : Nat) (l1 : Nat) (l2 : Int32) (l3 : Int32) (l4 : Int32) (ol0 : okF F l0 7) (ol1 : okF F l1 7), BD g G F 7 (qX7_commonFrames G F g w) 0 0 (k5 l0 l1 l2 l3 l4) w 5 [(0, .ref l0), (1, .ref l1), (2, .int l2), (3, .int l3), (4, .int l4)] []) → ∀ (k17 : Nat → Nat → Int32 → Int32 → Int32 → Int32 → Option (Int32)), (∀ (l0 : Nat) (l1 : Nat) (l2 : Int32) (l3 : Int32) (l4 : Int32) (l5 : Int32) (ol0 : okF F l0 7) (ol1 : okF F l1 7), BD g G F 7 (qX7_commonFrames G F g w) 0 0 (k17 l0 l1 l2 l3 l4 l5) w 17 [(0, .ref l0), (1, .ref l1), (2, .int l2), (3, .int l3), (4, .int l4), (5, .int l5)] []) → ∀  (l0 : Nat) (l1 : Nat) (l2 : Int32) (l3 : Int32) (l4 : Int32) (l5 : Int32) (ol0 : okF F l0 7) (ol1 : okF F l1 7), BD g G F 7 (qX7_commonFrames G F g w) 0 0 (fX7_commonFrames_88 F N w k5 k17 l0 l1 l2 l3 l4 l5) w 88 [(0, .ref l0), (1, .ref l1), (2, .int l2), (3, .int l3), (4, .int l4), (5, .int l5)] [] := by
    intro k5 hk5 k17 hk17
    intro l0 l1 l2 l3 l4 l5 ol0 ol1
    unfold fX7_commonFrames_88
    refine bd_iinc C (v := l5 + 1) 5 [(5, .int (l5 + 1)), (0, .ref l0), (1, .ref l1), (2, .int l2), (3, .int l3), (4, .int l4)] dX7_commonFrames_88 rfl rfl (by decide) rfl ?_
    refine bd_goto C 17 dX7_commonFrames_91 (by decide) ?_
    exact bd_sub (hk17 l0 l1 l2 l3 l4 (l5 + 1) ol0 ol1) [1, 2, 3, 4, 5, 0] rfl
  have hb46 : ∀ (k5 : Nat → Nat → Int32 → Int32 → Int32 → Option (Int32)), (∀ (l0 : Nat) (l1 : Nat) (l2 : Int32) (l3 : Int32) (l4 : Int32) (ol0 : okF F l0 7) (ol1 : okF F l1 7), BD g G F 7 (qX7_commonFrames G F g w) 0 0 (k5 l0 l1 l2 l3 l4) w 5 [(0, .ref l0), (1, .ref l1), (2, .int l2), (3, .int l3), (4, .int l4)] []) → ∀ (k17 : Nat → Nat → Int32 → Int32 → Int32 → Int32 → Option (Int32)), (∀ (l0 : Nat) (l1 : Nat) (l2 : Int32) (l3 : Int32) (l4 : Int32) (l5 : Int32) (ol0 : okF F l0 7) (ol1 : okF F l1 7), BD g G F 7 (qX7_commonFrames G F g w) 0 0 (k17 l0 l1 l2 l3 l4 l5) w 17 [(0, .ref l0), (1, .ref l1), (2, .int l2), (3, .int l3), (4, .int l4), (5, .int l5)] []) → ∀  (l0 : Nat) (l1 : Nat) (l2 : Int32) (l3 : Int32) (l4 : Int32) (l5 : Int32) (ol0 : okF F l0 7) (ol1 : okF F l1 7), BD g G F 7 (qX7_commonFrames G F g w) 0 0 (fX7_commonFrames_46 F N w k5 k17 l0 l1 l2 l3 l4 l5) w 46 [(0, .ref l0), (1, .ref l1), (2, .int l2), (3, .int l3), (4, .int l4), (5, .int l5)] [] := by
    intro k5 hk5 k17 hk17
    intro l0 l1 l2 l3 l4 l5 ol0 ol1
    unfold fX7_commonFrames_46
    refine bd_aload_n C 0 dX7_commonFrames_46 rfl rfl ?_
    refine bd_iload C 4 dX7_commonFrames_47 rfl ?_
    refine bd_callV (vs := fun (r : Int32) => some (.int r)) (wf := fun _ => w) (st := []) (st1 := fun x7 => Value.int x7 :: []) C [.int l4] (fun r9 e9 => mX7_first C.flag N ol0 e9) mwX7_first miX7_first wd_402 ol0 (by decide) rfl rfl rfl (Nat.le_of_ble_eq_true rfl) dX7_commonFrames_49 ⟨rfl, rfl, Nat.le_of_ble_eq_true rfl, Nat.le_of_ble_eq_true rfl, Nat.le_of_ble_eq_true rfl, Nat.le_of_ble_eq_true rfl⟩ (fun _ => rfl) (fun x7 ex7 => ?_)
    refine bd_aload_n C 1 dX7_commonFrames_52 rfl rfl ?_
    refine bd_iload C 5 dX7_commonFrames_53 rfl ?_
    refine bd_callV (vs := fun (r : Int32) => some (.int r)) (wf := fun _ => w) (st := [.int x7]) (st1 := fun x8 => Value.int x8 :: [.int x7]) C [.int l5] (fun r9 e9 => mX7_first C.flag N ol1 e9) mwX7_first miX7_first wd_402 ol1 (by decide) rfl rfl rfl (Nat.le_of_ble_eq_true rfl) dX7_commonFrames_55 ⟨rfl, rfl, Nat.le_of_ble_eq_true rfl, Nat.le_of_ble_eq_true rfl, Nat.le_of_ble_eq_true rfl, Nat.le_of_ble_eq_true rfl⟩ (fun _ => rfl) (fun x8 ex8 => ?_)
    refine bd_mmax C wd_414 wd_415 wd_104 wd_416 dX7_commonFrames_58 ⟨Nat.le_of_ble_eq_true rfl, Nat.le_of_ble_eq_true rfl, Nat.zero_le _, Nat.zero_le _⟩ ?_
    refine bd_bnd (tp := Value.int) (fun v9 ev9 => ?_)
    refine bd_istore C [(6, .int v9), (0, .ref l0), (1, .ref l1), (2, .int l2), (3, .int l3), (4, .int l4), (5, .int l5)] dX7_commonFrames_61 (by decide) rfl ?_
    refine bd_iload_n C 4 dX7_commonFrames_63 rfl rfl ?_
    refine bd_iconst C (v := 0) dX7_commonFrames_64 (by decide) ?_
    refine bd_aload_n C 1 dX7_commonFrames_65 rfl rfl ?_
    refine bd_iload C 5 dX7_commonFrames_66 rfl ?_
    refine bd_callV (vs := fun (r : Int32) => some (.int r)) (wf := fun _ => w) (st := [.int 0, .int l3]) (st1 := fun x10 => Value.int x10 :: [.int 0, .int l3]) C [.int l4] (fun r9 e9 => mX7_end C.flag N ol0 e9) mwX7_end miX7_end wd_406 ol0 (by decide) rfl rfl rfl (Nat.le_of_ble_eq_true rfl) dX7_commonFrames_68 ⟨rfl, rfl, Nat.le_of_ble_eq_true rfl, Nat.le_of_ble_eq_true rfl, Nat.le_of_ble_eq_true rfl, Nat.le_of_ble_eq_true rfl⟩ (fun _ => rfl) (fun x10 ex10 => ?_)
    refine bd_aload_n C 2 dX7_commonFrames_71 rfl rfl ?_
    refine bd_iload C 6 dX7_commonFrames_72 rfl ?_
    refine bd_callV (vs := fun (r : Int32) => some (.int r)) (wf := fun _ => w) (st := [.int x10, .int 0, .int l3]) (st1 := fun x11 => Value.int x11 :: [.int x10, .int 0, .int l3]) C [.int l5] (fun r9 e9 => mX7_end C.flag N ol1 e9) mwX7_end miX7_end wd_406 ol1 (by decide) rfl rfl rfl (Nat.le_of_ble_eq_true rfl) dX7_commonFrames_74 ⟨rfl, rfl, Nat.le_of_ble_eq_true rfl, Nat.le_of_ble_eq_true rfl, Nat.le_of_ble_eq_true rfl, Nat.le_of_ble_eq_true rfl⟩ (fun _ => rfl) (fun x11 ex11 => ?_)
    refine bd_mmin C wd_1120 wd_625 wd_104 wd_626 dX7_commonFrames_77 ⟨Nat.le_of_ble_eq_true rfl, Nat.le_of_ble_eq_true rfl, Nat.zero_le _, Nat.zero_le _⟩ ?_
    refine bd_iload C 0 dX7_commonFrames_80 rfl ?_
    refine bd_isub C dX7_commonFrames_82 ?_
    refine bd_mmax C wd_414 wd_415 wd_104 wd_416 dX7_commonFrames_83 ⟨Nat.le_of_ble_eq_true rfl, Nat.le_of_ble_eq_true rfl, Nat.zero_le _, Nat.zero_le _⟩ ?_
    refine bd_iadd C dX7_commonFrames_86 ?_
    refine bd_bnd (tp := Value.int) (fun v12 ev12 => ?_)
    refine bd_istore_n C [(3, .int v12), (6, .int v9), (0, .ref l0), (1, .ref l1), (2, .int l2), (4, .int l4), (5, .int l5)] dX7_commonFrames_87 rfl (by decide) rfl ?_
    exact bd_sub (hb88 _ hk5 _ hk17 l0 l1 l2 v12 l4 l5 ol0 ol1) [2, 3, 4, 0, 5, 6] rfl
  have hb17 : ∀ (k5 : Nat → Nat → Int32 → Int32 → Int32 → Option (Int32)), (∀ (l0 : Nat) (l1 : Nat) (l2 : Int32) (l3 : Int32) (l4 : Int32) (ol0 : okF F l0 7) (ol1 : okF F l1 7), BD g G F 7 (qX7_commonFrames G F g w) 0 0 (k5 l0 l1 l2 l3 l4) w 5 [(0, .ref l0), (1, .ref l1), (2, .int l2), (3, .int l3), (4, .int l4)] []) → ∀ (n : Nat) (l0 : Nat) (l1 : Nat) (l2 : Int32) (l3 : Int32) (l4 : Int32) (l5 : Int32) (ol0 : okF F l0 7) (ol1 : okF F l1 7), BD g G F 7 (qX7_commonFrames G F g w) 0 0 (fX7_commonFrames_17 F N w k5 n l0 l1 l2 l3 l4 l5) w 17 [(0, .ref l0), (1, .ref l1), (2, .int l2), (3, .int l3), (4, .int l4), (5, .int l5)] [] := by
    intro k5 hk5
    intro n
    induction n with
    | zero =>
      intro l0 l1 l2 l3 l4 l5 ol0 ol1
      unfold fX7_commonFrames_17
      exact bd_none
    | succ n ih =>
      intro l0 l1 l2 l3 l4 l5 ol0 ol1
      unfold fX7_commonFrames_17
      refine bd_iload C 5 dX7_commonFrames_17 rfl ?_
      refine bd_aload_n C 1 dX7_commonFrames_19 rfl rfl ?_
      refine bd_gI C fi703 fv703 wd_136 dX7_commonFrames_20 ol1 ?_
      refine bd_icmp_ge C 94 dX7_commonFrames_23 (by decide) (fun c2 => ?_) (fun c2 => ?_)
      · refine bd_iinc C (v := l4 + 1) 4 [(4, .int (l4 + 1)), (0, .ref l0), (1, .ref l1), (2, .int l2), (3, .int l3), (5, .int l5)] dX7_commonFrames_94 rfl rfl (by decide) rfl ?_
        refine bd_goto C 5 dX7_commonFrames_97 (by decide) ?_
        exact bd_sub (hk5 l0 l1 l2 l3 (l4 + 1) ol0 ol1) [1, 2, 3, 4, 0] rfl
      · refine bd_iload_n C 2 dX7_commonFrames_26 rfl rfl ?_
        refine bd_if_eq C 46 dX7_commonFrames_27 (by decide) (fun c3 => ?_) (fun c3 => ?_)
        · exact bd_sub (hb46 _ hk5 _ ih l0 l1 l2 l3 l4 l5 ol0 ol1) [0, 1, 2, 3, 4, 5] rfl
        · refine bd_aload_n C 0 dX7_commonFrames_30 rfl rfl ?_
          refine bd_iload C 4 dX7_commonFrames_31 rfl ?_
          refine bd_callV (vs := fun (r : Int64) => some (.long r)) (wf := fun _ => w) (st := []) (st1 := fun x4 => Value.long x4 :: []) C [.int l4] (fun r9 e9 => mX7_label C.flag N ol0 e9) mwX7_label miX7_label wd_671 ol0 (by decide) rfl rfl rfl (Nat.le_of_ble_eq_true rfl) dX7_commonFrames_33 ⟨rfl, rfl, Nat.le_of_ble_eq_true rfl, Nat.le_of_ble_eq_true rfl, Nat.le_of_ble_eq_true rfl, Nat.le_of_ble_eq_true rfl⟩ (fun _ => rfl) (fun x4 ex4 => ?_)
          refine bd_aload_n C 1 dX7_commonFrames_36 rfl rfl ?_
          refine bd_iload C 5 dX7_commonFrames_37 rfl ?_
          refine bd_callV (vs := fun (r : Int64) => some (.long r)) (wf := fun _ => w) (st := [.long x4]) (st1 := fun x5 => Value.long x5 :: [.long x4]) C [.int l5] (fun r9 e9 => mX7_label C.flag N ol1 e9) mwX7_label miX7_label wd_671 ol1 (by decide) rfl rfl rfl (Nat.le_of_ble_eq_true rfl) dX7_commonFrames_39 ⟨rfl, rfl, Nat.le_of_ble_eq_true rfl, Nat.le_of_ble_eq_true rfl, Nat.le_of_ble_eq_true rfl, Nat.le_of_ble_eq_true rfl⟩ (fun _ => rfl) (fun x5 ex5 => ?_)
          refine bd_lcmp C dX7_commonFrames_42 ?_
          refine bd_if_ne C 88 dX7_commonFrames_43 (by decide) (fun c6 => ?_) (fun c6 => ?_)
          · exact bd_sub (hb88 _ hk5 _ ih l0 l1 l2 l3 l4 l5 ol0 ol1) [0, 1, 2, 3, 4, 5] rfl
          · exact bd_sub (hb46 _ hk5 _ ih l0 l1 l2 l3 l4 l5 ol0 ol1) [0, 1, 2, 3, 4, 5] rfl
  have hb5 : ∀ (n : Nat) (l0 : Nat) (l1 : Nat) (l2 : Int32) (l3 : Int32) (l4 : Int32) (ol0 : okF F l0 7) (ol1 : okF F l1 7), BD g G F 7 (qX7_commonFrames G F g w) 0 0 (fX7_commonFrames_5 F N w n l0 l1 l2 l3 l4) w 5 [(0, .ref l0), (1, .ref l1), (2, .int l2), (3, .int l3), (4, .int l4)] [] := by
    intro n
    induction n with
    | zero =>
      intro l0 l1 l2 l3 l4 ol0 ol1
      unfold fX7_commonFrames_5
      exact bd_none
    | succ n ih =>
      intro l0 l1 l2 l3 l4 ol0 ol1
      unfold fX7_commonFrames_5
      refine bd_iload C 4 dX7_commonFrames_5 rfl ?_
      refine bd_aload_n C 0 dX7_commonFrames_7 rfl rfl ?_
      refine bd_gI C fi703 fv703 wd_136 dX7_commonFrames_8 ol0 ?_
      refine bd_icmp_ge C 100 dX7_commonFrames_11 (by decide) (fun c1 => ?_) (fun c1 => ?_)
      · refine bd_iload_n C 3 dX7_commonFrames_100 rfl rfl ?_
        exact bd_iret C hret rfl _ _ rfl rfl dX7_commonFrames_101 (Nat.le_refl _) (Nat.le_refl _)
      · refine bd_iconst C (v := 0) dX7_commonFrames_14 (by decide) ?_
        refine bd_istore C [(5, .int 0), (0, .ref l0), (1, .ref l1), (2, .int l2), (3, .int l3), (4, .int l4)] dX7_commonFrames_15 (by decide) rfl ?_
        exact bd_sub (hb17 _ ih N l0 l1 l2 l3 l4 0 ol0 ol1) [1, 2, 3, 4, 5, 0] rfl
  unfold fX7_commonFrames
  refine bd_sub (lv' := [(0, .ref l0), (1, .ref l1), (2, .int l2)]) ?_ [0, 1, 2] rfl
  refine bd_iconst C (v := 0) dX7_commonFrames_0 (by decide) ?_
  refine bd_istore_n C [(3, .int 0), (0, .ref l0), (1, .ref l1), (2, .int l2)] dX7_commonFrames_1 rfl (by decide) rfl ?_
  refine bd_iconst C (v := 0) dX7_commonFrames_2 (by decide) ?_
  refine bd_istore C [(4, .int 0), (3, .int 0), (0, .ref l0), (1, .ref l1), (2, .int l2)] dX7_commonFrames_3 (by decide) rfl ?_
  exact bd_sub (hb5 N l0 l1 l2 0 0 ol0 ol1) [2, 3, 4, 1, 0] rfl
abbrev rmX7_framesWith : Room := { frames := 13, cells := 0, slots := 0, locals := 364 }
abbrev qX7_framesWith (G : Gy) (F : Fr) (g : Bd) (w : Wd) : Int32 → State → Prop := fun r => QM G F g 0 0 ((fun (r : Int32) => some (.int r)) r) ((fun _ => w) r)
set_option maxRecDepth 20000 in
set_option maxHeartbeats 4000000 in
theorem mX7_framesWith {l : Launch} (hf9 : l.stackTraces = false) {G : Gy} {F : Fr} (N : Nat) {w : Wd} {l0 : Nat} {l1 : Nat} {r : Int32} (ol0 : okF F l0 7) (ol1 : okF F l1 7) (e9 : fX7_framesWith F N w l0 l1 = some r) : Met l yX7_framesWith [.code yX7_framesWith cX7_framesWith 2 (some .int)] rmX7_framesWith (PcB G F w [.ref l0, .ref l1]) (QB G F ((fun (r : Int32) => some (.int r)) r) ((fun _ => w) r)) 0 0 (AF F) := by
  refine bd_met (vs := fun (r : Int32) => some (.int r)) (wf := fun _ => w) hf9 (by decide) (Nat.le_of_ble_eq_true rfl) e9 (fun g C hret hini => ?_)
  clear e9 r
  unfold fX7_framesWith
  refine bd_sub (lv' := [(0, .ref l0), (1, .ref l1)]) ?_ [0, 1] rfl
  refine bd_aload_n C 0 dX7_framesWith_0 rfl rfl ?_
  refine bd_callV (vs := fun (r : Int32) => some (.int r)) (wf := fun _ => w) (st := []) (st1 := fun x1 => Value.int x1 :: []) C [] (fun r9 e9 => mX7_frameSum C.flag N ol0 e9) mwX7_frameSum miX7_frameSum wd_1125 ol0 (by decide) rfl rfl rfl (Nat.le_of_ble_eq_true rfl) dX7_framesWith_1 ⟨rfl, rfl, Nat.le_of_ble_eq_true rfl, Nat.le_of_ble_eq_true rfl, Nat.le_of_ble_eq_true rfl, Nat.le_of_ble_eq_true rfl⟩ (fun _ => rfl) (fun x1 ex1 => ?_)
  refine bd_aload_n C 1 dX7_framesWith_4 rfl rfl ?_
  refine bd_callV (vs := fun (r : Int32) => some (.int r)) (wf := fun _ => w) (st := [.int x1]) (st1 := fun x2 => Value.int x2 :: [.int x1]) C [] (fun r9 e9 => mX7_frameSum C.flag N ol1 e9) mwX7_frameSum miX7_frameSum wd_1125 ol1 (by decide) rfl rfl rfl (Nat.le_of_ble_eq_true rfl) dX7_framesWith_5 ⟨rfl, rfl, Nat.le_of_ble_eq_true rfl, Nat.le_of_ble_eq_true rfl, Nat.le_of_ble_eq_true rfl, Nat.le_of_ble_eq_true rfl⟩ (fun _ => rfl) (fun x2 ex2 => ?_)
  refine bd_iadd C dX7_framesWith_8 ?_
  refine bd_aload_n C 0 dX7_framesWith_9 rfl rfl ?_
  refine bd_aload_n C 1 dX7_framesWith_10 rfl rfl ?_
  refine bd_iconst C (v := 0) dX7_framesWith_11 (by decide) ?_
  refine bd_callV (vs := fun (r : Int32) => some (.int r)) (wf := fun _ => w) (st := [.int (x1 + x2)]) (st1 := fun x3 => Value.int x3 :: [.int (x1 + x2)]) C [.ref l1, .int 0] (fun r9 e9 => mX7_commonFrames C.flag N ol0 ol1 e9) mwX7_commonFrames miX7_commonFrames wd_1126 ol0 (by decide) rfl rfl rfl (Nat.le_of_ble_eq_true rfl) dX7_framesWith_12 ⟨rfl, rfl, Nat.le_of_ble_eq_true rfl, Nat.le_of_ble_eq_true rfl, Nat.le_of_ble_eq_true rfl, Nat.le_of_ble_eq_true rfl⟩ (fun _ => rfl) (fun x3 ex3 => ?_)
  refine bd_isub C dX7_framesWith_15 ?_
  exact bd_iret C hret rfl _ _ rfl rfl dX7_framesWith_16 (Nat.le_refl _) (Nat.le_refl _)
abbrev rmX7_labelProducts : Room := { frames := 12, cells := 0, slots := 0, locals := 342 }
abbrev qX7_labelProducts (G : Gy) (F : Fr) (g : Bd) (w : Wd) : Int32 → State → Prop := fun r => QM G F g 0 0 ((fun (r : Int32) => some (.int r)) r) ((fun _ => w) r)
set_option maxRecDepth 20000 in
set_option maxHeartbeats 4000000 in
theorem mX7_labelProducts {l : Launch} (hf9 : l.stackTraces = false) {G : Gy} {F : Fr} (N : Nat) {w : Wd} {l0 : Nat} {l1 : Nat} {r : Int32} (ol0 : okF F l0 7) (ol1 : okF F l1 7) (e9 : fX7_labelProducts F N w l0 l1 = some r) : Met l yX7_labelProducts [.code yX7_labelProducts cX7_labelProducts 5 (some .int)] rmX7_labelProducts (PcB G F w [.ref l0, .ref l1]) (QB G F ((fun (r : Int32) => some (.int r)) r) ((fun _ => w) r)) 0 0 (AF F) := by
  refine bd_met (vs := fun (r : Int32) => some (.int r)) (wf := fun _ => w) hf9 (by decide) (Nat.le_of_ble_eq_true rfl) e9 (fun g C hret hini => ?_)
  clear e9 r
  have hb56 : ∀ (k4 : Nat → Nat → Int32 → Int32 → Option (Int32)), (∀ (l0 : Nat) (l1 : Nat) (l2 : Int32) (l3 : Int32) (ol0 : okF F l0 7) (ol1 : okF F l1 7), BD g G F 5 (qX7_labelProducts G F g w) 0 0 (k4 l0 l1 l2 l3) w 4 [(0, .ref l0), (1, .ref l1), (2, .int l2), (3, .int l3)] []) → ∀ (k15 : Nat → Nat → Int32 → Int32 → Int32 → Option (Int32)), (∀ (l0 : Nat) (l1 : Nat) (l2 : Int32) (l3 : Int32) (l4 : Int32) (ol0 : okF F l0 7) (ol1 : okF F l1 7), BD g G F 5 (qX7_labelProducts G F g w) 0 0 (k15 l0 l1 l2 l3 l4) w 15 [(0, .ref l0), (1, .ref l1), (2, .int l2), (3, .int l3), (4, .int l4)] []) → ∀  (l0 : Nat) (l1 : Nat) (l3 : Int32) (l4 : Int32) (s0 : Int32) (s1 : Int32) (ol0 : okF F l0 7) (ol1 : okF F l1 7), BD g G F 5 (qX7_labelProducts G F g w) 0 0 (fX7_labelProducts_56 F N w k4 k15 l0 l1 l3 l4 s0 s1) w 56 [(0, .ref l0), (1, .ref l1), (3, .int l3), (4, .int l4)] [.int s1, .int s0] := by
    intro k4 hk4 k15 hk15
    intro l0 l1 l3 l4 s0 s1 ol0 ol1
    unfold fX7_labelProducts_56
    refine bd_iadd C dX7_labelProducts_56 ?_
    refine bd_bnd (tp := Value.int) (fun v8 ev8 => ?_)
    refine bd_istore_n C [(2, .int v8), (0, .ref l0), (1, .ref l1), (3, .int l3), (4, .int l4)] dX7_labelProducts_57 rfl (by decide) rfl ?_
    refine bd_iinc C (v := l4 + 1) 4 [(4, .int (l4 + 1)), (2, .int v8), (0, .ref l0), (1, .ref l1), (3, .int l3)] dX7_labelProducts_58 rfl rfl (by decide) rfl ?_
    refine bd_goto C 15 dX7_labelProducts_61 (by decide) ?_
    exact bd_sub (hk15 l0 l1 v8 l3 (l4 + 1) ol0 ol1) [2, 3, 1, 4, 0] rfl
  have hb15 : ∀ (k4 : Nat → Nat → Int32 → Int32 → Option (Int32)), (∀ (l0 : Nat) (l1 : Nat) (l2 : Int32) (l3 : Int32) (ol0 : okF F l0 7) (ol1 : okF F l1 7), BD g G F 5 (qX7_labelProducts G F g w) 0 0 (k4 l0 l1 l2 l3) w 4 [(0, .ref l0), (1, .ref l1), (2, .int l2), (3, .int l3)] []) → ∀ (n : Nat) (l0 : Nat) (l1 : Nat) (l2 : Int32) (l3 : Int32) (l4 : Int32) (ol0 : okF F l0 7) (ol1 : okF F l1 7), BD g G F 5 (qX7_labelProducts G F g w) 0 0 (fX7_labelProducts_15 F N w k4 n l0 l1 l2 l3 l4) w 15 [(0, .ref l0), (1, .ref l1), (2, .int l2), (3, .int l3), (4, .int l4)] [] := by
    intro k4 hk4
    intro n
    induction n with
    | zero =>
      intro l0 l1 l2 l3 l4 ol0 ol1
      unfold fX7_labelProducts_15
      exact bd_none
    | succ n ih =>
      intro l0 l1 l2 l3 l4 ol0 ol1
      unfold fX7_labelProducts_15
      refine bd_iload C 4 dX7_labelProducts_15 rfl ?_
      refine bd_aload_n C 1 dX7_labelProducts_17 rfl rfl ?_
      refine bd_gI C fi703 fv703 wd_136 dX7_labelProducts_18 ol1 ?_
      refine bd_icmp_ge C 64 dX7_labelProducts_21 (by decide) (fun c2 => ?_) (fun c2 => ?_)
      · refine bd_iinc C (v := l3 + 1) 3 [(3, .int (l3 + 1)), (0, .ref l0), (1, .ref l1), (2, .int l2), (4, .int l4)] dX7_labelProducts_64 rfl rfl (by decide) rfl ?_
        refine bd_goto C 4 dX7_labelProducts_67 (by decide) ?_
        exact bd_sub (hk4 l0 l1 l2 (l3 + 1) ol0 ol1) [1, 2, 3, 0] rfl
      · refine bd_iload_n C 2 dX7_labelProducts_24 rfl rfl ?_
        refine bd_aload_n C 0 dX7_labelProducts_25 rfl rfl ?_
        refine bd_iload_n C 3 dX7_labelProducts_26 rfl rfl ?_
        refine bd_callV (vs := fun (r : Int64) => some (.long r)) (wf := fun _ => w) (st := [.int l2]) (st1 := fun x3 => Value.long x3 :: [.int l2]) C [.int l3] (fun r9 e9 => mX7_label C.flag N ol0 e9) mwX7_label miX7_label wd_671 ol0 (by decide) rfl rfl rfl (Nat.le_of_ble_eq_true rfl) dX7_labelProducts_27 ⟨rfl, rfl, Nat.le_of_ble_eq_true rfl, Nat.le_of_ble_eq_true rfl, Nat.le_of_ble_eq_true rfl, Nat.le_of_ble_eq_true rfl⟩ (fun _ => rfl) (fun x3 ex3 => ?_)
        refine bd_aload_n C 1 dX7_labelProducts_30 rfl rfl ?_
        refine bd_iload C 4 dX7_labelProducts_31 rfl ?_
        refine bd_callV (vs := fun (r : Int64) => some (.long r)) (wf := fun _ => w) (st := [.long x3, .int l2]) (st1 := fun x4 => Value.long x4 :: [.long x3, .int l2]) C [.int l4] (fun r9 e9 => mX7_label C.flag N ol1 e9) mwX7_label miX7_label wd_671 ol1 (by decide) rfl rfl rfl (Nat.le_of_ble_eq_true rfl) dX7_labelProducts_33 ⟨rfl, rfl, Nat.le_of_ble_eq_true rfl, Nat.le_of_ble_eq_true rfl, Nat.le_of_ble_eq_true rfl, Nat.le_of_ble_eq_true rfl⟩ (fun _ => rfl) (fun x4 ex4 => ?_)
        refine bd_lcmp C dX7_labelProducts_36 ?_
        refine bd_if_ne C 55 dX7_labelProducts_37 (by decide) (fun c5 => ?_) (fun c5 => ?_)
        · refine bd_iconst C (v := 0) dX7_labelProducts_55 (by decide) ?_
          exact bd_sub (hb56 _ hk4 _ ih l0 l1 l3 l4 l2 0 ol0 ol1) [0, 1, 3, 4] rfl
        · refine bd_aload_n C 0 dX7_labelProducts_40 rfl rfl ?_
          refine bd_iload_n C 3 dX7_labelProducts_41 rfl rfl ?_
          refine bd_callV (vs := fun (r : Int32) => some (.int r)) (wf := fun _ => w) (st := [.int l2]) (st1 := fun x6 => Value.int x6 :: [.int l2]) C [.int l3] (fun r9 e9 => mX7_length C.flag N ol0 e9) mwX7_length miX7_length wd_421 ol0 (by decide) rfl rfl rfl (Nat.le_of_ble_eq_true rfl) dX7_labelProducts_42 ⟨rfl, rfl, Nat.le_of_ble_eq_true rfl, Nat.le_of_ble_eq_true rfl, Nat.le_of_ble_eq_true rfl, Nat.le_of_ble_eq_true rfl⟩ (fun _ => rfl) (fun x6 ex6 => ?_)
          refine bd_aload_n C 1 dX7_labelProducts_45 rfl rfl ?_
          refine bd_iload C 4 dX7_labelProducts_46 rfl ?_
          refine bd_callV (vs := fun (r : Int32) => some (.int r)) (wf := fun _ => w) (st := [.int x6, .int l2]) (st1 := fun x7 => Value.int x7 :: [.int x6, .int l2]) C [.int l4] (fun r9 e9 => mX7_length C.flag N ol1 e9) mwX7_length miX7_length wd_421 ol1 (by decide) rfl rfl rfl (Nat.le_of_ble_eq_true rfl) dX7_labelProducts_48 ⟨rfl, rfl, Nat.le_of_ble_eq_true rfl, Nat.le_of_ble_eq_true rfl, Nat.le_of_ble_eq_true rfl, Nat.le_of_ble_eq_true rfl⟩ (fun _ => rfl) (fun x7 ex7 => ?_)
          refine bd_imul C dX7_labelProducts_51 ?_
          refine bd_goto C 56 dX7_labelProducts_52 (by decide) ?_
          exact bd_sub (hb56 _ hk4 _ ih l0 l1 l3 l4 l2 (x6 * x7) ol0 ol1) [0, 1, 3, 4] rfl
  have hb4 : ∀ (n : Nat) (l0 : Nat) (l1 : Nat) (l2 : Int32) (l3 : Int32) (ol0 : okF F l0 7) (ol1 : okF F l1 7), BD g G F 5 (qX7_labelProducts G F g w) 0 0 (fX7_labelProducts_4 F N w n l0 l1 l2 l3) w 4 [(0, .ref l0), (1, .ref l1), (2, .int l2), (3, .int l3)] [] := by
    intro n
    induction n with
    | zero =>
      intro l0 l1 l2 l3 ol0 ol1
      unfold fX7_labelProducts_4
      exact bd_none
    | succ n ih =>
      intro l0 l1 l2 l3 ol0 ol1
      unfold fX7_labelProducts_4
      refine bd_iload_n C 3 dX7_labelProducts_4 rfl rfl ?_
      refine bd_aload_n C 0 dX7_labelProducts_5 rfl rfl ?_
      refine bd_gI C fi703 fv703 wd_136 dX7_labelProducts_6 ol0 ?_
      refine bd_icmp_ge C 70 dX7_labelProducts_9 (by decide) (fun c1 => ?_) (fun c1 => ?_)
      · refine bd_iload_n C 2 dX7_labelProducts_70 rfl rfl ?_
        exact bd_iret C hret rfl _ _ rfl rfl dX7_labelProducts_71 (Nat.le_refl _) (Nat.le_refl _)
      · refine bd_iconst C (v := 0) dX7_labelProducts_12 (by decide) ?_
        refine bd_istore C [(4, .int 0), (0, .ref l0), (1, .ref l1), (2, .int l2), (3, .int l3)] dX7_labelProducts_13 (by decide) rfl ?_
        exact bd_sub (hb15 _ ih N l0 l1 l2 l3 0 ol0 ol1) [1, 2, 3, 4, 0] rfl
  unfold fX7_labelProducts
  refine bd_sub (lv' := [(0, .ref l0), (1, .ref l1)]) ?_ [0, 1] rfl
  refine bd_iconst C (v := 0) dX7_labelProducts_0 (by decide) ?_
  refine bd_istore_n C [(2, .int 0), (0, .ref l0), (1, .ref l1)] dX7_labelProducts_1 rfl (by decide) rfl ?_
  refine bd_iconst C (v := 0) dX7_labelProducts_2 (by decide) ?_
  refine bd_istore_n C [(3, .int 0), (2, .int 0), (0, .ref l0), (1, .ref l1)] dX7_labelProducts_3 rfl (by decide) rfl ?_
  exact bd_sub (hb4 N l0 l1 0 0 ol0 ol1) [2, 3, 1, 0] rfl
abbrev rmX8_clear : Room := { frames := 11, cells := 0, slots := 0, locals := 320 }
abbrev qX8_clear (G : Gy) (F : Fr) (g : Bd) : (Int32 × Wd) → State → Prop := fun r => QM G F g 0 0 ((fun (r : Int32 × Wd) => some (.int r.1)) r) ((fun (r : Int32 × Wd) => r.2) r)
set_option maxRecDepth 20000 in
set_option maxHeartbeats 4000000 in
theorem mX8_clear {l : Launch} (hf9 : l.stackTraces = false) {G : Gy} {F : Fr} (N : Nat) {w : Wd} {l0 : Nat} {r : Int32 × Wd} (ol0 : okF F l0 8) (e9 : fX8_clear F N w l0 = some r) : Met l yX8_clear [.code yX8_clear cX8_clear 2 (some .int)] rmX8_clear (PcB G F w [.ref l0]) (QB G F ((fun (r : Int32 × Wd) => some (.int r.1)) r) ((fun (r : Int32 × Wd) => r.2) r)) 0 0 (AF F) := by
  refine bd_met (vs := fun (r : Int32 × Wd) => some (.int r.1)) (wf := fun (r : Int32 × Wd) => r.2) hf9 (by decide) (Nat.le_of_ble_eq_true rfl) e9 (fun g C hret hini => ?_)
  clear e9 r
  unfold fX8_clear
  refine bd_sub (lv' := [(0, .ref l0)]) ?_ [0] rfl
  refine bd_aload_n C 0 dX8_clear_0 rfl rfl ?_
  refine bd_gR C fi800 fv800 wd_338 dX8_clear_1 ol0 (fun r1 gr1 hr1 => ?_)
  refine bd_gIN C fi105 fv105 wd_155 dX8_clear_4 hr1 ?_
  refine bd_bnd (tp := Value.int) (fun v2 ev2 => ?_)
  refine bd_istore_n C [(1, .int v2), (0, .ref l0)] dX8_clear_7 rfl (by decide) rfl ?_
  refine bd_aload_n C 1 dX8_clear_8 rfl rfl ?_
  refine bd_gR C fi800 fv800 wd_338 dX8_clear_9 ol0 (fun r3 gr3 hr3 => ?_)
  refine bd_callV (vs := fun _ => none) (wf := fun (r : Wd) => r) (st := []) (st1 := fun p4 => []) C [] (fun r9 e9 => mX1_reset C.flag N hr3 e9) mwX1_reset miX1_reset wd_382 hr3 (by decide) rfl rfl rfl (Nat.le_of_ble_eq_true rfl) dX8_clear_12 ⟨rfl, rfl, Nat.le_of_ble_eq_true rfl, Nat.le_of_ble_eq_true rfl, Nat.le_of_ble_eq_true rfl, Nat.le_of_ble_eq_true rfl⟩ (fun _ => rfl) (fun p4 ep4 => ?_)
  refine bd_aload_n C 1 dX8_clear_15 rfl rfl ?_
  refine bd_gR C fi803 fv803 wd_341 dX8_clear_16 ol0 (fun r5 gr5 hr5 => ?_)
  refine bd_callV (vs := fun _ => none) (wf := fun (r : Wd) => r) (st := []) (st1 := fun p6 => []) C [] (fun r9 e9 => mX2_forget C.flag N hr5 e9) mwX2_forget miX2_forget wd_386 hr5 (by decide) rfl rfl rfl (Nat.le_of_ble_eq_true rfl) dX8_clear_19 ⟨rfl, rfl, Nat.le_of_ble_eq_true rfl, Nat.le_of_ble_eq_true rfl, Nat.le_of_ble_eq_true rfl, Nat.le_of_ble_eq_true rfl⟩ (fun _ => rfl) (fun p6 ep6 => ?_)
  refine bd_aload_n C 1 dX8_clear_22 rfl rfl ?_
  refine bd_gR C fi808 fv808 wd_346 dX8_clear_23 ol0 (fun r7 gr7 hr7 => ?_)
  refine bd_iconst C (v := 0) dX8_clear_26 (by decide) ?_
  refine bd_pIN C fi506 ftX5 fu506 wd_321 rfl rfl rfl dX8_clear_27 hr7 (fun w8 => ?_)
  refine bd_iload_n C 0 dX8_clear_30 rfl rfl ?_
  exact bd_iret C hret rfl _ _ rfl rfl dX8_clear_31 (Nat.le_refl _) (Nat.le_refl _)
abbrev rmX8_addTier : Room := { frames := 13, cells := 1, slots := 6, locals := 368 }
abbrev qX8_addTier (G : Gy) (F : Fr) (g : Bd) : ((Int32 × Wd) ⊕ (Nat × Wd)) → State → Prop := fun r => QX G F g 1 6 (vxint r)
set_option maxRecDepth 20000 in
set_option maxHeartbeats 4000000 in
theorem mX8_addTier {l : Launch} (hf9 : l.stackTraces = false) {G : Gy} {F : Fr} (N : Nat) {w : Wd} {l0 : Nat} {l1 : Int32} {l2 : Int32} {l3 : Int32} {r : (Int32 × Wd) ⊕ (Nat × Wd)} (ol0 : okF F l0 8) (hcm : F.2.2.2.2 = false) (e9 : fX8_addTier F N w l0 l1 l2 l3 = some r) : vx_Met l yX8_addTier [.code yX8_addTier cX8_addTier 4 (some .int)] rmX8_addTier (PcB G F w [.ref l0, .int l1, .int l2, .int l3]) (QBx G F (vxint r)) (XBx G F (vxint r)) 1 6 (AF F) := by
  refine bd_vmet (vx := vxint) hf9 (by decide) (Nat.le_of_ble_eq_true rfl) e9 (fun g C hret hxt => ?_)
  clear e9 r
  have hb49 : ∀  (w : Wd) (l0 : Nat) (l1 : Int32) (l2 : Int32) (l3 : Int32) (ol0 : okF F l0 8), BD g G F 4 (qX8_addTier G F g) 0 0 (fX8_addTier_49 F N w l0 l1 l2 l3) w 49 [(0, .ref l0), (1, .int l1), (2, .int l2), (3, .int l3)] [] := by
    intro w l0 l1 l2 l3 ol0
    unfold fX8_addTier_49
    refine bd_aload_n C 0 dX8_addTier_49 rfl rfl ?_
    refine bd_gR C fi800 fv800 wd_338 dX8_addTier_50 ol0 (fun r1 gr1 hr1 => ?_)
    refine bd_gIN C fi105 fv105 wd_155 dX8_addTier_53 hr1 ?_
    refine bd_bipush C (v := 6) dX8_addTier_56 (by decide) ?_
    refine bd_icmp_lt C 69 dX8_addTier_58 (by decide) (fun c2 => ?_) (fun c2 => ?_)
    · refine bd_aload_n C 0 dX8_addTier_69 rfl rfl ?_
      refine bd_gR C fi803 fv803 wd_341 dX8_addTier_70 ol0 (fun r3 gr3 hr3 => ?_)
      refine bd_aload_n C 0 dX8_addTier_73 rfl rfl ?_
      refine bd_gR C fi800 fv800 wd_338 dX8_addTier_74 ol0 (fun r4 gr4 hr4 => ?_)
      refine bd_callV (vs := fun _ => none) (wf := fun (r : Wd) => r) (st := []) (st1 := fun p5 => []) C [.ref r4] (fun r9 e9 => mX2_push C.flag N hr3 hr4 e9) mwX2_push miX2_push wd_619 hr3 (by decide) rfl rfl rfl (Nat.le_of_ble_eq_true rfl) dX8_addTier_77 ⟨rfl, rfl, Nat.le_of_ble_eq_true rfl, Nat.le_of_ble_eq_true rfl, Nat.le_of_ble_eq_true rfl, Nat.le_of_ble_eq_true rfl⟩ (fun _ => rfl) (fun p5 ep5 => ?_)
      refine bd_aload_n C 0 dX8_addTier_80 rfl rfl ?_
      refine bd_gR C fi800 fv800 wd_338 dX8_addTier_81 ol0 (fun r6 gr6 hr6 => ?_)
      refine bd_iload_n C 1 dX8_addTier_84 rfl rfl ?_
      refine bd_iload_n C 2 dX8_addTier_85 rfl rfl ?_
      refine bd_iload_n C 3 dX8_addTier_86 rfl rfl ?_
      refine bd_callV (vs := fun (r : Int32 × Wd) => some (.int r.1)) (wf := fun (r : Int32 × Wd) => r.2) (st := []) (st1 := fun p7 => Value.int p7.1 :: []) C [.int l1, .int l2, .int l3] (fun r9 e9 => mX1_putTier C.flag N hr6 e9) mwX1_putTier miX1_putTier wd_627 hr6 (by decide) rfl rfl rfl (Nat.le_of_ble_eq_true rfl) dX8_addTier_87 ⟨rfl, rfl, Nat.le_of_ble_eq_true rfl, Nat.le_of_ble_eq_true rfl, Nat.le_of_ble_eq_true rfl, Nat.le_of_ble_eq_true rfl⟩ (fun _ => rfl) (fun p7 ep7 => ?_)
      exact bd_xiret C hret rfl rfl dX8_addTier_90 (Nat.le_of_ble_eq_true rfl) (Nat.le_of_ble_eq_true rfl)
    · exact bd_throw C hxt hcm (e := 2) rfl wd_604 wd_102 xa8_98 dX8_addTier_61 dX8_addTier_64 dX8_addTier_65 dX8_addTier_68 ⟨Nat.le_of_ble_eq_true rfl, Nat.le_of_ble_eq_true rfl, Nat.le_of_ble_eq_true rfl, Nat.le_of_ble_eq_true rfl⟩ ⟨Nat.le_of_ble_eq_true rfl, Nat.le_of_ble_eq_true rfl⟩ rfl
  have hb18 : ∀  (w : Wd), BD g G F 4 (qX8_addTier G F g) 0 0 (fX8_addTier_18 F N w) w 18 [] [] := by
    intro w
    unfold fX8_addTier_18
    exact bd_throw C hxt hcm (e := 0) rfl wd_564 wd_101 xa8_88 dX8_addTier_18 dX8_addTier_21 dX8_addTier_22 dX8_addTier_25 ⟨Nat.le_of_ble_eq_true rfl, Nat.le_of_ble_eq_true rfl, Nat.le_of_ble_eq_true rfl, Nat.le_of_ble_eq_true rfl⟩ ⟨Nat.le_of_ble_eq_true rfl, Nat.le_of_ble_eq_true rfl⟩ rfl
  unfold fX8_addTier
  refine bd_sub (lv' := [(0, .ref l0), (1, .int l1), (2, .int l2), (3, .int l3)]) ?_ [0, 1, 2, 3] rfl
  refine bd_iload_n C 1 dX8_addTier_0 rfl rfl ?_
  refine bd_if_lt C 18 dX8_addTier_1 (by decide) (fun c8 => ?_) (fun c8 => ?_)
  · exact bd_sub (hb18 w) [] rfl
  · refine bd_iload_n C 1 dX8_addTier_4 rfl rfl ?_
    refine bd_iconst C (v := 3) dX8_addTier_5 (by decide) ?_
    refine bd_icmp_gt C 18 dX8_addTier_6 (by decide) (fun c9 => ?_) (fun c9 => ?_)
    · exact bd_sub (hb18 w) [] rfl
    · refine bd_iload_n C 2 dX8_addTier_9 rfl rfl ?_
      refine bd_if_lt C 18 dX8_addTier_10 (by decide) (fun c10 => ?_) (fun c10 => ?_)
      · exact bd_sub (hb18 w) [] rfl
      · refine bd_iload_n C 2 dX8_addTier_13 rfl rfl ?_
        refine bd_iconst C (v := 3) dX8_addTier_14 (by decide) ?_
        refine bd_icmp_le C 26 dX8_addTier_15 (by decide) (fun c11 => ?_) (fun c11 => ?_)
        · refine bd_iload_n C 2 dX8_addTier_26 rfl rfl ?_
          refine bd_if_eq C 49 dX8_addTier_27 (by decide) (fun c12 => ?_) (fun c12 => ?_)
          · exact bd_sub (hb49 w l0 l1 l2 l3 ol0) [0, 1, 2, 3] rfl
          · refine bd_aload_n C 0 dX8_addTier_30 rfl rfl ?_
            refine bd_gR C fi800 fv800 wd_338 dX8_addTier_31 ol0 (fun r13 gr13 hr13 => ?_)
            refine bd_iload_n C 3 dX8_addTier_34 rfl rfl ?_
            refine bd_callV (vs := fun (r : Int32) => some (.int r)) (wf := fun _ => w) (st := []) (st1 := fun x14 => Value.int x14 :: []) C [.int l3] (fun r9 e9 => mX1_hasTier C.flag N hr13 e9) mwX1_hasTier miX1_hasTier wd_585 hr13 (by decide) rfl rfl rfl (Nat.le_of_ble_eq_true rfl) dX8_addTier_35 ⟨rfl, rfl, Nat.le_of_ble_eq_true rfl, Nat.le_of_ble_eq_true rfl, Nat.le_of_ble_eq_true rfl, Nat.le_of_ble_eq_true rfl⟩ (fun _ => rfl) (fun x14 ex14 => ?_)
            refine bd_if_ne C 49 dX8_addTier_38 (by decide) (fun c15 => ?_) (fun c15 => ?_)
            · exact bd_sub (hb49 w l0 l1 l2 l3 ol0) [0, 1, 2, 3] rfl
            · exact bd_throw C hxt hcm (e := 1) rfl wd_589 wd_98 xa8_95 dX8_addTier_41 dX8_addTier_44 dX8_addTier_45 dX8_addTier_48 ⟨Nat.le_of_ble_eq_true rfl, Nat.le_of_ble_eq_true rfl, Nat.le_of_ble_eq_true rfl, Nat.le_of_ble_eq_true rfl⟩ ⟨Nat.le_of_ble_eq_true rfl, Nat.le_of_ble_eq_true rfl⟩ rfl
        · exact bd_sub (hb18 w) [] rfl
abbrev rmX8_select : Room := { frames := 13, cells := 1, slots := 6, locals := 368 }
abbrev qX8_select (G : Gy) (F : Fr) (g : Bd) : ((Int32 × Wd) ⊕ (Nat × Wd)) → State → Prop := fun r => QX G F g 1 6 (vxint r)
set_option maxRecDepth 20000 in
set_option maxHeartbeats 4000000 in
theorem mX8_select {l : Launch} (hf9 : l.stackTraces = false) {G : Gy} {F : Fr} (N : Nat) {w : Wd} {l0 : Nat} {l1 : Int32} {r : (Int32 × Wd) ⊕ (Nat × Wd)} (ol0 : okF F l0 8) (hcm : F.2.2.2.2 = false) (e9 : fX8_select F N w l0 l1 = some r) : vx_Met l yX8_select [.code yX8_select cX8_select 3 (some .int)] rmX8_select (PcB G F w [.ref l0, .int l1]) (QBx G F (vxint r)) (XBx G F (vxint r)) 1 6 (AF F) := by
  refine bd_vmet (vx := vxint) hf9 (by decide) (Nat.le_of_ble_eq_true rfl) e9 (fun g C hret hxt => ?_)
  clear e9 r
  have hb9 : ∀  (w : Wd), BD g G F 3 (qX8_select G F g) 0 0 (fX8_select_9 F N w) w 9 [] [] := by
    intro w
    unfold fX8_select_9
    exact bd_throw C hxt hcm (e := 0) rfl wd_564 wd_101 xa8_88 dX8_select_9 dX8_select_12 dX8_select_13 dX8_select_16 ⟨Nat.le_of_ble_eq_true rfl, Nat.le_of_ble_eq_true rfl, Nat.le_of_ble_eq_true rfl, Nat.le_of_ble_eq_true rfl⟩ ⟨Nat.le_of_ble_eq_true rfl, Nat.le_of_ble_eq_true rfl⟩ rfl
  unfold fX8_select
  refine bd_sub (lv' := [(0, .ref l0), (1, .int l1)]) ?_ [0, 1] rfl
  refine bd_iload_n C 1 dX8_select_0 rfl rfl ?_
  refine bd_if_lt C 9 dX8_select_1 (by decide) (fun c1 => ?_) (fun c1 => ?_)
  · exact bd_sub (hb9 w) [] rfl
  · refine bd_iload_n C 1 dX8_select_4 rfl rfl ?_
    refine bd_iconst C (v := 2) dX8_select_5 (by decide) ?_
    refine bd_icmp_lt C 17 dX8_select_6 (by decide) (fun c2 => ?_) (fun c2 => ?_)
    · refine bd_aload_n C 0 dX8_select_17 rfl rfl ?_
      refine bd_gR C fi803 fv803 wd_341 dX8_select_18 ol0 (fun r3 gr3 hr3 => ?_)
      refine bd_aload_n C 0 dX8_select_21 rfl rfl ?_
      refine bd_gR C fi800 fv800 wd_338 dX8_select_22 ol0 (fun r4 gr4 hr4 => ?_)
      refine bd_callV (vs := fun _ => none) (wf := fun (r : Wd) => r) (st := []) (st1 := fun p5 => []) C [.ref r4] (fun r9 e9 => mX2_push C.flag N hr3 hr4 e9) mwX2_push miX2_push wd_619 hr3 (by decide) rfl rfl rfl (Nat.le_of_ble_eq_true rfl) dX8_select_25 ⟨rfl, rfl, Nat.le_of_ble_eq_true rfl, Nat.le_of_ble_eq_true rfl, Nat.le_of_ble_eq_true rfl, Nat.le_of_ble_eq_true rfl⟩ (fun _ => rfl) (fun p5 ep5 => ?_)
      refine bd_aload_n C 0 dX8_select_28 rfl rfl ?_
      refine bd_gR C fi800 fv800 wd_338 dX8_select_29 ol0 (fun r6 gr6 hr6 => ?_)
      refine bd_gIN C fi106 fv106 wd_159 dX8_select_32 hr6 ?_
      refine bd_bnd (tp := Value.int) (fun v7 ev7 => ?_)
      refine bd_istore_n C [(2, .int v7), (0, .ref l0), (1, .int l1)] dX8_select_35 rfl (by decide) rfl ?_
      refine bd_aload_n C 1 dX8_select_36 rfl rfl ?_
      refine bd_gR C fi800 fv800 wd_338 dX8_select_37 ol0 (fun r8 gr8 hr8 => ?_)
      refine bd_iload_n C 2 dX8_select_40 rfl rfl ?_
      refine bd_pIN C fi106 ftX1 fu106 wd_159 rfl rfl rfl dX8_select_41 hr8 (fun w9 => ?_)
      refine bd_iload_n C 0 dX8_select_44 rfl rfl ?_
      exact bd_xiret C hret rfl rfl dX8_select_45 (Nat.le_of_ble_eq_true rfl) (Nat.le_of_ble_eq_true rfl)
    · exact bd_sub (hb9 w) [] rfl
abbrev rmX8_setSetting : Room := { frames := 13, cells := 1, slots := 6, locals := 368 }
abbrev qX8_setSetting (G : Gy) (F : Fr) (g : Bd) : ((Int32 × Wd) ⊕ (Nat × Wd)) → State → Prop := fun r => QX G F g 1 6 (vxint r)
set_option maxRecDepth 20000 in
set_option maxHeartbeats 4000000 in
theorem mX8_setSetting {l : Launch} (hf9 : l.stackTraces = false) {G : Gy} {F : Fr} (N : Nat) {w : Wd} {l0 : Nat} {l1 : Int32} {l2 : Int32} {r : (Int32 × Wd) ⊕ (Nat × Wd)} (ol0 : okF F l0 8) (hcm : F.2.2.2.2 = false) (e9 : fX8_setSetting F N w l0 l1 l2 = some r) : vx_Met l yX8_setSetting [.code yX8_setSetting cX8_setSetting 4 (some .int)] rmX8_setSetting (PcB G F w [.ref l0, .int l1, .int l2]) (QBx G F (vxint r)) (XBx G F (vxint r)) 1 6 (AF F) := by
  refine bd_vmet (vx := vxint) hf9 (by decide) (Nat.le_of_ble_eq_true rfl) e9 (fun g C hret hxt => ?_)
  clear e9 r
  have hb9 : ∀  (w : Wd), BD g G F 4 (qX8_setSetting G F g) 0 0 (fX8_setSetting_9 F N w) w 9 [] [] := by
    intro w
    unfold fX8_setSetting_9
    exact bd_throw C hxt hcm (e := 1) rfl wd_589 wd_98 xa8_95 dX8_setSetting_9 dX8_setSetting_12 dX8_setSetting_13 dX8_setSetting_16 ⟨Nat.le_of_ble_eq_true rfl, Nat.le_of_ble_eq_true rfl, Nat.le_of_ble_eq_true rfl, Nat.le_of_ble_eq_true rfl⟩ ⟨Nat.le_of_ble_eq_true rfl, Nat.le_of_ble_eq_true rfl⟩ rfl
  have hb28 : ∀  (w : Wd), BD g G F 4 (qX8_setSetting G F g) 0 0 (fX8_setSetting_28 F N w) w 28 [] [] := by
    intro w
    unfold fX8_setSetting_28
    exact bd_throw C hxt hcm (e := 0) rfl wd_564 wd_101 xa8_88 dX8_setSetting_28 dX8_setSetting_31 dX8_setSetting_32 dX8_setSetting_35 ⟨Nat.le_of_ble_eq_true rfl, Nat.le_of_ble_eq_true rfl, Nat.le_of_ble_eq_true rfl, Nat.le_of_ble_eq_true rfl⟩ ⟨Nat.le_of_ble_eq_true rfl, Nat.le_of_ble_eq_true rfl⟩ rfl
  have hb68 : ∀  (w : Wd) (l0 : Nat) (l1 : Int32) (l2 : Int32) (s0 : Int32) (ol0 : okF F l0 8), BD g G F 4 (qX8_setSetting G F g) 0 0 (fX8_setSetting_68 F N w l0 l1 l2 s0) w 68 [(0, .ref l0), (1, .int l1), (2, .int l2)] [.int s0] := by
    intro w l0 l1 l2 s0 ol0
    unfold fX8_setSetting_68
    refine bd_istore_n C [(3, .int s0), (0, .ref l0), (1, .int l1), (2, .int l2)] dX8_setSetting_68 rfl (by decide) rfl ?_
    refine bd_iload_n C 2 dX8_setSetting_69 rfl rfl ?_
    refine bd_if_ne C 84 dX8_setSetting_70 (by decide) (fun c1 => ?_) (fun c1 => ?_)
    · refine bd_aload_n C 1 dX8_setSetting_84 rfl rfl ?_
      refine bd_gR C fi800 fv800 wd_338 dX8_setSetting_85 ol0 (fun r2 gr2 hr2 => ?_)
      refine bd_iload_n C 3 dX8_setSetting_88 rfl rfl ?_
      refine bd_pIN C fi108 ftX1 fu108 wd_163 rfl rfl rfl dX8_setSetting_89 hr2 (fun w3 => ?_)
      refine bd_iload_n C 0 dX8_setSetting_92 rfl rfl ?_
      exact bd_xiret C hret rfl rfl dX8_setSetting_93 (Nat.le_of_ble_eq_true rfl) (Nat.le_of_ble_eq_true rfl)
    · refine bd_aload_n C 1 dX8_setSetting_73 rfl rfl ?_
      refine bd_gR C fi800 fv800 wd_338 dX8_setSetting_74 ol0 (fun r4 gr4 hr4 => ?_)
      refine bd_iload_n C 3 dX8_setSetting_77 rfl rfl ?_
      refine bd_pIN C fi107 ftX1 fu107 wd_161 rfl rfl rfl dX8_setSetting_78 hr4 (fun w5 => ?_)
      refine bd_goto C 92 dX8_setSetting_81 (by decide) ?_
      refine bd_iload_n C 0 dX8_setSetting_92 rfl rfl ?_
      exact bd_xiret C hret rfl rfl dX8_setSetting_93 (Nat.le_of_ble_eq_true rfl) (Nat.le_of_ble_eq_true rfl)
  unfold fX8_setSetting
  refine bd_sub (lv' := [(0, .ref l0), (1, .int l1), (2, .int l2)]) ?_ [0, 1, 2] rfl
  refine bd_iload_n C 1 dX8_setSetting_0 rfl rfl ?_
  refine bd_if_lt C 9 dX8_setSetting_1 (by decide) (fun c6 => ?_) (fun c6 => ?_)
  · exact bd_sub (hb9 w) [] rfl
  · refine bd_iload_n C 1 dX8_setSetting_4 rfl rfl ?_
    refine bd_iconst C (v := 1) dX8_setSetting_5 (by decide) ?_
    refine bd_icmp_le C 17 dX8_setSetting_6 (by decide) (fun c7 => ?_) (fun c7 => ?_)
    · refine bd_iload_n C 2 dX8_setSetting_17 rfl rfl ?_
      refine bd_if_lt C 28 dX8_setSetting_18 (by decide) (fun c8 => ?_) (fun c8 => ?_)
      · exact bd_sub (hb28 w) [] rfl
      · refine bd_iload_n C 2 dX8_setSetting_21 rfl rfl ?_
        refine bd_sipush C (v := 200) dX8_setSetting_22 (by decide) ?_
        refine bd_icmp_le C 36 dX8_setSetting_25 (by decide) (fun c9 => ?_) (fun c9 => ?_)
        · refine bd_aload_n C 0 dX8_setSetting_36 rfl rfl ?_
          refine bd_gR C fi803 fv803 wd_341 dX8_setSetting_37 ol0 (fun r10 gr10 hr10 => ?_)
          refine bd_aload_n C 0 dX8_setSetting_40 rfl rfl ?_
          refine bd_gR C fi800 fv800 wd_338 dX8_setSetting_41 ol0 (fun r11 gr11 hr11 => ?_)
          refine bd_callV (vs := fun _ => none) (wf := fun (r : Wd) => r) (st := []) (st1 := fun p12 => []) C [.ref r11] (fun r9 e9 => mX2_push C.flag N hr10 hr11 e9) mwX2_push miX2_push wd_619 hr10 (by decide) rfl rfl rfl (Nat.le_of_ble_eq_true rfl) dX8_setSetting_44 ⟨rfl, rfl, Nat.le_of_ble_eq_true rfl, Nat.le_of_ble_eq_true rfl, Nat.le_of_ble_eq_true rfl, Nat.le_of_ble_eq_true rfl⟩ (fun _ => rfl) (fun p12 ep12 => ?_)
          refine bd_iload_n C 1 dX8_setSetting_47 rfl rfl ?_
          refine bd_if_ne C 61 dX8_setSetting_48 (by decide) (fun c13 => ?_) (fun c13 => ?_)
          · refine bd_aload_n C 0 dX8_setSetting_61 rfl rfl ?_
            refine bd_gR C fi800 fv800 wd_338 dX8_setSetting_62 ol0 (fun r14 gr14 hr14 => ?_)
            refine bd_gIN C fi108 fv108 wd_163 dX8_setSetting_65 hr14 ?_
            exact bd_sub (hb68 p12 l0 l1 l2 (gI p12 108 r14) ol0) [0, 1, 2] rfl
          · refine bd_aload_n C 0 dX8_setSetting_51 rfl rfl ?_
            refine bd_gR C fi800 fv800 wd_338 dX8_setSetting_52 ol0 (fun r15 gr15 hr15 => ?_)
            refine bd_gIN C fi107 fv107 wd_161 dX8_setSetting_55 hr15 ?_
            refine bd_goto C 68 dX8_setSetting_58 (by decide) ?_
            exact bd_sub (hb68 p12 l0 l1 l2 (gI p12 107 r15) ol0) [0, 1, 2] rfl
        · exact bd_sub (hb28 w) [] rfl
    · exact bd_sub (hb9 w) [] rfl
abbrev rmX8_tier : Room := { frames := 13, cells := 1, slots := 6, locals := 365 }
abbrev qX8_tier (G : Gy) (F : Fr) (g : Bd) (w : Wd) : ((Int32 × Wd) ⊕ (Nat × Wd)) → State → Prop := fun r => QX G F g 1 6 (vxint r)
set_option maxRecDepth 20000 in
set_option maxHeartbeats 4000000 in
theorem mX8_tier {l : Launch} (hf9 : l.stackTraces = false) {G : Gy} {F : Fr} (N : Nat) {w : Wd} {l0 : Nat} {l1 : Int32} {l2 : Int32} {r : (Int32 × Wd) ⊕ (Nat × Wd)} (ol0 : okF F l0 8) (hcm : F.2.2.2.2 = false) (e9 : fX8_tier F N w l0 l1 l2 = some r) : vx_Met l yX8_tier [.code yX8_tier cX8_tier 3 (some .int)] rmX8_tier (PcB G F w [.ref l0, .int l1, .int l2]) (QBx G F (vxint r)) (XBx G F (vxint r)) 1 6 (AF F) := by
  refine bd_vmet (vx := vxint) hf9 (by decide) (Nat.le_of_ble_eq_true rfl) e9 (fun g C hret hxt => ?_)
  clear e9 r
  unfold fX8_tier
  refine bd_sub (lv' := [(0, .ref l0), (1, .int l1), (2, .int l2)]) ?_ [0, 1, 2] rfl
  refine bd_aload_n C 0 dX8_tier_0 rfl rfl ?_
  refine bd_gR C fi800 fv800 wd_338 dX8_tier_1 ol0 (fun r1 gr1 hr1 => ?_)
  refine bd_iload_n C 1 dX8_tier_4 rfl rfl ?_
  refine bd_callV (vs := fun (r : Int32) => some (.int r)) (wf := fun _ => w) (st := []) (st1 := fun x2 => Value.int x2 :: []) C [.int l1] (fun r9 e9 => mX1_hasTier C.flag N hr1 e9) mwX1_hasTier miX1_hasTier wd_585 hr1 (by decide) rfl rfl rfl (Nat.le_of_ble_eq_true rfl) dX8_tier_5 ⟨rfl, rfl, Nat.le_of_ble_eq_true rfl, Nat.le_of_ble_eq_true rfl, Nat.le_of_ble_eq_true rfl, Nat.le_of_ble_eq_true rfl⟩ (fun _ => rfl) (fun x2 ex2 => ?_)
  refine bd_if_ne C 19 dX8_tier_8 (by decide) (fun c3 => ?_) (fun c3 => ?_)
  · refine bd_iload_n C 2 dX8_tier_19 rfl rfl ?_
    refine bd_ite (fun c4 => ?_) (fun c4 => ?_)
    · refine bd_tableIn C (off := 48) 68 dX8_tier_20 (by rw [c4]; decide) (by rw [c4]; decide) (by rw [c4]; rfl) (by decide) ?_
      refine bd_aload_n C 0 dX8_tier_68 rfl rfl ?_
      refine bd_gR C fi800 fv800 wd_338 dX8_tier_69 ol0 (fun r5 gr5 hr5 => ?_)
      refine bd_iload_n C 1 dX8_tier_72 rfl rfl ?_
      refine bd_callV (vs := fun (r : Int32) => some (.int r)) (wf := fun _ => w) (st := []) (st1 := fun x6 => Value.int x6 :: []) C [.int l1] (fun r9 e9 => mX1_kindOf C.flag N hr5 e9) mwX1_kindOf miX1_kindOf wd_652 hr5 (by decide) rfl rfl rfl (Nat.le_of_ble_eq_true rfl) dX8_tier_73 ⟨rfl, rfl, Nat.le_of_ble_eq_true rfl, Nat.le_of_ble_eq_true rfl, Nat.le_of_ble_eq_true rfl, Nat.le_of_ble_eq_true rfl⟩ (fun _ => rfl) (fun x6 ex6 => ?_)
      exact bd_xiret C hret rfl rfl dX8_tier_76 (Nat.le_of_ble_eq_true rfl) (Nat.le_of_ble_eq_true rfl)
    · refine bd_ite (fun c7 => ?_) (fun c7 => ?_)
      · refine bd_tableIn C (off := 57) 77 dX8_tier_20 (by rw [c7]; decide) (by rw [c7]; decide) (by rw [c7]; rfl) (by decide) ?_
        refine bd_aload_n C 0 dX8_tier_77 rfl rfl ?_
        refine bd_gR C fi800 fv800 wd_338 dX8_tier_78 ol0 (fun r8 gr8 hr8 => ?_)
        refine bd_iload_n C 1 dX8_tier_81 rfl rfl ?_
        refine bd_callV (vs := fun (r : Int32) => some (.int r)) (wf := fun _ => w) (st := []) (st1 := fun x9 => Value.int x9 :: []) C [.int l1] (fun r9 e9 => mX1_ruleOf C.flag N hr8 e9) mwX1_ruleOf miX1_ruleOf wd_653 hr8 (by decide) rfl rfl rfl (Nat.le_of_ble_eq_true rfl) dX8_tier_82 ⟨rfl, rfl, Nat.le_of_ble_eq_true rfl, Nat.le_of_ble_eq_true rfl, Nat.le_of_ble_eq_true rfl, Nat.le_of_ble_eq_true rfl⟩ (fun _ => rfl) (fun x9 ex9 => ?_)
        exact bd_xiret C hret rfl rfl dX8_tier_85 (Nat.le_of_ble_eq_true rfl) (Nat.le_of_ble_eq_true rfl)
      · refine bd_ite (fun c10 => ?_) (fun c10 => ?_)
        · refine bd_tableIn C (off := 66) 86 dX8_tier_20 (by rw [c10]; decide) (by rw [c10]; decide) (by rw [c10]; rfl) (by decide) ?_
          refine bd_aload_n C 0 dX8_tier_86 rfl rfl ?_
          refine bd_gR C fi800 fv800 wd_338 dX8_tier_87 ol0 (fun r11 gr11 hr11 => ?_)
          refine bd_iload_n C 1 dX8_tier_90 rfl rfl ?_
          refine bd_callV (vs := fun (r : Int32) => some (.int r)) (wf := fun _ => w) (st := []) (st1 := fun x12 => Value.int x12 :: []) C [.int l1] (fun r9 e9 => mX1_parentOf C.flag N hr11 e9) mwX1_parentOf miX1_parentOf wd_654 hr11 (by decide) rfl rfl rfl (Nat.le_of_ble_eq_true rfl) dX8_tier_91 ⟨rfl, rfl, Nat.le_of_ble_eq_true rfl, Nat.le_of_ble_eq_true rfl, Nat.le_of_ble_eq_true rfl, Nat.le_of_ble_eq_true rfl⟩ (fun _ => rfl) (fun x12 ex12 => ?_)
          exact bd_xiret C hret rfl rfl dX8_tier_94 (Nat.le_of_ble_eq_true rfl) (Nat.le_of_ble_eq_true rfl)
        · refine bd_ite (fun c13 => ?_) (fun c13 => ?_)
          · refine bd_tableIn C (off := 75) 95 dX8_tier_20 (by rw [c13]; decide) (by rw [c13]; decide) (by rw [c13]; rfl) (by decide) ?_
            refine bd_aload_n C 0 dX8_tier_95 rfl rfl ?_
            refine bd_gR C fi800 fv800 wd_338 dX8_tier_96 ol0 (fun r14 gr14 hr14 => ?_)
            refine bd_iload_n C 1 dX8_tier_99 rfl rfl ?_
            refine bd_callV (vs := fun (r : Nat) => some (.ref r)) (wf := fun _ => w) (st := []) (st1 := fun x15 => Value.ref x15 :: []) C [.int l1] (fun r9 e9 => mX1_present C.flag N hr14 e9) mwX1_present miX1_present wd_655 hr14 (by decide) rfl rfl rfl (Nat.le_of_ble_eq_true rfl) dX8_tier_100 ⟨rfl, rfl, Nat.le_of_ble_eq_true rfl, Nat.le_of_ble_eq_true rfl, Nat.le_of_ble_eq_true rfl, Nat.le_of_ble_eq_true rfl⟩ (fun _ => rfl) (fun x15 ex15 => ?_)
            refine bd_ckF (fun h16 => ?_)
            refine bd_gIN C fi703 fv703 wd_134 dX8_tier_103 h16 ?_
            exact bd_xiret C hret rfl rfl dX8_tier_106 (Nat.le_of_ble_eq_true rfl) (Nat.le_of_ble_eq_true rfl)
          · refine bd_ite (fun c17 => ?_) (fun c17 => ?_)
            · refine bd_tableIn C (off := 87) 107 dX8_tier_20 (by rw [c17]; decide) (by rw [c17]; decide) (by rw [c17]; rfl) (by decide) ?_
              refine bd_aload_n C 0 dX8_tier_107 rfl rfl ?_
              refine bd_gR C fi800 fv800 wd_338 dX8_tier_108 ol0 (fun r18 gr18 hr18 => ?_)
              refine bd_iload_n C 1 dX8_tier_111 rfl rfl ?_
              refine bd_callV (vs := fun (r : Nat) => some (.ref r)) (wf := fun _ => w) (st := []) (st1 := fun x19 => Value.ref x19 :: []) C [.int l1] (fun r9 e9 => mX1_present C.flag N hr18 e9) mwX1_present miX1_present wd_655 hr18 (by decide) rfl rfl rfl (Nat.le_of_ble_eq_true rfl) dX8_tier_112 ⟨rfl, rfl, Nat.le_of_ble_eq_true rfl, Nat.le_of_ble_eq_true rfl, Nat.le_of_ble_eq_true rfl, Nat.le_of_ble_eq_true rfl⟩ (fun _ => rfl) (fun x19 ex19 => ?_)
              refine bd_ckF (fun h20 => ?_)
              refine bd_callV (vs := fun (r : Int32) => some (.int r)) (wf := fun _ => w) (st := []) (st1 := fun x21 => Value.int x21 :: []) C [] (fun r9 e9 => mX7_frameSum C.flag N h20 e9) mwX7_frameSum miX7_frameSum wd_417 h20 (by decide) rfl rfl rfl (Nat.le_of_ble_eq_true rfl) dX8_tier_115 ⟨rfl, rfl, Nat.le_of_ble_eq_true rfl, Nat.le_of_ble_eq_true rfl, Nat.le_of_ble_eq_true rfl, Nat.le_of_ble_eq_true rfl⟩ (fun _ => rfl) (fun x21 ex21 => ?_)
              exact bd_xiret C hret rfl rfl dX8_tier_118 (Nat.le_of_ble_eq_true rfl) (Nat.le_of_ble_eq_true rfl)
            · refine bd_ite (fun c22 => ?_) (fun c22 => ?_)
              · refine bd_tableIn C (off := 99) 119 dX8_tier_20 (by rw [c22]; decide) (by rw [c22]; decide) (by rw [c22]; rfl) (by decide) ?_
                refine bd_aload_n C 0 dX8_tier_119 rfl rfl ?_
                refine bd_gR C fi800 fv800 wd_338 dX8_tier_120 ol0 (fun r23 gr23 hr23 => ?_)
                refine bd_iconst C (v := 1) dX8_tier_123 (by decide) ?_
                refine bd_aload_n C 0 dX8_tier_124 rfl rfl ?_
                refine bd_gR C fi800 fv800 wd_338 dX8_tier_125 ol0 (fun r24 gr24 hr24 => ?_)
                refine bd_gIN C fi106 fv106 wd_159 dX8_tier_128 hr24 ?_
                refine bd_isub C dX8_tier_131 ?_
                refine bd_iload_n C 1 dX8_tier_132 rfl rfl ?_
                refine bd_callV (vs := fun (r : Nat) => some (.ref r)) (wf := fun _ => w) (st := []) (st1 := fun x25 => Value.ref x25 :: []) C [.int (1 - (gI w 106 r24)), .int l1] (fun r9 e9 => mX1_row C.flag N hr23 e9) mwX1_row miX1_row wd_394 hr23 (by decide) rfl rfl rfl (Nat.le_of_ble_eq_true rfl) dX8_tier_133 ⟨rfl, rfl, Nat.le_of_ble_eq_true rfl, Nat.le_of_ble_eq_true rfl, Nat.le_of_ble_eq_true rfl, Nat.le_of_ble_eq_true rfl⟩ (fun _ => rfl) (fun x25 ex25 => ?_)
                refine bd_ckF (fun h26 => ?_)
                refine bd_gIN C fi703 fv703 wd_134 dX8_tier_136 h26 ?_
                exact bd_xiret C hret rfl rfl dX8_tier_139 (Nat.le_of_ble_eq_true rfl) (Nat.le_of_ble_eq_true rfl)
              · refine bd_ite (fun c27 => ?_) (fun c27 => ?_)
                · refine bd_tableIn C (off := 120) 140 dX8_tier_20 (by rw [c27]; decide) (by rw [c27]; decide) (by rw [c27]; rfl) (by decide) ?_
                  refine bd_aload_n C 0 dX8_tier_140 rfl rfl ?_
                  refine bd_gR C fi800 fv800 wd_338 dX8_tier_141 ol0 (fun r28 gr28 hr28 => ?_)
                  refine bd_iload_n C 1 dX8_tier_144 rfl rfl ?_
                  refine bd_callV (vs := fun (r : Int32) => some (.int r)) (wf := fun _ => w) (st := []) (st1 := fun x29 => Value.int x29 :: []) C [.int l1] (fun r9 e9 => mX1_childMask C.flag N hr28 e9) mwX1_childMask miX1_childMask wd_659 hr28 (by decide) rfl rfl rfl (Nat.le_of_ble_eq_true rfl) dX8_tier_145 ⟨rfl, rfl, Nat.le_of_ble_eq_true rfl, Nat.le_of_ble_eq_true rfl, Nat.le_of_ble_eq_true rfl, Nat.le_of_ble_eq_true rfl⟩ (fun _ => rfl) (fun x29 ex29 => ?_)
                  exact bd_xiret C hret rfl rfl dX8_tier_148 (Nat.le_of_ble_eq_true rfl) (Nat.le_of_ble_eq_true rfl)
                · refine bd_ite (fun c30 => ?_) (fun c30 => ?_)
                  · refine bd_tableIn C (off := 129) 149 dX8_tier_20 (by rw [c30]; decide) (by rw [c30]; decide) (by rw [c30]; rfl) (by decide) ?_
                    refine bd_aload_n C 0 dX8_tier_149 rfl rfl ?_
                    refine bd_gR C fi800 fv800 wd_338 dX8_tier_150 ol0 (fun r31 gr31 hr31 => ?_)
                    refine bd_iload_n C 1 dX8_tier_153 rfl rfl ?_
                    refine bd_callV (vs := fun (r : Nat) => some (.ref r)) (wf := fun _ => w) (st := []) (st1 := fun x32 => Value.ref x32 :: []) C [.int l1] (fun r9 e9 => mX1_present C.flag N hr31 e9) mwX1_present miX1_present wd_655 hr31 (by decide) rfl rfl rfl (Nat.le_of_ble_eq_true rfl) dX8_tier_154 ⟨rfl, rfl, Nat.le_of_ble_eq_true rfl, Nat.le_of_ble_eq_true rfl, Nat.le_of_ble_eq_true rfl, Nat.le_of_ble_eq_true rfl⟩ (fun _ => rfl) (fun x32 ex32 => ?_)
                    refine bd_ckF (fun h33 => ?_)
                    refine bd_callV (vs := fun (r : Int32) => some (.int r)) (wf := fun _ => w) (st := []) (st1 := fun x34 => Value.int x34 :: []) C [] (fun r9 e9 => mX7_labelCount C.flag N h33 e9) mwX7_labelCount miX7_labelCount wd_663 h33 (by decide) rfl rfl rfl (Nat.le_of_ble_eq_true rfl) dX8_tier_157 ⟨rfl, rfl, Nat.le_of_ble_eq_true rfl, Nat.le_of_ble_eq_true rfl, Nat.le_of_ble_eq_true rfl, Nat.le_of_ble_eq_true rfl⟩ (fun _ => rfl) (fun x34 ex34 => ?_)
                    exact bd_xiret C hret rfl rfl dX8_tier_160 (Nat.le_of_ble_eq_true rfl) (Nat.le_of_ble_eq_true rfl)
                  · refine bd_tableOut C 161 dX8_tier_20 (tbl_out 8 _ (fun j hj => by match j, hj with | 0, _ => exact c4 | 1, _ => exact c7 | 2, _ => exact c10 | 3, _ => exact c13 | 4, _ => exact c17 | 5, _ => exact c22 | 6, _ => exact c27 | 7, _ => exact c30) (by decide)) (by decide) ?_
                    exact bd_throw C hxt hcm (e := 0) rfl wd_564 wd_101 xa8_88 dX8_tier_161 dX8_tier_164 dX8_tier_165 dX8_tier_168 ⟨Nat.le_of_ble_eq_true rfl, Nat.le_of_ble_eq_true rfl, Nat.le_of_ble_eq_true rfl, Nat.le_of_ble_eq_true rfl⟩ ⟨Nat.le_of_ble_eq_true rfl, Nat.le_of_ble_eq_true rfl⟩ rfl
  · exact bd_throw C hxt hcm (e := 1) rfl wd_589 wd_98 xa8_95 dX8_tier_11 dX8_tier_14 dX8_tier_15 dX8_tier_18 ⟨Nat.le_of_ble_eq_true rfl, Nat.le_of_ble_eq_true rfl, Nat.le_of_ble_eq_true rfl, Nat.le_of_ble_eq_true rfl⟩ ⟨Nat.le_of_ble_eq_true rfl, Nat.le_of_ble_eq_true rfl⟩ rfl
abbrev rmX8_book : Room := { frames := 12, cells := 1, slots := 6, locals := 346 }
abbrev qX8_book (G : Gy) (F : Fr) (g : Bd) (w : Wd) : ((Int32 × Wd) ⊕ (Nat × Wd)) → State → Prop := fun r => QX G F g 1 6 (vxint r)
set_option maxRecDepth 20000 in
set_option maxHeartbeats 4000000 in
theorem mX8_book {l : Launch} (hf9 : l.stackTraces = false) {G : Gy} {F : Fr} (N : Nat) {w : Wd} {l0 : Nat} {l1 : Int32} {r : (Int32 × Wd) ⊕ (Nat × Wd)} (ol0 : okF F l0 8) (hcm : F.2.2.2.2 = false) (e9 : fX8_book F N w l0 l1 = some r) : vx_Met l yX8_book [.code yX8_book cX8_book 2 (some .int)] rmX8_book (PcB G F w [.ref l0, .int l1]) (QBx G F (vxint r)) (XBx G F (vxint r)) 1 6 (AF F) := by
  refine bd_vmet (vx := vxint) hf9 (by decide) (Nat.le_of_ble_eq_true rfl) e9 (fun g C hret hxt => ?_)
  clear e9 r
  unfold fX8_book
  refine bd_sub (lv' := [(0, .ref l0), (1, .int l1)]) ?_ [0, 1] rfl
  refine bd_iload_n C 1 dX8_book_0 rfl rfl ?_
  refine bd_ite (fun c1 => ?_) (fun c1 => ?_)
  · refine bd_tableIn C (off := 47) 48 dX8_book_1 (by rw [c1]; decide) (by rw [c1]; decide) (by rw [c1]; rfl) (by decide) ?_
    refine bd_aload_n C 0 dX8_book_48 rfl rfl ?_
    refine bd_gR C fi800 fv800 wd_338 dX8_book_49 ol0 (fun r2 gr2 hr2 => ?_)
    refine bd_gIN C fi105 fv105 wd_155 dX8_book_52 hr2 ?_
    exact bd_xiret C hret rfl rfl dX8_book_55 (Nat.le_of_ble_eq_true rfl) (Nat.le_of_ble_eq_true rfl)
  · refine bd_ite (fun c3 => ?_) (fun c3 => ?_)
    · refine bd_tableIn C (off := 55) 56 dX8_book_1 (by rw [c3]; decide) (by rw [c3]; decide) (by rw [c3]; rfl) (by decide) ?_
      refine bd_aload_n C 0 dX8_book_56 rfl rfl ?_
      refine bd_gR C fi800 fv800 wd_338 dX8_book_57 ol0 (fun r4 gr4 hr4 => ?_)
      refine bd_gIN C fi106 fv106 wd_159 dX8_book_60 hr4 ?_
      exact bd_xiret C hret rfl rfl dX8_book_63 (Nat.le_of_ble_eq_true rfl) (Nat.le_of_ble_eq_true rfl)
    · refine bd_ite (fun c5 => ?_) (fun c5 => ?_)
      · refine bd_tableIn C (off := 63) 64 dX8_book_1 (by rw [c5]; decide) (by rw [c5]; decide) (by rw [c5]; rfl) (by decide) ?_
        refine bd_aload_n C 0 dX8_book_64 rfl rfl ?_
        refine bd_gR C fi800 fv800 wd_338 dX8_book_65 ol0 (fun r6 gr6 hr6 => ?_)
        refine bd_gIN C fi107 fv107 wd_161 dX8_book_68 hr6 ?_
        exact bd_xiret C hret rfl rfl dX8_book_71 (Nat.le_of_ble_eq_true rfl) (Nat.le_of_ble_eq_true rfl)
      · refine bd_ite (fun c7 => ?_) (fun c7 => ?_)
        · refine bd_tableIn C (off := 71) 72 dX8_book_1 (by rw [c7]; decide) (by rw [c7]; decide) (by rw [c7]; rfl) (by decide) ?_
          refine bd_aload_n C 0 dX8_book_72 rfl rfl ?_
          refine bd_gR C fi800 fv800 wd_338 dX8_book_73 ol0 (fun r8 gr8 hr8 => ?_)
          refine bd_gIN C fi108 fv108 wd_163 dX8_book_76 hr8 ?_
          exact bd_xiret C hret rfl rfl dX8_book_79 (Nat.le_of_ble_eq_true rfl) (Nat.le_of_ble_eq_true rfl)
        · refine bd_ite (fun c9 => ?_) (fun c9 => ?_)
          · refine bd_tableIn C (off := 79) 80 dX8_book_1 (by rw [c9]; decide) (by rw [c9]; decide) (by rw [c9]; rfl) (by decide) ?_
            refine bd_aload_n C 0 dX8_book_80 rfl rfl ?_
            refine bd_gR C fi800 fv800 wd_338 dX8_book_81 ol0 (fun r10 gr10 hr10 => ?_)
            refine bd_callV (vs := fun (r : Int32) => some (.int r)) (wf := fun _ => w) (st := []) (st1 := fun x11 => Value.int x11 :: []) C [] (fun r9 e9 => mX1_spanCount C.flag N hr10 e9) mwX1_spanCount miX1_spanCount wd_682 hr10 (by decide) rfl rfl rfl (Nat.le_of_ble_eq_true rfl) dX8_book_84 ⟨rfl, rfl, Nat.le_of_ble_eq_true rfl, Nat.le_of_ble_eq_true rfl, Nat.le_of_ble_eq_true rfl, Nat.le_of_ble_eq_true rfl⟩ (fun _ => rfl) (fun x11 ex11 => ?_)
            exact bd_xiret C hret rfl rfl dX8_book_87 (Nat.le_of_ble_eq_true rfl) (Nat.le_of_ble_eq_true rfl)
          · refine bd_ite (fun c12 => ?_) (fun c12 => ?_)
            · refine bd_tableIn C (off := 87) 88 dX8_book_1 (by rw [c12]; decide) (by rw [c12]; decide) (by rw [c12]; rfl) (by decide) ?_
              refine bd_aload_n C 0 dX8_book_88 rfl rfl ?_
              refine bd_gR C fi804 fv804 wd_342 dX8_book_89 ol0 (fun r13 gr13 hr13 => ?_)
              refine bd_gIN C fi301 fv301 wd_212 dX8_book_92 hr13 ?_
              exact bd_xiret C hret rfl rfl dX8_book_95 (Nat.le_of_ble_eq_true rfl) (Nat.le_of_ble_eq_true rfl)
            · refine bd_ite (fun c14 => ?_) (fun c14 => ?_)
              · refine bd_tableIn C (off := 95) 96 dX8_book_1 (by rw [c14]; decide) (by rw [c14]; decide) (by rw [c14]; rfl) (by decide) ?_
                refine bd_aload_n C 0 dX8_book_96 rfl rfl ?_
                refine bd_gR C fi803 fv803 wd_341 dX8_book_97 ol0 (fun r15 gr15 hr15 => ?_)
                refine bd_gIN C fi202 fv202 wd_196 dX8_book_100 hr15 ?_
                exact bd_xiret C hret rfl rfl dX8_book_103 (Nat.le_of_ble_eq_true rfl) (Nat.le_of_ble_eq_true rfl)
              · refine bd_ite (fun c16 => ?_) (fun c16 => ?_)
                · refine bd_tableIn C (off := 103) 104 dX8_book_1 (by rw [c16]; decide) (by rw [c16]; decide) (by rw [c16]; rfl) (by decide) ?_
                  refine bd_aload_n C 0 dX8_book_104 rfl rfl ?_
                  refine bd_gR C fi808 fv808 wd_346 dX8_book_105 ol0 (fun r17 gr17 hr17 => ?_)
                  refine bd_gIN C fi506 fv506 wd_321 dX8_book_108 hr17 ?_
                  exact bd_xiret C hret rfl rfl dX8_book_111 (Nat.le_of_ble_eq_true rfl) (Nat.le_of_ble_eq_true rfl)
                · refine bd_tableOut C 112 dX8_book_1 (tbl_out 8 _ (fun j hj => by match j, hj with | 0, _ => exact c1 | 1, _ => exact c3 | 2, _ => exact c5 | 3, _ => exact c7 | 4, _ => exact c9 | 5, _ => exact c12 | 6, _ => exact c14 | 7, _ => exact c16) (by decide)) (by decide) ?_
                  exact bd_throw C hxt hcm (e := 0) rfl wd_564 wd_101 xa8_88 dX8_book_112 dX8_book_115 dX8_book_116 dX8_book_119 ⟨Nat.le_of_ble_eq_true rfl, Nat.le_of_ble_eq_true rfl, Nat.le_of_ble_eq_true rfl, Nat.le_of_ble_eq_true rfl⟩ ⟨Nat.le_of_ble_eq_true rfl, Nat.le_of_ble_eq_true rfl⟩ rfl
abbrev rmX8_append : Room := { frames := 11, cells := 1, slots := 6, locals := 321 }
abbrev qX8_append (G : Gy) (F : Fr) (g : Bd) : ((Int32 × Wd) ⊕ (Nat × Wd)) → State → Prop := fun r => QX G F g 1 6 (vxint r)
set_option maxRecDepth 20000 in
set_option maxHeartbeats 4000000 in
theorem mX8_append {l : Launch} (hf9 : l.stackTraces = false) {G : Gy} {F : Fr} (N : Nat) {w : Wd} {l0 : Nat} {l1 : Int32} {r : (Int32 × Wd) ⊕ (Nat × Wd)} (ol0 : okF F l0 8) (hcm : F.2.2.2.2 = false) (e9 : fX8_append F N w l0 l1 = some r) : vx_Met l yX8_append [.code yX8_append cX8_append 5 (some .int)] rmX8_append (PcB G F w [.ref l0, .int l1]) (QBx G F (vxint r)) (XBx G F (vxint r)) 1 6 (AF F) := by
  refine bd_vmet (vx := vxint) hf9 (by decide) (Nat.le_of_ble_eq_true rfl) e9 (fun g C hret hxt => ?_)
  clear e9 r
  have hb89 : ∀ (n : Nat) (w : Wd) (l0 : Nat) (l1 : Int32) (l3 : Int32) (ol0 : okF F l0 8), BD g G F 5 (qX8_append G F g) 0 0 (fX8_append_89 F N n w l0 l1 l3) w 89 [(0, .ref l0), (1, .int l1), (3, .int l3)] [] := by
    intro n
    induction n with
    | zero =>
      intro w l0 l1 l3 ol0
      unfold fX8_append_89
      exact bd_none
    | succ n ih =>
      intro w l0 l1 l3 ol0
      unfold fX8_append_89
      refine bd_iload_n C 2 dX8_append_89 rfl rfl ?_
      refine bd_if_lt C 113 dX8_append_90 (by decide) (fun c10 => ?_) (fun c10 => ?_)
      · refine bd_aload_n C 0 dX8_append_113 rfl rfl ?_
        refine bd_gR C fi804 fv804 wd_342 dX8_append_114 ol0 (fun r11 gr11 hr11 => ?_)
        refine bd_gIN C fi301 fv301 wd_212 dX8_append_117 hr11 ?_
        exact bd_xiret C hret rfl rfl dX8_append_120 (Nat.le_of_ble_eq_true rfl) (Nat.le_of_ble_eq_true rfl)
      · refine bd_aload_n C 0 dX8_append_93 rfl rfl ?_
        refine bd_gR C fi804 fv804 wd_342 dX8_append_94 ol0 (fun r12 gr12 hr12 => ?_)
        refine bd_iload_n C 1 dX8_append_97 rfl rfl ?_
        refine bd_iload_n C 2 dX8_append_98 rfl rfl ?_
        refine bd_iushr C dX8_append_99 ?_
        refine bd_sipush C (v := 255) dX8_append_100 (by decide) ?_
        refine bd_iand C dX8_append_103 ?_
        refine bd_callV (vs := fun _ => none) (wf := fun (r : Wd) => r) (st := []) (st1 := fun p13 => []) C [.int (((l1.toUInt32 >>> (Int32.toUInt32 l3 &&& Int32.toUInt32 31)).toInt32) &&& 255)] (fun r9 e9 => mX3_put C.flag N hr12 e9) mwX3_put miX3_put wd_693 hr12 (by decide) rfl rfl rfl (Nat.le_of_ble_eq_true rfl) dX8_append_104 ⟨rfl, rfl, Nat.le_of_ble_eq_true rfl, Nat.le_of_ble_eq_true rfl, Nat.le_of_ble_eq_true rfl, Nat.le_of_ble_eq_true rfl⟩ (fun _ => rfl) (fun p13 ep13 => ?_)
        refine bd_iinc C (v := l3 + (-8)) 2 [(3, .int (l3 + (-8))), (0, .ref l0), (1, .int l1)] dX8_append_107 rfl rfl (by decide) rfl ?_
        refine bd_goto C 89 dX8_append_110 (by decide) ?_
        exact bd_sub (ih p13 l0 l1 (l3 + (-8)) ol0) [1, 2, 0] rfl
  have hb37 : ∀  (w : Wd), BD g G F 5 (qX8_append G F g) 0 0 (fX8_append_37 F N w) w 37 [] [] := by
    intro w
    unfold fX8_append_37
    exact bd_throw C hxt hcm (e := 0) rfl wd_564 wd_101 xa8_88 dX8_append_37 dX8_append_40 dX8_append_41 dX8_append_44 ⟨Nat.le_of_ble_eq_true rfl, Nat.le_of_ble_eq_true rfl, Nat.le_of_ble_eq_true rfl, Nat.le_of_ble_eq_true rfl⟩ ⟨Nat.le_of_ble_eq_true rfl, Nat.le_of_ble_eq_true rfl⟩ rfl
  have hb56 : ∀ (k5 : Wd → Nat → Int32 → Int32 → Int32 → Option ((Int32 × Wd) ⊕ (Nat × Wd))), (∀ (w : Wd) (l0 : Nat) (l1 : Int32) (l2 : Int32) (l3 : Int32) (ol0 : okF F l0 8), BD g G F 5 (qX8_append G F g) 0 0 (k5 w l0 l1 l2 l3) w 5 [(0, .ref l0), (1, .int l1), (2, .int l2), (3, .int l3)] []) → ∀  (w : Wd) (l0 : Nat) (l1 : Int32) (l3 : Int32) (s0 : Int32) (s1 : Int32) (ol0 : okF F l0 8), BD g G F 5 (qX8_append G F g) 0 0 (fX8_append_56 F N k5 w l0 l1 l3 s0 s1) w 56 [(0, .ref l0), (1, .int l1), (3, .int l3)] [.int s1, .int s0] := by
    intro k5 hk5
    intro w l0 l1 l3 s0 s1 ol0
    unfold fX8_append_56
    refine bd_iadd C dX8_append_56 ?_
    refine bd_bnd (tp := Value.int) (fun v9 ev9 => ?_)
    refine bd_istore_n C [(2, .int v9), (0, .ref l0), (1, .int l1), (3, .int l3)] dX8_append_57 rfl (by decide) rfl ?_
    refine bd_iinc C (v := l3 + (-8)) 3 [(3, .int (l3 + (-8))), (2, .int v9), (0, .ref l0), (1, .int l1)] dX8_append_58 rfl rfl (by decide) rfl ?_
    refine bd_goto C 5 dX8_append_61 (by decide) ?_
    exact bd_sub (hk5 w l0 l1 v9 (l3 + (-8)) ol0) [2, 3, 1, 0] rfl
  have hb45 : ∀ (k5 : Wd → Nat → Int32 → Int32 → Int32 → Option ((Int32 × Wd) ⊕ (Nat × Wd))), (∀ (w : Wd) (l0 : Nat) (l1 : Int32) (l2 : Int32) (l3 : Int32) (ol0 : okF F l0 8), BD g G F 5 (qX8_append G F g) 0 0 (k5 w l0 l1 l2 l3) w 5 [(0, .ref l0), (1, .int l1), (2, .int l2), (3, .int l3)] []) → ∀  (w : Wd) (l0 : Nat) (l1 : Int32) (l2 : Int32) (l3 : Int32) (l4 : Int32) (ol0 : okF F l0 8), BD g G F 5 (qX8_append G F g) 0 0 (fX8_append_45 F N k5 w l0 l1 l2 l3 l4) w 45 [(0, .ref l0), (1, .int l1), (2, .int l2), (3, .int l3), (4, .int l4)] [] := by
    intro k5 hk5
    intro w l0 l1 l2 l3 l4 ol0
    unfold fX8_append_45
    refine bd_iload_n C 2 dX8_append_45 rfl rfl ?_
    refine bd_iload C 4 dX8_append_46 rfl ?_
    refine bd_if_eq C 55 dX8_append_48 (by decide) (fun c8 => ?_) (fun c8 => ?_)
    · refine bd_iconst C (v := 0) dX8_append_55 (by decide) ?_
      exact bd_sub (hb56 _ hk5 w l0 l1 l3 l2 0 ol0) [0, 1, 3] rfl
    · refine bd_iconst C (v := 1) dX8_append_51 (by decide) ?_
      refine bd_goto C 56 dX8_append_52 (by decide) ?_
      exact bd_sub (hb56 _ hk5 w l0 l1 l3 l2 1 ol0) [0, 1, 3] rfl
  have hb5 : ∀ (n : Nat) (w : Wd) (l0 : Nat) (l1 : Int32) (l2 : Int32) (l3 : Int32) (ol0 : okF F l0 8), BD g G F 5 (qX8_append G F g) 0 0 (fX8_append_5 F N n w l0 l1 l2 l3) w 5 [(0, .ref l0), (1, .int l1), (2, .int l2), (3, .int l3)] [] := by
    intro n
    induction n with
    | zero =>
      intro w l0 l1 l2 l3 ol0
      unfold fX8_append_5
      exact bd_none
    | succ n ih =>
      intro w l0 l1 l2 l3 ol0
      unfold fX8_append_5
      refine bd_iload_n C 3 dX8_append_5 rfl rfl ?_
      refine bd_if_lt C 64 dX8_append_6 (by decide) (fun c1 => ?_) (fun c1 => ?_)
      · refine bd_aload_n C 0 dX8_append_64 rfl rfl ?_
        refine bd_gR C fi804 fv804 wd_342 dX8_append_65 ol0 (fun r2 gr2 hr2 => ?_)
        refine bd_gIN C fi301 fv301 wd_212 dX8_append_68 hr2 ?_
        refine bd_iload_n C 2 dX8_append_71 rfl rfl ?_
        refine bd_iadd C dX8_append_72 ?_
        refine bd_bipush C (v := 100) dX8_append_73 (by decide) ?_
        refine bd_icmp_le C 86 dX8_append_75 (by decide) (fun c3 => ?_) (fun c3 => ?_)
        · refine bd_bipush C (v := 24) dX8_append_86 (by decide) ?_
          refine bd_istore_n C [(3, .int 24), (0, .ref l0), (1, .int l1), (2, .int l2)] dX8_append_88 rfl (by decide) rfl ?_
          exact bd_sub (hb89 N w l0 l1 24 ol0) [1, 2, 0] rfl
        · exact bd_throw C hxt hcm (e := 2) rfl wd_604 wd_102 xa8_98 dX8_append_78 dX8_append_81 dX8_append_82 dX8_append_85 ⟨Nat.le_of_ble_eq_true rfl, Nat.le_of_ble_eq_true rfl, Nat.le_of_ble_eq_true rfl, Nat.le_of_ble_eq_true rfl⟩ ⟨Nat.le_of_ble_eq_true rfl, Nat.le_of_ble_eq_true rfl⟩ rfl
      · refine bd_iload_n C 1 dX8_append_9 rfl rfl ?_
        refine bd_iload_n C 3 dX8_append_10 rfl rfl ?_
        refine bd_iushr C dX8_append_11 ?_
        refine bd_sipush C (v := 255) dX8_append_12 (by decide) ?_
        refine bd_iand C dX8_append_15 ?_
        refine bd_bnd (tp := Value.int) (fun v4 ev4 => ?_)
        refine bd_istore C [(4, .int v4), (0, .ref l0), (1, .int l1), (2, .int l2), (3, .int l3)] dX8_append_16 (by decide) rfl ?_
        refine bd_iload C 0 dX8_append_18 rfl ?_
        refine bd_if_eq C 45 dX8_append_20 (by decide) (fun c5 => ?_) (fun c5 => ?_)
        · exact bd_sub (hb45 _ ih w l0 l1 l2 l3 v4 ol0) [1, 2, 3, 4, 0] rfl
        · refine bd_iload C 0 dX8_append_23 rfl ?_
          refine bd_bipush C (v := 32) dX8_append_25 (by decide) ?_
          refine bd_icmp_lt C 37 dX8_append_27 (by decide) (fun c6 => ?_) (fun c6 => ?_)
          · exact bd_sub (hb37 w) [] rfl
          · refine bd_iload C 0 dX8_append_30 rfl ?_
            refine bd_bipush C (v := 126) dX8_append_32 (by decide) ?_
            refine bd_icmp_le C 45 dX8_append_34 (by decide) (fun c7 => ?_) (fun c7 => ?_)
            · exact bd_sub (hb45 _ ih w l0 l1 l2 l3 v4 ol0) [1, 2, 3, 4, 0] rfl
            · exact bd_sub (hb37 w) [] rfl
  unfold fX8_append
  refine bd_sub (lv' := [(0, .ref l0), (1, .int l1)]) ?_ [0, 1] rfl
  refine bd_iconst C (v := 0) dX8_append_0 (by decide) ?_
  refine bd_istore_n C [(2, .int 0), (0, .ref l0), (1, .int l1)] dX8_append_1 rfl (by decide) rfl ?_
  refine bd_bipush C (v := 24) dX8_append_2 (by decide) ?_
  refine bd_istore_n C [(3, .int 24), (2, .int 0), (0, .ref l0), (1, .int l1)] dX8_append_4 rfl (by decide) rfl ?_
  exact bd_sub (hb5 N w l0 l1 0 24 ol0) [2, 3, 1, 0] rfl
