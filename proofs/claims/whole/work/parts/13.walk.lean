abbrev rmX8_takeLabel : Room := { frames := 14, cells := 0, slots := 0, locals := 387 }
abbrev qX8_takeLabel (G : Gy) (F : Fr) (g : Bd) : (Int64 × Wd) → State → Prop := fun r => QM G F g 0 0 ((fun (r : Int64 × Wd) => some (.long r.1)) r) ((fun (r : Int64 × Wd) => r.2) r)
set_option maxRecDepth 20000 in
set_option maxHeartbeats 4000000 in
theorem mX8_takeLabel {l : Launch} (hf9 : l.stackTraces = false) {G : Gy} {F : Fr} (N : Nat) {w : Wd} {l0 : Nat} {l1 : Int32} {r : Int64 × Wd} (ol0 : okF F l0 8) (e9 : fX8_takeLabel F N w l0 l1 = some r) : Met l yX8_takeLabel [.code yX8_takeLabel cX8_takeLabel 5 (some .long)] rmX8_takeLabel (PcB G F w [.ref l0, .int l1]) (QB G F ((fun (r : Int64 × Wd) => some (.long r.1)) r) ((fun (r : Int64 × Wd) => r.2) r)) 0 0 (AF F) := by
  refine bd_met (vs := fun (r : Int64 × Wd) => some (.long r.1)) (wf := fun (r : Int64 × Wd) => r.2) hf9 (by decide) (Nat.le_of_ble_eq_true rfl) e9 (fun g C hret hini => ?_)
  clear e9 r
  have hb55 : ∀  (w : Wd) (l0 : Nat) (l2 : Int64) (l4 : Int32) (ol0 : okF F l0 8), BD g G F 5 (qX8_takeLabel G F g) 0 0 (fX8_takeLabel_55 F N w l0 l2 l4) w 55 [(0, .ref l0), (2, .long l2), (4, .int l4)] [] := by
    intro w l0 l2 l4 ol0
    unfold fX8_takeLabel_55
    refine bd_aload_n C 0 dX8_takeLabel_55 rfl rfl ?_
    refine bd_gR C fi804 fv804 wd_342 dX8_takeLabel_56 ol0 (fun r4 gr4 hr4 => ?_)
    refine bd_callV (vs := fun _ => none) (wf := fun (r : Wd) => r) (st := []) (st1 := fun p5 => []) C [] (fun r9 e9 => mX3_empty C.flag N hr4 e9) mwX3_empty miX3_empty wd_736 hr4 (by decide) rfl rfl rfl (Nat.le_of_ble_eq_true rfl) dX8_takeLabel_59 ⟨rfl, rfl, Nat.le_of_ble_eq_true rfl, Nat.le_of_ble_eq_true rfl, Nat.le_of_ble_eq_true rfl, Nat.le_of_ble_eq_true rfl⟩ (fun _ => rfl) (fun p5 ep5 => ?_)
    refine bd_iload C 2 dX8_takeLabel_62 rfl ?_
    refine bd_if_eq C 71 dX8_takeLabel_64 (by decide) (fun c6 => ?_) (fun c6 => ?_)
    · refine bd_lconst C (v := 0) dX8_takeLabel_71 (by decide) ?_
      exact bd_lret C hret rfl _ _ rfl rfl dX8_takeLabel_72 (Nat.le_refl _) (Nat.le_refl _)
    · refine bd_lload_n C 1 dX8_takeLabel_67 rfl rfl ?_
      refine bd_goto C 72 dX8_takeLabel_68 (by decide) ?_
      exact bd_lret C hret rfl _ _ rfl rfl dX8_takeLabel_72 (Nat.le_refl _) (Nat.le_refl _)
  have hb37 : ∀  (w : Wd) (l0 : Nat) (l2 : Int64) (s0 : Int32) (ol0 : okF F l0 8), BD g G F 5 (qX8_takeLabel G F g) 0 0 (fX8_takeLabel_37 F N w l0 l2 s0) w 37 [(0, .ref l0), (2, .long l2)] [.int s0] := by
    intro w l0 l2 s0 ol0
    unfold fX8_takeLabel_37
    refine bd_istore C [(4, .int s0), (0, .ref l0), (2, .long l2)] dX8_takeLabel_37 (by decide) rfl ?_
    refine bd_iload C 0 dX8_takeLabel_39 rfl ?_
    refine bd_if_ne C 55 dX8_takeLabel_41 (by decide) (fun c1 => ?_) (fun c1 => ?_)
    · exact bd_sub (hb55 w l0 l2 s0 ol0) [1, 2, 0] rfl
    · refine bd_aload_n C 1 dX8_takeLabel_44 rfl rfl ?_
      refine bd_aload_n C 1 dX8_takeLabel_45 rfl rfl ?_
      refine bd_gR C fi804 fv804 wd_342 dX8_takeLabel_46 ol0 (fun r2 gr2 hr2 => ?_)
      refine bd_gIN C fi302 fv302 wd_214 dX8_takeLabel_49 hr2 ?_
      refine bd_pI C fi811 ftX8 fu811 wd_349 rfl rfl rfl dX8_takeLabel_52 ol0 (fun w3 => ?_)
      exact bd_sub (hb55 w3 l0 l2 s0 ol0) [1, 2, 0] rfl
  have hb36 : ∀  (w : Wd) (l0 : Nat) (l2 : Int64) (ol0 : okF F l0 8), BD g G F 5 (qX8_takeLabel G F g) 0 0 (fX8_takeLabel_36 F N w l0 l2) w 36 [(0, .ref l0), (2, .long l2)] [] := by
    intro w l0 l2 ol0
    unfold fX8_takeLabel_36
    refine bd_iconst C (v := 0) dX8_takeLabel_36 (by decide) ?_
    exact bd_sub (hb37 w l0 l2 0 ol0) [0, 1] rfl
  unfold fX8_takeLabel
  refine bd_sub (lv' := [(0, .ref l0), (1, .int l1)]) ?_ [0, 1] rfl
  refine bd_aload_n C 0 dX8_takeLabel_0 rfl rfl ?_
  refine bd_gR C fi804 fv804 wd_342 dX8_takeLabel_1 ol0 (fun r7 gr7 hr7 => ?_)
  refine bd_callV (vs := fun _ => none) (wf := fun (r : Wd) => r) (st := []) (st1 := fun p8 => []) C [] (fun r9 e9 => mX3_restart C.flag N hr7 e9) mwX3_restart miX3_restart wd_709 hr7 (by decide) rfl rfl rfl (Nat.le_of_ble_eq_true rfl) dX8_takeLabel_4 ⟨rfl, rfl, Nat.le_of_ble_eq_true rfl, Nat.le_of_ble_eq_true rfl, Nat.le_of_ble_eq_true rfl, Nat.le_of_ble_eq_true rfl⟩ (fun _ => rfl) (fun p8 ep8 => ?_)
  refine bd_aload_n C 0 dX8_takeLabel_7 rfl rfl ?_
  refine bd_gR C fi804 fv804 wd_342 dX8_takeLabel_8 ol0 (fun r9 gr9 hr9 => ?_)
  refine bd_iload_n C 1 dX8_takeLabel_11 rfl rfl ?_
  refine bd_callV (vs := fun (r : Int64 × Wd) => some (.long r.1)) (wf := fun (r : Int64 × Wd) => r.2) (st := []) (st1 := fun p10 => Value.long p10.1 :: []) C [.int l1] (fun r9 e9 => mX3_readLabel C.flag N hr9 e9) mwX3_readLabel miX3_readLabel wd_713 hr9 (by decide) rfl rfl rfl (Nat.le_of_ble_eq_true rfl) dX8_takeLabel_12 ⟨rfl, rfl, Nat.le_of_ble_eq_true rfl, Nat.le_of_ble_eq_true rfl, Nat.le_of_ble_eq_true rfl, Nat.le_of_ble_eq_true rfl⟩ (fun _ => rfl) (fun p10 ep10 => ?_)
  refine bd_lstore_n C [(2, .long p10.1), (0, .ref l0), (1, .int l1)] dX8_takeLabel_15 rfl (by decide) rfl ?_
  refine bd_lload_n C 0 dX8_takeLabel_16 rfl rfl ?_
  refine bd_lconst C (v := 0) dX8_takeLabel_17 (by decide) ?_
  refine bd_lcmp C dX8_takeLabel_18 ?_
  refine bd_if_eq C 36 dX8_takeLabel_19 (by decide) (fun c11 => ?_) (fun c11 => ?_)
  · exact bd_sub (hb36 p10.2 l0 p10.1 ol0) [1, 0] rfl
  · refine bd_aload_n C 1 dX8_takeLabel_22 rfl rfl ?_
    refine bd_gR C fi804 fv804 wd_342 dX8_takeLabel_23 ol0 (fun r12 gr12 hr12 => ?_)
    refine bd_callV (vs := fun (r : Int32) => some (.int r)) (wf := fun _ => p10.2) (st := []) (st1 := fun x13 => Value.int x13 :: []) C [] (fun r9 e9 => mX3_isAtEnd C.flag N hr12 e9) mwX3_isAtEnd miX3_isAtEnd wd_732 hr12 (by decide) rfl rfl rfl (Nat.le_of_ble_eq_true rfl) dX8_takeLabel_26 ⟨rfl, rfl, Nat.le_of_ble_eq_true rfl, Nat.le_of_ble_eq_true rfl, Nat.le_of_ble_eq_true rfl, Nat.le_of_ble_eq_true rfl⟩ (fun _ => rfl) (fun x13 ex13 => ?_)
    refine bd_if_eq C 36 dX8_takeLabel_29 (by decide) (fun c14 => ?_) (fun c14 => ?_)
    · exact bd_sub (hb36 p10.2 l0 p10.1 ol0) [1, 0] rfl
    · refine bd_iconst C (v := 1) dX8_takeLabel_32 (by decide) ?_
      refine bd_goto C 37 dX8_takeLabel_33 (by decide) ?_
      exact bd_sub (hb37 p10.2 l0 p10.1 1 ol0) [1, 0] rfl
abbrev rmX8_keepDraft : Room := { frames := 13, cells := 0, slots := 0, locals := 368 }
abbrev qX8_keepDraft (G : Gy) (F : Fr) (g : Bd) : Wd → State → Prop := fun r => QM G F g 0 0 ((fun _ => none) r) ((fun (r : Wd) => r) r)
set_option maxRecDepth 20000 in
set_option maxHeartbeats 4000000 in
theorem mX8_keepDraft {l : Launch} (hf9 : l.stackTraces = false) {G : Gy} {F : Fr} (N : Nat) {w : Wd} {l0 : Nat} {r : Wd} (ol0 : okF F l0 8) (e9 : fX8_keepDraft F N w l0 = some r) : Met l yX8_keepDraft [.code yX8_keepDraft cX8_keepDraft 1 none] rmX8_keepDraft (PcB G F w [.ref l0]) (QB G F ((fun _ => none) r) ((fun (r : Wd) => r) r)) 0 0 (AF F) := by
  refine bd_met (vs := fun _ => none) (wf := fun (r : Wd) => r) hf9 (by decide) (Nat.le_of_ble_eq_true rfl) e9 (fun g C hret hini => ?_)
  clear e9 r
  unfold fX8_keepDraft
  refine bd_sub (lv' := [(0, .ref l0)]) ?_ [0] rfl
  refine bd_aload_n C 0 dX8_keepDraft_0 rfl rfl ?_
  refine bd_gR C fi803 fv803 wd_341 dX8_keepDraft_1 ol0 (fun r1 gr1 hr1 => ?_)
  refine bd_aload_n C 0 dX8_keepDraft_4 rfl rfl ?_
  refine bd_gR C fi800 fv800 wd_338 dX8_keepDraft_5 ol0 (fun r2 gr2 hr2 => ?_)
  refine bd_callV (vs := fun _ => none) (wf := fun (r : Wd) => r) (st := []) (st1 := fun p3 => []) C [.ref r2] (fun r9 e9 => mX2_push C.flag N hr1 hr2 e9) mwX2_push miX2_push wd_619 hr1 (by decide) rfl rfl rfl (Nat.le_of_ble_eq_true rfl) dX8_keepDraft_8 ⟨rfl, rfl, Nat.le_of_ble_eq_true rfl, Nat.le_of_ble_eq_true rfl, Nat.le_of_ble_eq_true rfl, Nat.le_of_ble_eq_true rfl⟩ (fun _ => rfl) (fun p3 ep3 => ?_)
  refine bd_aload_n C 0 dX8_keepDraft_11 rfl rfl ?_
  refine bd_gR C fi800 fv800 wd_338 dX8_keepDraft_12 ol0 (fun r4 gr4 hr4 => ?_)
  refine bd_aload_n C 0 dX8_keepDraft_15 rfl rfl ?_
  refine bd_gR C fi801 fv801 wd_339 dX8_keepDraft_16 ol0 (fun r5 gr5 hr5 => ?_)
  refine bd_callV (vs := fun _ => none) (wf := fun (r : Wd) => r) (st := []) (st1 := fun p6 => []) C [.ref r5] (fun r9 e9 => mX1_copyFrom C.flag N hr4 hr5 e9) mwX1_copyFrom miX1_copyFrom wd_456 hr4 (by decide) rfl rfl rfl (Nat.le_of_ble_eq_true rfl) dX8_keepDraft_19 ⟨rfl, rfl, Nat.le_of_ble_eq_true rfl, Nat.le_of_ble_eq_true rfl, Nat.le_of_ble_eq_true rfl, Nat.le_of_ble_eq_true rfl⟩ (fun _ => rfl) (fun p6 ep6 => ?_)
  exact bd_vret C hret rfl _ _ rfl rfl dX8_keepDraft_22 (Nat.le_refl _) (Nat.le_refl _)
abbrev rmX8_addSpan : Room := { frames := 15, cells := 1, slots := 6, locals := 427 }
abbrev qX8_addSpan (G : Gy) (F : Fr) (g : Bd) : ((Int32 × Wd) ⊕ (Nat × Wd)) → State → Prop := fun r => QX G F g 1 6 (vxint r)
set_option maxRecDepth 20000 in
set_option maxHeartbeats 4000000 in
theorem mX8_addSpan {l : Launch} (hf9 : l.stackTraces = false) {G : Gy} {F : Fr} (N : Nat) {w : Wd} {l0 : Nat} {l1 : Int32} {l2 : Int32} {l3 : Int32} {r : (Int32 × Wd) ⊕ (Nat × Wd)} (ol0 : okF F l0 8) (hcm : F.2.2.2.2 = false) (e9 : fX8_addSpan F N w l0 l1 l2 l3 = some r) : vx_Met l yX8_addSpan [.code yX8_addSpan cX8_addSpan 7 (some .int)] rmX8_addSpan (PcB G F w [.ref l0, .int l1, .int l2, .int l3]) (QBx G F (vxint r)) (XBx G F (vxint r)) 1 6 (AF F) := by
  refine bd_vmet (vx := vxint) hf9 (by decide) (Nat.le_of_ble_eq_true rfl) e9 (fun g C hret hxt => ?_)
  clear e9 r
  unfold fX8_addSpan
  refine bd_sub (lv' := [(0, .ref l0), (1, .int l1), (2, .int l2), (3, .int l3)]) ?_ [0, 1, 2, 3] rfl
  refine bd_aload_n C 0 dX8_addSpan_0 rfl rfl ?_
  refine bd_gR C fi800 fv800 wd_338 dX8_addSpan_1 ol0 (fun r1 gr1 hr1 => ?_)
  refine bd_iload_n C 1 dX8_addSpan_4 rfl rfl ?_
  refine bd_callV (vs := fun (r : Int32) => some (.int r)) (wf := fun _ => w) (st := []) (st1 := fun x2 => Value.int x2 :: []) C [.int l1] (fun r9 e9 => mX1_hasTier C.flag N hr1 e9) mwX1_hasTier miX1_hasTier wd_585 hr1 (by decide) rfl rfl rfl (Nat.le_of_ble_eq_true rfl) dX8_addSpan_5 ⟨rfl, rfl, Nat.le_of_ble_eq_true rfl, Nat.le_of_ble_eq_true rfl, Nat.le_of_ble_eq_true rfl, Nat.le_of_ble_eq_true rfl⟩ (fun _ => rfl) (fun x2 ex2 => ?_)
  refine bd_if_ne C 19 dX8_addSpan_8 (by decide) (fun c3 => ?_) (fun c3 => ?_)
  · refine bd_aload_n C 0 dX8_addSpan_19 rfl rfl ?_
    refine bd_aload_n C 0 dX8_addSpan_20 rfl rfl ?_
    refine bd_gR C fi800 fv800 wd_338 dX8_addSpan_21 ol0 (fun r4 gr4 hr4 => ?_)
    refine bd_iload_n C 1 dX8_addSpan_24 rfl rfl ?_
    refine bd_callV (vs := fun (r : Int32) => some (.int r)) (wf := fun _ => w) (st := [.ref l0]) (st1 := fun x5 => Value.int x5 :: [.ref l0]) C [.int l1] (fun r9 e9 => mX1_kindOf C.flag N hr4 e9) mwX1_kindOf miX1_kindOf wd_652 hr4 (by decide) rfl rfl rfl (Nat.le_of_ble_eq_true rfl) dX8_addSpan_25 ⟨rfl, rfl, Nat.le_of_ble_eq_true rfl, Nat.le_of_ble_eq_true rfl, Nat.le_of_ble_eq_true rfl, Nat.le_of_ble_eq_true rfl⟩ (fun _ => rfl) (fun x5 ex5 => ?_)
    refine bd_callV (vs := fun (r : Int64 × Wd) => some (.long r.1)) (wf := fun (r : Int64 × Wd) => r.2) (st := []) (st1 := fun p6 => Value.long p6.1 :: []) C [.int x5] (fun r9 e9 => mX8_takeLabel C.flag N ol0 e9) mwX8_takeLabel miX8_takeLabel wd_705 ol0 (by decide) rfl rfl rfl (Nat.le_of_ble_eq_true rfl) dX8_addSpan_28 ⟨rfl, rfl, Nat.le_of_ble_eq_true rfl, Nat.le_of_ble_eq_true rfl, Nat.le_of_ble_eq_true rfl, Nat.le_of_ble_eq_true rfl⟩ (fun _ => rfl) (fun p6 ep6 => ?_)
    refine bd_lstore C [(4, .long p6.1), (0, .ref l0), (1, .int l1), (2, .int l2), (3, .int l3)] dX8_addSpan_31 (by decide) rfl ?_
    refine bd_lload C 0 dX8_addSpan_33 rfl ?_
    refine bd_lconst C (v := 0) dX8_addSpan_35 (by decide) ?_
    refine bd_lcmp C dX8_addSpan_36 ?_
    refine bd_if_ne C 48 dX8_addSpan_37 (by decide) (fun c7 => ?_) (fun c7 => ?_)
    · refine bd_aload_n C 1 dX8_addSpan_48 rfl rfl ?_
      refine bd_gR C fi801 fv801 wd_339 dX8_addSpan_49 ol0 (fun r8 gr8 hr8 => ?_)
      refine bd_aload_n C 1 dX8_addSpan_52 rfl rfl ?_
      refine bd_gR C fi800 fv800 wd_338 dX8_addSpan_53 ol0 (fun r9 gr9 hr9 => ?_)
      refine bd_callV (vs := fun _ => none) (wf := fun (r : Wd) => r) (st := []) (st1 := fun p10 => []) C [.ref r9] (fun r9 e9 => mX1_copyFrom C.flag N hr8 hr9 e9) mwX1_copyFrom miX1_copyFrom wd_456 hr8 (by decide) rfl rfl rfl (Nat.le_of_ble_eq_true rfl) dX8_addSpan_56 ⟨rfl, rfl, Nat.le_of_ble_eq_true rfl, Nat.le_of_ble_eq_true rfl, Nat.le_of_ble_eq_true rfl, Nat.le_of_ble_eq_true rfl⟩ (fun _ => rfl) (fun p10 ep10 => ?_)
      refine bd_aload_n C 1 dX8_addSpan_59 rfl rfl ?_
      refine bd_gR C fi801 fv801 wd_339 dX8_addSpan_60 ol0 (fun r11 gr11 hr11 => ?_)
      refine bd_iload_n C 2 dX8_addSpan_63 rfl rfl ?_
      refine bd_iload_n C 3 dX8_addSpan_64 rfl rfl ?_
      refine bd_iload_n C 4 dX8_addSpan_65 rfl rfl ?_
      refine bd_lload C 0 dX8_addSpan_66 rfl ?_
      refine bd_aload_n C 1 dX8_addSpan_68 rfl rfl ?_
      refine bd_gR C fi805 fv805 wd_343 dX8_addSpan_69 ol0 (fun r12 gr12 hr12 => ?_)
      refine bd_callV (vs := fun (r : Int32 × Wd) => some (.int r.1)) (wf := fun (r : Int32 × Wd) => r.2) (st := []) (st1 := fun p13 => Value.int p13.1 :: []) C [.int l1, .int l2, .int l3, .long p6.1, .ref r12] (fun r9 e9 => mX1_insertSpan C.flag N hr11 hr12 e9) mwX1_insertSpan miX1_insertSpan wd_740 hr11 (by decide) rfl rfl rfl (Nat.le_of_ble_eq_true rfl) dX8_addSpan_72 ⟨rfl, rfl, Nat.le_of_ble_eq_true rfl, Nat.le_of_ble_eq_true rfl, Nat.le_of_ble_eq_true rfl, Nat.le_of_ble_eq_true rfl⟩ (fun _ => rfl) (fun p13 ep13 => ?_)
      refine bd_istore C [(6, .int p13.1), (4, .long p6.1), (0, .ref l0), (1, .int l1), (2, .int l2), (3, .int l3)] dX8_addSpan_75 (by decide) rfl ?_
      refine bd_iload C 0 dX8_addSpan_77 rfl ?_
      refine bd_if_ge C 90 dX8_addSpan_79 (by decide) (fun c14 => ?_) (fun c14 => ?_)
      · refine bd_aload_n C 2 dX8_addSpan_90 rfl rfl ?_
        refine bd_callV (vs := fun _ => none) (wf := fun (r : Wd) => r) (st := []) (st1 := fun p15 => []) C [] (fun r9 e9 => mX8_keepDraft C.flag N ol0 e9) mwX8_keepDraft miX8_keepDraft wd_788 ol0 (by decide) rfl rfl rfl (Nat.le_of_ble_eq_true rfl) dX8_addSpan_91 ⟨rfl, rfl, Nat.le_of_ble_eq_true rfl, Nat.le_of_ble_eq_true rfl, Nat.le_of_ble_eq_true rfl, Nat.le_of_ble_eq_true rfl⟩ (fun _ => rfl) (fun p15 ep15 => ?_)
        refine bd_iload C 0 dX8_addSpan_94 rfl ?_
        exact bd_xiret C hret rfl rfl dX8_addSpan_96 (Nat.le_of_ble_eq_true rfl) (Nat.le_of_ble_eq_true rfl)
      · exact bd_throw C hxt hcm (e := 3) rfl wd_773 wd_105 xa8_173 dX8_addSpan_82 dX8_addSpan_85 dX8_addSpan_86 dX8_addSpan_89 ⟨Nat.le_of_ble_eq_true rfl, Nat.le_of_ble_eq_true rfl, Nat.le_of_ble_eq_true rfl, Nat.le_of_ble_eq_true rfl⟩ ⟨Nat.le_of_ble_eq_true rfl, Nat.le_of_ble_eq_true rfl⟩ rfl
    · exact bd_throw C hxt hcm (e := 0) rfl wd_564 wd_101 xa8_88 dX8_addSpan_40 dX8_addSpan_43 dX8_addSpan_44 dX8_addSpan_47 ⟨Nat.le_of_ble_eq_true rfl, Nat.le_of_ble_eq_true rfl, Nat.le_of_ble_eq_true rfl, Nat.le_of_ble_eq_true rfl⟩ ⟨Nat.le_of_ble_eq_true rfl, Nat.le_of_ble_eq_true rfl⟩ rfl
  · exact bd_throw C hxt hcm (e := 1) rfl wd_589 wd_98 xa8_95 dX8_addSpan_11 dX8_addSpan_14 dX8_addSpan_15 dX8_addSpan_18 ⟨Nat.le_of_ble_eq_true rfl, Nat.le_of_ble_eq_true rfl, Nat.le_of_ble_eq_true rfl, Nat.le_of_ble_eq_true rfl⟩ ⟨Nat.le_of_ble_eq_true rfl, Nat.le_of_ble_eq_true rfl⟩ rfl
abbrev rmX8_removeSpan : Room := { frames := 15, cells := 1, slots := 6, locals := 422 }
abbrev qX8_removeSpan (G : Gy) (F : Fr) (g : Bd) : ((Int32 × Wd) ⊕ (Nat × Wd)) → State → Prop := fun r => QX G F g 1 6 (vxint r)
set_option maxRecDepth 20000 in
set_option maxHeartbeats 4000000 in
theorem mX8_removeSpan {l : Launch} (hf9 : l.stackTraces = false) {G : Gy} {F : Fr} (N : Nat) {w : Wd} {l0 : Nat} {l1 : Int32} {l2 : Int32} {r : (Int32 × Wd) ⊕ (Nat × Wd)} (ol0 : okF F l0 8) (hcm : F.2.2.2.2 = false) (e9 : fX8_removeSpan F N w l0 l1 l2 = some r) : vx_Met l yX8_removeSpan [.code yX8_removeSpan cX8_removeSpan 3 (some .int)] rmX8_removeSpan (PcB G F w [.ref l0, .int l1, .int l2]) (QBx G F (vxint r)) (XBx G F (vxint r)) 1 6 (AF F) := by
  refine bd_vmet (vx := vxint) hf9 (by decide) (Nat.le_of_ble_eq_true rfl) e9 (fun g C hret hxt => ?_)
  clear e9 r
  unfold fX8_removeSpan
  refine bd_sub (lv' := [(0, .ref l0), (1, .int l1), (2, .int l2)]) ?_ [0, 1, 2] rfl
  refine bd_aload_n C 0 dX8_removeSpan_0 rfl rfl ?_
  refine bd_gR C fi800 fv800 wd_338 dX8_removeSpan_1 ol0 (fun r1 gr1 hr1 => ?_)
  refine bd_iload_n C 1 dX8_removeSpan_4 rfl rfl ?_
  refine bd_iload_n C 2 dX8_removeSpan_5 rfl rfl ?_
  refine bd_callV (vs := fun (r : Int32) => some (.int r)) (wf := fun _ => w) (st := []) (st1 := fun x2 => Value.int x2 :: []) C [.int l1, .int l2] (fun r9 e9 => mX1_hasSpan C.flag N hr1 e9) mwX1_hasSpan miX1_hasSpan wd_799 hr1 (by decide) rfl rfl rfl (Nat.le_of_ble_eq_true rfl) dX8_removeSpan_6 ⟨rfl, rfl, Nat.le_of_ble_eq_true rfl, Nat.le_of_ble_eq_true rfl, Nat.le_of_ble_eq_true rfl, Nat.le_of_ble_eq_true rfl⟩ (fun _ => rfl) (fun x2 ex2 => ?_)
  refine bd_if_ne C 20 dX8_removeSpan_9 (by decide) (fun c3 => ?_) (fun c3 => ?_)
  · refine bd_aload_n C 0 dX8_removeSpan_20 rfl rfl ?_
    refine bd_gR C fi803 fv803 wd_341 dX8_removeSpan_21 ol0 (fun r4 gr4 hr4 => ?_)
    refine bd_aload_n C 0 dX8_removeSpan_24 rfl rfl ?_
    refine bd_gR C fi800 fv800 wd_338 dX8_removeSpan_25 ol0 (fun r5 gr5 hr5 => ?_)
    refine bd_callV (vs := fun _ => none) (wf := fun (r : Wd) => r) (st := []) (st1 := fun p6 => []) C [.ref r5] (fun r9 e9 => mX2_push C.flag N hr4 hr5 e9) mwX2_push miX2_push wd_619 hr4 (by decide) rfl rfl rfl (Nat.le_of_ble_eq_true rfl) dX8_removeSpan_28 ⟨rfl, rfl, Nat.le_of_ble_eq_true rfl, Nat.le_of_ble_eq_true rfl, Nat.le_of_ble_eq_true rfl, Nat.le_of_ble_eq_true rfl⟩ (fun _ => rfl) (fun p6 ep6 => ?_)
    refine bd_aload_n C 0 dX8_removeSpan_31 rfl rfl ?_
    refine bd_gR C fi800 fv800 wd_338 dX8_removeSpan_32 ol0 (fun r7 gr7 hr7 => ?_)
    refine bd_iload_n C 1 dX8_removeSpan_35 rfl rfl ?_
    refine bd_iload_n C 2 dX8_removeSpan_36 rfl rfl ?_
    refine bd_callV (vs := fun (r : Int32 × Wd) => some (.int r.1)) (wf := fun (r : Int32 × Wd) => r.2) (st := []) (st1 := fun p8 => Value.int p8.1 :: []) C [.int l1, .int l2] (fun r9 e9 => mX1_dropSpan C.flag N hr7 e9) mwX1_dropSpan miX1_dropSpan wd_804 hr7 (by decide) rfl rfl rfl (Nat.le_of_ble_eq_true rfl) dX8_removeSpan_37 ⟨rfl, rfl, Nat.le_of_ble_eq_true rfl, Nat.le_of_ble_eq_true rfl, Nat.le_of_ble_eq_true rfl, Nat.le_of_ble_eq_true rfl⟩ (fun _ => rfl) (fun p8 ep8 => ?_)
    exact bd_xiret C hret rfl rfl dX8_removeSpan_40 (Nat.le_of_ble_eq_true rfl) (Nat.le_of_ble_eq_true rfl)
  · exact bd_throw C hxt hcm (e := 1) rfl wd_589 wd_98 xa8_95 dX8_removeSpan_12 dX8_removeSpan_15 dX8_removeSpan_16 dX8_removeSpan_19 ⟨Nat.le_of_ble_eq_true rfl, Nat.le_of_ble_eq_true rfl, Nat.le_of_ble_eq_true rfl, Nat.le_of_ble_eq_true rfl⟩ ⟨Nat.le_of_ble_eq_true rfl, Nat.le_of_ble_eq_true rfl⟩ rfl
abbrev rmX8_moveSpan : Room := { frames := 16, cells := 1, slots := 6, locals := 450 }
abbrev qX8_moveSpan (G : Gy) (F : Fr) (g : Bd) : ((Int32 × Wd) ⊕ (Nat × Wd)) → State → Prop := fun r => QX G F g 1 6 (vxint r)
set_option maxRecDepth 20000 in
set_option maxHeartbeats 4000000 in
theorem mX8_moveSpan {l : Launch} (hf9 : l.stackTraces = false) {G : Gy} {F : Fr} (N : Nat) {w : Wd} {l0 : Nat} {l1 : Int32} {l2 : Int32} {l3 : Int32} {l4 : Int32} {r : (Int32 × Wd) ⊕ (Nat × Wd)} (ol0 : okF F l0 8) (hcm : F.2.2.2.2 = false) (e9 : fX8_moveSpan F N w l0 l1 l2 l3 l4 = some r) : vx_Met l yX8_moveSpan [.code yX8_moveSpan cX8_moveSpan 6 (some .int)] rmX8_moveSpan (PcB G F w [.ref l0, .int l1, .int l2, .int l3, .int l4]) (QBx G F (vxint r)) (XBx G F (vxint r)) 1 6 (AF F) := by
  refine bd_vmet (vx := vxint) hf9 (by decide) (Nat.le_of_ble_eq_true rfl) e9 (fun g C hret hxt => ?_)
  clear e9 r
  unfold fX8_moveSpan
  refine bd_sub (lv' := [(0, .ref l0), (1, .int l1), (2, .int l2), (3, .int l3), (4, .int l4)]) ?_ [0, 1, 2, 3, 4] rfl
  refine bd_aload_n C 0 dX8_moveSpan_0 rfl rfl ?_
  refine bd_gR C fi800 fv800 wd_338 dX8_moveSpan_1 ol0 (fun r1 gr1 hr1 => ?_)
  refine bd_iload_n C 1 dX8_moveSpan_4 rfl rfl ?_
  refine bd_iload_n C 2 dX8_moveSpan_5 rfl rfl ?_
  refine bd_callV (vs := fun (r : Int32) => some (.int r)) (wf := fun _ => w) (st := []) (st1 := fun x2 => Value.int x2 :: []) C [.int l1, .int l2] (fun r9 e9 => mX1_hasSpan C.flag N hr1 e9) mwX1_hasSpan miX1_hasSpan wd_799 hr1 (by decide) rfl rfl rfl (Nat.le_of_ble_eq_true rfl) dX8_moveSpan_6 ⟨rfl, rfl, Nat.le_of_ble_eq_true rfl, Nat.le_of_ble_eq_true rfl, Nat.le_of_ble_eq_true rfl, Nat.le_of_ble_eq_true rfl⟩ (fun _ => rfl) (fun x2 ex2 => ?_)
  refine bd_if_ne C 20 dX8_moveSpan_9 (by decide) (fun c3 => ?_) (fun c3 => ?_)
  · refine bd_aload_n C 0 dX8_moveSpan_20 rfl rfl ?_
    refine bd_gR C fi801 fv801 wd_339 dX8_moveSpan_21 ol0 (fun r4 gr4 hr4 => ?_)
    refine bd_aload_n C 0 dX8_moveSpan_24 rfl rfl ?_
    refine bd_gR C fi800 fv800 wd_338 dX8_moveSpan_25 ol0 (fun r5 gr5 hr5 => ?_)
    refine bd_callV (vs := fun _ => none) (wf := fun (r : Wd) => r) (st := []) (st1 := fun p6 => []) C [.ref r5] (fun r9 e9 => mX1_copyFrom C.flag N hr4 hr5 e9) mwX1_copyFrom miX1_copyFrom wd_456 hr4 (by decide) rfl rfl rfl (Nat.le_of_ble_eq_true rfl) dX8_moveSpan_28 ⟨rfl, rfl, Nat.le_of_ble_eq_true rfl, Nat.le_of_ble_eq_true rfl, Nat.le_of_ble_eq_true rfl, Nat.le_of_ble_eq_true rfl⟩ (fun _ => rfl) (fun p6 ep6 => ?_)
    refine bd_aload_n C 0 dX8_moveSpan_31 rfl rfl ?_
    refine bd_gR C fi801 fv801 wd_339 dX8_moveSpan_32 ol0 (fun r7 gr7 hr7 => ?_)
    refine bd_iload_n C 1 dX8_moveSpan_35 rfl rfl ?_
    refine bd_iload_n C 2 dX8_moveSpan_36 rfl rfl ?_
    refine bd_iload_n C 3 dX8_moveSpan_37 rfl rfl ?_
    refine bd_iload C 4 dX8_moveSpan_38 rfl ?_
    refine bd_aload_n C 0 dX8_moveSpan_40 rfl rfl ?_
    refine bd_gR C fi805 fv805 wd_343 dX8_moveSpan_41 ol0 (fun r8 gr8 hr8 => ?_)
    refine bd_callV (vs := fun (r : Int32 × Wd) => some (.int r.1)) (wf := fun (r : Int32 × Wd) => r.2) (st := []) (st1 := fun p9 => Value.int p9.1 :: []) C [.int l1, .int l2, .int l3, .int l4, .ref r8] (fun r9 e9 => mX1_shiftSpan C.flag N hr7 hr8 e9) mwX1_shiftSpan miX1_shiftSpan wd_823 hr7 (by decide) rfl rfl rfl (Nat.le_of_ble_eq_true rfl) dX8_moveSpan_44 ⟨rfl, rfl, Nat.le_of_ble_eq_true rfl, Nat.le_of_ble_eq_true rfl, Nat.le_of_ble_eq_true rfl, Nat.le_of_ble_eq_true rfl⟩ (fun _ => rfl) (fun p9 ep9 => ?_)
    refine bd_istore C [(5, .int p9.1), (0, .ref l0), (1, .int l1), (2, .int l2), (3, .int l3), (4, .int l4)] dX8_moveSpan_47 (by decide) rfl ?_
    refine bd_iload C 0 dX8_moveSpan_49 rfl ?_
    refine bd_if_ge C 62 dX8_moveSpan_51 (by decide) (fun c10 => ?_) (fun c10 => ?_)
    · refine bd_aload_n C 1 dX8_moveSpan_62 rfl rfl ?_
      refine bd_callV (vs := fun _ => none) (wf := fun (r : Wd) => r) (st := []) (st1 := fun p11 => []) C [] (fun r9 e9 => mX8_keepDraft C.flag N ol0 e9) mwX8_keepDraft miX8_keepDraft wd_788 ol0 (by decide) rfl rfl rfl (Nat.le_of_ble_eq_true rfl) dX8_moveSpan_63 ⟨rfl, rfl, Nat.le_of_ble_eq_true rfl, Nat.le_of_ble_eq_true rfl, Nat.le_of_ble_eq_true rfl, Nat.le_of_ble_eq_true rfl⟩ (fun _ => rfl) (fun p11 ep11 => ?_)
      refine bd_iload C 0 dX8_moveSpan_66 rfl ?_
      exact bd_xiret C hret rfl rfl dX8_moveSpan_68 (Nat.le_of_ble_eq_true rfl) (Nat.le_of_ble_eq_true rfl)
    · exact bd_throw C hxt hcm (e := 3) rfl wd_773 wd_105 xa8_173 dX8_moveSpan_54 dX8_moveSpan_57 dX8_moveSpan_58 dX8_moveSpan_61 ⟨Nat.le_of_ble_eq_true rfl, Nat.le_of_ble_eq_true rfl, Nat.le_of_ble_eq_true rfl, Nat.le_of_ble_eq_true rfl⟩ ⟨Nat.le_of_ble_eq_true rfl, Nat.le_of_ble_eq_true rfl⟩ rfl
  · exact bd_throw C hxt hcm (e := 1) rfl wd_589 wd_98 xa8_95 dX8_moveSpan_12 dX8_moveSpan_15 dX8_moveSpan_16 dX8_moveSpan_19 ⟨Nat.le_of_ble_eq_true rfl, Nat.le_of_ble_eq_true rfl, Nat.le_of_ble_eq_true rfl, Nat.le_of_ble_eq_true rfl⟩ ⟨Nat.le_of_ble_eq_true rfl, Nat.le_of_ble_eq_true rfl⟩ rfl
abbrev rmX8_rename : Room := { frames := 15, cells := 1, slots := 6, locals := 411 }
abbrev qX8_rename (G : Gy) (F : Fr) (g : Bd) : ((Int32 × Wd) ⊕ (Nat × Wd)) → State → Prop := fun r => QX G F g 1 6 (vxint r)
set_option maxRecDepth 20000 in
set_option maxHeartbeats 4000000 in
theorem mX8_rename {l : Launch} (hf9 : l.stackTraces = false) {G : Gy} {F : Fr} (N : Nat) {w : Wd} {l0 : Nat} {l1 : Int32} {l2 : Int32} {r : (Int32 × Wd) ⊕ (Nat × Wd)} (ol0 : okF F l0 8) (hcm : F.2.2.2.2 = false) (e9 : fX8_rename F N w l0 l1 l2 = some r) : vx_Met l yX8_rename [.code yX8_rename cX8_rename 7 (some .int)] rmX8_rename (PcB G F w [.ref l0, .int l1, .int l2]) (QBx G F (vxint r)) (XBx G F (vxint r)) 1 6 (AF F) := by
  refine bd_vmet (vx := vxint) hf9 (by decide) (Nat.le_of_ble_eq_true rfl) e9 (fun g C hret hxt => ?_)
  clear e9 r
  have hb84 : ∀  (w : Wd) (l2 : Int32) (l3 : Int64) (l5 : Nat) (s0 : Int32) (ol5 : okF F l5 7), BD g G F 7 (qX8_rename G F g) 0 0 (fX8_rename_84 F N w l2 l3 l5 s0) w 84 [(2, .int l2), (3, .long l3), (5, .ref l5)] [.int s0] := by
    intro w l2 l3 l5 s0 ol5
    unfold fX8_rename_84
    refine bd_istore C [(6, .int s0), (2, .int l2), (3, .long l3), (5, .ref l5)] dX8_rename_84 (by decide) rfl ?_
    refine bd_aload C 3 dX8_rename_86 rfl ?_
    refine bd_iload_n C 1 dX8_rename_88 rfl rfl ?_
    refine bd_lload_n C 2 dX8_rename_89 rfl rfl ?_
    refine bd_callV (vs := fun _ => none) (wf := fun (r : Wd) => r) (st := []) (st1 := fun p1 => []) C [.int l2, .long l3] (fun r9 e9 => mX7_setLabel C.flag N ol5 e9) mwX7_setLabel miX7_setLabel wd_841 ol5 (by decide) rfl rfl rfl (Nat.le_of_ble_eq_true rfl) dX8_rename_90 ⟨rfl, rfl, Nat.le_of_ble_eq_true rfl, Nat.le_of_ble_eq_true rfl, Nat.le_of_ble_eq_true rfl, Nat.le_of_ble_eq_true rfl⟩ (fun _ => rfl) (fun p1 ep1 => ?_)
    refine bd_iload C 0 dX8_rename_93 rfl ?_
    exact bd_xiret C hret rfl rfl dX8_rename_95 (Nat.le_of_ble_eq_true rfl) (Nat.le_of_ble_eq_true rfl)
  unfold fX8_rename
  refine bd_sub (lv' := [(0, .ref l0), (1, .int l1), (2, .int l2)]) ?_ [0, 1, 2] rfl
  refine bd_aload_n C 0 dX8_rename_0 rfl rfl ?_
  refine bd_gR C fi800 fv800 wd_338 dX8_rename_1 ol0 (fun r2 gr2 hr2 => ?_)
  refine bd_iload_n C 1 dX8_rename_4 rfl rfl ?_
  refine bd_iload_n C 2 dX8_rename_5 rfl rfl ?_
  refine bd_callV (vs := fun (r : Int32) => some (.int r)) (wf := fun _ => w) (st := []) (st1 := fun x3 => Value.int x3 :: []) C [.int l1, .int l2] (fun r9 e9 => mX1_hasSpan C.flag N hr2 e9) mwX1_hasSpan miX1_hasSpan wd_799 hr2 (by decide) rfl rfl rfl (Nat.le_of_ble_eq_true rfl) dX8_rename_6 ⟨rfl, rfl, Nat.le_of_ble_eq_true rfl, Nat.le_of_ble_eq_true rfl, Nat.le_of_ble_eq_true rfl, Nat.le_of_ble_eq_true rfl⟩ (fun _ => rfl) (fun x3 ex3 => ?_)
  refine bd_if_ne C 20 dX8_rename_9 (by decide) (fun c4 => ?_) (fun c4 => ?_)
  · refine bd_aload_n C 0 dX8_rename_20 rfl rfl ?_
    refine bd_aload_n C 0 dX8_rename_21 rfl rfl ?_
    refine bd_gR C fi800 fv800 wd_338 dX8_rename_22 ol0 (fun r5 gr5 hr5 => ?_)
    refine bd_iload_n C 1 dX8_rename_25 rfl rfl ?_
    refine bd_callV (vs := fun (r : Int32) => some (.int r)) (wf := fun _ => w) (st := [.ref l0]) (st1 := fun x6 => Value.int x6 :: [.ref l0]) C [.int l1] (fun r9 e9 => mX1_kindOf C.flag N hr5 e9) mwX1_kindOf miX1_kindOf wd_652 hr5 (by decide) rfl rfl rfl (Nat.le_of_ble_eq_true rfl) dX8_rename_26 ⟨rfl, rfl, Nat.le_of_ble_eq_true rfl, Nat.le_of_ble_eq_true rfl, Nat.le_of_ble_eq_true rfl, Nat.le_of_ble_eq_true rfl⟩ (fun _ => rfl) (fun x6 ex6 => ?_)
    refine bd_callV (vs := fun (r : Int64 × Wd) => some (.long r.1)) (wf := fun (r : Int64 × Wd) => r.2) (st := []) (st1 := fun p7 => Value.long p7.1 :: []) C [.int x6] (fun r9 e9 => mX8_takeLabel C.flag N ol0 e9) mwX8_takeLabel miX8_takeLabel wd_705 ol0 (by decide) rfl rfl rfl (Nat.le_of_ble_eq_true rfl) dX8_rename_29 ⟨rfl, rfl, Nat.le_of_ble_eq_true rfl, Nat.le_of_ble_eq_true rfl, Nat.le_of_ble_eq_true rfl, Nat.le_of_ble_eq_true rfl⟩ (fun _ => rfl) (fun p7 ep7 => ?_)
    refine bd_lstore_n C [(3, .long p7.1), (0, .ref l0), (1, .int l1), (2, .int l2)] dX8_rename_32 rfl (by decide) rfl ?_
    refine bd_lload_n C 0 dX8_rename_33 rfl rfl ?_
    refine bd_lconst C (v := 0) dX8_rename_34 (by decide) ?_
    refine bd_lcmp C dX8_rename_35 ?_
    refine bd_if_ne C 47 dX8_rename_36 (by decide) (fun c8 => ?_) (fun c8 => ?_)
    · refine bd_aload_n C 1 dX8_rename_47 rfl rfl ?_
      refine bd_gR C fi803 fv803 wd_341 dX8_rename_48 ol0 (fun r9 gr9 hr9 => ?_)
      refine bd_aload_n C 1 dX8_rename_51 rfl rfl ?_
      refine bd_gR C fi800 fv800 wd_338 dX8_rename_52 ol0 (fun r10 gr10 hr10 => ?_)
      refine bd_callV (vs := fun _ => none) (wf := fun (r : Wd) => r) (st := []) (st1 := fun p11 => []) C [.ref r10] (fun r9 e9 => mX2_push C.flag N hr9 hr10 e9) mwX2_push miX2_push wd_619 hr9 (by decide) rfl rfl rfl (Nat.le_of_ble_eq_true rfl) dX8_rename_55 ⟨rfl, rfl, Nat.le_of_ble_eq_true rfl, Nat.le_of_ble_eq_true rfl, Nat.le_of_ble_eq_true rfl, Nat.le_of_ble_eq_true rfl⟩ (fun _ => rfl) (fun p11 ep11 => ?_)
      refine bd_aload_n C 1 dX8_rename_58 rfl rfl ?_
      refine bd_gR C fi800 fv800 wd_338 dX8_rename_59 ol0 (fun r12 gr12 hr12 => ?_)
      refine bd_iload_n C 2 dX8_rename_62 rfl rfl ?_
      refine bd_callV (vs := fun (r : Nat) => some (.ref r)) (wf := fun _ => p11) (st := []) (st1 := fun x13 => Value.ref x13 :: []) C [.int l1] (fun r9 e9 => mX1_present C.flag N hr12 e9) mwX1_present miX1_present wd_655 hr12 (by decide) rfl rfl rfl (Nat.le_of_ble_eq_true rfl) dX8_rename_63 ⟨rfl, rfl, Nat.le_of_ble_eq_true rfl, Nat.le_of_ble_eq_true rfl, Nat.le_of_ble_eq_true rfl, Nat.le_of_ble_eq_true rfl⟩ (fun _ => rfl) (fun x13 ex13 => ?_)
      refine bd_ckF (fun h14 => ?_)
      refine bd_astore C [(5, .ref x13), (3, .long p7.1), (0, .ref l0), (1, .int l1), (2, .int l2)] dX8_rename_66 (by decide) rfl ?_
      refine bd_aload C 0 dX8_rename_68 rfl ?_
      refine bd_iload_n C 4 dX8_rename_70 rfl rfl ?_
      refine bd_callV (vs := fun (r : Int64) => some (.long r)) (wf := fun _ => p11) (st := []) (st1 := fun x15 => Value.long x15 :: []) C [.int l2] (fun r9 e9 => mX7_label C.flag N h14 e9) mwX7_label miX7_label wd_840 h14 (by decide) rfl rfl rfl (Nat.le_of_ble_eq_true rfl) dX8_rename_71 ⟨rfl, rfl, Nat.le_of_ble_eq_true rfl, Nat.le_of_ble_eq_true rfl, Nat.le_of_ble_eq_true rfl, Nat.le_of_ble_eq_true rfl⟩ (fun _ => rfl) (fun x15 ex15 => ?_)
      refine bd_lload_n C 1 dX8_rename_74 rfl rfl ?_
      refine bd_lcmp C dX8_rename_75 ?_
      refine bd_if_eq C 83 dX8_rename_76 (by decide) (fun c16 => ?_) (fun c16 => ?_)
      · refine bd_iconst C (v := 0) dX8_rename_83 (by decide) ?_
        exact bd_sub (hb84 p11 l2 p7.1 x13 0 h14) [4, 1, 0] rfl
      · refine bd_iconst C (v := 1) dX8_rename_79 (by decide) ?_
        refine bd_goto C 84 dX8_rename_80 (by decide) ?_
        exact bd_sub (hb84 p11 l2 p7.1 x13 1 h14) [4, 1, 0] rfl
    · exact bd_throw C hxt hcm (e := 0) rfl wd_564 wd_101 xa8_88 dX8_rename_39 dX8_rename_42 dX8_rename_43 dX8_rename_46 ⟨Nat.le_of_ble_eq_true rfl, Nat.le_of_ble_eq_true rfl, Nat.le_of_ble_eq_true rfl, Nat.le_of_ble_eq_true rfl⟩ ⟨Nat.le_of_ble_eq_true rfl, Nat.le_of_ble_eq_true rfl⟩ rfl
  · exact bd_throw C hxt hcm (e := 1) rfl wd_589 wd_98 xa8_95 dX8_rename_12 dX8_rename_15 dX8_rename_16 dX8_rename_19 ⟨Nat.le_of_ble_eq_true rfl, Nat.le_of_ble_eq_true rfl, Nat.le_of_ble_eq_true rfl, Nat.le_of_ble_eq_true rfl⟩ ⟨Nat.le_of_ble_eq_true rfl, Nat.le_of_ble_eq_true rfl⟩ rfl
abbrev rmX8_split : Room := { frames := 16, cells := 1, slots := 6, locals := 448 }
abbrev qX8_split (G : Gy) (F : Fr) (g : Bd) : ((Int32 × Wd) ⊕ (Nat × Wd)) → State → Prop := fun r => QX G F g 1 6 (vxint r)
set_option maxRecDepth 20000 in
set_option maxHeartbeats 4000000 in
theorem mX8_split {l : Launch} (hf9 : l.stackTraces = false) {G : Gy} {F : Fr} (N : Nat) {w : Wd} {l0 : Nat} {l1 : Int32} {l2 : Int32} {l3 : Int32} {r : (Int32 × Wd) ⊕ (Nat × Wd)} (ol0 : okF F l0 8) (hcm : F.2.2.2.2 = false) (e9 : fX8_split F N w l0 l1 l2 l3 = some r) : vx_Met l yX8_split [.code yX8_split cX8_split 5 (some .int)] rmX8_split (PcB G F w [.ref l0, .int l1, .int l2, .int l3]) (QBx G F (vxint r)) (XBx G F (vxint r)) 1 6 (AF F) := by
  refine bd_vmet (vx := vxint) hf9 (by decide) (Nat.le_of_ble_eq_true rfl) e9 (fun g C hret hxt => ?_)
  clear e9 r
  unfold fX8_split
  refine bd_sub (lv' := [(0, .ref l0), (1, .int l1), (2, .int l2), (3, .int l3)]) ?_ [0, 1, 2, 3] rfl
  refine bd_aload_n C 0 dX8_split_0 rfl rfl ?_
  refine bd_gR C fi800 fv800 wd_338 dX8_split_1 ol0 (fun r1 gr1 hr1 => ?_)
  refine bd_iload_n C 1 dX8_split_4 rfl rfl ?_
  refine bd_iload_n C 2 dX8_split_5 rfl rfl ?_
  refine bd_callV (vs := fun (r : Int32) => some (.int r)) (wf := fun _ => w) (st := []) (st1 := fun x2 => Value.int x2 :: []) C [.int l1, .int l2] (fun r9 e9 => mX1_hasSpan C.flag N hr1 e9) mwX1_hasSpan miX1_hasSpan wd_799 hr1 (by decide) rfl rfl rfl (Nat.le_of_ble_eq_true rfl) dX8_split_6 ⟨rfl, rfl, Nat.le_of_ble_eq_true rfl, Nat.le_of_ble_eq_true rfl, Nat.le_of_ble_eq_true rfl, Nat.le_of_ble_eq_true rfl⟩ (fun _ => rfl) (fun x2 ex2 => ?_)
  refine bd_if_ne C 20 dX8_split_9 (by decide) (fun c3 => ?_) (fun c3 => ?_)
  · refine bd_aload_n C 0 dX8_split_20 rfl rfl ?_
    refine bd_gR C fi801 fv801 wd_339 dX8_split_21 ol0 (fun r4 gr4 hr4 => ?_)
    refine bd_aload_n C 0 dX8_split_24 rfl rfl ?_
    refine bd_gR C fi800 fv800 wd_338 dX8_split_25 ol0 (fun r5 gr5 hr5 => ?_)
    refine bd_callV (vs := fun _ => none) (wf := fun (r : Wd) => r) (st := []) (st1 := fun p6 => []) C [.ref r5] (fun r9 e9 => mX1_copyFrom C.flag N hr4 hr5 e9) mwX1_copyFrom miX1_copyFrom wd_456 hr4 (by decide) rfl rfl rfl (Nat.le_of_ble_eq_true rfl) dX8_split_28 ⟨rfl, rfl, Nat.le_of_ble_eq_true rfl, Nat.le_of_ble_eq_true rfl, Nat.le_of_ble_eq_true rfl, Nat.le_of_ble_eq_true rfl⟩ (fun _ => rfl) (fun p6 ep6 => ?_)
    refine bd_aload_n C 0 dX8_split_31 rfl rfl ?_
    refine bd_gR C fi801 fv801 wd_339 dX8_split_32 ol0 (fun r7 gr7 hr7 => ?_)
    refine bd_iload_n C 1 dX8_split_35 rfl rfl ?_
    refine bd_iload_n C 2 dX8_split_36 rfl rfl ?_
    refine bd_iload_n C 3 dX8_split_37 rfl rfl ?_
    refine bd_aload_n C 0 dX8_split_38 rfl rfl ?_
    refine bd_gR C fi805 fv805 wd_343 dX8_split_39 ol0 (fun r8 gr8 hr8 => ?_)
    refine bd_callV (vs := fun (r : Int32 × Wd) => some (.int r.1)) (wf := fun (r : Int32 × Wd) => r.2) (st := []) (st1 := fun p9 => Value.int p9.1 :: []) C [.int l1, .int l2, .int l3, .ref r8] (fun r9 e9 => mX1_cutSpan C.flag N hr7 hr8 e9) mwX1_cutSpan miX1_cutSpan wd_849 hr7 (by decide) rfl rfl rfl (Nat.le_of_ble_eq_true rfl) dX8_split_42 ⟨rfl, rfl, Nat.le_of_ble_eq_true rfl, Nat.le_of_ble_eq_true rfl, Nat.le_of_ble_eq_true rfl, Nat.le_of_ble_eq_true rfl⟩ (fun _ => rfl) (fun p9 ep9 => ?_)
    refine bd_istore C [(4, .int p9.1), (0, .ref l0), (1, .int l1), (2, .int l2), (3, .int l3)] dX8_split_45 (by decide) rfl ?_
    refine bd_iload C 0 dX8_split_47 rfl ?_
    refine bd_if_ge C 60 dX8_split_49 (by decide) (fun c10 => ?_) (fun c10 => ?_)
    · refine bd_aload_n C 1 dX8_split_60 rfl rfl ?_
      refine bd_callV (vs := fun _ => none) (wf := fun (r : Wd) => r) (st := []) (st1 := fun p11 => []) C [] (fun r9 e9 => mX8_keepDraft C.flag N ol0 e9) mwX8_keepDraft miX8_keepDraft wd_788 ol0 (by decide) rfl rfl rfl (Nat.le_of_ble_eq_true rfl) dX8_split_61 ⟨rfl, rfl, Nat.le_of_ble_eq_true rfl, Nat.le_of_ble_eq_true rfl, Nat.le_of_ble_eq_true rfl, Nat.le_of_ble_eq_true rfl⟩ (fun _ => rfl) (fun p11 ep11 => ?_)
      refine bd_iload C 0 dX8_split_64 rfl ?_
      exact bd_xiret C hret rfl rfl dX8_split_66 (Nat.le_of_ble_eq_true rfl) (Nat.le_of_ble_eq_true rfl)
    · exact bd_throw C hxt hcm (e := 3) rfl wd_773 wd_105 xa8_173 dX8_split_52 dX8_split_55 dX8_split_56 dX8_split_59 ⟨Nat.le_of_ble_eq_true rfl, Nat.le_of_ble_eq_true rfl, Nat.le_of_ble_eq_true rfl, Nat.le_of_ble_eq_true rfl⟩ ⟨Nat.le_of_ble_eq_true rfl, Nat.le_of_ble_eq_true rfl⟩ rfl
  · exact bd_throw C hxt hcm (e := 1) rfl wd_589 wd_98 xa8_95 dX8_split_12 dX8_split_15 dX8_split_16 dX8_split_19 ⟨Nat.le_of_ble_eq_true rfl, Nat.le_of_ble_eq_true rfl, Nat.le_of_ble_eq_true rfl, Nat.le_of_ble_eq_true rfl⟩ ⟨Nat.le_of_ble_eq_true rfl, Nat.le_of_ble_eq_true rfl⟩ rfl
abbrev rmX8_join : Room := { frames := 16, cells := 1, slots := 6, locals := 447 }
abbrev qX8_join (G : Gy) (F : Fr) (g : Bd) : ((Int32 × Wd) ⊕ (Nat × Wd)) → State → Prop := fun r => QX G F g 1 6 (vxint r)
set_option maxRecDepth 20000 in
set_option maxHeartbeats 4000000 in
theorem mX8_join {l : Launch} (hf9 : l.stackTraces = false) {G : Gy} {F : Fr} (N : Nat) {w : Wd} {l0 : Nat} {l1 : Int32} {l2 : Int32} {r : (Int32 × Wd) ⊕ (Nat × Wd)} (ol0 : okF F l0 8) (hcm : F.2.2.2.2 = false) (e9 : fX8_join F N w l0 l1 l2 = some r) : vx_Met l yX8_join [.code yX8_join cX8_join 4 (some .int)] rmX8_join (PcB G F w [.ref l0, .int l1, .int l2]) (QBx G F (vxint r)) (XBx G F (vxint r)) 1 6 (AF F) := by
  refine bd_vmet (vx := vxint) hf9 (by decide) (Nat.le_of_ble_eq_true rfl) e9 (fun g C hret hxt => ?_)
  clear e9 r
  unfold fX8_join
  refine bd_sub (lv' := [(0, .ref l0), (1, .int l1), (2, .int l2)]) ?_ [0, 1, 2] rfl
  refine bd_aload_n C 0 dX8_join_0 rfl rfl ?_
  refine bd_gR C fi800 fv800 wd_338 dX8_join_1 ol0 (fun r1 gr1 hr1 => ?_)
  refine bd_iload_n C 1 dX8_join_4 rfl rfl ?_
  refine bd_iload_n C 2 dX8_join_5 rfl rfl ?_
  refine bd_callV (vs := fun (r : Int32) => some (.int r)) (wf := fun _ => w) (st := []) (st1 := fun x2 => Value.int x2 :: []) C [.int l1, .int l2] (fun r9 e9 => mX1_hasSpan C.flag N hr1 e9) mwX1_hasSpan miX1_hasSpan wd_799 hr1 (by decide) rfl rfl rfl (Nat.le_of_ble_eq_true rfl) dX8_join_6 ⟨rfl, rfl, Nat.le_of_ble_eq_true rfl, Nat.le_of_ble_eq_true rfl, Nat.le_of_ble_eq_true rfl, Nat.le_of_ble_eq_true rfl⟩ (fun _ => rfl) (fun x2 ex2 => ?_)
  refine bd_if_ne C 20 dX8_join_9 (by decide) (fun c3 => ?_) (fun c3 => ?_)
  · refine bd_aload_n C 0 dX8_join_20 rfl rfl ?_
    refine bd_gR C fi801 fv801 wd_339 dX8_join_21 ol0 (fun r4 gr4 hr4 => ?_)
    refine bd_aload_n C 0 dX8_join_24 rfl rfl ?_
    refine bd_gR C fi800 fv800 wd_338 dX8_join_25 ol0 (fun r5 gr5 hr5 => ?_)
    refine bd_callV (vs := fun _ => none) (wf := fun (r : Wd) => r) (st := []) (st1 := fun p6 => []) C [.ref r5] (fun r9 e9 => mX1_copyFrom C.flag N hr4 hr5 e9) mwX1_copyFrom miX1_copyFrom wd_456 hr4 (by decide) rfl rfl rfl (Nat.le_of_ble_eq_true rfl) dX8_join_28 ⟨rfl, rfl, Nat.le_of_ble_eq_true rfl, Nat.le_of_ble_eq_true rfl, Nat.le_of_ble_eq_true rfl, Nat.le_of_ble_eq_true rfl⟩ (fun _ => rfl) (fun p6 ep6 => ?_)
    refine bd_aload_n C 0 dX8_join_31 rfl rfl ?_
    refine bd_gR C fi801 fv801 wd_339 dX8_join_32 ol0 (fun r7 gr7 hr7 => ?_)
    refine bd_iload_n C 1 dX8_join_35 rfl rfl ?_
    refine bd_iload_n C 2 dX8_join_36 rfl rfl ?_
    refine bd_aload_n C 0 dX8_join_37 rfl rfl ?_
    refine bd_gR C fi805 fv805 wd_343 dX8_join_38 ol0 (fun r8 gr8 hr8 => ?_)
    refine bd_callV (vs := fun (r : Int32 × Wd) => some (.int r.1)) (wf := fun (r : Int32 × Wd) => r.2) (st := []) (st1 := fun p9 => Value.int p9.1 :: []) C [.int l1, .int l2, .ref r8] (fun r9 e9 => mX1_uniteSpan C.flag N hr7 hr8 e9) mwX1_uniteSpan miX1_uniteSpan wd_861 hr7 (by decide) rfl rfl rfl (Nat.le_of_ble_eq_true rfl) dX8_join_41 ⟨rfl, rfl, Nat.le_of_ble_eq_true rfl, Nat.le_of_ble_eq_true rfl, Nat.le_of_ble_eq_true rfl, Nat.le_of_ble_eq_true rfl⟩ (fun _ => rfl) (fun p9 ep9 => ?_)
    refine bd_istore_n C [(3, .int p9.1), (0, .ref l0), (1, .int l1), (2, .int l2)] dX8_join_44 rfl (by decide) rfl ?_
    refine bd_iload_n C 0 dX8_join_45 rfl rfl ?_
    refine bd_if_ge C 57 dX8_join_46 (by decide) (fun c10 => ?_) (fun c10 => ?_)
    · refine bd_aload_n C 1 dX8_join_57 rfl rfl ?_
      refine bd_callV (vs := fun _ => none) (wf := fun (r : Wd) => r) (st := []) (st1 := fun p11 => []) C [] (fun r9 e9 => mX8_keepDraft C.flag N ol0 e9) mwX8_keepDraft miX8_keepDraft wd_788 ol0 (by decide) rfl rfl rfl (Nat.le_of_ble_eq_true rfl) dX8_join_58 ⟨rfl, rfl, Nat.le_of_ble_eq_true rfl, Nat.le_of_ble_eq_true rfl, Nat.le_of_ble_eq_true rfl, Nat.le_of_ble_eq_true rfl⟩ (fun _ => rfl) (fun p11 ep11 => ?_)
      refine bd_iload_n C 0 dX8_join_61 rfl rfl ?_
      exact bd_xiret C hret rfl rfl dX8_join_62 (Nat.le_of_ble_eq_true rfl) (Nat.le_of_ble_eq_true rfl)
    · exact bd_throw C hxt hcm (e := 3) rfl wd_773 wd_105 xa8_173 dX8_join_49 dX8_join_52 dX8_join_53 dX8_join_56 ⟨Nat.le_of_ble_eq_true rfl, Nat.le_of_ble_eq_true rfl, Nat.le_of_ble_eq_true rfl, Nat.le_of_ble_eq_true rfl⟩ ⟨Nat.le_of_ble_eq_true rfl, Nat.le_of_ble_eq_true rfl⟩ rfl
  · exact bd_throw C hxt hcm (e := 1) rfl wd_589 wd_98 xa8_95 dX8_join_12 dX8_join_15 dX8_join_16 dX8_join_19 ⟨Nat.le_of_ble_eq_true rfl, Nat.le_of_ble_eq_true rfl, Nat.le_of_ble_eq_true rfl, Nat.le_of_ble_eq_true rfl⟩ ⟨Nat.le_of_ble_eq_true rfl, Nat.le_of_ble_eq_true rfl⟩ rfl
abbrev rmX8_labelLetter : Room := { frames := 10, cells := 0, slots := 0, locals := 300 }
abbrev qX8_labelLetter (G : Gy) (F : Fr) (g : Bd) (w : Wd) : Int32 → State → Prop := fun r => QM G F g 0 0 ((fun (r : Int32) => some (.int r)) r) ((fun _ => w) r)
set_option maxRecDepth 20000 in
set_option maxHeartbeats 4000000 in
theorem mX8_labelLetter {l : Launch} (hf9 : l.stackTraces = false) {G : Gy} {F : Fr} (N : Nat) {w : Wd} {l0 : Int64} {l2 : Int32} {r : Int32} (e9 : fX8_labelLetter F N w l0 l2 = some r) : Met l yX8_labelLetter [.code yX8_labelLetter cX8_labelLetter 3 (some .char)] rmX8_labelLetter (PcB G F w [.long l0, .int l2]) (QB G F ((fun (r : Int32) => some (.int r)) r) ((fun _ => w) r)) 0 0 (AF F) := by
  refine bd_met (vs := fun (r : Int32) => some (.int r)) (wf := fun _ => w) hf9 (by decide) (Nat.le_of_ble_eq_true rfl) e9 (fun g C hret hini => ?_)
  clear e9 r
  unfold fX8_labelLetter
  refine bd_sub (lv' := [(0, .long l0), (2, .int l2)]) ?_ [0, 1] rfl
  refine bd_lload_n C 0 dX8_labelLetter_0 rfl rfl ?_
  refine bd_bipush C (v := 8) dX8_labelLetter_1 (by decide) ?_
  refine bd_iload_n C 1 dX8_labelLetter_3 rfl rfl ?_
  refine bd_imul C dX8_labelLetter_4 ?_
  refine bd_lushr C dX8_labelLetter_5 ?_
  refine bd_ldc2 C (v := 255) wd_880 dX8_labelLetter_6 ?_
  refine bd_land C dX8_labelLetter_9 ?_
  refine bd_l2i C dX8_labelLetter_10 ?_
  refine bd_i2c C dX8_labelLetter_11 ?_
  refine bd_ckC (fun cz1 => ?_)
  exact bd_zret C hret rfl _ _ (nar_c cz1) rfl rfl dX8_labelLetter_12 (Nat.le_refl _) (Nat.le_refl _)
abbrev rmX8_labelLength : Room := { frames := 11, cells := 0, slots := 0, locals := 322 }
abbrev qX8_labelLength (G : Gy) (F : Fr) (g : Bd) (w : Wd) : Int32 → State → Prop := fun r => QM G F g 0 0 ((fun (r : Int32) => some (.int r)) r) ((fun _ => w) r)
set_option maxRecDepth 20000 in
set_option maxHeartbeats 4000000 in
theorem mX8_labelLength {l : Launch} (hf9 : l.stackTraces = false) {G : Gy} {F : Fr} (N : Nat) {w : Wd} {l0 : Int64} {r : Int32} (e9 : fX8_labelLength F N w l0 = some r) : Met l yX8_labelLength [.code yX8_labelLength cX8_labelLength 4 (some .int)] rmX8_labelLength (PcB G F w [.long l0]) (QB G F ((fun (r : Int32) => some (.int r)) r) ((fun _ => w) r)) 0 0 (AF F) := by
  refine bd_met (vs := fun (r : Int32) => some (.int r)) (wf := fun _ => w) hf9 (by decide) (Nat.le_of_ble_eq_true rfl) e9 (fun g C hret hini => ?_)
  clear e9 r
  have hb24 : ∀ (k4 : Int64 → Int32 → Int32 → Option (Int32)), (∀ (l0 : Int64) (l2 : Int32) (l3 : Int32), BD g G F 4 (qX8_labelLength G F g w) 0 0 (k4 l0 l2 l3) w 4 [(0, .long l0), (2, .int l2), (3, .int l3)] []) → ∀  (l0 : Int64) (l3 : Int32) (s0 : Int32) (s1 : Int32), BD g G F 4 (qX8_labelLength G F g w) 0 0 (fX8_labelLength_24 F N w k4 l0 l3 s0 s1) w 24 [(0, .long l0), (3, .int l3)] [.int s1, .int s0] := by
    intro k4 hk4
    intro l0 l3 s0 s1
    unfold fX8_labelLength_24
    refine bd_iadd C dX8_labelLength_24 ?_
    refine bd_bnd (tp := Value.int) (fun v4 ev4 => ?_)
    refine bd_istore_n C [(2, .int v4), (0, .long l0), (3, .int l3)] dX8_labelLength_25 rfl (by decide) rfl ?_
    refine bd_iinc C (v := l3 + 1) 2 [(3, .int (l3 + 1)), (2, .int v4), (0, .long l0)] dX8_labelLength_26 rfl rfl (by decide) rfl ?_
    refine bd_goto C 4 dX8_labelLength_29 (by decide) ?_
    exact bd_sub (hk4 l0 v4 (l3 + 1)) [2, 1, 0] rfl
  have hb4 : ∀ (n : Nat) (l0 : Int64) (l2 : Int32) (l3 : Int32), BD g G F 4 (qX8_labelLength G F g w) 0 0 (fX8_labelLength_4 F N w n l0 l2 l3) w 4 [(0, .long l0), (2, .int l2), (3, .int l3)] [] := by
    intro n
    induction n with
    | zero =>
      intro l0 l2 l3
      unfold fX8_labelLength_4
      exact bd_none
    | succ n ih =>
      intro l0 l2 l3
      unfold fX8_labelLength_4
      refine bd_iload_n C 2 dX8_labelLength_4 rfl rfl ?_
      refine bd_bipush C (v := 8) dX8_labelLength_5 (by decide) ?_
      refine bd_icmp_ge C 32 dX8_labelLength_7 (by decide) (fun c1 => ?_) (fun c1 => ?_)
      · refine bd_iload_n C 1 dX8_labelLength_32 rfl rfl ?_
        exact bd_iret C hret rfl _ _ rfl rfl dX8_labelLength_33 (Nat.le_refl _) (Nat.le_refl _)
      · refine bd_iload_n C 1 dX8_labelLength_10 rfl rfl ?_
        refine bd_lload_n C 0 dX8_labelLength_11 rfl rfl ?_
        refine bd_iload_n C 2 dX8_labelLength_12 rfl rfl ?_
        refine bd_callS (vs := fun (r : Int32) => some (.int r)) (wf := fun _ => w) (st := [.int l2]) (st1 := fun x2 => Value.int x2 :: [.int l2]) C [.long l0, .int l3] (fun r9 e9 => mX8_labelLetter C.flag N e9) mwX8_labelLetter miX8_labelLetter wd_877 rfl rfl (Nat.le_of_ble_eq_true rfl) dX8_labelLength_13 ⟨rfl, rfl, Nat.le_of_ble_eq_true rfl, Nat.le_of_ble_eq_true rfl, Nat.le_of_ble_eq_true rfl, Nat.le_of_ble_eq_true rfl⟩ (fun _ => rfl) (fun x2 ex2 => ?_)
        refine bd_if_eq C 23 dX8_labelLength_16 (by decide) (fun c3 => ?_) (fun c3 => ?_)
        · refine bd_iconst C (v := 0) dX8_labelLength_23 (by decide) ?_
          exact bd_sub (hb24 _ ih l0 l3 l2 0) [0, 2] rfl
        · refine bd_iconst C (v := 1) dX8_labelLength_19 (by decide) ?_
          refine bd_goto C 24 dX8_labelLength_20 (by decide) ?_
          exact bd_sub (hb24 _ ih l0 l3 l2 1) [0, 2] rfl
  unfold fX8_labelLength
  refine bd_sub (lv' := [(0, .long l0)]) ?_ [0] rfl
  refine bd_iconst C (v := 0) dX8_labelLength_0 (by decide) ?_
  refine bd_istore_n C [(2, .int 0), (0, .long l0)] dX8_labelLength_1 rfl (by decide) rfl ?_
  refine bd_iconst C (v := 0) dX8_labelLength_2 (by decide) ?_
  refine bd_istore_n C [(3, .int 0), (2, .int 0), (0, .long l0)] dX8_labelLength_3 rfl (by decide) rfl ?_
  exact bd_sub (hb4 N l0 0 0) [2, 1, 0] rfl
abbrev rmX8_span : Room := { frames := 13, cells := 1, slots := 6, locals := 376 }
abbrev qX8_span (G : Gy) (F : Fr) (g : Bd) (w : Wd) : ((Int32 × Wd) ⊕ (Nat × Wd)) → State → Prop := fun r => QX G F g 1 6 (vxint r)
set_option maxRecDepth 20000 in
set_option maxHeartbeats 4000000 in
theorem mX8_span {l : Launch} (hf9 : l.stackTraces = false) {G : Gy} {F : Fr} (N : Nat) {w : Wd} {l0 : Nat} {l1 : Int32} {l2 : Int32} {l3 : Int32} {r : (Int32 × Wd) ⊕ (Nat × Wd)} (ol0 : okF F l0 8) (hcm : F.2.2.2.2 = false) (e9 : fX8_span F N w l0 l1 l2 l3 = some r) : vx_Met l yX8_span [.code yX8_span cX8_span 5 (some .int)] rmX8_span (PcB G F w [.ref l0, .int l1, .int l2, .int l3]) (QBx G F (vxint r)) (XBx G F (vxint r)) 1 6 (AF F) := by
  refine bd_vmet (vx := vxint) hf9 (by decide) (Nat.le_of_ble_eq_true rfl) e9 (fun g C hret hxt => ?_)
  clear e9 r
  unfold fX8_span
  refine bd_sub (lv' := [(0, .ref l0), (1, .int l1), (2, .int l2), (3, .int l3)]) ?_ [0, 1, 2, 3] rfl
  refine bd_aload_n C 0 dX8_span_0 rfl rfl ?_
  refine bd_gR C fi800 fv800 wd_338 dX8_span_1 ol0 (fun r1 gr1 hr1 => ?_)
  refine bd_iload_n C 1 dX8_span_4 rfl rfl ?_
  refine bd_iload_n C 2 dX8_span_5 rfl rfl ?_
  refine bd_callV (vs := fun (r : Int32) => some (.int r)) (wf := fun _ => w) (st := []) (st1 := fun x2 => Value.int x2 :: []) C [.int l1, .int l2] (fun r9 e9 => mX1_hasSpan C.flag N hr1 e9) mwX1_hasSpan miX1_hasSpan wd_799 hr1 (by decide) rfl rfl rfl (Nat.le_of_ble_eq_true rfl) dX8_span_6 ⟨rfl, rfl, Nat.le_of_ble_eq_true rfl, Nat.le_of_ble_eq_true rfl, Nat.le_of_ble_eq_true rfl, Nat.le_of_ble_eq_true rfl⟩ (fun _ => rfl) (fun x2 ex2 => ?_)
  refine bd_if_ne C 20 dX8_span_9 (by decide) (fun c3 => ?_) (fun c3 => ?_)
  · refine bd_aload_n C 0 dX8_span_20 rfl rfl ?_
    refine bd_gR C fi800 fv800 wd_338 dX8_span_21 ol0 (fun r4 gr4 hr4 => ?_)
    refine bd_iload_n C 1 dX8_span_24 rfl rfl ?_
    refine bd_callV (vs := fun (r : Nat) => some (.ref r)) (wf := fun _ => w) (st := []) (st1 := fun x5 => Value.ref x5 :: []) C [.int l1] (fun r9 e9 => mX1_present C.flag N hr4 e9) mwX1_present miX1_present wd_655 hr4 (by decide) rfl rfl rfl (Nat.le_of_ble_eq_true rfl) dX8_span_25 ⟨rfl, rfl, Nat.le_of_ble_eq_true rfl, Nat.le_of_ble_eq_true rfl, Nat.le_of_ble_eq_true rfl, Nat.le_of_ble_eq_true rfl⟩ (fun _ => rfl) (fun x5 ex5 => ?_)
    refine bd_ckF (fun h6 => ?_)
    refine bd_astore C [(4, .ref x5), (0, .ref l0), (1, .int l1), (2, .int l2), (3, .int l3)] dX8_span_28 (by decide) rfl ?_
    refine bd_iload_n C 4 dX8_span_30 rfl rfl ?_
    refine bd_ite (fun c7 => ?_) (fun c7 => ?_)
    · refine bd_tableIn C (off := 33) 64 dX8_span_31 (by rw [c7]; decide) (by rw [c7]; decide) (by rw [c7]; rfl) (by decide) ?_
      refine bd_aload C 0 dX8_span_64 rfl ?_
      refine bd_iload_n C 3 dX8_span_66 rfl rfl ?_
      refine bd_callV (vs := fun (r : Int32) => some (.int r)) (wf := fun _ => w) (st := []) (st1 := fun x8 => Value.int x8 :: []) C [.int l2] (fun r9 e9 => mX7_first C.flag N h6 e9) mwX7_first miX7_first wd_872 h6 (by decide) rfl rfl rfl (Nat.le_of_ble_eq_true rfl) dX8_span_67 ⟨rfl, rfl, Nat.le_of_ble_eq_true rfl, Nat.le_of_ble_eq_true rfl, Nat.le_of_ble_eq_true rfl, Nat.le_of_ble_eq_true rfl⟩ (fun _ => rfl) (fun x8 ex8 => ?_)
      exact bd_xiret C hret rfl rfl dX8_span_70 (Nat.le_of_ble_eq_true rfl) (Nat.le_of_ble_eq_true rfl)
    · refine bd_ite (fun c9 => ?_) (fun c9 => ?_)
      · refine bd_tableIn C (off := 40) 71 dX8_span_31 (by rw [c9]; decide) (by rw [c9]; decide) (by rw [c9]; rfl) (by decide) ?_
        refine bd_aload C 0 dX8_span_71 rfl ?_
        refine bd_iload_n C 3 dX8_span_73 rfl rfl ?_
        refine bd_callV (vs := fun (r : Int32) => some (.int r)) (wf := fun _ => w) (st := []) (st1 := fun x10 => Value.int x10 :: []) C [.int l2] (fun r9 e9 => mX7_end C.flag N h6 e9) mwX7_end miX7_end wd_873 h6 (by decide) rfl rfl rfl (Nat.le_of_ble_eq_true rfl) dX8_span_74 ⟨rfl, rfl, Nat.le_of_ble_eq_true rfl, Nat.le_of_ble_eq_true rfl, Nat.le_of_ble_eq_true rfl, Nat.le_of_ble_eq_true rfl⟩ (fun _ => rfl) (fun x10 ex10 => ?_)
        exact bd_xiret C hret rfl rfl dX8_span_77 (Nat.le_of_ble_eq_true rfl) (Nat.le_of_ble_eq_true rfl)
      · refine bd_ite (fun c11 => ?_) (fun c11 => ?_)
        · refine bd_tableIn C (off := 47) 78 dX8_span_31 (by rw [c11]; decide) (by rw [c11]; decide) (by rw [c11]; rfl) (by decide) ?_
          refine bd_aload C 0 dX8_span_78 rfl ?_
          refine bd_iload_n C 3 dX8_span_80 rfl rfl ?_
          refine bd_callV (vs := fun (r : Int64) => some (.long r)) (wf := fun _ => w) (st := []) (st1 := fun x12 => Value.long x12 :: []) C [.int l2] (fun r9 e9 => mX7_label C.flag N h6 e9) mwX7_label miX7_label wd_840 h6 (by decide) rfl rfl rfl (Nat.le_of_ble_eq_true rfl) dX8_span_81 ⟨rfl, rfl, Nat.le_of_ble_eq_true rfl, Nat.le_of_ble_eq_true rfl, Nat.le_of_ble_eq_true rfl, Nat.le_of_ble_eq_true rfl⟩ (fun _ => rfl) (fun x12 ex12 => ?_)
          refine bd_callS (vs := fun (r : Int32) => some (.int r)) (wf := fun _ => w) (st := []) (st1 := fun x13 => Value.int x13 :: []) C [.long x12] (fun r9 e9 => mX8_labelLength C.flag N e9) mwX8_labelLength miX8_labelLength wd_874 rfl rfl (Nat.le_of_ble_eq_true rfl) dX8_span_84 ⟨rfl, rfl, Nat.le_of_ble_eq_true rfl, Nat.le_of_ble_eq_true rfl, Nat.le_of_ble_eq_true rfl, Nat.le_of_ble_eq_true rfl⟩ (fun _ => rfl) (fun x13 ex13 => ?_)
          exact bd_xiret C hret rfl rfl dX8_span_87 (Nat.le_of_ble_eq_true rfl) (Nat.le_of_ble_eq_true rfl)
        · refine bd_ite (fun c14 => ?_) (fun c14 => ?_)
          · refine bd_tableIn C (off := 57) 88 dX8_span_31 (by rw [c14]; decide) (by rw [c14]; decide) (by rw [c14]; rfl) (by decide) ?_
            refine bd_aload_n C 1 dX8_span_88 rfl rfl ?_
            refine bd_gR C fi800 fv800 wd_338 dX8_span_89 ol0 (fun r15 gr15 hr15 => ?_)
            refine bd_aload_n C 1 dX8_span_92 rfl rfl ?_
            refine bd_gR C fi800 fv800 wd_338 dX8_span_93 ol0 (fun r16 gr16 hr16 => ?_)
            refine bd_gIN C fi106 fv106 wd_159 dX8_span_96 hr16 ?_
            refine bd_iload_n C 2 dX8_span_99 rfl rfl ?_
            refine bd_aload C 0 dX8_span_100 rfl ?_
            refine bd_iload_n C 3 dX8_span_102 rfl rfl ?_
            refine bd_callV (vs := fun (r : Int32) => some (.int r)) (wf := fun _ => w) (st := [.int l1, .int (gI w 106 r16), .ref r15]) (st1 := fun x17 => Value.int x17 :: [.int l1, .int (gI w 106 r16), .ref r15]) C [.int l2] (fun r9 e9 => mX7_first C.flag N h6 e9) mwX7_first miX7_first wd_872 h6 (by decide) rfl rfl rfl (Nat.le_of_ble_eq_true rfl) dX8_span_103 ⟨rfl, rfl, Nat.le_of_ble_eq_true rfl, Nat.le_of_ble_eq_true rfl, Nat.le_of_ble_eq_true rfl, Nat.le_of_ble_eq_true rfl⟩ (fun _ => rfl) (fun x17 ex17 => ?_)
            refine bd_aload C 0 dX8_span_106 rfl ?_
            refine bd_iload_n C 3 dX8_span_108 rfl rfl ?_
            refine bd_callV (vs := fun (r : Int32) => some (.int r)) (wf := fun _ => w) (st := [.int x17, .int l1, .int (gI w 106 r16), .ref r15]) (st1 := fun x18 => Value.int x18 :: [.int x17, .int l1, .int (gI w 106 r16), .ref r15]) C [.int l2] (fun r9 e9 => mX7_end C.flag N h6 e9) mwX7_end miX7_end wd_873 h6 (by decide) rfl rfl rfl (Nat.le_of_ble_eq_true rfl) dX8_span_109 ⟨rfl, rfl, Nat.le_of_ble_eq_true rfl, Nat.le_of_ble_eq_true rfl, Nat.le_of_ble_eq_true rfl, Nat.le_of_ble_eq_true rfl⟩ (fun _ => rfl) (fun x18 ex18 => ?_)
            refine bd_callV (vs := fun (r : Int32) => some (.int r)) (wf := fun _ => w) (st := []) (st1 := fun x19 => Value.int x19 :: []) C [.int (gI w 106 r16), .int l1, .int x17, .int x18] (fun r9 e9 => mX1_hostOf C.flag N hr15 e9) mwX1_hostOf miX1_hostOf wd_881 hr15 (by decide) rfl rfl rfl (Nat.le_of_ble_eq_true rfl) dX8_span_112 ⟨rfl, rfl, Nat.le_of_ble_eq_true rfl, Nat.le_of_ble_eq_true rfl, Nat.le_of_ble_eq_true rfl, Nat.le_of_ble_eq_true rfl⟩ (fun _ => rfl) (fun x19 ex19 => ?_)
            exact bd_xiret C hret rfl rfl dX8_span_115 (Nat.le_of_ble_eq_true rfl) (Nat.le_of_ble_eq_true rfl)
          · refine bd_ite (fun c20 => ?_) (fun c20 => ?_)
            · refine bd_tableIn C (off := 85) 116 dX8_span_31 (by rw [c20]; decide) (by rw [c20]; decide) (by rw [c20]; rfl) (by decide) ?_
              refine bd_aload_n C 1 dX8_span_116 rfl rfl ?_
              refine bd_gR C fi800 fv800 wd_338 dX8_span_117 ol0 (fun r21 gr21 hr21 => ?_)
              refine bd_iload_n C 2 dX8_span_120 rfl rfl ?_
              refine bd_iload_n C 3 dX8_span_121 rfl rfl ?_
              refine bd_callV (vs := fun (r : Int32) => some (.int r)) (wf := fun _ => w) (st := []) (st1 := fun x22 => Value.int x22 :: []) C [.int l1, .int l2] (fun r9 e9 => mX1_guestCount C.flag N hr21 e9) mwX1_guestCount miX1_guestCount wd_882 hr21 (by decide) rfl rfl rfl (Nat.le_of_ble_eq_true rfl) dX8_span_122 ⟨rfl, rfl, Nat.le_of_ble_eq_true rfl, Nat.le_of_ble_eq_true rfl, Nat.le_of_ble_eq_true rfl, Nat.le_of_ble_eq_true rfl⟩ (fun _ => rfl) (fun x22 ex22 => ?_)
              exact bd_xiret C hret rfl rfl dX8_span_125 (Nat.le_of_ble_eq_true rfl) (Nat.le_of_ble_eq_true rfl)
            · refine bd_tableOut C 126 dX8_span_31 (tbl_out 5 _ (fun j hj => by match j, hj with | 0, _ => exact c7 | 1, _ => exact c9 | 2, _ => exact c11 | 3, _ => exact c14 | 4, _ => exact c20) (by decide)) (by decide) ?_
              exact bd_throw C hxt hcm (e := 0) rfl wd_564 wd_101 xa8_88 dX8_span_126 dX8_span_129 dX8_span_130 dX8_span_133 ⟨Nat.le_of_ble_eq_true rfl, Nat.le_of_ble_eq_true rfl, Nat.le_of_ble_eq_true rfl, Nat.le_of_ble_eq_true rfl⟩ ⟨Nat.le_of_ble_eq_true rfl, Nat.le_of_ble_eq_true rfl⟩ rfl
  · exact bd_throw C hxt hcm (e := 1) rfl wd_589 wd_98 xa8_95 dX8_span_12 dX8_span_15 dX8_span_16 dX8_span_19 ⟨Nat.le_of_ble_eq_true rfl, Nat.le_of_ble_eq_true rfl, Nat.le_of_ble_eq_true rfl, Nat.le_of_ble_eq_true rfl⟩ ⟨Nat.le_of_ble_eq_true rfl, Nat.le_of_ble_eq_true rfl⟩ rfl
abbrev rmX8_letter : Room := { frames := 13, cells := 1, slots := 6, locals := 367 }
abbrev qX8_letter (G : Gy) (F : Fr) (g : Bd) (w : Wd) : ((Int32 × Wd) ⊕ (Nat × Wd)) → State → Prop := fun r => QX G F g 1 6 (vxint r)
set_option maxRecDepth 20000 in
set_option maxHeartbeats 4000000 in
theorem mX8_letter {l : Launch} (hf9 : l.stackTraces = false) {G : Gy} {F : Fr} (N : Nat) {w : Wd} {l0 : Nat} {l1 : Int32} {l2 : Int32} {l3 : Int32} {r : (Int32 × Wd) ⊕ (Nat × Wd)} (ol0 : okF F l0 8) (hcm : F.2.2.2.2 = false) (e9 : fX8_letter F N w l0 l1 l2 l3 = some r) : vx_Met l yX8_letter [.code yX8_letter cX8_letter 6 (some .char)] rmX8_letter (PcB G F w [.ref l0, .int l1, .int l2, .int l3]) (QBx G F (vxint r)) (XBx G F (vxint r)) 1 6 (AF F) := by
  refine bd_vmet (vx := vxint) hf9 (by decide) (Nat.le_of_ble_eq_true rfl) e9 (fun g C hret hxt => ?_)
  clear e9 r
  have hb47 : BD g G F 6 (qX8_letter G F g w) 0 0 (fX8_letter_47 F N w) w 47 [] [] := by
    unfold fX8_letter_47
    exact bd_throw C hxt hcm (e := 4) rfl wd_894 wd_106 xa8_223 dX8_letter_47 dX8_letter_50 dX8_letter_51 dX8_letter_54 ⟨Nat.le_of_ble_eq_true rfl, Nat.le_of_ble_eq_true rfl, Nat.le_of_ble_eq_true rfl, Nat.le_of_ble_eq_true rfl⟩ ⟨Nat.le_of_ble_eq_true rfl, Nat.le_of_ble_eq_true rfl⟩ rfl
  unfold fX8_letter
  refine bd_sub (lv' := [(0, .ref l0), (1, .int l1), (2, .int l2), (3, .int l3)]) ?_ [0, 1, 2, 3] rfl
  refine bd_aload_n C 0 dX8_letter_0 rfl rfl ?_
  refine bd_gR C fi800 fv800 wd_338 dX8_letter_1 ol0 (fun r1 gr1 hr1 => ?_)
  refine bd_iload_n C 1 dX8_letter_4 rfl rfl ?_
  refine bd_iload_n C 2 dX8_letter_5 rfl rfl ?_
  refine bd_callV (vs := fun (r : Int32) => some (.int r)) (wf := fun _ => w) (st := []) (st1 := fun x2 => Value.int x2 :: []) C [.int l1, .int l2] (fun r9 e9 => mX1_hasSpan C.flag N hr1 e9) mwX1_hasSpan miX1_hasSpan wd_799 hr1 (by decide) rfl rfl rfl (Nat.le_of_ble_eq_true rfl) dX8_letter_6 ⟨rfl, rfl, Nat.le_of_ble_eq_true rfl, Nat.le_of_ble_eq_true rfl, Nat.le_of_ble_eq_true rfl, Nat.le_of_ble_eq_true rfl⟩ (fun _ => rfl) (fun x2 ex2 => ?_)
  refine bd_if_ne C 20 dX8_letter_9 (by decide) (fun c3 => ?_) (fun c3 => ?_)
  · refine bd_aload_n C 0 dX8_letter_20 rfl rfl ?_
    refine bd_gR C fi800 fv800 wd_338 dX8_letter_21 ol0 (fun r4 gr4 hr4 => ?_)
    refine bd_iload_n C 1 dX8_letter_24 rfl rfl ?_
    refine bd_callV (vs := fun (r : Nat) => some (.ref r)) (wf := fun _ => w) (st := []) (st1 := fun x5 => Value.ref x5 :: []) C [.int l1] (fun r9 e9 => mX1_present C.flag N hr4 e9) mwX1_present miX1_present wd_655 hr4 (by decide) rfl rfl rfl (Nat.le_of_ble_eq_true rfl) dX8_letter_25 ⟨rfl, rfl, Nat.le_of_ble_eq_true rfl, Nat.le_of_ble_eq_true rfl, Nat.le_of_ble_eq_true rfl, Nat.le_of_ble_eq_true rfl⟩ (fun _ => rfl) (fun x5 ex5 => ?_)
    refine bd_ckF (fun h6 => ?_)
    refine bd_iload_n C 2 dX8_letter_28 rfl rfl ?_
    refine bd_callV (vs := fun (r : Int64) => some (.long r)) (wf := fun _ => w) (st := []) (st1 := fun x7 => Value.long x7 :: []) C [.int l2] (fun r9 e9 => mX7_label C.flag N h6 e9) mwX7_label miX7_label wd_840 h6 (by decide) rfl rfl rfl (Nat.le_of_ble_eq_true rfl) dX8_letter_29 ⟨rfl, rfl, Nat.le_of_ble_eq_true rfl, Nat.le_of_ble_eq_true rfl, Nat.le_of_ble_eq_true rfl, Nat.le_of_ble_eq_true rfl⟩ (fun _ => rfl) (fun x7 ex7 => ?_)
    refine bd_lstore C [(4, .long x7), (0, .ref l0), (1, .int l1), (2, .int l2), (3, .int l3)] dX8_letter_32 (by decide) rfl ?_
    refine bd_iload_n C 4 dX8_letter_34 rfl rfl ?_
    refine bd_if_lt C 47 dX8_letter_35 (by decide) (fun c8 => ?_) (fun c8 => ?_)
    · exact bd_sub (hb47) [] rfl
    · refine bd_iload_n C 4 dX8_letter_38 rfl rfl ?_
      refine bd_lload C 0 dX8_letter_39 rfl ?_
      refine bd_callS (vs := fun (r : Int32) => some (.int r)) (wf := fun _ => w) (st := [.int l3]) (st1 := fun x9 => Value.int x9 :: [.int l3]) C [.long x7] (fun r9 e9 => mX8_labelLength C.flag N e9) mwX8_labelLength miX8_labelLength wd_874 rfl rfl (Nat.le_of_ble_eq_true rfl) dX8_letter_41 ⟨rfl, rfl, Nat.le_of_ble_eq_true rfl, Nat.le_of_ble_eq_true rfl, Nat.le_of_ble_eq_true rfl, Nat.le_of_ble_eq_true rfl⟩ (fun _ => rfl) (fun x9 ex9 => ?_)
      refine bd_icmp_lt C 55 dX8_letter_44 (by decide) (fun c10 => ?_) (fun c10 => ?_)
      · refine bd_lload C 0 dX8_letter_55 rfl ?_
        refine bd_iload_n C 4 dX8_letter_57 rfl rfl ?_
        refine bd_callS (vs := fun (r : Int32) => some (.int r)) (wf := fun _ => w) (st := []) (st1 := fun x11 => Value.int x11 :: []) C [.long x7, .int l3] (fun r9 e9 => mX8_labelLetter C.flag N e9) mwX8_labelLetter miX8_labelLetter wd_877 rfl rfl (Nat.le_of_ble_eq_true rfl) dX8_letter_58 ⟨rfl, rfl, Nat.le_of_ble_eq_true rfl, Nat.le_of_ble_eq_true rfl, Nat.le_of_ble_eq_true rfl, Nat.le_of_ble_eq_true rfl⟩ (fun _ => rfl) (fun x11 ex11 => ?_)
        refine bd_ckC (fun cz12 => ?_)
        exact bd_xzret C hret rfl (nar_c cz12) rfl dX8_letter_61 (Nat.le_of_ble_eq_true rfl) (Nat.le_of_ble_eq_true rfl)
      · exact bd_sub (hb47) [] rfl
  · exact bd_throw C hxt hcm (e := 1) rfl wd_589 wd_98 xa8_95 dX8_letter_12 dX8_letter_15 dX8_letter_16 dX8_letter_19 ⟨Nat.le_of_ble_eq_true rfl, Nat.le_of_ble_eq_true rfl, Nat.le_of_ble_eq_true rfl, Nat.le_of_ble_eq_true rfl⟩ ⟨Nat.le_of_ble_eq_true rfl, Nat.le_of_ble_eq_true rfl⟩ rfl
abbrev rmX8_spanAt : Room := { frames := 12, cells := 1, slots := 6, locals := 345 }
abbrev qX8_spanAt (G : Gy) (F : Fr) (g : Bd) (w : Wd) : ((Int32 × Wd) ⊕ (Nat × Wd)) → State → Prop := fun r => QX G F g 1 6 (vxint r)
set_option maxRecDepth 20000 in
set_option maxHeartbeats 4000000 in
theorem mX8_spanAt {l : Launch} (hf9 : l.stackTraces = false) {G : Gy} {F : Fr} (N : Nat) {w : Wd} {l0 : Nat} {l1 : Int32} {l2 : Int32} {r : (Int32 × Wd) ⊕ (Nat × Wd)} (ol0 : okF F l0 8) (hcm : F.2.2.2.2 = false) (e9 : fX8_spanAt F N w l0 l1 l2 = some r) : vx_Met l yX8_spanAt [.code yX8_spanAt cX8_spanAt 3 (some .int)] rmX8_spanAt (PcB G F w [.ref l0, .int l1, .int l2]) (QBx G F (vxint r)) (XBx G F (vxint r)) 1 6 (AF F) := by
  refine bd_vmet (vx := vxint) hf9 (by decide) (Nat.le_of_ble_eq_true rfl) e9 (fun g C hret hxt => ?_)
  clear e9 r
  unfold fX8_spanAt
  refine bd_sub (lv' := [(0, .ref l0), (1, .int l1), (2, .int l2)]) ?_ [0, 1, 2] rfl
  refine bd_aload_n C 0 dX8_spanAt_0 rfl rfl ?_
  refine bd_gR C fi800 fv800 wd_338 dX8_spanAt_1 ol0 (fun r1 gr1 hr1 => ?_)
  refine bd_iload_n C 1 dX8_spanAt_4 rfl rfl ?_
  refine bd_callV (vs := fun (r : Int32) => some (.int r)) (wf := fun _ => w) (st := []) (st1 := fun x2 => Value.int x2 :: []) C [.int l1] (fun r9 e9 => mX1_hasTier C.flag N hr1 e9) mwX1_hasTier miX1_hasTier wd_585 hr1 (by decide) rfl rfl rfl (Nat.le_of_ble_eq_true rfl) dX8_spanAt_5 ⟨rfl, rfl, Nat.le_of_ble_eq_true rfl, Nat.le_of_ble_eq_true rfl, Nat.le_of_ble_eq_true rfl, Nat.le_of_ble_eq_true rfl⟩ (fun _ => rfl) (fun x2 ex2 => ?_)
  refine bd_if_ne C 19 dX8_spanAt_8 (by decide) (fun c3 => ?_) (fun c3 => ?_)
  · refine bd_aload_n C 0 dX8_spanAt_19 rfl rfl ?_
    refine bd_gR C fi800 fv800 wd_338 dX8_spanAt_20 ol0 (fun r4 gr4 hr4 => ?_)
    refine bd_iload_n C 1 dX8_spanAt_23 rfl rfl ?_
    refine bd_callV (vs := fun (r : Nat) => some (.ref r)) (wf := fun _ => w) (st := []) (st1 := fun x5 => Value.ref x5 :: []) C [.int l1] (fun r9 e9 => mX1_present C.flag N hr4 e9) mwX1_present miX1_present wd_655 hr4 (by decide) rfl rfl rfl (Nat.le_of_ble_eq_true rfl) dX8_spanAt_24 ⟨rfl, rfl, Nat.le_of_ble_eq_true rfl, Nat.le_of_ble_eq_true rfl, Nat.le_of_ble_eq_true rfl, Nat.le_of_ble_eq_true rfl⟩ (fun _ => rfl) (fun x5 ex5 => ?_)
    refine bd_ckF (fun h6 => ?_)
    refine bd_iload_n C 2 dX8_spanAt_27 rfl rfl ?_
    refine bd_callV (vs := fun (r : Int32) => some (.int r)) (wf := fun _ => w) (st := []) (st1 := fun x7 => Value.int x7 :: []) C [.int l2] (fun r9 e9 => mX7_spanWith C.flag N h6 e9) mwX7_spanWith miX7_spanWith wd_916 h6 (by decide) rfl rfl rfl (Nat.le_of_ble_eq_true rfl) dX8_spanAt_28 ⟨rfl, rfl, Nat.le_of_ble_eq_true rfl, Nat.le_of_ble_eq_true rfl, Nat.le_of_ble_eq_true rfl, Nat.le_of_ble_eq_true rfl⟩ (fun _ => rfl) (fun x7 ex7 => ?_)
    exact bd_xiret C hret rfl rfl dX8_spanAt_31 (Nat.le_of_ble_eq_true rfl) (Nat.le_of_ble_eq_true rfl)
  · exact bd_throw C hxt hcm (e := 1) rfl wd_589 wd_98 xa8_95 dX8_spanAt_11 dX8_spanAt_14 dX8_spanAt_15 dX8_spanAt_18 ⟨Nat.le_of_ble_eq_true rfl, Nat.le_of_ble_eq_true rfl, Nat.le_of_ble_eq_true rfl, Nat.le_of_ble_eq_true rfl⟩ ⟨Nat.le_of_ble_eq_true rfl, Nat.le_of_ble_eq_true rfl⟩ rfl
abbrev rmX8_refusal : Room := { frames := 10, cells := 1, slots := 6, locals := 300 }
abbrev qX8_refusal (G : Gy) (F : Fr) (g : Bd) (w : Wd) : ((Int32 × Wd) ⊕ (Nat × Wd)) → State → Prop := fun r => QX G F g 1 6 (vxint r)
set_option maxRecDepth 20000 in
set_option maxHeartbeats 4000000 in
theorem mX8_refusal {l : Launch} (hf9 : l.stackTraces = false) {G : Gy} {F : Fr} (N : Nat) {w : Wd} {l0 : Nat} {l1 : Int32} {r : (Int32 × Wd) ⊕ (Nat × Wd)} (ol0 : okF F l0 8) (hcm : F.2.2.2.2 = false) (e9 : fX8_refusal F N w l0 l1 = some r) : vx_Met l yX8_refusal [.code yX8_refusal cX8_refusal 2 (some .int)] rmX8_refusal (PcB G F w [.ref l0, .int l1]) (QBx G F (vxint r)) (XBx G F (vxint r)) 1 6 (AF F) := by
  refine bd_vmet (vx := vxint) hf9 (by decide) (Nat.le_of_ble_eq_true rfl) e9 (fun g C hret hxt => ?_)
  clear e9 r
  unfold fX8_refusal
  refine bd_sub (lv' := [(0, .ref l0), (1, .int l1)]) ?_ [0, 1] rfl
  refine bd_aload_n C 0 dX8_refusal_0 rfl rfl ?_
  refine bd_gR C fi805 fv805 wd_343 dX8_refusal_1 ol0 (fun r1 gr1 hr1 => ?_)
  refine bd_gIN C fi600 fv600 wd_246 dX8_refusal_4 hr1 ?_
  refine bd_if_ne C 18 dX8_refusal_7 (by decide) (fun c2 => ?_) (fun c2 => ?_)
  · refine bd_iload_n C 1 dX8_refusal_18 rfl rfl ?_
    refine bd_if_eq C 32 dX8_refusal_19 (by decide) (fun c3 => ?_) (fun c3 => ?_)
    · refine bd_aload_n C 0 dX8_refusal_32 rfl rfl ?_
      refine bd_gR C fi805 fv805 wd_343 dX8_refusal_33 ol0 (fun r4 gr4 hr4 => ?_)
      refine bd_gIN C fi601 fv601 wd_248 dX8_refusal_36 hr4 ?_
      exact bd_xiret C hret rfl rfl dX8_refusal_39 (Nat.le_of_ble_eq_true rfl) (Nat.le_of_ble_eq_true rfl)
    · refine bd_aload_n C 0 dX8_refusal_22 rfl rfl ?_
      refine bd_gR C fi805 fv805 wd_343 dX8_refusal_23 ol0 (fun r5 gr5 hr5 => ?_)
      refine bd_gIN C fi600 fv600 wd_246 dX8_refusal_26 hr5 ?_
      refine bd_goto C 39 dX8_refusal_29 (by decide) ?_
      exact bd_xiret C hret rfl rfl dX8_refusal_39 (Nat.le_of_ble_eq_true rfl) (Nat.le_of_ble_eq_true rfl)
  · exact bd_throw C hxt hcm (e := 4) rfl wd_894 wd_106 xa8_223 dX8_refusal_10 dX8_refusal_13 dX8_refusal_14 dX8_refusal_17 ⟨Nat.le_of_ble_eq_true rfl, Nat.le_of_ble_eq_true rfl, Nat.le_of_ble_eq_true rfl, Nat.le_of_ble_eq_true rfl⟩ ⟨Nat.le_of_ble_eq_true rfl, Nat.le_of_ble_eq_true rfl⟩ rfl
abbrev rmX8_aligned : Room := { frames := 15, cells := 1, slots := 6, locals := 423 }
abbrev qX8_aligned (G : Gy) (F : Fr) (g : Bd) : ((Int32 × Wd) ⊕ (Nat × Wd)) → State → Prop := fun r => QX G F g 1 6 (vxint r)
set_option maxRecDepth 20000 in
set_option maxHeartbeats 4000000 in
theorem mX8_aligned {l : Launch} (hf9 : l.stackTraces = false) {G : Gy} {F : Fr} (N : Nat) {w : Wd} {l0 : Nat} {l1 : Int32} {l2 : Int32} {l3 : Int32} {r : (Int32 × Wd) ⊕ (Nat × Wd)} (ol0 : okF F l0 8) (hcm : F.2.2.2.2 = false) (e9 : fX8_aligned F N w l0 l1 l2 l3 = some r) : vx_Met l yX8_aligned [.code yX8_aligned cX8_aligned 4 (some .int)] rmX8_aligned (PcB G F w [.ref l0, .int l1, .int l2, .int l3]) (QBx G F (vxint r)) (XBx G F (vxint r)) 1 6 (AF F) := by
  refine bd_vmet (vx := vxint) hf9 (by decide) (Nat.le_of_ble_eq_true rfl) e9 (fun g C hret hxt => ?_)
  clear e9 r
  have hb23 : ∀  (w : Wd), BD g G F 4 (qX8_aligned G F g) 0 0 (fX8_aligned_23 F N w) w 23 [] [] := by
    intro w
    unfold fX8_aligned_23
    exact bd_throw C hxt hcm (e := 1) rfl wd_589 wd_98 xa8_95 dX8_aligned_23 dX8_aligned_26 dX8_aligned_27 dX8_aligned_30 ⟨Nat.le_of_ble_eq_true rfl, Nat.le_of_ble_eq_true rfl, Nat.le_of_ble_eq_true rfl, Nat.le_of_ble_eq_true rfl⟩ ⟨Nat.le_of_ble_eq_true rfl, Nat.le_of_ble_eq_true rfl⟩ rfl
  unfold fX8_aligned
  refine bd_sub (lv' := [(0, .ref l0), (1, .int l1), (2, .int l2), (3, .int l3)]) ?_ [0, 1, 2, 3] rfl
  refine bd_aload_n C 0 dX8_aligned_0 rfl rfl ?_
  refine bd_gR C fi800 fv800 wd_338 dX8_aligned_1 ol0 (fun r1 gr1 hr1 => ?_)
  refine bd_iload_n C 2 dX8_aligned_4 rfl rfl ?_
  refine bd_callV (vs := fun (r : Int32) => some (.int r)) (wf := fun _ => w) (st := []) (st1 := fun x2 => Value.int x2 :: []) C [.int l2] (fun r9 e9 => mX1_hasTier C.flag N hr1 e9) mwX1_hasTier miX1_hasTier wd_585 hr1 (by decide) rfl rfl rfl (Nat.le_of_ble_eq_true rfl) dX8_aligned_5 ⟨rfl, rfl, Nat.le_of_ble_eq_true rfl, Nat.le_of_ble_eq_true rfl, Nat.le_of_ble_eq_true rfl, Nat.le_of_ble_eq_true rfl⟩ (fun _ => rfl) (fun x2 ex2 => ?_)
  refine bd_if_eq C 23 dX8_aligned_8 (by decide) (fun c3 => ?_) (fun c3 => ?_)
  · exact bd_sub (hb23 w) [] rfl
  · refine bd_aload_n C 0 dX8_aligned_11 rfl rfl ?_
    refine bd_gR C fi800 fv800 wd_338 dX8_aligned_12 ol0 (fun r4 gr4 hr4 => ?_)
    refine bd_iload_n C 1 dX8_aligned_15 rfl rfl ?_
    refine bd_iload_n C 3 dX8_aligned_16 rfl rfl ?_
    refine bd_callV (vs := fun (r : Int32) => some (.int r)) (wf := fun _ => w) (st := []) (st1 := fun x5 => Value.int x5 :: []) C [.int l1, .int l3] (fun r9 e9 => mX1_hasSpan C.flag N hr4 e9) mwX1_hasSpan miX1_hasSpan wd_799 hr4 (by decide) rfl rfl rfl (Nat.le_of_ble_eq_true rfl) dX8_aligned_17 ⟨rfl, rfl, Nat.le_of_ble_eq_true rfl, Nat.le_of_ble_eq_true rfl, Nat.le_of_ble_eq_true rfl, Nat.le_of_ble_eq_true rfl⟩ (fun _ => rfl) (fun x5 ex5 => ?_)
    refine bd_if_ne C 31 dX8_aligned_20 (by decide) (fun c6 => ?_) (fun c6 => ?_)
    · refine bd_aload_n C 0 dX8_aligned_31 rfl rfl ?_
      refine bd_gR C fi806 fv806 wd_344 dX8_aligned_32 ol0 (fun r7 gr7 hr7 => ?_)
      refine bd_aload_n C 0 dX8_aligned_35 rfl rfl ?_
      refine bd_gR C fi800 fv800 wd_338 dX8_aligned_36 ol0 (fun r8 gr8 hr8 => ?_)
      refine bd_iload_n C 1 dX8_aligned_39 rfl rfl ?_
      refine bd_callV (vs := fun (r : Nat) => some (.ref r)) (wf := fun _ => w) (st := [.ref r7]) (st1 := fun x9 => Value.ref x9 :: [.ref r7]) C [.int l1] (fun r9 e9 => mX1_present C.flag N hr8 e9) mwX1_present miX1_present wd_655 hr8 (by decide) rfl rfl rfl (Nat.le_of_ble_eq_true rfl) dX8_aligned_40 ⟨rfl, rfl, Nat.le_of_ble_eq_true rfl, Nat.le_of_ble_eq_true rfl, Nat.le_of_ble_eq_true rfl, Nat.le_of_ble_eq_true rfl⟩ (fun _ => rfl) (fun x9 ex9 => ?_)
      refine bd_ckF (fun h10 => ?_)
      refine bd_aload_n C 0 dX8_aligned_43 rfl rfl ?_
      refine bd_gR C fi800 fv800 wd_338 dX8_aligned_44 ol0 (fun r11 gr11 hr11 => ?_)
      refine bd_iload_n C 2 dX8_aligned_47 rfl rfl ?_
      refine bd_callV (vs := fun (r : Nat) => some (.ref r)) (wf := fun _ => w) (st := [.ref x9, .ref r7]) (st1 := fun x12 => Value.ref x12 :: [.ref x9, .ref r7]) C [.int l2] (fun r9 e9 => mX1_present C.flag N hr11 e9) mwX1_present miX1_present wd_655 hr11 (by decide) rfl rfl rfl (Nat.le_of_ble_eq_true rfl) dX8_aligned_48 ⟨rfl, rfl, Nat.le_of_ble_eq_true rfl, Nat.le_of_ble_eq_true rfl, Nat.le_of_ble_eq_true rfl, Nat.le_of_ble_eq_true rfl⟩ (fun _ => rfl) (fun x12 ex12 => ?_)
      refine bd_ckF (fun h13 => ?_)
      refine bd_aload_n C 0 dX8_aligned_51 rfl rfl ?_
      refine bd_gR C fi800 fv800 wd_338 dX8_aligned_52 ol0 (fun r14 gr14 hr14 => ?_)
      refine bd_gIN C fi107 fv107 wd_161 dX8_aligned_55 hr14 ?_
      refine bd_callV (vs := fun _ => none) (wf := fun (r : Wd) => r) (st := []) (st1 := fun p15 => []) C [.ref x9, .ref x12, .int (gI w 107 r14)] (fun r9 e9 => mX0_run C.flag N hr7 h10 h13 e9) mwX0_run miX0_run wd_934 hr7 (by decide) rfl rfl rfl (Nat.le_of_ble_eq_true rfl) dX8_aligned_58 ⟨rfl, rfl, Nat.le_of_ble_eq_true rfl, Nat.le_of_ble_eq_true rfl, Nat.le_of_ble_eq_true rfl, Nat.le_of_ble_eq_true rfl⟩ (fun _ => rfl) (fun p15 ep15 => ?_)
      refine bd_aload_n C 0 dX8_aligned_61 rfl rfl ?_
      refine bd_gR C fi806 fv806 wd_344 dX8_aligned_62 ol0 (fun r16 gr16 hr16 => ?_)
      refine bd_iload_n C 3 dX8_aligned_65 rfl rfl ?_
      refine bd_callV (vs := fun (r : Int32) => some (.int r)) (wf := fun _ => p15) (st := []) (st1 := fun x17 => Value.int x17 :: []) C [.int l3] (fun r9 e9 => mX0_partnerOf C.flag N hr16 e9) mwX0_partnerOf miX0_partnerOf wd_963 hr16 (by decide) rfl rfl rfl (Nat.le_of_ble_eq_true rfl) dX8_aligned_66 ⟨rfl, rfl, Nat.le_of_ble_eq_true rfl, Nat.le_of_ble_eq_true rfl, Nat.le_of_ble_eq_true rfl, Nat.le_of_ble_eq_true rfl⟩ (fun _ => rfl) (fun x17 ex17 => ?_)
      exact bd_xiret C hret rfl rfl dX8_aligned_69 (Nat.le_of_ble_eq_true rfl) (Nat.le_of_ble_eq_true rfl)
    · exact bd_sub (hb23 w) [] rfl
abbrev rmX8_alignment : Room := { frames := 15, cells := 1, slots := 6, locals := 423 }
abbrev qX8_alignment (G : Gy) (F : Fr) (g : Bd) : ((Int32 × Wd) ⊕ (Nat × Wd)) → State → Prop := fun r => QX G F g 1 6 (vxint r)
set_option maxRecDepth 20000 in
set_option maxHeartbeats 4000000 in
theorem mX8_alignment {l : Launch} (hf9 : l.stackTraces = false) {G : Gy} {F : Fr} (N : Nat) {w : Wd} {l0 : Nat} {l1 : Int32} {l2 : Int32} {l3 : Int32} {r : (Int32 × Wd) ⊕ (Nat × Wd)} (ol0 : okF F l0 8) (hcm : F.2.2.2.2 = false) (e9 : fX8_alignment F N w l0 l1 l2 l3 = some r) : vx_Met l yX8_alignment [.code yX8_alignment cX8_alignment 4 (some .int)] rmX8_alignment (PcB G F w [.ref l0, .int l1, .int l2, .int l3]) (QBx G F (vxint r)) (XBx G F (vxint r)) 1 6 (AF F) := by
  refine bd_vmet (vx := vxint) hf9 (by decide) (Nat.le_of_ble_eq_true rfl) e9 (fun g C hret hxt => ?_)
  clear e9 r
  have hb22 : ∀  (w : Wd), BD g G F 4 (qX8_alignment G F g) 0 0 (fX8_alignment_22 F N w) w 22 [] [] := by
    intro w
    unfold fX8_alignment_22
    exact bd_throw C hxt hcm (e := 1) rfl wd_589 wd_98 xa8_95 dX8_alignment_22 dX8_alignment_25 dX8_alignment_26 dX8_alignment_29 ⟨Nat.le_of_ble_eq_true rfl, Nat.le_of_ble_eq_true rfl, Nat.le_of_ble_eq_true rfl, Nat.le_of_ble_eq_true rfl⟩ ⟨Nat.le_of_ble_eq_true rfl, Nat.le_of_ble_eq_true rfl⟩ rfl
  unfold fX8_alignment
  refine bd_sub (lv' := [(0, .ref l0), (1, .int l1), (2, .int l2), (3, .int l3)]) ?_ [0, 1, 2, 3] rfl
  refine bd_aload_n C 0 dX8_alignment_0 rfl rfl ?_
  refine bd_gR C fi800 fv800 wd_338 dX8_alignment_1 ol0 (fun r1 gr1 hr1 => ?_)
  refine bd_iload_n C 1 dX8_alignment_4 rfl rfl ?_
  refine bd_callV (vs := fun (r : Int32) => some (.int r)) (wf := fun _ => w) (st := []) (st1 := fun x2 => Value.int x2 :: []) C [.int l1] (fun r9 e9 => mX1_hasTier C.flag N hr1 e9) mwX1_hasTier miX1_hasTier wd_585 hr1 (by decide) rfl rfl rfl (Nat.le_of_ble_eq_true rfl) dX8_alignment_5 ⟨rfl, rfl, Nat.le_of_ble_eq_true rfl, Nat.le_of_ble_eq_true rfl, Nat.le_of_ble_eq_true rfl, Nat.le_of_ble_eq_true rfl⟩ (fun _ => rfl) (fun x2 ex2 => ?_)
  refine bd_if_eq C 22 dX8_alignment_8 (by decide) (fun c3 => ?_) (fun c3 => ?_)
  · exact bd_sub (hb22 w) [] rfl
  · refine bd_aload_n C 0 dX8_alignment_11 rfl rfl ?_
    refine bd_gR C fi800 fv800 wd_338 dX8_alignment_12 ol0 (fun r4 gr4 hr4 => ?_)
    refine bd_iload_n C 2 dX8_alignment_15 rfl rfl ?_
    refine bd_callV (vs := fun (r : Int32) => some (.int r)) (wf := fun _ => w) (st := []) (st1 := fun x5 => Value.int x5 :: []) C [.int l2] (fun r9 e9 => mX1_hasTier C.flag N hr4 e9) mwX1_hasTier miX1_hasTier wd_585 hr4 (by decide) rfl rfl rfl (Nat.le_of_ble_eq_true rfl) dX8_alignment_16 ⟨rfl, rfl, Nat.le_of_ble_eq_true rfl, Nat.le_of_ble_eq_true rfl, Nat.le_of_ble_eq_true rfl, Nat.le_of_ble_eq_true rfl⟩ (fun _ => rfl) (fun x5 ex5 => ?_)
    refine bd_if_ne C 30 dX8_alignment_19 (by decide) (fun c6 => ?_) (fun c6 => ?_)
    · refine bd_aload_n C 0 dX8_alignment_30 rfl rfl ?_
      refine bd_gR C fi806 fv806 wd_344 dX8_alignment_31 ol0 (fun r7 gr7 hr7 => ?_)
      refine bd_aload_n C 0 dX8_alignment_34 rfl rfl ?_
      refine bd_gR C fi800 fv800 wd_338 dX8_alignment_35 ol0 (fun r8 gr8 hr8 => ?_)
      refine bd_iload_n C 1 dX8_alignment_38 rfl rfl ?_
      refine bd_callV (vs := fun (r : Nat) => some (.ref r)) (wf := fun _ => w) (st := [.ref r7]) (st1 := fun x9 => Value.ref x9 :: [.ref r7]) C [.int l1] (fun r9 e9 => mX1_present C.flag N hr8 e9) mwX1_present miX1_present wd_655 hr8 (by decide) rfl rfl rfl (Nat.le_of_ble_eq_true rfl) dX8_alignment_39 ⟨rfl, rfl, Nat.le_of_ble_eq_true rfl, Nat.le_of_ble_eq_true rfl, Nat.le_of_ble_eq_true rfl, Nat.le_of_ble_eq_true rfl⟩ (fun _ => rfl) (fun x9 ex9 => ?_)
      refine bd_ckF (fun h10 => ?_)
      refine bd_aload_n C 0 dX8_alignment_42 rfl rfl ?_
      refine bd_gR C fi800 fv800 wd_338 dX8_alignment_43 ol0 (fun r11 gr11 hr11 => ?_)
      refine bd_iload_n C 2 dX8_alignment_46 rfl rfl ?_
      refine bd_callV (vs := fun (r : Nat) => some (.ref r)) (wf := fun _ => w) (st := [.ref x9, .ref r7]) (st1 := fun x12 => Value.ref x12 :: [.ref x9, .ref r7]) C [.int l2] (fun r9 e9 => mX1_present C.flag N hr11 e9) mwX1_present miX1_present wd_655 hr11 (by decide) rfl rfl rfl (Nat.le_of_ble_eq_true rfl) dX8_alignment_47 ⟨rfl, rfl, Nat.le_of_ble_eq_true rfl, Nat.le_of_ble_eq_true rfl, Nat.le_of_ble_eq_true rfl, Nat.le_of_ble_eq_true rfl⟩ (fun _ => rfl) (fun x12 ex12 => ?_)
      refine bd_ckF (fun h13 => ?_)
      refine bd_aload_n C 0 dX8_alignment_50 rfl rfl ?_
      refine bd_gR C fi800 fv800 wd_338 dX8_alignment_51 ol0 (fun r14 gr14 hr14 => ?_)
      refine bd_gIN C fi107 fv107 wd_161 dX8_alignment_54 hr14 ?_
      refine bd_callV (vs := fun _ => none) (wf := fun (r : Wd) => r) (st := []) (st1 := fun p15 => []) C [.ref x9, .ref x12, .int (gI w 107 r14)] (fun r9 e9 => mX0_run C.flag N hr7 h10 h13 e9) mwX0_run miX0_run wd_934 hr7 (by decide) rfl rfl rfl (Nat.le_of_ble_eq_true rfl) dX8_alignment_57 ⟨rfl, rfl, Nat.le_of_ble_eq_true rfl, Nat.le_of_ble_eq_true rfl, Nat.le_of_ble_eq_true rfl, Nat.le_of_ble_eq_true rfl⟩ (fun _ => rfl) (fun p15 ep15 => ?_)
      refine bd_iload_n C 3 dX8_alignment_60 rfl rfl ?_
      refine bd_if_eq C 74 dX8_alignment_61 (by decide) (fun c16 => ?_) (fun c16 => ?_)
      · refine bd_aload_n C 0 dX8_alignment_74 rfl rfl ?_
        refine bd_gR C fi806 fv806 wd_344 dX8_alignment_75 ol0 (fun r17 gr17 hr17 => ?_)
        refine bd_gIN C fi3 fv3 wd_265 dX8_alignment_78 hr17 ?_
        exact bd_xiret C hret rfl rfl dX8_alignment_81 (Nat.le_of_ble_eq_true rfl) (Nat.le_of_ble_eq_true rfl)
      · refine bd_aload_n C 0 dX8_alignment_64 rfl rfl ?_
        refine bd_gR C fi806 fv806 wd_344 dX8_alignment_65 ol0 (fun r18 gr18 hr18 => ?_)
        refine bd_gIN C fi2 fv2 wd_263 dX8_alignment_68 hr18 ?_
        refine bd_goto C 81 dX8_alignment_71 (by decide) ?_
        exact bd_xiret C hret rfl rfl dX8_alignment_81 (Nat.le_of_ble_eq_true rfl) (Nat.le_of_ble_eq_true rfl)
    · exact bd_sub (hb22 w) [] rfl
abbrev rmX8_search : Room := { frames := 16, cells := 1, slots := 6, locals := 437 }
abbrev qX8_search (G : Gy) (F : Fr) (g : Bd) : ((Int32 × Wd) ⊕ (Nat × Wd)) → State → Prop := fun r => QX G F g 1 6 (vxint r)
set_option maxRecDepth 20000 in
set_option maxHeartbeats 4000000 in
theorem mX8_search {l : Launch} (hf9 : l.stackTraces = false) {G : Gy} {F : Fr} (N : Nat) {w : Wd} {l0 : Nat} {r : (Int32 × Wd) ⊕ (Nat × Wd)} (ol0 : okF F l0 8) (hcm : F.2.2.2.2 = false) (e9 : fX8_search F N w l0 = some r) : vx_Met l yX8_search [.code yX8_search cX8_search 3 (some .int)] rmX8_search (PcB G F w [.ref l0]) (QBx G F (vxint r)) (XBx G F (vxint r)) 1 6 (AF F) := by
  refine bd_vmet (vx := vxint) hf9 (by decide) (Nat.le_of_ble_eq_true rfl) e9 (fun g C hret hxt => ?_)
  clear e9 r
  have hb31 : ∀  (w : Wd) (l0 : Nat) (l1 : Int32) (ol0 : okF F l0 8), BD g G F 3 (qX8_search G F g) 0 0 (fX8_search_31 F N w l0 l1) w 31 [(0, .ref l0), (1, .int l1)] [] := by
    intro w l0 l1 ol0
    unfold fX8_search_31
    refine bd_aload_n C 0 dX8_search_31 rfl rfl ?_
    refine bd_gR C fi804 fv804 wd_342 dX8_search_32 ol0 (fun r1 gr1 hr1 => ?_)
    refine bd_callV (vs := fun _ => none) (wf := fun (r : Wd) => r) (st := []) (st1 := fun p2 => []) C [] (fun r9 e9 => mX3_empty C.flag N hr1 e9) mwX3_empty miX3_empty wd_736 hr1 (by decide) rfl rfl rfl (Nat.le_of_ble_eq_true rfl) dX8_search_35 ⟨rfl, rfl, Nat.le_of_ble_eq_true rfl, Nat.le_of_ble_eq_true rfl, Nat.le_of_ble_eq_true rfl, Nat.le_of_ble_eq_true rfl⟩ (fun _ => rfl) (fun p2 ep2 => ?_)
    refine bd_iload_n C 1 dX8_search_38 rfl rfl ?_
    refine bd_if_ne C 50 dX8_search_39 (by decide) (fun c3 => ?_) (fun c3 => ?_)
    · refine bd_aload_n C 0 dX8_search_50 rfl rfl ?_
      refine bd_gR C fi808 fv808 wd_346 dX8_search_51 ol0 (fun r4 gr4 hr4 => ?_)
      refine bd_astore_n C [(2, .ref r4), (0, .ref l0), (1, .int l1)] dX8_search_54 rfl (by decide) rfl ?_
      refine bd_aload_n C 1 dX8_search_55 rfl rfl ?_
      refine bd_aload_n C 1 dX8_search_56 rfl rfl ?_
      refine bd_gR C fi809 fv809 wd_347 dX8_search_57 ol0 (fun r5 gr5 hr5 => ?_)
      refine bd_pR C fi808 ftX8 fu808 wd_346 rfl rfl rfl dX8_search_60 ol0 (fun w6 => ?_)
      refine bd_aload_n C 1 dX8_search_63 rfl rfl ?_
      refine bd_aload_n C 0 dX8_search_64 rfl rfl ?_
      refine bd_pR C fi809 ftX8 fu809 wd_347 rfl rfl rfl dX8_search_65 ol0 (fun w7 => ?_)
      refine bd_aload_n C 1 dX8_search_68 rfl rfl ?_
      refine bd_gR C fi808 fv808 wd_346 dX8_search_69 ol0 (fun r8 gr8 hr8 => ?_)
      refine bd_aload_n C 1 dX8_search_72 rfl rfl ?_
      refine bd_gR C fi800 fv800 wd_338 dX8_search_73 ol0 (fun r9 gr9 hr9 => ?_)
      refine bd_callV (vs := fun (r : Int32 × Wd) => some (.int r.1)) (wf := fun (r : Int32 × Wd) => r.2) (st := []) (st1 := fun p10 => Value.int p10.1 :: []) C [.ref r9] (fun r9 e9 => mX5_countMatches C.flag N hr8 hr9 e9) mwX5_countMatches miX5_countMatches wd_1005 hr8 (by decide) rfl rfl rfl (Nat.le_of_ble_eq_true rfl) dX8_search_76 ⟨rfl, rfl, Nat.le_of_ble_eq_true rfl, Nat.le_of_ble_eq_true rfl, Nat.le_of_ble_eq_true rfl, Nat.le_of_ble_eq_true rfl⟩ (fun _ => rfl) (fun p10 ep10 => ?_)
      exact bd_xiret C hret rfl rfl dX8_search_79 (Nat.le_of_ble_eq_true rfl) (Nat.le_of_ble_eq_true rfl)
    · exact bd_throw C hxt hcm (e := 0) rfl wd_564 wd_101 xa8_88 dX8_search_42 dX8_search_45 dX8_search_46 dX8_search_49 ⟨Nat.le_of_ble_eq_true rfl, Nat.le_of_ble_eq_true rfl, Nat.le_of_ble_eq_true rfl, Nat.le_of_ble_eq_true rfl⟩ ⟨Nat.le_of_ble_eq_true rfl, Nat.le_of_ble_eq_true rfl⟩ rfl
  unfold fX8_search
  refine bd_sub (lv' := [(0, .ref l0)]) ?_ [0] rfl
  refine bd_aload_n C 0 dX8_search_0 rfl rfl ?_
  refine bd_gR C fi809 fv809 wd_347 dX8_search_1 ol0 (fun r11 gr11 hr11 => ?_)
  refine bd_aload_n C 0 dX8_search_4 rfl rfl ?_
  refine bd_gR C fi804 fv804 wd_342 dX8_search_5 ol0 (fun r12 gr12 hr12 => ?_)
  refine bd_aload_n C 0 dX8_search_8 rfl rfl ?_
  refine bd_gR C fi800 fv800 wd_338 dX8_search_9 ol0 (fun r13 gr13 hr13 => ?_)
  refine bd_callV (vs := fun (r : Int32 × Wd) => some (.int r.1)) (wf := fun (r : Int32 × Wd) => r.2) (st := []) (st1 := fun p14 => Value.int p14.1 :: []) C [.ref r12, .ref r13] (fun r9 e9 => mX5_readFrom C.flag N hr11 hr12 hr13 e9) mwX5_readFrom miX5_readFrom wd_981 hr11 (by decide) rfl rfl rfl (Nat.le_of_ble_eq_true rfl) dX8_search_12 ⟨rfl, rfl, Nat.le_of_ble_eq_true rfl, Nat.le_of_ble_eq_true rfl, Nat.le_of_ble_eq_true rfl, Nat.le_of_ble_eq_true rfl⟩ (fun _ => rfl) (fun p14 ep14 => ?_)
  refine bd_istore_n C [(1, .int p14.1), (0, .ref l0)] dX8_search_15 rfl (by decide) rfl ?_
  refine bd_iload_n C 0 dX8_search_16 rfl rfl ?_
  refine bd_if_ne C 31 dX8_search_17 (by decide) (fun c15 => ?_) (fun c15 => ?_)
  · exact bd_sub (hb31 p14.2 l0 p14.1 ol0) [1, 0] rfl
  · refine bd_aload_n C 1 dX8_search_20 rfl rfl ?_
    refine bd_aload_n C 1 dX8_search_21 rfl rfl ?_
    refine bd_gR C fi804 fv804 wd_342 dX8_search_22 ol0 (fun r16 gr16 hr16 => ?_)
    refine bd_gIN C fi302 fv302 wd_214 dX8_search_25 hr16 ?_
    refine bd_pI C fi811 ftX8 fu811 wd_349 rfl rfl rfl dX8_search_28 ol0 (fun w17 => ?_)
    exact bd_sub (hb31 w17 l0 p14.1 ol0) [1, 0] rfl
abbrev rmX8_match : Room := { frames := 15, cells := 1, slots := 6, locals := 422 }
abbrev qX8_match (G : Gy) (F : Fr) (g : Bd) : ((Int32 × Wd) ⊕ (Nat × Wd)) → State → Prop := fun r => QX G F g 1 6 (vxint r)
set_option maxRecDepth 20000 in
set_option maxHeartbeats 4000000 in
theorem mX8_match {l : Launch} (hf9 : l.stackTraces = false) {G : Gy} {F : Fr} (N : Nat) {w : Wd} {l0 : Nat} {l1 : Int32} {l2 : Int32} {r : (Int32 × Wd) ⊕ (Nat × Wd)} (ol0 : okF F l0 8) (hcm : F.2.2.2.2 = false) (e9 : fX8_match F N w l0 l1 l2 = some r) : vx_Met l yX8_match [.code yX8_match cX8_match 3 (some .int)] rmX8_match (PcB G F w [.ref l0, .int l1, .int l2]) (QBx G F (vxint r)) (XBx G F (vxint r)) 1 6 (AF F) := by
  refine bd_vmet (vx := vxint) hf9 (by decide) (Nat.le_of_ble_eq_true rfl) e9 (fun g C hret hxt => ?_)
  clear e9 r
  have hb52 : ∀  (w : Wd), BD g G F 3 (qX8_match G F g) 0 0 (fX8_match_52 F N w) w 52 [] [] := by
    intro w
    unfold fX8_match_52
    exact bd_throw C hxt hcm (e := 4) rfl wd_894 wd_106 xa8_223 dX8_match_52 dX8_match_55 dX8_match_56 dX8_match_59 ⟨Nat.le_of_ble_eq_true rfl, Nat.le_of_ble_eq_true rfl, Nat.le_of_ble_eq_true rfl, Nat.le_of_ble_eq_true rfl⟩ ⟨Nat.le_of_ble_eq_true rfl, Nat.le_of_ble_eq_true rfl⟩ rfl
  unfold fX8_match
  refine bd_sub (lv' := [(0, .ref l0), (1, .int l1), (2, .int l2)]) ?_ [0, 1, 2] rfl
  refine bd_aload_n C 0 dX8_match_0 rfl rfl ?_
  refine bd_gR C fi808 fv808 wd_346 dX8_match_1 ol0 (fun r1 gr1 hr1 => ?_)
  refine bd_gIN C fi506 fv506 wd_321 dX8_match_4 hr1 ?_
  refine bd_if_ne C 18 dX8_match_7 (by decide) (fun c2 => ?_) (fun c2 => ?_)
  · refine bd_iload_n C 2 dX8_match_18 rfl rfl ?_
    refine bd_if_lt C 52 dX8_match_19 (by decide) (fun c3 => ?_) (fun c3 => ?_)
    · exact bd_sub (hb52 w) [] rfl
    · refine bd_iload_n C 2 dX8_match_22 rfl rfl ?_
      refine bd_aload_n C 0 dX8_match_23 rfl rfl ?_
      refine bd_gR C fi808 fv808 wd_346 dX8_match_24 ol0 (fun r4 gr4 hr4 => ?_)
      refine bd_gIN C fi506 fv506 wd_321 dX8_match_27 hr4 ?_
      refine bd_icmp_ge C 52 dX8_match_30 (by decide) (fun c5 => ?_) (fun c5 => ?_)
      · exact bd_sub (hb52 w) [] rfl
      · refine bd_iload_n C 1 dX8_match_33 rfl rfl ?_
        refine bd_if_lt C 52 dX8_match_34 (by decide) (fun c6 => ?_) (fun c6 => ?_)
        · exact bd_sub (hb52 w) [] rfl
        · refine bd_iload_n C 1 dX8_match_37 rfl rfl ?_
          refine bd_aload_n C 0 dX8_match_38 rfl rfl ?_
          refine bd_gR C fi808 fv808 wd_346 dX8_match_39 ol0 (fun r7 gr7 hr7 => ?_)
          refine bd_aload_n C 0 dX8_match_42 rfl rfl ?_
          refine bd_gR C fi800 fv800 wd_338 dX8_match_43 ol0 (fun r8 gr8 hr8 => ?_)
          refine bd_callV (vs := fun (r : Int32 × Wd) => some (.int r.1)) (wf := fun (r : Int32 × Wd) => r.2) (st := [.int l1]) (st1 := fun p9 => Value.int p9.1 :: [.int l1]) C [.ref r8] (fun r9 e9 => mX5_countMatches C.flag N hr7 hr8 e9) mwX5_countMatches miX5_countMatches wd_1005 hr7 (by decide) rfl rfl rfl (Nat.le_of_ble_eq_true rfl) dX8_match_46 ⟨rfl, rfl, Nat.le_of_ble_eq_true rfl, Nat.le_of_ble_eq_true rfl, Nat.le_of_ble_eq_true rfl, Nat.le_of_ble_eq_true rfl⟩ (fun _ => rfl) (fun p9 ep9 => ?_)
          refine bd_icmp_lt C 60 dX8_match_49 (by decide) (fun c10 => ?_) (fun c10 => ?_)
          · refine bd_aload_n C 0 dX8_match_60 rfl rfl ?_
            refine bd_gR C fi808 fv808 wd_346 dX8_match_61 ol0 (fun r11 gr11 hr11 => ?_)
            refine bd_aload_n C 0 dX8_match_64 rfl rfl ?_
            refine bd_gR C fi800 fv800 wd_338 dX8_match_65 ol0 (fun r12 gr12 hr12 => ?_)
            refine bd_iload_n C 1 dX8_match_68 rfl rfl ?_
            refine bd_iload_n C 2 dX8_match_69 rfl rfl ?_
            refine bd_callV (vs := fun (r : Int32) => some (.int r)) (wf := fun _ => p9.2) (st := []) (st1 := fun x13 => Value.int x13 :: []) C [.ref r12, .int l1, .int l2] (fun r9 e9 => mX5_spanOf C.flag N hr11 hr12 e9) mwX5_spanOf miX5_spanOf wd_1043 hr11 (by decide) rfl rfl rfl (Nat.le_of_ble_eq_true rfl) dX8_match_70 ⟨rfl, rfl, Nat.le_of_ble_eq_true rfl, Nat.le_of_ble_eq_true rfl, Nat.le_of_ble_eq_true rfl, Nat.le_of_ble_eq_true rfl⟩ (fun _ => rfl) (fun x13 ex13 => ?_)
            exact bd_xiret C hret rfl rfl dX8_match_73 (Nat.le_of_ble_eq_true rfl) (Nat.le_of_ble_eq_true rfl)
          · exact bd_sub (hb52 p9.2) [] rfl
  · exact bd_throw C hxt hcm (e := 2) rfl wd_604 wd_102 xa8_98 dX8_match_10 dX8_match_13 dX8_match_14 dX8_match_17 ⟨Nat.le_of_ble_eq_true rfl, Nat.le_of_ble_eq_true rfl, Nat.le_of_ble_eq_true rfl, Nat.le_of_ble_eq_true rfl⟩ ⟨Nat.le_of_ble_eq_true rfl, Nat.le_of_ble_eq_true rfl⟩ rfl
abbrev rmX8_merge : Room := { frames := 14, cells := 1, slots := 6, locals := 394 }
abbrev qX8_merge (G : Gy) (F : Fr) (g : Bd) : ((Int32 × Wd) ⊕ (Nat × Wd)) → State → Prop := fun r => QX G F g 1 6 (vxint r)
set_option maxRecDepth 20000 in
set_option maxHeartbeats 4000000 in
theorem mX8_merge {l : Launch} (hf9 : l.stackTraces = false) {G : Gy} {F : Fr} (N : Nat) {w : Wd} {l0 : Nat} {l1 : Int32} {l2 : Int32} {r : (Int32 × Wd) ⊕ (Nat × Wd)} (ol0 : okF F l0 8) (hcm : F.2.2.2.2 = false) (e9 : fX8_merge F N w l0 l1 l2 = some r) : vx_Met l yX8_merge [.code yX8_merge cX8_merge 3 (some .int)] rmX8_merge (PcB G F w [.ref l0, .int l1, .int l2]) (QBx G F (vxint r)) (XBx G F (vxint r)) 1 6 (AF F) := by
  refine bd_vmet (vx := vxint) hf9 (by decide) (Nat.le_of_ble_eq_true rfl) e9 (fun g C hret hxt => ?_)
  clear e9 r
  unfold fX8_merge
  refine bd_sub (lv' := [(0, .ref l0), (1, .int l1), (2, .int l2)]) ?_ [0, 1, 2] rfl
  refine bd_aload_n C 0 dX8_merge_0 rfl rfl ?_
  refine bd_gR C fi800 fv800 wd_338 dX8_merge_1 ol0 (fun r1 gr1 hr1 => ?_)
  refine bd_iload_n C 1 dX8_merge_4 rfl rfl ?_
  refine bd_callV (vs := fun (r : Int32) => some (.int r)) (wf := fun _ => w) (st := []) (st1 := fun x2 => Value.int x2 :: []) C [.int l1] (fun r9 e9 => mX1_hasTier C.flag N hr1 e9) mwX1_hasTier miX1_hasTier wd_585 hr1 (by decide) rfl rfl rfl (Nat.le_of_ble_eq_true rfl) dX8_merge_5 ⟨rfl, rfl, Nat.le_of_ble_eq_true rfl, Nat.le_of_ble_eq_true rfl, Nat.le_of_ble_eq_true rfl, Nat.le_of_ble_eq_true rfl⟩ (fun _ => rfl) (fun x2 ex2 => ?_)
  refine bd_if_ne C 19 dX8_merge_8 (by decide) (fun c3 => ?_) (fun c3 => ?_)
  · refine bd_aload_n C 0 dX8_merge_19 rfl rfl ?_
    refine bd_gR C fi807 fv807 wd_345 dX8_merge_20 ol0 (fun r4 gr4 hr4 => ?_)
    refine bd_aload_n C 0 dX8_merge_23 rfl rfl ?_
    refine bd_gR C fi800 fv800 wd_338 dX8_merge_24 ol0 (fun r5 gr5 hr5 => ?_)
    refine bd_iconst C (v := 0) dX8_merge_27 (by decide) ?_
    refine bd_iload_n C 1 dX8_merge_28 rfl rfl ?_
    refine bd_callV (vs := fun (r : Nat) => some (.ref r)) (wf := fun _ => w) (st := [.ref r4]) (st1 := fun x6 => Value.ref x6 :: [.ref r4]) C [.int 0, .int l1] (fun r9 e9 => mX1_row C.flag N hr5 e9) mwX1_row miX1_row wd_394 hr5 (by decide) rfl rfl rfl (Nat.le_of_ble_eq_true rfl) dX8_merge_29 ⟨rfl, rfl, Nat.le_of_ble_eq_true rfl, Nat.le_of_ble_eq_true rfl, Nat.le_of_ble_eq_true rfl, Nat.le_of_ble_eq_true rfl⟩ (fun _ => rfl) (fun x6 ex6 => ?_)
    refine bd_ckF (fun h7 => ?_)
    refine bd_aload_n C 0 dX8_merge_32 rfl rfl ?_
    refine bd_gR C fi800 fv800 wd_338 dX8_merge_33 ol0 (fun r8 gr8 hr8 => ?_)
    refine bd_iconst C (v := 1) dX8_merge_36 (by decide) ?_
    refine bd_iload_n C 1 dX8_merge_37 rfl rfl ?_
    refine bd_callV (vs := fun (r : Nat) => some (.ref r)) (wf := fun _ => w) (st := [.ref x6, .ref r4]) (st1 := fun x9 => Value.ref x9 :: [.ref x6, .ref r4]) C [.int 1, .int l1] (fun r9 e9 => mX1_row C.flag N hr8 e9) mwX1_row miX1_row wd_394 hr8 (by decide) rfl rfl rfl (Nat.le_of_ble_eq_true rfl) dX8_merge_38 ⟨rfl, rfl, Nat.le_of_ble_eq_true rfl, Nat.le_of_ble_eq_true rfl, Nat.le_of_ble_eq_true rfl, Nat.le_of_ble_eq_true rfl⟩ (fun _ => rfl) (fun x9 ex9 => ?_)
    refine bd_ckF (fun h10 => ?_)
    refine bd_callV (vs := fun _ => none) (wf := fun (r : Wd) => r) (st := []) (st1 := fun p11 => []) C [.ref x6, .ref x9] (fun r9 e9 => mX4_run C.flag N hr4 h7 h10 e9) mwX4_run miX4_run wd_1054 hr4 (by decide) rfl rfl rfl (Nat.le_of_ble_eq_true rfl) dX8_merge_41 ⟨rfl, rfl, Nat.le_of_ble_eq_true rfl, Nat.le_of_ble_eq_true rfl, Nat.le_of_ble_eq_true rfl, Nat.le_of_ble_eq_true rfl⟩ (fun _ => rfl) (fun p11 ep11 => ?_)
    refine bd_iload_n C 2 dX8_merge_44 rfl rfl ?_
    refine bd_ite (fun c12 => ?_) (fun c12 => ?_)
    · refine bd_tableIn C (off := 35) 80 dX8_merge_45 (by rw [c12]; decide) (by rw [c12]; decide) (by rw [c12]; rfl) (by decide) ?_
      refine bd_aload_n C 0 dX8_merge_80 rfl rfl ?_
      refine bd_gR C fi807 fv807 wd_345 dX8_merge_81 ol0 (fun r13 gr13 hr13 => ?_)
      refine bd_gIN C fi404 fv404 wd_286 dX8_merge_84 hr13 ?_
      exact bd_xiret C hret rfl rfl dX8_merge_87 (Nat.le_of_ble_eq_true rfl) (Nat.le_of_ble_eq_true rfl)
    · refine bd_ite (fun c14 => ?_) (fun c14 => ?_)
      · refine bd_tableIn C (off := 43) 88 dX8_merge_45 (by rw [c14]; decide) (by rw [c14]; decide) (by rw [c14]; rfl) (by decide) ?_
        refine bd_aload_n C 0 dX8_merge_88 rfl rfl ?_
        refine bd_gR C fi807 fv807 wd_345 dX8_merge_89 ol0 (fun r15 gr15 hr15 => ?_)
        refine bd_gIN C fi405 fv405 wd_288 dX8_merge_92 hr15 ?_
        exact bd_xiret C hret rfl rfl dX8_merge_95 (Nat.le_of_ble_eq_true rfl) (Nat.le_of_ble_eq_true rfl)
      · refine bd_ite (fun c16 => ?_) (fun c16 => ?_)
        · refine bd_tableIn C (off := 51) 96 dX8_merge_45 (by rw [c16]; decide) (by rw [c16]; decide) (by rw [c16]; rfl) (by decide) ?_
          refine bd_aload_n C 0 dX8_merge_96 rfl rfl ?_
          refine bd_gR C fi807 fv807 wd_345 dX8_merge_97 ol0 (fun r17 gr17 hr17 => ?_)
          refine bd_gIN C fi406 fv406 wd_290 dX8_merge_100 hr17 ?_
          exact bd_xiret C hret rfl rfl dX8_merge_103 (Nat.le_of_ble_eq_true rfl) (Nat.le_of_ble_eq_true rfl)
        · refine bd_ite (fun c18 => ?_) (fun c18 => ?_)
          · refine bd_tableIn C (off := 59) 104 dX8_merge_45 (by rw [c18]; decide) (by rw [c18]; decide) (by rw [c18]; rfl) (by decide) ?_
            refine bd_aload_n C 0 dX8_merge_104 rfl rfl ?_
            refine bd_gR C fi807 fv807 wd_345 dX8_merge_105 ol0 (fun r19 gr19 hr19 => ?_)
            refine bd_callV (vs := fun (r : Int32) => some (.int r)) (wf := fun _ => p11) (st := []) (st1 := fun x20 => Value.int x20 :: []) C [] (fun r9 e9 => mX4_sharedCount C.flag N hr19 e9) mwX4_sharedCount miX4_sharedCount wd_1085 hr19 (by decide) rfl rfl rfl (Nat.le_of_ble_eq_true rfl) dX8_merge_108 ⟨rfl, rfl, Nat.le_of_ble_eq_true rfl, Nat.le_of_ble_eq_true rfl, Nat.le_of_ble_eq_true rfl, Nat.le_of_ble_eq_true rfl⟩ (fun _ => rfl) (fun x20 ex20 => ?_)
            exact bd_xiret C hret rfl rfl dX8_merge_111 (Nat.le_of_ble_eq_true rfl) (Nat.le_of_ble_eq_true rfl)
          · refine bd_ite (fun c21 => ?_) (fun c21 => ?_)
            · refine bd_tableIn C (off := 67) 112 dX8_merge_45 (by rw [c21]; decide) (by rw [c21]; decide) (by rw [c21]; rfl) (by decide) ?_
              refine bd_aload_n C 0 dX8_merge_112 rfl rfl ?_
              refine bd_gR C fi807 fv807 wd_345 dX8_merge_113 ol0 (fun r22 gr22 hr22 => ?_)
              refine bd_callV (vs := fun (r : Int32) => some (.int r)) (wf := fun _ => p11) (st := []) (st1 := fun x23 => Value.int x23 :: []) C [] (fun r9 e9 => mX4_frameSum C.flag N hr22 e9) mwX4_frameSum miX4_frameSum wd_1089 hr22 (by decide) rfl rfl rfl (Nat.le_of_ble_eq_true rfl) dX8_merge_116 ⟨rfl, rfl, Nat.le_of_ble_eq_true rfl, Nat.le_of_ble_eq_true rfl, Nat.le_of_ble_eq_true rfl, Nat.le_of_ble_eq_true rfl⟩ (fun _ => rfl) (fun x23 ex23 => ?_)
              exact bd_xiret C hret rfl rfl dX8_merge_119 (Nat.le_of_ble_eq_true rfl) (Nat.le_of_ble_eq_true rfl)
            · refine bd_tableOut C 120 dX8_merge_45 (tbl_out 5 _ (fun j hj => by match j, hj with | 0, _ => exact c12 | 1, _ => exact c14 | 2, _ => exact c16 | 3, _ => exact c18 | 4, _ => exact c21) (by decide)) (by decide) ?_
              exact bd_throw C hxt hcm (e := 0) rfl wd_564 wd_101 xa8_88 dX8_merge_120 dX8_merge_123 dX8_merge_124 dX8_merge_127 ⟨Nat.le_of_ble_eq_true rfl, Nat.le_of_ble_eq_true rfl, Nat.le_of_ble_eq_true rfl, Nat.le_of_ble_eq_true rfl⟩ ⟨Nat.le_of_ble_eq_true rfl, Nat.le_of_ble_eq_true rfl⟩ rfl
  · exact bd_throw C hxt hcm (e := 1) rfl wd_589 wd_98 xa8_95 dX8_merge_11 dX8_merge_14 dX8_merge_15 dX8_merge_18 ⟨Nat.le_of_ble_eq_true rfl, Nat.le_of_ble_eq_true rfl, Nat.le_of_ble_eq_true rfl, Nat.le_of_ble_eq_true rfl⟩ ⟨Nat.le_of_ble_eq_true rfl, Nat.le_of_ble_eq_true rfl⟩ rfl
abbrev rmX8_merged : Room := { frames := 14, cells := 1, slots := 6, locals := 394 }
abbrev qX8_merged (G : Gy) (F : Fr) (g : Bd) : ((Int32 × Wd) ⊕ (Nat × Wd)) → State → Prop := fun r => QX G F g 1 6 (vxint r)
set_option maxRecDepth 20000 in
set_option maxHeartbeats 4000000 in
theorem mX8_merged {l : Launch} (hf9 : l.stackTraces = false) {G : Gy} {F : Fr} (N : Nat) {w : Wd} {l0 : Nat} {l1 : Int32} {l2 : Int32} {l3 : Int32} {r : (Int32 × Wd) ⊕ (Nat × Wd)} (ol0 : okF F l0 8) (hcm : F.2.2.2.2 = false) (e9 : fX8_merged F N w l0 l1 l2 l3 = some r) : vx_Met l yX8_merged [.code yX8_merged cX8_merged 4 (some .int)] rmX8_merged (PcB G F w [.ref l0, .int l1, .int l2, .int l3]) (QBx G F (vxint r)) (XBx G F (vxint r)) 1 6 (AF F) := by
  refine bd_vmet (vx := vxint) hf9 (by decide) (Nat.le_of_ble_eq_true rfl) e9 (fun g C hret hxt => ?_)
  clear e9 r
  unfold fX8_merged
  refine bd_sub (lv' := [(0, .ref l0), (1, .int l1), (2, .int l2), (3, .int l3)]) ?_ [0, 1, 2, 3] rfl
  refine bd_aload_n C 0 dX8_merged_0 rfl rfl ?_
  refine bd_gR C fi800 fv800 wd_338 dX8_merged_1 ol0 (fun r1 gr1 hr1 => ?_)
  refine bd_iload_n C 1 dX8_merged_4 rfl rfl ?_
  refine bd_callV (vs := fun (r : Int32) => some (.int r)) (wf := fun _ => w) (st := []) (st1 := fun x2 => Value.int x2 :: []) C [.int l1] (fun r9 e9 => mX1_hasTier C.flag N hr1 e9) mwX1_hasTier miX1_hasTier wd_585 hr1 (by decide) rfl rfl rfl (Nat.le_of_ble_eq_true rfl) dX8_merged_5 ⟨rfl, rfl, Nat.le_of_ble_eq_true rfl, Nat.le_of_ble_eq_true rfl, Nat.le_of_ble_eq_true rfl, Nat.le_of_ble_eq_true rfl⟩ (fun _ => rfl) (fun x2 ex2 => ?_)
  refine bd_if_ne C 19 dX8_merged_8 (by decide) (fun c3 => ?_) (fun c3 => ?_)
  · refine bd_aload_n C 0 dX8_merged_19 rfl rfl ?_
    refine bd_gR C fi807 fv807 wd_345 dX8_merged_20 ol0 (fun r4 gr4 hr4 => ?_)
    refine bd_aload_n C 0 dX8_merged_23 rfl rfl ?_
    refine bd_gR C fi800 fv800 wd_338 dX8_merged_24 ol0 (fun r5 gr5 hr5 => ?_)
    refine bd_iconst C (v := 0) dX8_merged_27 (by decide) ?_
    refine bd_iload_n C 1 dX8_merged_28 rfl rfl ?_
    refine bd_callV (vs := fun (r : Nat) => some (.ref r)) (wf := fun _ => w) (st := [.ref r4]) (st1 := fun x6 => Value.ref x6 :: [.ref r4]) C [.int 0, .int l1] (fun r9 e9 => mX1_row C.flag N hr5 e9) mwX1_row miX1_row wd_394 hr5 (by decide) rfl rfl rfl (Nat.le_of_ble_eq_true rfl) dX8_merged_29 ⟨rfl, rfl, Nat.le_of_ble_eq_true rfl, Nat.le_of_ble_eq_true rfl, Nat.le_of_ble_eq_true rfl, Nat.le_of_ble_eq_true rfl⟩ (fun _ => rfl) (fun x6 ex6 => ?_)
    refine bd_ckF (fun h7 => ?_)
    refine bd_aload_n C 0 dX8_merged_32 rfl rfl ?_
    refine bd_gR C fi800 fv800 wd_338 dX8_merged_33 ol0 (fun r8 gr8 hr8 => ?_)
    refine bd_iconst C (v := 1) dX8_merged_36 (by decide) ?_
    refine bd_iload_n C 1 dX8_merged_37 rfl rfl ?_
    refine bd_callV (vs := fun (r : Nat) => some (.ref r)) (wf := fun _ => w) (st := [.ref x6, .ref r4]) (st1 := fun x9 => Value.ref x9 :: [.ref x6, .ref r4]) C [.int 1, .int l1] (fun r9 e9 => mX1_row C.flag N hr8 e9) mwX1_row miX1_row wd_394 hr8 (by decide) rfl rfl rfl (Nat.le_of_ble_eq_true rfl) dX8_merged_38 ⟨rfl, rfl, Nat.le_of_ble_eq_true rfl, Nat.le_of_ble_eq_true rfl, Nat.le_of_ble_eq_true rfl, Nat.le_of_ble_eq_true rfl⟩ (fun _ => rfl) (fun x9 ex9 => ?_)
    refine bd_ckF (fun h10 => ?_)
    refine bd_callV (vs := fun _ => none) (wf := fun (r : Wd) => r) (st := []) (st1 := fun p11 => []) C [.ref x6, .ref x9] (fun r9 e9 => mX4_run C.flag N hr4 h7 h10 e9) mwX4_run miX4_run wd_1054 hr4 (by decide) rfl rfl rfl (Nat.le_of_ble_eq_true rfl) dX8_merged_41 ⟨rfl, rfl, Nat.le_of_ble_eq_true rfl, Nat.le_of_ble_eq_true rfl, Nat.le_of_ble_eq_true rfl, Nat.le_of_ble_eq_true rfl⟩ (fun _ => rfl) (fun p11 ep11 => ?_)
    refine bd_aload_n C 0 dX8_merged_44 rfl rfl ?_
    refine bd_gR C fi807 fv807 wd_345 dX8_merged_45 ol0 (fun r12 gr12 hr12 => ?_)
    refine bd_iload_n C 2 dX8_merged_48 rfl rfl ?_
    refine bd_callV (vs := fun (r : Int32) => some (.int r)) (wf := fun _ => p11) (st := []) (st1 := fun x13 => Value.int x13 :: []) C [.int l2] (fun r9 e9 => mX4_has C.flag N hr12 e9) mwX4_has miX4_has wd_1104 hr12 (by decide) rfl rfl rfl (Nat.le_of_ble_eq_true rfl) dX8_merged_49 ⟨rfl, rfl, Nat.le_of_ble_eq_true rfl, Nat.le_of_ble_eq_true rfl, Nat.le_of_ble_eq_true rfl, Nat.le_of_ble_eq_true rfl⟩ (fun _ => rfl) (fun x13 ex13 => ?_)
    refine bd_if_ne C 63 dX8_merged_52 (by decide) (fun c14 => ?_) (fun c14 => ?_)
    · refine bd_iload_n C 3 dX8_merged_63 rfl rfl ?_
      refine bd_ite (fun c15 => ?_) (fun c15 => ?_)
      · refine bd_tableIn C (off := 32) 96 dX8_merged_64 (by rw [c15]; decide) (by rw [c15]; decide) (by rw [c15]; rfl) (by decide) ?_
        refine bd_aload_n C 0 dX8_merged_96 rfl rfl ?_
        refine bd_gR C fi807 fv807 wd_345 dX8_merged_97 ol0 (fun r16 gr16 hr16 => ?_)
        refine bd_iload_n C 2 dX8_merged_100 rfl rfl ?_
        refine bd_callV (vs := fun (r : Int32) => some (.int r)) (wf := fun _ => p11) (st := []) (st1 := fun x17 => Value.int x17 :: []) C [.int l2] (fun r9 e9 => mX4_first C.flag N hr16 e9) mwX4_first miX4_first wd_1105 hr16 (by decide) rfl rfl rfl (Nat.le_of_ble_eq_true rfl) dX8_merged_101 ⟨rfl, rfl, Nat.le_of_ble_eq_true rfl, Nat.le_of_ble_eq_true rfl, Nat.le_of_ble_eq_true rfl, Nat.le_of_ble_eq_true rfl⟩ (fun _ => rfl) (fun x17 ex17 => ?_)
        exact bd_xiret C hret rfl rfl dX8_merged_104 (Nat.le_of_ble_eq_true rfl) (Nat.le_of_ble_eq_true rfl)
      · refine bd_ite (fun c18 => ?_) (fun c18 => ?_)
        · refine bd_tableIn C (off := 41) 105 dX8_merged_64 (by rw [c18]; decide) (by rw [c18]; decide) (by rw [c18]; rfl) (by decide) ?_
          refine bd_aload_n C 0 dX8_merged_105 rfl rfl ?_
          refine bd_gR C fi807 fv807 wd_345 dX8_merged_106 ol0 (fun r19 gr19 hr19 => ?_)
          refine bd_iload_n C 2 dX8_merged_109 rfl rfl ?_
          refine bd_callV (vs := fun (r : Int32) => some (.int r)) (wf := fun _ => p11) (st := []) (st1 := fun x20 => Value.int x20 :: []) C [.int l2] (fun r9 e9 => mX4_end C.flag N hr19 e9) mwX4_end miX4_end wd_1106 hr19 (by decide) rfl rfl rfl (Nat.le_of_ble_eq_true rfl) dX8_merged_110 ⟨rfl, rfl, Nat.le_of_ble_eq_true rfl, Nat.le_of_ble_eq_true rfl, Nat.le_of_ble_eq_true rfl, Nat.le_of_ble_eq_true rfl⟩ (fun _ => rfl) (fun x20 ex20 => ?_)
          exact bd_xiret C hret rfl rfl dX8_merged_113 (Nat.le_of_ble_eq_true rfl) (Nat.le_of_ble_eq_true rfl)
        · refine bd_ite (fun c21 => ?_) (fun c21 => ?_)
          · refine bd_tableIn C (off := 50) 114 dX8_merged_64 (by rw [c21]; decide) (by rw [c21]; decide) (by rw [c21]; rfl) (by decide) ?_
            refine bd_aload_n C 0 dX8_merged_114 rfl rfl ?_
            refine bd_gR C fi807 fv807 wd_345 dX8_merged_115 ol0 (fun r22 gr22 hr22 => ?_)
            refine bd_iload_n C 2 dX8_merged_118 rfl rfl ?_
            refine bd_callV (vs := fun (r : Int32) => some (.int r)) (wf := fun _ => p11) (st := []) (st1 := fun x23 => Value.int x23 :: []) C [.int l2] (fun r9 e9 => mX4_source C.flag N hr22 e9) mwX4_source miX4_source wd_1107 hr22 (by decide) rfl rfl rfl (Nat.le_of_ble_eq_true rfl) dX8_merged_119 ⟨rfl, rfl, Nat.le_of_ble_eq_true rfl, Nat.le_of_ble_eq_true rfl, Nat.le_of_ble_eq_true rfl, Nat.le_of_ble_eq_true rfl⟩ (fun _ => rfl) (fun x23 ex23 => ?_)
            exact bd_xiret C hret rfl rfl dX8_merged_122 (Nat.le_of_ble_eq_true rfl) (Nat.le_of_ble_eq_true rfl)
          · refine bd_ite (fun c24 => ?_) (fun c24 => ?_)
            · refine bd_tableIn C (off := 59) 123 dX8_merged_64 (by rw [c24]; decide) (by rw [c24]; decide) (by rw [c24]; rfl) (by decide) ?_
              refine bd_aload_n C 0 dX8_merged_123 rfl rfl ?_
              refine bd_gR C fi807 fv807 wd_345 dX8_merged_124 ol0 (fun r25 gr25 hr25 => ?_)
              refine bd_iload_n C 2 dX8_merged_127 rfl rfl ?_
              refine bd_callV (vs := fun (r : Int64) => some (.long r)) (wf := fun _ => p11) (st := []) (st1 := fun x26 => Value.long x26 :: []) C [.int l2] (fun r9 e9 => mX4_label C.flag N hr25 e9) mwX4_label miX4_label wd_1108 hr25 (by decide) rfl rfl rfl (Nat.le_of_ble_eq_true rfl) dX8_merged_128 ⟨rfl, rfl, Nat.le_of_ble_eq_true rfl, Nat.le_of_ble_eq_true rfl, Nat.le_of_ble_eq_true rfl, Nat.le_of_ble_eq_true rfl⟩ (fun _ => rfl) (fun x26 ex26 => ?_)
              refine bd_callS (vs := fun (r : Int32) => some (.int r)) (wf := fun _ => p11) (st := []) (st1 := fun x27 => Value.int x27 :: []) C [.long x26] (fun r9 e9 => mX8_labelLength C.flag N e9) mwX8_labelLength miX8_labelLength wd_874 rfl rfl (Nat.le_of_ble_eq_true rfl) dX8_merged_131 ⟨rfl, rfl, Nat.le_of_ble_eq_true rfl, Nat.le_of_ble_eq_true rfl, Nat.le_of_ble_eq_true rfl, Nat.le_of_ble_eq_true rfl⟩ (fun _ => rfl) (fun x27 ex27 => ?_)
              exact bd_xiret C hret rfl rfl dX8_merged_134 (Nat.le_of_ble_eq_true rfl) (Nat.le_of_ble_eq_true rfl)
            · refine bd_tableOut C 135 dX8_merged_64 (tbl_out 4 _ (fun j hj => by match j, hj with | 0, _ => exact c15 | 1, _ => exact c18 | 2, _ => exact c21 | 3, _ => exact c24) (by decide)) (by decide) ?_
              exact bd_throw C hxt hcm (e := 0) rfl wd_564 wd_101 xa8_88 dX8_merged_135 dX8_merged_138 dX8_merged_139 dX8_merged_142 ⟨Nat.le_of_ble_eq_true rfl, Nat.le_of_ble_eq_true rfl, Nat.le_of_ble_eq_true rfl, Nat.le_of_ble_eq_true rfl⟩ ⟨Nat.le_of_ble_eq_true rfl, Nat.le_of_ble_eq_true rfl⟩ rfl
    · exact bd_throw C hxt hcm (e := 4) rfl wd_894 wd_106 xa8_223 dX8_merged_55 dX8_merged_58 dX8_merged_59 dX8_merged_62 ⟨Nat.le_of_ble_eq_true rfl, Nat.le_of_ble_eq_true rfl, Nat.le_of_ble_eq_true rfl, Nat.le_of_ble_eq_true rfl⟩ ⟨Nat.le_of_ble_eq_true rfl, Nat.le_of_ble_eq_true rfl⟩ rfl
  · exact bd_throw C hxt hcm (e := 1) rfl wd_589 wd_98 xa8_95 dX8_merged_11 dX8_merged_14 dX8_merged_15 dX8_merged_18 ⟨Nat.le_of_ble_eq_true rfl, Nat.le_of_ble_eq_true rfl, Nat.le_of_ble_eq_true rfl, Nat.le_of_ble_eq_true rfl⟩ ⟨Nat.le_of_ble_eq_true rfl, Nat.le_of_ble_eq_true rfl⟩ rfl
abbrev rmX8_frames : Room := { frames := 14, cells := 1, slots := 6, locals := 385 }
abbrev qX8_frames (G : Gy) (F : Fr) (g : Bd) (w : Wd) : ((Int32 × Wd) ⊕ (Nat × Wd)) → State → Prop := fun r => QX G F g 1 6 (vxint r)
set_option maxRecDepth 20000 in
set_option maxHeartbeats 4000000 in
theorem mX8_frames {l : Launch} (hf9 : l.stackTraces = false) {G : Gy} {F : Fr} (N : Nat) {w : Wd} {l0 : Nat} {l1 : Int32} {l2 : Int32} {r : (Int32 × Wd) ⊕ (Nat × Wd)} (ol0 : okF F l0 8) (hcm : F.2.2.2.2 = false) (e9 : fX8_frames F N w l0 l1 l2 = some r) : vx_Met l yX8_frames [.code yX8_frames cX8_frames 5 (some .int)] rmX8_frames (PcB G F w [.ref l0, .int l1, .int l2]) (QBx G F (vxint r)) (XBx G F (vxint r)) 1 6 (AF F) := by
  refine bd_vmet (vx := vxint) hf9 (by decide) (Nat.le_of_ble_eq_true rfl) e9 (fun g C hret hxt => ?_)
  clear e9 r
  unfold fX8_frames
  refine bd_sub (lv' := [(0, .ref l0), (1, .int l1), (2, .int l2)]) ?_ [0, 1, 2] rfl
  refine bd_aload_n C 0 dX8_frames_0 rfl rfl ?_
  refine bd_gR C fi800 fv800 wd_338 dX8_frames_1 ol0 (fun r1 gr1 hr1 => ?_)
  refine bd_iload_n C 1 dX8_frames_4 rfl rfl ?_
  refine bd_callV (vs := fun (r : Int32) => some (.int r)) (wf := fun _ => w) (st := []) (st1 := fun x2 => Value.int x2 :: []) C [.int l1] (fun r9 e9 => mX1_hasTier C.flag N hr1 e9) mwX1_hasTier miX1_hasTier wd_585 hr1 (by decide) rfl rfl rfl (Nat.le_of_ble_eq_true rfl) dX8_frames_5 ⟨rfl, rfl, Nat.le_of_ble_eq_true rfl, Nat.le_of_ble_eq_true rfl, Nat.le_of_ble_eq_true rfl, Nat.le_of_ble_eq_true rfl⟩ (fun _ => rfl) (fun x2 ex2 => ?_)
  refine bd_if_ne C 19 dX8_frames_8 (by decide) (fun c3 => ?_) (fun c3 => ?_)
  · refine bd_aload_n C 0 dX8_frames_19 rfl rfl ?_
    refine bd_gR C fi800 fv800 wd_338 dX8_frames_20 ol0 (fun r4 gr4 hr4 => ?_)
    refine bd_iconst C (v := 0) dX8_frames_23 (by decide) ?_
    refine bd_iload_n C 1 dX8_frames_24 rfl rfl ?_
    refine bd_callV (vs := fun (r : Nat) => some (.ref r)) (wf := fun _ => w) (st := []) (st1 := fun x5 => Value.ref x5 :: []) C [.int 0, .int l1] (fun r9 e9 => mX1_row C.flag N hr4 e9) mwX1_row miX1_row wd_394 hr4 (by decide) rfl rfl rfl (Nat.le_of_ble_eq_true rfl) dX8_frames_25 ⟨rfl, rfl, Nat.le_of_ble_eq_true rfl, Nat.le_of_ble_eq_true rfl, Nat.le_of_ble_eq_true rfl, Nat.le_of_ble_eq_true rfl⟩ (fun _ => rfl) (fun x5 ex5 => ?_)
    refine bd_ckF (fun h6 => ?_)
    refine bd_astore_n C [(3, .ref x5), (0, .ref l0), (1, .int l1), (2, .int l2)] dX8_frames_28 rfl (by decide) rfl ?_
    refine bd_aload_n C 1 dX8_frames_29 rfl rfl ?_
    refine bd_gR C fi800 fv800 wd_338 dX8_frames_30 ol0 (fun r7 gr7 hr7 => ?_)
    refine bd_iconst C (v := 1) dX8_frames_33 (by decide) ?_
    refine bd_iload_n C 2 dX8_frames_34 rfl rfl ?_
    refine bd_callV (vs := fun (r : Nat) => some (.ref r)) (wf := fun _ => w) (st := []) (st1 := fun x8 => Value.ref x8 :: []) C [.int 1, .int l1] (fun r9 e9 => mX1_row C.flag N hr7 e9) mwX1_row miX1_row wd_394 hr7 (by decide) rfl rfl rfl (Nat.le_of_ble_eq_true rfl) dX8_frames_35 ⟨rfl, rfl, Nat.le_of_ble_eq_true rfl, Nat.le_of_ble_eq_true rfl, Nat.le_of_ble_eq_true rfl, Nat.le_of_ble_eq_true rfl⟩ (fun _ => rfl) (fun x8 ex8 => ?_)
    refine bd_ckF (fun h9 => ?_)
    refine bd_astore C [(4, .ref x8), (3, .ref x5), (0, .ref l0), (1, .int l1), (2, .int l2)] dX8_frames_38 (by decide) rfl ?_
    refine bd_iload_n C 4 dX8_frames_40 rfl rfl ?_
    refine bd_ite (fun c10 => ?_) (fun c10 => ?_)
    · refine bd_tableIn C (off := 35) 76 dX8_frames_41 (by rw [c10]; decide) (by rw [c10]; decide) (by rw [c10]; rfl) (by decide) ?_
      refine bd_aload_n C 1 dX8_frames_76 rfl rfl ?_
      refine bd_callV (vs := fun (r : Int32) => some (.int r)) (wf := fun _ => w) (st := []) (st1 := fun x11 => Value.int x11 :: []) C [] (fun r9 e9 => mX7_frameSum C.flag N h6 e9) mwX7_frameSum miX7_frameSum wd_417 h6 (by decide) rfl rfl rfl (Nat.le_of_ble_eq_true rfl) dX8_frames_77 ⟨rfl, rfl, Nat.le_of_ble_eq_true rfl, Nat.le_of_ble_eq_true rfl, Nat.le_of_ble_eq_true rfl, Nat.le_of_ble_eq_true rfl⟩ (fun _ => rfl) (fun x11 ex11 => ?_)
      exact bd_xiret C hret rfl rfl dX8_frames_80 (Nat.le_of_ble_eq_true rfl) (Nat.le_of_ble_eq_true rfl)
    · refine bd_ite (fun c12 => ?_) (fun c12 => ?_)
      · refine bd_tableIn C (off := 40) 81 dX8_frames_41 (by rw [c12]; decide) (by rw [c12]; decide) (by rw [c12]; rfl) (by decide) ?_
        refine bd_aload C 0 dX8_frames_81 rfl ?_
        refine bd_callV (vs := fun (r : Int32) => some (.int r)) (wf := fun _ => w) (st := []) (st1 := fun x13 => Value.int x13 :: []) C [] (fun r9 e9 => mX7_frameSum C.flag N h9 e9) mwX7_frameSum miX7_frameSum wd_417 h9 (by decide) rfl rfl rfl (Nat.le_of_ble_eq_true rfl) dX8_frames_83 ⟨rfl, rfl, Nat.le_of_ble_eq_true rfl, Nat.le_of_ble_eq_true rfl, Nat.le_of_ble_eq_true rfl, Nat.le_of_ble_eq_true rfl⟩ (fun _ => rfl) (fun x13 ex13 => ?_)
        exact bd_xiret C hret rfl rfl dX8_frames_86 (Nat.le_of_ble_eq_true rfl) (Nat.le_of_ble_eq_true rfl)
      · refine bd_ite (fun c14 => ?_) (fun c14 => ?_)
        · refine bd_tableIn C (off := 46) 87 dX8_frames_41 (by rw [c14]; decide) (by rw [c14]; decide) (by rw [c14]; rfl) (by decide) ?_
          refine bd_aload_n C 1 dX8_frames_87 rfl rfl ?_
          refine bd_aload C 0 dX8_frames_88 rfl ?_
          refine bd_iconst C (v := 1) dX8_frames_90 (by decide) ?_
          refine bd_callV (vs := fun (r : Int32) => some (.int r)) (wf := fun _ => w) (st := []) (st1 := fun x15 => Value.int x15 :: []) C [.ref x8, .int 1] (fun r9 e9 => mX7_commonFrames C.flag N h6 h9 e9) mwX7_commonFrames miX7_commonFrames wd_1116 h6 (by decide) rfl rfl rfl (Nat.le_of_ble_eq_true rfl) dX8_frames_91 ⟨rfl, rfl, Nat.le_of_ble_eq_true rfl, Nat.le_of_ble_eq_true rfl, Nat.le_of_ble_eq_true rfl, Nat.le_of_ble_eq_true rfl⟩ (fun _ => rfl) (fun x15 ex15 => ?_)
          exact bd_xiret C hret rfl rfl dX8_frames_94 (Nat.le_of_ble_eq_true rfl) (Nat.le_of_ble_eq_true rfl)
        · refine bd_ite (fun c16 => ?_) (fun c16 => ?_)
          · refine bd_tableIn C (off := 54) 95 dX8_frames_41 (by rw [c16]; decide) (by rw [c16]; decide) (by rw [c16]; rfl) (by decide) ?_
            refine bd_aload_n C 1 dX8_frames_95 rfl rfl ?_
            refine bd_aload C 0 dX8_frames_96 rfl ?_
            refine bd_iconst C (v := 0) dX8_frames_98 (by decide) ?_
            refine bd_callV (vs := fun (r : Int32) => some (.int r)) (wf := fun _ => w) (st := []) (st1 := fun x17 => Value.int x17 :: []) C [.ref x8, .int 0] (fun r9 e9 => mX7_commonFrames C.flag N h6 h9 e9) mwX7_commonFrames miX7_commonFrames wd_1116 h6 (by decide) rfl rfl rfl (Nat.le_of_ble_eq_true rfl) dX8_frames_99 ⟨rfl, rfl, Nat.le_of_ble_eq_true rfl, Nat.le_of_ble_eq_true rfl, Nat.le_of_ble_eq_true rfl, Nat.le_of_ble_eq_true rfl⟩ (fun _ => rfl) (fun x17 ex17 => ?_)
            exact bd_xiret C hret rfl rfl dX8_frames_102 (Nat.le_of_ble_eq_true rfl) (Nat.le_of_ble_eq_true rfl)
          · refine bd_ite (fun c18 => ?_) (fun c18 => ?_)
            · refine bd_tableIn C (off := 62) 103 dX8_frames_41 (by rw [c18]; decide) (by rw [c18]; decide) (by rw [c18]; rfl) (by decide) ?_
              refine bd_aload_n C 1 dX8_frames_103 rfl rfl ?_
              refine bd_aload C 0 dX8_frames_104 rfl ?_
              refine bd_callV (vs := fun (r : Int32) => some (.int r)) (wf := fun _ => w) (st := []) (st1 := fun x19 => Value.int x19 :: []) C [.ref x8] (fun r9 e9 => mX7_framesWith C.flag N h6 h9 e9) mwX7_framesWith miX7_framesWith wd_1121 h6 (by decide) rfl rfl rfl (Nat.le_of_ble_eq_true rfl) dX8_frames_106 ⟨rfl, rfl, Nat.le_of_ble_eq_true rfl, Nat.le_of_ble_eq_true rfl, Nat.le_of_ble_eq_true rfl, Nat.le_of_ble_eq_true rfl⟩ (fun _ => rfl) (fun x19 ex19 => ?_)
              exact bd_xiret C hret rfl rfl dX8_frames_109 (Nat.le_of_ble_eq_true rfl) (Nat.le_of_ble_eq_true rfl)
            · refine bd_tableOut C 110 dX8_frames_41 (tbl_out 5 _ (fun j hj => by match j, hj with | 0, _ => exact c10 | 1, _ => exact c12 | 2, _ => exact c14 | 3, _ => exact c16 | 4, _ => exact c18) (by decide)) (by decide) ?_
              exact bd_throw C hxt hcm (e := 0) rfl wd_564 wd_101 xa8_88 dX8_frames_110 dX8_frames_113 dX8_frames_114 dX8_frames_117 ⟨Nat.le_of_ble_eq_true rfl, Nat.le_of_ble_eq_true rfl, Nat.le_of_ble_eq_true rfl, Nat.le_of_ble_eq_true rfl⟩ ⟨Nat.le_of_ble_eq_true rfl, Nat.le_of_ble_eq_true rfl⟩ rfl
  · exact bd_throw C hxt hcm (e := 1) rfl wd_589 wd_98 xa8_95 dX8_frames_11 dX8_frames_14 dX8_frames_15 dX8_frames_18 ⟨Nat.le_of_ble_eq_true rfl, Nat.le_of_ble_eq_true rfl, Nat.le_of_ble_eq_true rfl, Nat.le_of_ble_eq_true rfl⟩ ⟨Nat.le_of_ble_eq_true rfl, Nat.le_of_ble_eq_true rfl⟩ rfl
abbrev rmX8_agreement : Room := { frames := 14, cells := 1, slots := 6, locals := 385 }
abbrev qX8_agreement (G : Gy) (F : Fr) (g : Bd) (w : Wd) : ((UInt32 × Wd) ⊕ (Nat × Wd)) → State → Prop := fun r => QX G F g 1 6 (vxfloat r)
set_option maxRecDepth 20000 in
set_option maxHeartbeats 4000000 in
theorem mX8_agreement {l : Launch} (hf9 : l.stackTraces = false) {G : Gy} {F : Fr} (N : Nat) {w : Wd} {l0 : Nat} {l1 : Int32} {r : (UInt32 × Wd) ⊕ (Nat × Wd)} (ol0 : okF F l0 8) (hcm : F.2.2.2.2 = false) (e9 : fX8_agreement F N w l0 l1 = some r) : vx_Met l yX8_agreement [.code yX8_agreement cX8_agreement 5 (some .float)] rmX8_agreement (PcB G F w [.ref l0, .int l1]) (QBx G F (vxfloat r)) (XBx G F (vxfloat r)) 1 6 (AF F) := by
  refine bd_vmet (vx := vxfloat) hf9 (by decide) (Nat.le_of_ble_eq_true rfl) e9 (fun g C hret hxt => ?_)
  clear e9 r
  unfold fX8_agreement
  refine bd_sub (lv' := [(0, .ref l0), (1, .int l1)]) ?_ [0, 1] rfl
  refine bd_aload_n C 0 dX8_agreement_0 rfl rfl ?_
  refine bd_gR C fi800 fv800 wd_338 dX8_agreement_1 ol0 (fun r1 gr1 hr1 => ?_)
  refine bd_iload_n C 1 dX8_agreement_4 rfl rfl ?_
  refine bd_callV (vs := fun (r : Int32) => some (.int r)) (wf := fun _ => w) (st := []) (st1 := fun x2 => Value.int x2 :: []) C [.int l1] (fun r9 e9 => mX1_hasTier C.flag N hr1 e9) mwX1_hasTier miX1_hasTier wd_585 hr1 (by decide) rfl rfl rfl (Nat.le_of_ble_eq_true rfl) dX8_agreement_5 ⟨rfl, rfl, Nat.le_of_ble_eq_true rfl, Nat.le_of_ble_eq_true rfl, Nat.le_of_ble_eq_true rfl, Nat.le_of_ble_eq_true rfl⟩ (fun _ => rfl) (fun x2 ex2 => ?_)
  refine bd_if_ne C 19 dX8_agreement_8 (by decide) (fun c3 => ?_) (fun c3 => ?_)
  · refine bd_aload_n C 0 dX8_agreement_19 rfl rfl ?_
    refine bd_gR C fi800 fv800 wd_338 dX8_agreement_20 ol0 (fun r4 gr4 hr4 => ?_)
    refine bd_iconst C (v := 0) dX8_agreement_23 (by decide) ?_
    refine bd_iload_n C 1 dX8_agreement_24 rfl rfl ?_
    refine bd_callV (vs := fun (r : Nat) => some (.ref r)) (wf := fun _ => w) (st := []) (st1 := fun x5 => Value.ref x5 :: []) C [.int 0, .int l1] (fun r9 e9 => mX1_row C.flag N hr4 e9) mwX1_row miX1_row wd_394 hr4 (by decide) rfl rfl rfl (Nat.le_of_ble_eq_true rfl) dX8_agreement_25 ⟨rfl, rfl, Nat.le_of_ble_eq_true rfl, Nat.le_of_ble_eq_true rfl, Nat.le_of_ble_eq_true rfl, Nat.le_of_ble_eq_true rfl⟩ (fun _ => rfl) (fun x5 ex5 => ?_)
    refine bd_ckF (fun h6 => ?_)
    refine bd_astore_n C [(2, .ref x5), (0, .ref l0), (1, .int l1)] dX8_agreement_28 rfl (by decide) rfl ?_
    refine bd_aload_n C 1 dX8_agreement_29 rfl rfl ?_
    refine bd_gR C fi800 fv800 wd_338 dX8_agreement_30 ol0 (fun r7 gr7 hr7 => ?_)
    refine bd_iconst C (v := 1) dX8_agreement_33 (by decide) ?_
    refine bd_iload_n C 2 dX8_agreement_34 rfl rfl ?_
    refine bd_callV (vs := fun (r : Nat) => some (.ref r)) (wf := fun _ => w) (st := []) (st1 := fun x8 => Value.ref x8 :: []) C [.int 1, .int l1] (fun r9 e9 => mX1_row C.flag N hr7 e9) mwX1_row miX1_row wd_394 hr7 (by decide) rfl rfl rfl (Nat.le_of_ble_eq_true rfl) dX8_agreement_35 ⟨rfl, rfl, Nat.le_of_ble_eq_true rfl, Nat.le_of_ble_eq_true rfl, Nat.le_of_ble_eq_true rfl, Nat.le_of_ble_eq_true rfl⟩ (fun _ => rfl) (fun x8 ex8 => ?_)
    refine bd_ckF (fun h9 => ?_)
    refine bd_astore_n C [(3, .ref x8), (2, .ref x5), (0, .ref l0), (1, .int l1)] dX8_agreement_38 rfl (by decide) rfl ?_
    refine bd_aload_n C 1 dX8_agreement_39 rfl rfl ?_
    refine bd_aload_n C 0 dX8_agreement_40 rfl rfl ?_
    refine bd_callV (vs := fun (r : Int32) => some (.int r)) (wf := fun _ => w) (st := []) (st1 := fun x10 => Value.int x10 :: []) C [.ref x8] (fun r9 e9 => mX7_framesWith C.flag N h6 h9 e9) mwX7_framesWith miX7_framesWith wd_1121 h6 (by decide) rfl rfl rfl (Nat.le_of_ble_eq_true rfl) dX8_agreement_41 ⟨rfl, rfl, Nat.le_of_ble_eq_true rfl, Nat.le_of_ble_eq_true rfl, Nat.le_of_ble_eq_true rfl, Nat.le_of_ble_eq_true rfl⟩ (fun _ => rfl) (fun x10 ex10 => ?_)
    refine bd_istore C [(4, .int x10), (3, .ref x8), (2, .ref x5), (0, .ref l0), (1, .int l1)] dX8_agreement_44 (by decide) rfl ?_
    refine bd_iload C 0 dX8_agreement_46 rfl ?_
    refine bd_if_ne C 59 dX8_agreement_48 (by decide) (fun c11 => ?_) (fun c11 => ?_)
    · refine bd_aload_n C 2 dX8_agreement_59 rfl rfl ?_
      refine bd_aload_n C 1 dX8_agreement_60 rfl rfl ?_
      refine bd_iconst C (v := 1) dX8_agreement_61 (by decide) ?_
      refine bd_callV (vs := fun (r : Int32) => some (.int r)) (wf := fun _ => w) (st := []) (st1 := fun x12 => Value.int x12 :: []) C [.ref x8, .int 1] (fun r9 e9 => mX7_commonFrames C.flag N h6 h9 e9) mwX7_commonFrames miX7_commonFrames wd_1116 h6 (by decide) rfl rfl rfl (Nat.le_of_ble_eq_true rfl) dX8_agreement_62 ⟨rfl, rfl, Nat.le_of_ble_eq_true rfl, Nat.le_of_ble_eq_true rfl, Nat.le_of_ble_eq_true rfl, Nat.le_of_ble_eq_true rfl⟩ (fun _ => rfl) (fun x12 ex12 => ?_)
      refine bd_i2f C dX8_agreement_65 ?_
      refine bd_iload C 0 dX8_agreement_66 rfl ?_
      refine bd_i2f C dX8_agreement_68 ?_
      refine bd_fdiv C dX8_agreement_69 (fun v13 => ?_)
      exact bd_xfret C hret rfl rfl dX8_agreement_70 (Nat.le_of_ble_eq_true rfl) (Nat.le_of_ble_eq_true rfl)
    · exact bd_throw C hxt hcm (e := 5) rfl wd_1148 wd_107 xa8_301 dX8_agreement_51 dX8_agreement_54 dX8_agreement_55 dX8_agreement_58 ⟨Nat.le_of_ble_eq_true rfl, Nat.le_of_ble_eq_true rfl, Nat.le_of_ble_eq_true rfl, Nat.le_of_ble_eq_true rfl⟩ ⟨Nat.le_of_ble_eq_true rfl, Nat.le_of_ble_eq_true rfl⟩ rfl
  · exact bd_throw C hxt hcm (e := 1) rfl wd_589 wd_98 xa8_95 dX8_agreement_11 dX8_agreement_14 dX8_agreement_15 dX8_agreement_18 ⟨Nat.le_of_ble_eq_true rfl, Nat.le_of_ble_eq_true rfl, Nat.le_of_ble_eq_true rfl, Nat.le_of_ble_eq_true rfl⟩ ⟨Nat.le_of_ble_eq_true rfl, Nat.le_of_ble_eq_true rfl⟩ rfl
abbrev rmX8_kappa : Room := { frames := 14, cells := 1, slots := 6, locals := 385 }
abbrev qX8_kappa (G : Gy) (F : Fr) (g : Bd) (w : Wd) : ((UInt64 × Wd) ⊕ (Nat × Wd)) → State → Prop := fun r => QX G F g 1 6 (vxdouble r)
set_option maxRecDepth 20000 in
set_option maxHeartbeats 4000000 in
theorem mX8_kappa {l : Launch} (hf9 : l.stackTraces = false) {G : Gy} {F : Fr} (N : Nat) {w : Wd} {l0 : Nat} {l1 : Int32} {r : (UInt64 × Wd) ⊕ (Nat × Wd)} (ol0 : okF F l0 8) (hcm : F.2.2.2.2 = false) (e9 : fX8_kappa F N w l0 l1 = some r) : vx_Met l yX8_kappa [.code yX8_kappa cX8_kappa 10 (some .double)] rmX8_kappa (PcB G F w [.ref l0, .int l1]) (QBx G F (vxdouble r)) (XBx G F (vxdouble r)) 1 6 (AF F) := by
  refine bd_vmet (vx := vxdouble) hf9 (by decide) (Nat.le_of_ble_eq_true rfl) e9 (fun g C hret hxt => ?_)
  clear e9 r
  unfold fX8_kappa
  refine bd_sub (lv' := [(0, .ref l0), (1, .int l1)]) ?_ [0, 1] rfl
  refine bd_aload_n C 0 dX8_kappa_0 rfl rfl ?_
  refine bd_gR C fi800 fv800 wd_338 dX8_kappa_1 ol0 (fun r1 gr1 hr1 => ?_)
  refine bd_iload_n C 1 dX8_kappa_4 rfl rfl ?_
  refine bd_callV (vs := fun (r : Int32) => some (.int r)) (wf := fun _ => w) (st := []) (st1 := fun x2 => Value.int x2 :: []) C [.int l1] (fun r9 e9 => mX1_hasTier C.flag N hr1 e9) mwX1_hasTier miX1_hasTier wd_585 hr1 (by decide) rfl rfl rfl (Nat.le_of_ble_eq_true rfl) dX8_kappa_5 ⟨rfl, rfl, Nat.le_of_ble_eq_true rfl, Nat.le_of_ble_eq_true rfl, Nat.le_of_ble_eq_true rfl, Nat.le_of_ble_eq_true rfl⟩ (fun _ => rfl) (fun x2 ex2 => ?_)
  refine bd_if_ne C 19 dX8_kappa_8 (by decide) (fun c3 => ?_) (fun c3 => ?_)
  · refine bd_aload_n C 0 dX8_kappa_19 rfl rfl ?_
    refine bd_gR C fi800 fv800 wd_338 dX8_kappa_20 ol0 (fun r4 gr4 hr4 => ?_)
    refine bd_iconst C (v := 0) dX8_kappa_23 (by decide) ?_
    refine bd_iload_n C 1 dX8_kappa_24 rfl rfl ?_
    refine bd_callV (vs := fun (r : Nat) => some (.ref r)) (wf := fun _ => w) (st := []) (st1 := fun x5 => Value.ref x5 :: []) C [.int 0, .int l1] (fun r9 e9 => mX1_row C.flag N hr4 e9) mwX1_row miX1_row wd_394 hr4 (by decide) rfl rfl rfl (Nat.le_of_ble_eq_true rfl) dX8_kappa_25 ⟨rfl, rfl, Nat.le_of_ble_eq_true rfl, Nat.le_of_ble_eq_true rfl, Nat.le_of_ble_eq_true rfl, Nat.le_of_ble_eq_true rfl⟩ (fun _ => rfl) (fun x5 ex5 => ?_)
    refine bd_ckF (fun h6 => ?_)
    refine bd_astore_n C [(2, .ref x5), (0, .ref l0), (1, .int l1)] dX8_kappa_28 rfl (by decide) rfl ?_
    refine bd_aload_n C 1 dX8_kappa_29 rfl rfl ?_
    refine bd_gR C fi800 fv800 wd_338 dX8_kappa_30 ol0 (fun r7 gr7 hr7 => ?_)
    refine bd_iconst C (v := 1) dX8_kappa_33 (by decide) ?_
    refine bd_iload_n C 2 dX8_kappa_34 rfl rfl ?_
    refine bd_callV (vs := fun (r : Nat) => some (.ref r)) (wf := fun _ => w) (st := []) (st1 := fun x8 => Value.ref x8 :: []) C [.int 1, .int l1] (fun r9 e9 => mX1_row C.flag N hr7 e9) mwX1_row miX1_row wd_394 hr7 (by decide) rfl rfl rfl (Nat.le_of_ble_eq_true rfl) dX8_kappa_35 ⟨rfl, rfl, Nat.le_of_ble_eq_true rfl, Nat.le_of_ble_eq_true rfl, Nat.le_of_ble_eq_true rfl, Nat.le_of_ble_eq_true rfl⟩ (fun _ => rfl) (fun x8 ex8 => ?_)
    refine bd_ckF (fun h9 => ?_)
    refine bd_astore_n C [(3, .ref x8), (2, .ref x5), (0, .ref l0), (1, .int l1)] dX8_kappa_38 rfl (by decide) rfl ?_
    refine bd_aload_n C 1 dX8_kappa_39 rfl rfl ?_
    refine bd_aload_n C 0 dX8_kappa_40 rfl rfl ?_
    refine bd_iconst C (v := 1) dX8_kappa_41 (by decide) ?_
    refine bd_callV (vs := fun (r : Int32) => some (.int r)) (wf := fun _ => w) (st := []) (st1 := fun x10 => Value.int x10 :: []) C [.ref x8, .int 1] (fun r9 e9 => mX7_commonFrames C.flag N h6 h9 e9) mwX7_commonFrames miX7_commonFrames wd_1116 h6 (by decide) rfl rfl rfl (Nat.le_of_ble_eq_true rfl) dX8_kappa_42 ⟨rfl, rfl, Nat.le_of_ble_eq_true rfl, Nat.le_of_ble_eq_true rfl, Nat.le_of_ble_eq_true rfl, Nat.le_of_ble_eq_true rfl⟩ (fun _ => rfl) (fun x10 ex10 => ?_)
    refine bd_sipush C (v := 1000) dX8_kappa_45 (by decide) ?_
    refine bd_iadd C dX8_kappa_48 ?_
    refine bd_aload_n C 1 dX8_kappa_49 rfl rfl ?_
    refine bd_aload_n C 0 dX8_kappa_50 rfl rfl ?_
    refine bd_callV (vs := fun (r : Int32) => some (.int r)) (wf := fun _ => w) (st := [.int (x10 + 1000)]) (st1 := fun x11 => Value.int x11 :: [.int (x10 + 1000)]) C [.ref x8] (fun r9 e9 => mX7_framesWith C.flag N h6 h9 e9) mwX7_framesWith miX7_framesWith wd_1121 h6 (by decide) rfl rfl rfl (Nat.le_of_ble_eq_true rfl) dX8_kappa_51 ⟨rfl, rfl, Nat.le_of_ble_eq_true rfl, Nat.le_of_ble_eq_true rfl, Nat.le_of_ble_eq_true rfl, Nat.le_of_ble_eq_true rfl⟩ (fun _ => rfl) (fun x11 ex11 => ?_)
    refine bd_isub C dX8_kappa_54 ?_
    refine bd_bnd (tp := Value.int) (fun v12 ev12 => ?_)
    refine bd_istore C [(4, .int v12), (3, .ref x8), (2, .ref x5), (0, .ref l0), (1, .int l1)] dX8_kappa_55 (by decide) rfl ?_
    refine bd_aload_n C 2 dX8_kappa_57 rfl rfl ?_
    refine bd_aload_n C 1 dX8_kappa_58 rfl rfl ?_
    refine bd_callV (vs := fun (r : Int32) => some (.int r)) (wf := fun _ => w) (st := []) (st1 := fun x13 => Value.int x13 :: []) C [.ref x8] (fun r9 e9 => mX7_labelProducts C.flag N h6 h9 e9) mwX7_labelProducts miX7_labelProducts wd_1160 h6 (by decide) rfl rfl rfl (Nat.le_of_ble_eq_true rfl) dX8_kappa_59 ⟨rfl, rfl, Nat.le_of_ble_eq_true rfl, Nat.le_of_ble_eq_true rfl, Nat.le_of_ble_eq_true rfl, Nat.le_of_ble_eq_true rfl⟩ (fun _ => rfl) (fun x13 ex13 => ?_)
    refine bd_sipush C (v := 1000) dX8_kappa_62 (by decide) ?_
    refine bd_aload_n C 2 dX8_kappa_65 rfl rfl ?_
    refine bd_callV (vs := fun (r : Int32) => some (.int r)) (wf := fun _ => w) (st := [.int 1000, .int x13]) (st1 := fun x14 => Value.int x14 :: [.int 1000, .int x13]) C [] (fun r9 e9 => mX7_frameSum C.flag N h6 e9) mwX7_frameSum miX7_frameSum wd_417 h6 (by decide) rfl rfl rfl (Nat.le_of_ble_eq_true rfl) dX8_kappa_66 ⟨rfl, rfl, Nat.le_of_ble_eq_true rfl, Nat.le_of_ble_eq_true rfl, Nat.le_of_ble_eq_true rfl, Nat.le_of_ble_eq_true rfl⟩ (fun _ => rfl) (fun x14 ex14 => ?_)
    refine bd_isub C dX8_kappa_69 ?_
    refine bd_sipush C (v := 1000) dX8_kappa_70 (by decide) ?_
    refine bd_aload_n C 1 dX8_kappa_73 rfl rfl ?_
    refine bd_callV (vs := fun (r : Int32) => some (.int r)) (wf := fun _ => w) (st := [.int 1000, .int (1000 - x14), .int x13]) (st1 := fun x15 => Value.int x15 :: [.int 1000, .int (1000 - x14), .int x13]) C [] (fun r9 e9 => mX7_frameSum C.flag N h9 e9) mwX7_frameSum miX7_frameSum wd_417 h9 (by decide) rfl rfl rfl (Nat.le_of_ble_eq_true rfl) dX8_kappa_74 ⟨rfl, rfl, Nat.le_of_ble_eq_true rfl, Nat.le_of_ble_eq_true rfl, Nat.le_of_ble_eq_true rfl, Nat.le_of_ble_eq_true rfl⟩ (fun _ => rfl) (fun x15 ex15 => ?_)
    refine bd_isub C dX8_kappa_77 ?_
    refine bd_imul C dX8_kappa_78 ?_
    refine bd_iadd C dX8_kappa_79 ?_
    refine bd_bnd (tp := Value.int) (fun v16 ev16 => ?_)
    refine bd_istore C [(5, .int v16), (4, .int v12), (3, .ref x8), (2, .ref x5), (0, .ref l0), (1, .int l1)] dX8_kappa_80 (by decide) rfl ?_
    refine bd_iload C 1 dX8_kappa_82 rfl ?_
    refine bd_i2d C dX8_kappa_84 ?_
    refine bd_ldc2d C (v := 4652007308841189376) wd_1164 dX8_kappa_85 ?_
    refine bd_ddiv C dX8_kappa_88 (fun v17 => ?_)
    refine bd_dstore C [(6, .double v17), (5, .int v16), (4, .int v12), (3, .ref x8), (2, .ref x5), (0, .ref l0), (1, .int l1)] dX8_kappa_89 (by decide) rfl ?_
    refine bd_iload C 1 dX8_kappa_91 rfl ?_
    refine bd_i2d C dX8_kappa_93 ?_
    refine bd_ldc2d C (v := 4696837146684686336) wd_1165 dX8_kappa_94 ?_
    refine bd_ddiv C dX8_kappa_97 (fun v18 => ?_)
    refine bd_dstore C [(8, .double v18), (6, .double v17), (5, .int v16), (4, .int v12), (3, .ref x8), (2, .ref x5), (0, .ref l0), (1, .int l1)] dX8_kappa_98 (by decide) rfl ?_
    refine bd_dload C 0 dX8_kappa_100 rfl ?_
    refine bd_dconst1 C dX8_kappa_102 ?_
    refine bd_dcmp C dX8_kappa_103 ?_
    refine bd_if_ne C 115 dX8_kappa_104 (by decide) (fun c19 => ?_) (fun c19 => ?_)
    · refine bd_dload C 1 dX8_kappa_115 rfl ?_
      refine bd_dload C 0 dX8_kappa_117 rfl ?_
      refine bd_dsub C dX8_kappa_119 (fun v20 => ?_)
      refine bd_dconst1 C dX8_kappa_120 ?_
      refine bd_dload C 0 dX8_kappa_121 rfl ?_
      refine bd_dsub C dX8_kappa_123 (fun v21 => ?_)
      refine bd_ddiv C dX8_kappa_124 (fun v22 => ?_)
      exact bd_xdret C hret rfl rfl dX8_kappa_125 (Nat.le_of_ble_eq_true rfl) (Nat.le_of_ble_eq_true rfl)
    · exact bd_throw C hxt hcm (e := 5) rfl wd_1148 wd_107 xa8_301 dX8_kappa_107 dX8_kappa_110 dX8_kappa_111 dX8_kappa_114 ⟨Nat.le_of_ble_eq_true rfl, Nat.le_of_ble_eq_true rfl, Nat.le_of_ble_eq_true rfl, Nat.le_of_ble_eq_true rfl⟩ ⟨Nat.le_of_ble_eq_true rfl, Nat.le_of_ble_eq_true rfl⟩ rfl
  · exact bd_throw C hxt hcm (e := 1) rfl wd_589 wd_98 xa8_95 dX8_kappa_11 dX8_kappa_14 dX8_kappa_15 dX8_kappa_18 ⟨Nat.le_of_ble_eq_true rfl, Nat.le_of_ble_eq_true rfl, Nat.le_of_ble_eq_true rfl, Nat.le_of_ble_eq_true rfl⟩ ⟨Nat.le_of_ble_eq_true rfl, Nat.le_of_ble_eq_true rfl⟩ rfl
abbrev rmX8_isConsistent : Room := { frames := 14, cells := 0, slots := 0, locals := 398 }
abbrev qX8_isConsistent (G : Gy) (F : Fr) (g : Bd) (w : Wd) : Int32 → State → Prop := fun r => QM G F g 0 0 ((fun (r : Int32) => some (.int r)) r) ((fun _ => w) r)
set_option maxRecDepth 20000 in
set_option maxHeartbeats 4000000 in
theorem mX8_isConsistent {l : Launch} (hf9 : l.stackTraces = false) {G : Gy} {F : Fr} (N : Nat) {w : Wd} {l0 : Nat} {r : Int32} (ol0 : okF F l0 8) (e9 : fX8_isConsistent F N w l0 = some r) : Met l yX8_isConsistent [.code yX8_isConsistent cX8_isConsistent 4 (some .boolean)] rmX8_isConsistent (PcB G F w [.ref l0]) (QB G F ((fun (r : Int32) => some (.int r)) r) ((fun _ => w) r)) 0 0 (AF F) := by
  refine bd_met (vs := fun (r : Int32) => some (.int r)) (wf := fun _ => w) hf9 (by decide) (Nat.le_of_ble_eq_true rfl) e9 (fun g C hret hini => ?_)
  clear e9 r
  have hb9 : ∀ (k2 : Nat → Int32 → Option (Int32)), (∀ (l0 : Nat) (l1 : Int32) (ol0 : okF F l0 8), BD g G F 4 (qX8_isConsistent G F g w) 0 0 (k2 l0 l1) w 2 [(0, .ref l0), (1, .int l1)] []) → ∀ (n : Nat) (l0 : Nat) (l1 : Int32) (l2 : Int32) (ol0 : okF F l0 8), BD g G F 4 (qX8_isConsistent G F g w) 0 0 (fX8_isConsistent_9 F N w k2 n l0 l1 l2) w 9 [(0, .ref l0), (1, .int l1), (2, .int l2)] [] := by
    intro k2 hk2
    intro n
    induction n with
    | zero =>
      intro l0 l1 l2 ol0
      unfold fX8_isConsistent_9
      exact bd_none
    | succ n ih =>
      intro l0 l1 l2 ol0
      unfold fX8_isConsistent_9
      refine bd_iload_n C 2 dX8_isConsistent_9 rfl rfl ?_
      refine bd_aload_n C 0 dX8_isConsistent_10 rfl rfl ?_
      refine bd_gR C fi800 fv800 wd_338 dX8_isConsistent_11 ol0 (fun r2 gr2 hr2 => ?_)
      refine bd_gIN C fi105 fv105 wd_155 dX8_isConsistent_14 hr2 ?_
      refine bd_icmp_ge C 68 dX8_isConsistent_17 (by decide) (fun c3 => ?_) (fun c3 => ?_)
      · refine bd_iinc C (v := l1 + 1) 1 [(1, .int (l1 + 1)), (0, .ref l0), (2, .int l2)] dX8_isConsistent_68 rfl rfl (by decide) rfl ?_
        refine bd_goto C 2 dX8_isConsistent_71 (by decide) ?_
        exact bd_sub (hk2 l0 (l1 + 1) ol0) [1, 0] rfl
      · refine bd_aload_n C 0 dX8_isConsistent_20 rfl rfl ?_
        refine bd_gR C fi800 fv800 wd_338 dX8_isConsistent_21 ol0 (fun r4 gr4 hr4 => ?_)
        refine bd_iload_n C 1 dX8_isConsistent_24 rfl rfl ?_
        refine bd_iload_n C 2 dX8_isConsistent_25 rfl rfl ?_
        refine bd_callV (vs := fun (r : Nat) => some (.ref r)) (wf := fun _ => w) (st := []) (st1 := fun x5 => Value.ref x5 :: []) C [.int l1, .int l2] (fun r9 e9 => mX1_row C.flag N hr4 e9) mwX1_row miX1_row wd_394 hr4 (by decide) rfl rfl rfl (Nat.le_of_ble_eq_true rfl) dX8_isConsistent_26 ⟨rfl, rfl, Nat.le_of_ble_eq_true rfl, Nat.le_of_ble_eq_true rfl, Nat.le_of_ble_eq_true rfl, Nat.le_of_ble_eq_true rfl⟩ (fun _ => rfl) (fun x5 ex5 => ?_)
        refine bd_ckF (fun h6 => ?_)
        refine bd_astore_n C [(3, .ref x5), (0, .ref l0), (1, .int l1), (2, .int l2)] dX8_isConsistent_29 rfl (by decide) rfl ?_
        refine bd_aload_n C 0 dX8_isConsistent_30 rfl rfl ?_
        refine bd_callV (vs := fun (r : Int32) => some (.int r)) (wf := fun _ => w) (st := []) (st1 := fun x7 => Value.int x7 :: []) C [] (fun r9 e9 => mX7_isInOrder C.flag N h6 e9) mwX7_isInOrder miX7_isInOrder wd_398 h6 (by decide) rfl rfl rfl (Nat.le_of_ble_eq_true rfl) dX8_isConsistent_31 ⟨rfl, rfl, Nat.le_of_ble_eq_true rfl, Nat.le_of_ble_eq_true rfl, Nat.le_of_ble_eq_true rfl, Nat.le_of_ble_eq_true rfl⟩ (fun _ => rfl) (fun x7 ex7 => ?_)
        refine bd_if_eq C 60 dX8_isConsistent_34 (by decide) (fun c8 => ?_) (fun c8 => ?_)
        · refine bd_iconst C (v := 0) dX8_isConsistent_60 (by decide) ?_
          exact bd_zret C hret rfl _ _ rfl rfl rfl dX8_isConsistent_61 (Nat.le_refl _) (Nat.le_refl _)
        · refine bd_aload_n C 0 dX8_isConsistent_37 rfl rfl ?_
          refine bd_callV (vs := fun (r : Int32) => some (.int r)) (wf := fun _ => w) (st := []) (st1 := fun x9 => Value.int x9 :: []) C [] (fun r9 e9 => mX7_coveredFrames C.flag N h6 e9) mwX7_coveredFrames miX7_coveredFrames wd_410 h6 (by decide) rfl rfl rfl (Nat.le_of_ble_eq_true rfl) dX8_isConsistent_38 ⟨rfl, rfl, Nat.le_of_ble_eq_true rfl, Nat.le_of_ble_eq_true rfl, Nat.le_of_ble_eq_true rfl, Nat.le_of_ble_eq_true rfl⟩ (fun _ => rfl) (fun x9 ex9 => ?_)
          refine bd_aload_n C 0 dX8_isConsistent_41 rfl rfl ?_
          refine bd_callV (vs := fun (r : Int32) => some (.int r)) (wf := fun _ => w) (st := [.int x9]) (st1 := fun x10 => Value.int x10 :: [.int x9]) C [] (fun r9 e9 => mX7_frameSum C.flag N h6 e9) mwX7_frameSum miX7_frameSum wd_417 h6 (by decide) rfl rfl rfl (Nat.le_of_ble_eq_true rfl) dX8_isConsistent_42 ⟨rfl, rfl, Nat.le_of_ble_eq_true rfl, Nat.le_of_ble_eq_true rfl, Nat.le_of_ble_eq_true rfl, Nat.le_of_ble_eq_true rfl⟩ (fun _ => rfl) (fun x10 ex10 => ?_)
          refine bd_icmp_ne C 60 dX8_isConsistent_45 (by decide) (fun c11 => ?_) (fun c11 => ?_)
          · refine bd_iconst C (v := 0) dX8_isConsistent_60 (by decide) ?_
            exact bd_zret C hret rfl _ _ rfl rfl rfl dX8_isConsistent_61 (Nat.le_refl _) (Nat.le_refl _)
          · refine bd_aload_n C 1 dX8_isConsistent_48 rfl rfl ?_
            refine bd_gR C fi800 fv800 wd_338 dX8_isConsistent_49 ol0 (fun r12 gr12 hr12 => ?_)
            refine bd_iload_n C 2 dX8_isConsistent_52 rfl rfl ?_
            refine bd_iload_n C 3 dX8_isConsistent_53 rfl rfl ?_
            refine bd_callV (vs := fun (r : Int32) => some (.int r)) (wf := fun _ => w) (st := []) (st1 := fun x13 => Value.int x13 :: []) C [.int l1, .int l2] (fun r9 e9 => mX1_hasOrphan C.flag N hr12 e9) mwX1_hasOrphan miX1_hasOrphan wd_425 hr12 (by decide) rfl rfl rfl (Nat.le_of_ble_eq_true rfl) dX8_isConsistent_54 ⟨rfl, rfl, Nat.le_of_ble_eq_true rfl, Nat.le_of_ble_eq_true rfl, Nat.le_of_ble_eq_true rfl, Nat.le_of_ble_eq_true rfl⟩ (fun _ => rfl) (fun x13 ex13 => ?_)
            refine bd_if_eq C 62 dX8_isConsistent_57 (by decide) (fun c14 => ?_) (fun c14 => ?_)
            · refine bd_iinc C (v := l2 + 1) 3 [(2, .int (l2 + 1)), (3, .ref x5), (0, .ref l0), (1, .int l1)] dX8_isConsistent_62 rfl rfl (by decide) rfl ?_
              refine bd_goto C 9 dX8_isConsistent_65 (by decide) ?_
              exact bd_sub (ih l0 l1 (l2 + 1) ol0) [2, 3, 0] rfl
            · refine bd_iconst C (v := 0) dX8_isConsistent_60 (by decide) ?_
              exact bd_zret C hret rfl _ _ rfl rfl rfl dX8_isConsistent_61 (Nat.le_refl _) (Nat.le_refl _)
  have hb2 : ∀ (n : Nat) (l0 : Nat) (l1 : Int32) (ol0 : okF F l0 8), BD g G F 4 (qX8_isConsistent G F g w) 0 0 (fX8_isConsistent_2 F N w n l0 l1) w 2 [(0, .ref l0), (1, .int l1)] [] := by
    intro n
    induction n with
    | zero =>
      intro l0 l1 ol0
      unfold fX8_isConsistent_2
      exact bd_none
    | succ n ih =>
      intro l0 l1 ol0
      unfold fX8_isConsistent_2
      refine bd_iload_n C 1 dX8_isConsistent_2 rfl rfl ?_
      refine bd_iconst C (v := 2) dX8_isConsistent_3 (by decide) ?_
      refine bd_icmp_ge C 74 dX8_isConsistent_4 (by decide) (fun c1 => ?_) (fun c1 => ?_)
      · refine bd_iconst C (v := 1) dX8_isConsistent_74 (by decide) ?_
        exact bd_zret C hret rfl _ _ rfl rfl rfl dX8_isConsistent_75 (Nat.le_refl _) (Nat.le_refl _)
      · refine bd_iconst C (v := 0) dX8_isConsistent_7 (by decide) ?_
        refine bd_istore_n C [(2, .int 0), (0, .ref l0), (1, .int l1)] dX8_isConsistent_8 rfl (by decide) rfl ?_
        exact bd_sub (hb9 _ ih N l0 l1 0 ol0) [1, 2, 0] rfl
  unfold fX8_isConsistent
  refine bd_sub (lv' := [(0, .ref l0)]) ?_ [0] rfl
  refine bd_iconst C (v := 0) dX8_isConsistent_0 (by decide) ?_
  refine bd_istore_n C [(1, .int 0), (0, .ref l0)] dX8_isConsistent_1 rfl (by decide) rfl ?_
  exact bd_sub (hb2 N l0 0 ol0) [1, 0] rfl
abbrev rmX8_addItems : Room := { frames := 15, cells := 0, slots := 0, locals := 427 }
abbrev qX8_addItems (G : Gy) (F : Fr) (g : Bd) : (Int32 × Wd) → State → Prop := fun r => QM G F g 0 0 ((fun (r : Int32 × Wd) => some (.int r.1)) r) ((fun (r : Int32 × Wd) => r.2) r)
set_option maxRecDepth 20000 in
set_option maxHeartbeats 4000000 in
theorem mX8_addItems {l : Launch} (hf9 : l.stackTraces = false) {G : Gy} {F : Fr} (N : Nat) {w : Wd} {l0 : Nat} {l1 : Int32} {r : Int32 × Wd} (ol0 : okF F l0 8) (e9 : fX8_addItems F N w l0 l1 = some r) : Met l yX8_addItems [.code yX8_addItems cX8_addItems 3 (some .int)] rmX8_addItems (PcB G F w [.ref l0, .int l1]) (QB G F ((fun (r : Int32 × Wd) => some (.int r.1)) r) ((fun (r : Int32 × Wd) => r.2) r)) 0 0 (AF F) := by
  refine bd_met (vs := fun (r : Int32 × Wd) => some (.int r.1)) (wf := fun (r : Int32 × Wd) => r.2) hf9 (by decide) (Nat.le_of_ble_eq_true rfl) e9 (fun g C hret hini => ?_)
  clear e9 r
  have hb9 : ∀ (n : Nat) (w : Wd) (l0 : Nat) (l1 : Int32) (l2 : Int32) (ol0 : okF F l0 8), BD g G F 3 (qX8_addItems G F g) 0 0 (fX8_addItems_9 F N n w l0 l1 l2) w 9 [(0, .ref l0), (1, .int l1), (2, .int l2)] [] := by
    intro n
    induction n with
    | zero =>
      intro w l0 l1 l2 ol0
      unfold fX8_addItems_9
      exact bd_none
    | succ n ih =>
      intro w l0 l1 l2 ol0
      unfold fX8_addItems_9
      refine bd_iload_n C 2 dX8_addItems_9 rfl rfl ?_
      refine bd_iload_n C 1 dX8_addItems_10 rfl rfl ?_
      refine bd_icmp_ge C 86 dX8_addItems_11 (by decide) (fun c1 => ?_) (fun c1 => ?_)
      · refine bd_iload_n C 1 dX8_addItems_86 rfl rfl ?_
        exact bd_iret C hret rfl _ _ rfl rfl dX8_addItems_87 (Nat.le_refl _) (Nat.le_refl _)
      · refine bd_aload_n C 0 dX8_addItems_14 rfl rfl ?_
        refine bd_gR C fi804 fv804 wd_342 dX8_addItems_15 ol0 (fun r2 gr2 hr2 => ?_)
        refine bd_aload_n C 0 dX8_addItems_18 rfl rfl ?_
        refine bd_gR C fi801 fv801 wd_339 dX8_addItems_19 ol0 (fun r3 gr3 hr3 => ?_)
        refine bd_callV (vs := fun (r : Int32 × Wd) => some (.int r.1)) (wf := fun (r : Int32 × Wd) => r.2) (st := []) (st1 := fun p4 => Value.int p4.1 :: []) C [.ref r3] (fun r9 e9 => mX3_readItem C.flag N hr2 hr3 e9) mwX3_readItem miX3_readItem wd_1195 hr2 (by decide) rfl rfl rfl (Nat.le_of_ble_eq_true rfl) dX8_addItems_22 ⟨rfl, rfl, Nat.le_of_ble_eq_true rfl, Nat.le_of_ble_eq_true rfl, Nat.le_of_ble_eq_true rfl, Nat.le_of_ble_eq_true rfl⟩ (fun _ => rfl) (fun p4 ep4 => ?_)
        refine bd_pop C dX8_addItems_25 rfl ?_
        refine bd_aload_n C 0 dX8_addItems_26 rfl rfl ?_
        refine bd_gR C fi801 fv801 wd_339 dX8_addItems_27 ol0 (fun r5 gr5 hr5 => ?_)
        refine bd_aload_n C 0 dX8_addItems_30 rfl rfl ?_
        refine bd_gR C fi804 fv804 wd_342 dX8_addItems_31 ol0 (fun r6 gr6 hr6 => ?_)
        refine bd_gIN C fi303 fv303 wd_216 dX8_addItems_34 hr6 ?_
        refine bd_aload_n C 0 dX8_addItems_37 rfl rfl ?_
        refine bd_gR C fi804 fv804 wd_342 dX8_addItems_38 ol0 (fun r7 gr7 hr7 => ?_)
        refine bd_gIN C fi304 fv304 wd_218 dX8_addItems_41 hr7 ?_
        refine bd_aload_n C 0 dX8_addItems_44 rfl rfl ?_
        refine bd_gR C fi804 fv804 wd_342 dX8_addItems_45 ol0 (fun r8 gr8 hr8 => ?_)
        refine bd_gIN C fi305 fv305 wd_220 dX8_addItems_48 hr8 ?_
        refine bd_aload_n C 0 dX8_addItems_51 rfl rfl ?_
        refine bd_gR C fi804 fv804 wd_342 dX8_addItems_52 ol0 (fun r9 gr9 hr9 => ?_)
        refine bd_gJN C fi306 fv306 wd_222 dX8_addItems_55 hr9 ?_
        refine bd_aload_n C 0 dX8_addItems_58 rfl rfl ?_
        refine bd_gR C fi805 fv805 wd_343 dX8_addItems_59 ol0 (fun r10 gr10 hr10 => ?_)
        refine bd_callV (vs := fun (r : Int32 × Wd) => some (.int r.1)) (wf := fun (r : Int32 × Wd) => r.2) (st := []) (st1 := fun p11 => Value.int p11.1 :: []) C [.int (gI p4.2 303 r6), .int (gI p4.2 304 r7), .int (gI p4.2 305 r8), .long (gJ p4.2 306 r9), .ref r10] (fun r9 e9 => mX1_insertSpan C.flag N hr5 hr10 e9) mwX1_insertSpan miX1_insertSpan wd_740 hr5 (by decide) rfl rfl rfl (Nat.le_of_ble_eq_true rfl) dX8_addItems_62 ⟨rfl, rfl, Nat.le_of_ble_eq_true rfl, Nat.le_of_ble_eq_true rfl, Nat.le_of_ble_eq_true rfl, Nat.le_of_ble_eq_true rfl⟩ (fun _ => rfl) (fun p11 ep11 => ?_)
        refine bd_if_ge C 70 dX8_addItems_65 (by decide) (fun c12 => ?_) (fun c12 => ?_)
        · refine bd_aload_n C 0 dX8_addItems_70 rfl rfl ?_
          refine bd_gR C fi804 fv804 wd_342 dX8_addItems_71 ol0 (fun r13 gr13 hr13 => ?_)
          refine bd_bipush C (v := 59) dX8_addItems_74 (by decide) ?_
          refine bd_callV (vs := fun (r : Int32 × Wd) => some (.int r.1)) (wf := fun (r : Int32 × Wd) => r.2) (st := []) (st1 := fun p14 => Value.int p14.1 :: []) C [.int 59] (fun r9 e9 => mX3_take C.flag N hr13 e9) mwX3_take miX3_take wd_1196 hr13 (by decide) rfl rfl rfl (Nat.le_of_ble_eq_true rfl) dX8_addItems_76 ⟨rfl, rfl, Nat.le_of_ble_eq_true rfl, Nat.le_of_ble_eq_true rfl, Nat.le_of_ble_eq_true rfl, Nat.le_of_ble_eq_true rfl⟩ (fun _ => rfl) (fun p14 ep14 => ?_)
          refine bd_pop C dX8_addItems_79 rfl ?_
          refine bd_iinc C (v := l2 + 1) 2 [(2, .int (l2 + 1)), (0, .ref l0), (1, .int l1)] dX8_addItems_80 rfl rfl (by decide) rfl ?_
          refine bd_goto C 9 dX8_addItems_83 (by decide) ?_
          exact bd_sub (ih p14.2 l0 l1 (l2 + 1) ol0) [1, 2, 0] rfl
        · refine bd_iload_n C 2 dX8_addItems_68 rfl rfl ?_
          exact bd_iret C hret rfl _ _ rfl rfl dX8_addItems_69 (Nat.le_refl _) (Nat.le_refl _)
  unfold fX8_addItems
  refine bd_sub (lv' := [(0, .ref l0), (1, .int l1)]) ?_ [0, 1] rfl
  refine bd_aload_n C 0 dX8_addItems_0 rfl rfl ?_
  refine bd_gR C fi804 fv804 wd_342 dX8_addItems_1 ol0 (fun r15 gr15 hr15 => ?_)
  refine bd_callV (vs := fun _ => none) (wf := fun (r : Wd) => r) (st := []) (st1 := fun p16 => []) C [] (fun r9 e9 => mX3_restart C.flag N hr15 e9) mwX3_restart miX3_restart wd_709 hr15 (by decide) rfl rfl rfl (Nat.le_of_ble_eq_true rfl) dX8_addItems_4 ⟨rfl, rfl, Nat.le_of_ble_eq_true rfl, Nat.le_of_ble_eq_true rfl, Nat.le_of_ble_eq_true rfl, Nat.le_of_ble_eq_true rfl⟩ (fun _ => rfl) (fun p16 ep16 => ?_)
  refine bd_iconst C (v := 0) dX8_addItems_7 (by decide) ?_
  refine bd_istore_n C [(2, .int 0), (0, .ref l0), (1, .int l1)] dX8_addItems_8 rfl (by decide) rfl ?_
  exact bd_sub (hb9 N p16 l0 l1 0 ol0) [1, 2, 0] rfl
abbrev rmX8_read : Room := { frames := 16, cells := 1, slots := 6, locals := 449 }
abbrev qX8_read (G : Gy) (F : Fr) (g : Bd) : ((Int32 × Wd) ⊕ (Nat × Wd)) → State → Prop := fun r => QX G F g 1 6 (vxint r)
set_option maxRecDepth 20000 in
set_option maxHeartbeats 4000000 in
theorem mX8_read {l : Launch} (hf9 : l.stackTraces = false) {G : Gy} {F : Fr} (N : Nat) {w : Wd} {l0 : Nat} {r : (Int32 × Wd) ⊕ (Nat × Wd)} (ol0 : okF F l0 8) (hcm : F.2.2.2.2 = false) (e9 : fX8_read F N w l0 = some r) : vx_Met l yX8_read [.code yX8_read cX8_read 3 (some .int)] rmX8_read (PcB G F w [.ref l0]) (QBx G F (vxint r)) (XBx G F (vxint r)) 1 6 (AF F) := by
  refine bd_vmet (vx := vxint) hf9 (by decide) (Nat.le_of_ble_eq_true rfl) e9 (fun g C hret hxt => ?_)
  clear e9 r
  unfold fX8_read
  refine bd_sub (lv' := [(0, .ref l0)]) ?_ [0] rfl
  refine bd_aload_n C 0 dX8_read_0 rfl rfl ?_
  refine bd_gR C fi804 fv804 wd_342 dX8_read_1 ol0 (fun r1 gr1 hr1 => ?_)
  refine bd_aload_n C 0 dX8_read_4 rfl rfl ?_
  refine bd_gR C fi800 fv800 wd_338 dX8_read_5 ol0 (fun r2 gr2 hr2 => ?_)
  refine bd_callV (vs := fun (r : Int32 × Wd) => some (.int r.1)) (wf := fun (r : Int32 × Wd) => r.2) (st := []) (st1 := fun p3 => Value.int p3.1 :: []) C [.ref r2] (fun r9 e9 => mX3_countItems C.flag N hr1 hr2 e9) mwX3_countItems miX3_countItems wd_1173 hr1 (by decide) rfl rfl rfl (Nat.le_of_ble_eq_true rfl) dX8_read_8 ⟨rfl, rfl, Nat.le_of_ble_eq_true rfl, Nat.le_of_ble_eq_true rfl, Nat.le_of_ble_eq_true rfl, Nat.le_of_ble_eq_true rfl⟩ (fun _ => rfl) (fun p3 ep3 => ?_)
  refine bd_istore_n C [(1, .int p3.1), (0, .ref l0)] dX8_read_11 rfl (by decide) rfl ?_
  refine bd_iload_n C 0 dX8_read_12 rfl rfl ?_
  refine bd_if_ne C 42 dX8_read_13 (by decide) (fun c4 => ?_) (fun c4 => ?_)
  · refine bd_aload_n C 1 dX8_read_42 rfl rfl ?_
    refine bd_gR C fi801 fv801 wd_339 dX8_read_43 ol0 (fun r5 gr5 hr5 => ?_)
    refine bd_aload_n C 1 dX8_read_46 rfl rfl ?_
    refine bd_gR C fi800 fv800 wd_338 dX8_read_47 ol0 (fun r6 gr6 hr6 => ?_)
    refine bd_callV (vs := fun _ => none) (wf := fun (r : Wd) => r) (st := []) (st1 := fun p7 => []) C [.ref r6] (fun r9 e9 => mX1_copyFrom C.flag N hr5 hr6 e9) mwX1_copyFrom miX1_copyFrom wd_456 hr5 (by decide) rfl rfl rfl (Nat.le_of_ble_eq_true rfl) dX8_read_50 ⟨rfl, rfl, Nat.le_of_ble_eq_true rfl, Nat.le_of_ble_eq_true rfl, Nat.le_of_ble_eq_true rfl, Nat.le_of_ble_eq_true rfl⟩ (fun _ => rfl) (fun p7 ep7 => ?_)
    refine bd_aload_n C 1 dX8_read_53 rfl rfl ?_
    refine bd_iload_n C 0 dX8_read_54 rfl rfl ?_
    refine bd_callV (vs := fun (r : Int32 × Wd) => some (.int r.1)) (wf := fun (r : Int32 × Wd) => r.2) (st := []) (st1 := fun p8 => Value.int p8.1 :: []) C [.int p3.1] (fun r9 e9 => mX8_addItems C.flag N ol0 e9) mwX8_addItems miX8_addItems wd_1191 ol0 (by decide) rfl rfl rfl (Nat.le_of_ble_eq_true rfl) dX8_read_55 ⟨rfl, rfl, Nat.le_of_ble_eq_true rfl, Nat.le_of_ble_eq_true rfl, Nat.le_of_ble_eq_true rfl, Nat.le_of_ble_eq_true rfl⟩ (fun _ => rfl) (fun p8 ep8 => ?_)
    refine bd_istore_n C [(2, .int p8.1), (1, .int p3.1), (0, .ref l0)] dX8_read_58 rfl (by decide) rfl ?_
    refine bd_aload_n C 2 dX8_read_59 rfl rfl ?_
    refine bd_gR C fi804 fv804 wd_342 dX8_read_60 ol0 (fun r9 gr9 hr9 => ?_)
    refine bd_callV (vs := fun _ => none) (wf := fun (r : Wd) => r) (st := []) (st1 := fun p10 => []) C [] (fun r9 e9 => mX3_empty C.flag N hr9 e9) mwX3_empty miX3_empty wd_736 hr9 (by decide) rfl rfl rfl (Nat.le_of_ble_eq_true rfl) dX8_read_63 ⟨rfl, rfl, Nat.le_of_ble_eq_true rfl, Nat.le_of_ble_eq_true rfl, Nat.le_of_ble_eq_true rfl, Nat.le_of_ble_eq_true rfl⟩ (fun _ => rfl) (fun p10 ep10 => ?_)
    refine bd_iload_n C 0 dX8_read_66 rfl rfl ?_
    refine bd_iload_n C 1 dX8_read_67 rfl rfl ?_
    refine bd_icmp_ge C 84 dX8_read_68 (by decide) (fun c11 => ?_) (fun c11 => ?_)
    · refine bd_aload_n C 2 dX8_read_84 rfl rfl ?_
      refine bd_callV (vs := fun _ => none) (wf := fun (r : Wd) => r) (st := []) (st1 := fun p12 => []) C [] (fun r9 e9 => mX8_keepDraft C.flag N ol0 e9) mwX8_keepDraft miX8_keepDraft wd_788 ol0 (by decide) rfl rfl rfl (Nat.le_of_ble_eq_true rfl) dX8_read_85 ⟨rfl, rfl, Nat.le_of_ble_eq_true rfl, Nat.le_of_ble_eq_true rfl, Nat.le_of_ble_eq_true rfl, Nat.le_of_ble_eq_true rfl⟩ (fun _ => rfl) (fun p12 ep12 => ?_)
      refine bd_iload_n C 1 dX8_read_88 rfl rfl ?_
      exact bd_xiret C hret rfl rfl dX8_read_89 (Nat.le_of_ble_eq_true rfl) (Nat.le_of_ble_eq_true rfl)
    · refine bd_aload_n C 2 dX8_read_71 rfl rfl ?_
      refine bd_iload_n C 0 dX8_read_72 rfl rfl ?_
      refine bd_pI C fi812 ftX8 fu812 wd_350 rfl rfl rfl dX8_read_73 ol0 (fun w13 => ?_)
      exact bd_throw C hxt hcm (e := 3) rfl wd_773 wd_105 xa8_173 dX8_read_76 dX8_read_79 dX8_read_80 dX8_read_83 ⟨Nat.le_of_ble_eq_true rfl, Nat.le_of_ble_eq_true rfl, Nat.le_of_ble_eq_true rfl, Nat.le_of_ble_eq_true rfl⟩ ⟨Nat.le_of_ble_eq_true rfl, Nat.le_of_ble_eq_true rfl⟩ rfl
  · refine bd_aload_n C 1 dX8_read_16 rfl rfl ?_
    refine bd_aload_n C 1 dX8_read_17 rfl rfl ?_
    refine bd_gR C fi804 fv804 wd_342 dX8_read_18 ol0 (fun r14 gr14 hr14 => ?_)
    refine bd_gIN C fi302 fv302 wd_214 dX8_read_21 hr14 ?_
    refine bd_pI C fi811 ftX8 fu811 wd_349 rfl rfl rfl dX8_read_24 ol0 (fun w15 => ?_)
    refine bd_aload_n C 1 dX8_read_27 rfl rfl ?_
    refine bd_gR C fi804 fv804 wd_342 dX8_read_28 ol0 (fun r16 gr16 hr16 => ?_)
    refine bd_callV (vs := fun _ => none) (wf := fun (r : Wd) => r) (st := []) (st1 := fun p17 => []) C [] (fun r9 e9 => mX3_empty C.flag N hr16 e9) mwX3_empty miX3_empty wd_736 hr16 (by decide) rfl rfl rfl (Nat.le_of_ble_eq_true rfl) dX8_read_31 ⟨rfl, rfl, Nat.le_of_ble_eq_true rfl, Nat.le_of_ble_eq_true rfl, Nat.le_of_ble_eq_true rfl, Nat.le_of_ble_eq_true rfl⟩ (fun _ => rfl) (fun p17 ep17 => ?_)
    exact bd_throw C hxt hcm (e := 0) rfl wd_564 wd_101 xa8_88 dX8_read_34 dX8_read_37 dX8_read_38 dX8_read_41 ⟨Nat.le_of_ble_eq_true rfl, Nat.le_of_ble_eq_true rfl, Nat.le_of_ble_eq_true rfl, Nat.le_of_ble_eq_true rfl⟩ ⟨Nat.le_of_ble_eq_true rfl, Nat.le_of_ble_eq_true rfl⟩ rfl
abbrev rmX8_errorPosition : Room := { frames := 10, cells := 1, slots := 6, locals := 300 }
abbrev qX8_errorPosition (G : Gy) (F : Fr) (g : Bd) (w : Wd) : ((Int32 × Wd) ⊕ (Nat × Wd)) → State → Prop := fun r => QX G F g 1 6 (vxint r)
set_option maxRecDepth 20000 in
set_option maxHeartbeats 4000000 in
theorem mX8_errorPosition {l : Launch} (hf9 : l.stackTraces = false) {G : Gy} {F : Fr} (N : Nat) {w : Wd} {l0 : Nat} {r : (Int32 × Wd) ⊕ (Nat × Wd)} (ol0 : okF F l0 8) (hcm : F.2.2.2.2 = false) (e9 : fX8_errorPosition F N w l0 = some r) : vx_Met l yX8_errorPosition [.code yX8_errorPosition cX8_errorPosition 1 (some .int)] rmX8_errorPosition (PcB G F w [.ref l0]) (QBx G F (vxint r)) (XBx G F (vxint r)) 1 6 (AF F) := by
  refine bd_vmet (vx := vxint) hf9 (by decide) (Nat.le_of_ble_eq_true rfl) e9 (fun g C hret hxt => ?_)
  clear e9 r
  unfold fX8_errorPosition
  refine bd_sub (lv' := [(0, .ref l0)]) ?_ [0] rfl
  refine bd_aload_n C 0 dX8_errorPosition_0 rfl rfl ?_
  refine bd_gI C fi811 fv811 wd_349 dX8_errorPosition_1 ol0 ?_
  refine bd_if_ge C 15 dX8_errorPosition_4 (by decide) (fun c1 => ?_) (fun c1 => ?_)
  · refine bd_aload_n C 0 dX8_errorPosition_15 rfl rfl ?_
    refine bd_gI C fi811 fv811 wd_349 dX8_errorPosition_16 ol0 ?_
    exact bd_xiret C hret rfl rfl dX8_errorPosition_19 (Nat.le_of_ble_eq_true rfl) (Nat.le_of_ble_eq_true rfl)
  · exact bd_throw C hxt hcm (e := 4) rfl wd_894 wd_106 xa8_223 dX8_errorPosition_7 dX8_errorPosition_10 dX8_errorPosition_11 dX8_errorPosition_14 ⟨Nat.le_of_ble_eq_true rfl, Nat.le_of_ble_eq_true rfl, Nat.le_of_ble_eq_true rfl, Nat.le_of_ble_eq_true rfl⟩ ⟨Nat.le_of_ble_eq_true rfl, Nat.le_of_ble_eq_true rfl⟩ rfl
abbrev rmX8_refusedItem : Room := { frames := 10, cells := 1, slots := 6, locals := 300 }
abbrev qX8_refusedItem (G : Gy) (F : Fr) (g : Bd) (w : Wd) : ((Int32 × Wd) ⊕ (Nat × Wd)) → State → Prop := fun r => QX G F g 1 6 (vxint r)
set_option maxRecDepth 20000 in
set_option maxHeartbeats 4000000 in
theorem mX8_refusedItem {l : Launch} (hf9 : l.stackTraces = false) {G : Gy} {F : Fr} (N : Nat) {w : Wd} {l0 : Nat} {r : (Int32 × Wd) ⊕ (Nat × Wd)} (ol0 : okF F l0 8) (hcm : F.2.2.2.2 = false) (e9 : fX8_refusedItem F N w l0 = some r) : vx_Met l yX8_refusedItem [.code yX8_refusedItem cX8_refusedItem 1 (some .int)] rmX8_refusedItem (PcB G F w [.ref l0]) (QBx G F (vxint r)) (XBx G F (vxint r)) 1 6 (AF F) := by
  refine bd_vmet (vx := vxint) hf9 (by decide) (Nat.le_of_ble_eq_true rfl) e9 (fun g C hret hxt => ?_)
  clear e9 r
  unfold fX8_refusedItem
  refine bd_sub (lv' := [(0, .ref l0)]) ?_ [0] rfl
  refine bd_aload_n C 0 dX8_refusedItem_0 rfl rfl ?_
  refine bd_gI C fi812 fv812 wd_350 dX8_refusedItem_1 ol0 ?_
  refine bd_if_ge C 15 dX8_refusedItem_4 (by decide) (fun c1 => ?_) (fun c1 => ?_)
  · refine bd_aload_n C 0 dX8_refusedItem_15 rfl rfl ?_
    refine bd_gI C fi812 fv812 wd_350 dX8_refusedItem_16 ol0 ?_
    exact bd_xiret C hret rfl rfl dX8_refusedItem_19 (Nat.le_of_ble_eq_true rfl) (Nat.le_of_ble_eq_true rfl)
  · exact bd_throw C hxt hcm (e := 4) rfl wd_894 wd_106 xa8_223 dX8_refusedItem_7 dX8_refusedItem_10 dX8_refusedItem_11 dX8_refusedItem_14 ⟨Nat.le_of_ble_eq_true rfl, Nat.le_of_ble_eq_true rfl, Nat.le_of_ble_eq_true rfl, Nat.le_of_ble_eq_true rfl⟩ ⟨Nat.le_of_ble_eq_true rfl, Nat.le_of_ble_eq_true rfl⟩ rfl
abbrev rmX8_undo : Room := { frames := 13, cells := 1, slots := 6, locals := 368 }
abbrev qX8_undo (G : Gy) (F : Fr) (g : Bd) : ((Int32 × Wd) ⊕ (Nat × Wd)) → State → Prop := fun r => QX G F g 1 6 (vxint r)
set_option maxRecDepth 20000 in
set_option maxHeartbeats 4000000 in
theorem mX8_undo {l : Launch} (hf9 : l.stackTraces = false) {G : Gy} {F : Fr} (N : Nat) {w : Wd} {l0 : Nat} {r : (Int32 × Wd) ⊕ (Nat × Wd)} (ol0 : okF F l0 8) (hcm : F.2.2.2.2 = false) (e9 : fX8_undo F N w l0 = some r) : vx_Met l yX8_undo [.code yX8_undo cX8_undo 1 (some .int)] rmX8_undo (PcB G F w [.ref l0]) (QBx G F (vxint r)) (XBx G F (vxint r)) 1 6 (AF F) := by
  refine bd_vmet (vx := vxint) hf9 (by decide) (Nat.le_of_ble_eq_true rfl) e9 (fun g C hret hxt => ?_)
  clear e9 r
  unfold fX8_undo
  refine bd_sub (lv' := [(0, .ref l0)]) ?_ [0] rfl
  refine bd_aload_n C 0 dX8_undo_0 rfl rfl ?_
  refine bd_gR C fi803 fv803 wd_341 dX8_undo_1 ol0 (fun r1 gr1 hr1 => ?_)
  refine bd_gIN C fi202 fv202 wd_196 dX8_undo_4 hr1 ?_
  refine bd_if_ne C 18 dX8_undo_7 (by decide) (fun c2 => ?_) (fun c2 => ?_)
  · refine bd_aload_n C 0 dX8_undo_18 rfl rfl ?_
    refine bd_gR C fi803 fv803 wd_341 dX8_undo_19 ol0 (fun r3 gr3 hr3 => ?_)
    refine bd_aload_n C 0 dX8_undo_22 rfl rfl ?_
    refine bd_gR C fi800 fv800 wd_338 dX8_undo_23 ol0 (fun r4 gr4 hr4 => ?_)
    refine bd_callV (vs := fun _ => none) (wf := fun (r : Wd) => r) (st := []) (st1 := fun p5 => []) C [.ref r4] (fun r9 e9 => mX2_pop C.flag N hr3 hr4 e9) mwX2_pop miX2_pop wd_1218 hr3 (by decide) rfl rfl rfl (Nat.le_of_ble_eq_true rfl) dX8_undo_26 ⟨rfl, rfl, Nat.le_of_ble_eq_true rfl, Nat.le_of_ble_eq_true rfl, Nat.le_of_ble_eq_true rfl, Nat.le_of_ble_eq_true rfl⟩ (fun _ => rfl) (fun p5 ep5 => ?_)
    refine bd_aload_n C 0 dX8_undo_29 rfl rfl ?_
    refine bd_gR C fi803 fv803 wd_341 dX8_undo_30 ol0 (fun r6 gr6 hr6 => ?_)
    refine bd_gIN C fi202 fv202 wd_196 dX8_undo_33 hr6 ?_
    exact bd_xiret C hret rfl rfl dX8_undo_36 (Nat.le_of_ble_eq_true rfl) (Nat.le_of_ble_eq_true rfl)
  · exact bd_throw C hxt hcm (e := 2) rfl wd_604 wd_102 xa8_98 dX8_undo_10 dX8_undo_13 dX8_undo_14 dX8_undo_17 ⟨Nat.le_of_ble_eq_true rfl, Nat.le_of_ble_eq_true rfl, Nat.le_of_ble_eq_true rfl, Nat.le_of_ble_eq_true rfl⟩ ⟨Nat.le_of_ble_eq_true rfl, Nat.le_of_ble_eq_true rfl⟩ rfl
abbrev rmX8_snapshot : Room := { frames := 12, cells := 0, slots := 0, locals := 346 }
abbrev qX8_snapshot (G : Gy) (F : Fr) (g : Bd) : (Int32 × Wd) → State → Prop := fun r => QM G F g 0 0 ((fun (r : Int32 × Wd) => some (.int r.1)) r) ((fun (r : Int32 × Wd) => r.2) r)
set_option maxRecDepth 20000 in
set_option maxHeartbeats 4000000 in
theorem mX8_snapshot {l : Launch} (hf9 : l.stackTraces = false) {G : Gy} {F : Fr} (N : Nat) {w : Wd} {l0 : Nat} {r : Int32 × Wd} (ol0 : okF F l0 8) (e9 : fX8_snapshot F N w l0 = some r) : Met l yX8_snapshot [.code yX8_snapshot cX8_snapshot 1 (some .int)] rmX8_snapshot (PcB G F w [.ref l0]) (QB G F ((fun (r : Int32 × Wd) => some (.int r.1)) r) ((fun (r : Int32 × Wd) => r.2) r)) 0 0 (AF F) := by
  refine bd_met (vs := fun (r : Int32 × Wd) => some (.int r.1)) (wf := fun (r : Int32 × Wd) => r.2) hf9 (by decide) (Nat.le_of_ble_eq_true rfl) e9 (fun g C hret hini => ?_)
  clear e9 r
  unfold fX8_snapshot
  refine bd_sub (lv' := [(0, .ref l0)]) ?_ [0] rfl
  refine bd_aload_n C 0 dX8_snapshot_0 rfl rfl ?_
  refine bd_gR C fi802 fv802 wd_340 dX8_snapshot_1 ol0 (fun r1 gr1 hr1 => ?_)
  refine bd_aload_n C 0 dX8_snapshot_4 rfl rfl ?_
  refine bd_gR C fi800 fv800 wd_338 dX8_snapshot_5 ol0 (fun r2 gr2 hr2 => ?_)
  refine bd_callV (vs := fun _ => none) (wf := fun (r : Wd) => r) (st := []) (st1 := fun p3 => []) C [.ref r2] (fun r9 e9 => mX1_copyFrom C.flag N hr1 hr2 e9) mwX1_copyFrom miX1_copyFrom wd_456 hr1 (by decide) rfl rfl rfl (Nat.le_of_ble_eq_true rfl) dX8_snapshot_8 ⟨rfl, rfl, Nat.le_of_ble_eq_true rfl, Nat.le_of_ble_eq_true rfl, Nat.le_of_ble_eq_true rfl, Nat.le_of_ble_eq_true rfl⟩ (fun _ => rfl) (fun p3 ep3 => ?_)
  refine bd_aload_n C 0 dX8_snapshot_11 rfl rfl ?_
  refine bd_iconst C (v := 1) dX8_snapshot_12 (by decide) ?_
  refine bd_pI C fi810 ftX8 fu810 wd_348 rfl rfl rfl dX8_snapshot_13 ol0 (fun w4 => ?_)
  refine bd_aload_n C 0 dX8_snapshot_16 rfl rfl ?_
  refine bd_gR C fi800 fv800 wd_338 dX8_snapshot_17 ol0 (fun r5 gr5 hr5 => ?_)
  refine bd_gIN C fi105 fv105 wd_155 dX8_snapshot_20 hr5 ?_
  exact bd_iret C hret rfl _ _ rfl rfl dX8_snapshot_23 (Nat.le_refl _) (Nat.le_refl _)
abbrev rmX8_restore : Room := { frames := 12, cells := 1, slots := 6, locals := 346 }
abbrev qX8_restore (G : Gy) (F : Fr) (g : Bd) : ((Int32 × Wd) ⊕ (Nat × Wd)) → State → Prop := fun r => QX G F g 1 6 (vxint r)
set_option maxRecDepth 20000 in
set_option maxHeartbeats 4000000 in
theorem mX8_restore {l : Launch} (hf9 : l.stackTraces = false) {G : Gy} {F : Fr} (N : Nat) {w : Wd} {l0 : Nat} {r : (Int32 × Wd) ⊕ (Nat × Wd)} (ol0 : okF F l0 8) (hcm : F.2.2.2.2 = false) (e9 : fX8_restore F N w l0 = some r) : vx_Met l yX8_restore [.code yX8_restore cX8_restore 1 (some .int)] rmX8_restore (PcB G F w [.ref l0]) (QBx G F (vxint r)) (XBx G F (vxint r)) 1 6 (AF F) := by
  refine bd_vmet (vx := vxint) hf9 (by decide) (Nat.le_of_ble_eq_true rfl) e9 (fun g C hret hxt => ?_)
  clear e9 r
  unfold fX8_restore
  refine bd_sub (lv' := [(0, .ref l0)]) ?_ [0] rfl
  refine bd_aload_n C 0 dX8_restore_0 rfl rfl ?_
  refine bd_gI C fi810 fv810 wd_348 dX8_restore_1 ol0 ?_
  refine bd_if_ne C 15 dX8_restore_4 (by decide) (fun c1 => ?_) (fun c1 => ?_)
  · refine bd_aload_n C 0 dX8_restore_15 rfl rfl ?_
    refine bd_gR C fi800 fv800 wd_338 dX8_restore_16 ol0 (fun r2 gr2 hr2 => ?_)
    refine bd_aload_n C 0 dX8_restore_19 rfl rfl ?_
    refine bd_gR C fi802 fv802 wd_340 dX8_restore_20 ol0 (fun r3 gr3 hr3 => ?_)
    refine bd_callV (vs := fun _ => none) (wf := fun (r : Wd) => r) (st := []) (st1 := fun p4 => []) C [.ref r3] (fun r9 e9 => mX1_copyFrom C.flag N hr2 hr3 e9) mwX1_copyFrom miX1_copyFrom wd_456 hr2 (by decide) rfl rfl rfl (Nat.le_of_ble_eq_true rfl) dX8_restore_23 ⟨rfl, rfl, Nat.le_of_ble_eq_true rfl, Nat.le_of_ble_eq_true rfl, Nat.le_of_ble_eq_true rfl, Nat.le_of_ble_eq_true rfl⟩ (fun _ => rfl) (fun p4 ep4 => ?_)
    refine bd_aload_n C 0 dX8_restore_26 rfl rfl ?_
    refine bd_gR C fi803 fv803 wd_341 dX8_restore_27 ol0 (fun r5 gr5 hr5 => ?_)
    refine bd_callV (vs := fun _ => none) (wf := fun (r : Wd) => r) (st := []) (st1 := fun p6 => []) C [] (fun r9 e9 => mX2_forget C.flag N hr5 e9) mwX2_forget miX2_forget wd_386 hr5 (by decide) rfl rfl rfl (Nat.le_of_ble_eq_true rfl) dX8_restore_30 ⟨rfl, rfl, Nat.le_of_ble_eq_true rfl, Nat.le_of_ble_eq_true rfl, Nat.le_of_ble_eq_true rfl, Nat.le_of_ble_eq_true rfl⟩ (fun _ => rfl) (fun p6 ep6 => ?_)
    refine bd_aload_n C 0 dX8_restore_33 rfl rfl ?_
    refine bd_gR C fi800 fv800 wd_338 dX8_restore_34 ol0 (fun r7 gr7 hr7 => ?_)
    refine bd_gIN C fi105 fv105 wd_155 dX8_restore_37 hr7 ?_
    exact bd_xiret C hret rfl rfl dX8_restore_40 (Nat.le_of_ble_eq_true rfl) (Nat.le_of_ble_eq_true rfl)
  · exact bd_throw C hxt hcm (e := 2) rfl wd_604 wd_102 xa8_98 dX8_restore_7 dX8_restore_10 dX8_restore_11 dX8_restore_14 ⟨Nat.le_of_ble_eq_true rfl, Nat.le_of_ble_eq_true rfl, Nat.le_of_ble_eq_true rfl, Nat.le_of_ble_eq_true rfl⟩ ⟨Nat.le_of_ble_eq_true rfl, Nat.le_of_ble_eq_true rfl⟩ rfl
