abbrev rmX9_thrown : Room := { frames := 10, cells := 0, slots := 0, locals := 300 }
abbrev qX9_thrown (G : Gy) (F : Fr) (g : Bd) (w : Wd) : Int32 → State → Prop := fun r => QM G F g 0 0 ((fun (r : Int32) => some (.int r)) r) ((fun _ => w) r)
set_option maxRecDepth 20000 in
set_option maxHeartbeats 4000000 in
theorem mX9_thrown {l : Launch} (hf9 : l.stackTraces = false) {G : Gy} {F : Fr} (N : Nat) {w : Wd} {l0 : Nat} {r : Int32} (ol0 : okF F l0 9) (e9 : fX9_thrown F N w l0 = some r) : Met l yX9_thrown [.code yX9_thrown cX9_thrown 1 (some .int)] rmX9_thrown (PcB G F w [.ref l0]) (QB G F ((fun (r : Int32) => some (.int r)) r) ((fun _ => w) r)) 0 0 (AF F) := by
  refine bd_met (vs := fun (r : Int32) => some (.int r)) (wf := fun _ => w) hf9 (by decide) (Nat.le_of_ble_eq_true rfl) e9 (fun g C hret hini => ?_)
  clear e9 r
  unfold fX9_thrown
  refine bd_sub (lv' := [(0, .ref l0)]) ?_ [0] rfl
  refine bd_aload_n C 0 dX9_thrown_0 rfl rfl ?_
  refine bd_gI C fi906 fv906 wd_1247 dX9_thrown_1 ol0 ?_
  exact bd_iret C hret rfl _ _ rfl rfl dX9_thrown_4 (Nat.le_refl _) (Nat.le_refl _)
abbrev rmX9_in : Room := { frames := 10, cells := 0, slots := 0, locals := 300 }
abbrev qX9_in (G : Gy) (F : Fr) (g : Bd) (w : Wd) : Int32 → State → Prop := fun r => QM G F g 0 0 ((fun (r : Int32) => some (.int r)) r) ((fun _ => w) r)
set_option maxRecDepth 20000 in
set_option maxHeartbeats 4000000 in
theorem mX9_in {l : Launch} (hf9 : l.stackTraces = false) {G : Gy} {F : Fr} (N : Nat) {w : Wd} {l0 : Int32} {l1 : Int32} {l2 : Int32} {r : Int32} (e9 : fX9_in F N w l0 l1 l2 = some r) : Met l yX9_in [.code yX9_in cX9_in 3 (some .boolean)] rmX9_in (PcB G F w [.int l0, .int l1, .int l2]) (QB G F ((fun (r : Int32) => some (.int r)) r) ((fun _ => w) r)) 0 0 (AF F) := by
  refine bd_met (vs := fun (r : Int32) => some (.int r)) (wf := fun _ => w) hf9 (by decide) (Nat.le_of_ble_eq_true rfl) e9 (fun g C hret hini => ?_)
  clear e9 r
  unfold fX9_in
  refine bd_sub (lv' := [(0, .int l0), (1, .int l1), (2, .int l2)]) ?_ [0, 1, 2] rfl
  refine bd_iload_n C 0 dX9_in_0 rfl rfl ?_
  refine bd_iload_n C 1 dX9_in_1 rfl rfl ?_
  refine bd_icmp_lt C 14 dX9_in_2 (by decide) (fun c1 => ?_) (fun c1 => ?_)
  · refine bd_iconst C (v := 0) dX9_in_14 (by decide) ?_
    exact bd_zret C hret rfl _ _ rfl rfl rfl dX9_in_15 (Nat.le_refl _) (Nat.le_refl _)
  · refine bd_iload_n C 0 dX9_in_5 rfl rfl ?_
    refine bd_iload_n C 2 dX9_in_6 rfl rfl ?_
    refine bd_icmp_gt C 14 dX9_in_7 (by decide) (fun c2 => ?_) (fun c2 => ?_)
    · refine bd_iconst C (v := 0) dX9_in_14 (by decide) ?_
      exact bd_zret C hret rfl _ _ rfl rfl rfl dX9_in_15 (Nat.le_refl _) (Nat.le_refl _)
    · refine bd_iconst C (v := 1) dX9_in_10 (by decide) ?_
      refine bd_goto C 15 dX9_in_11 (by decide) ?_
      exact bd_zret C hret rfl _ _ rfl rfl rfl dX9_in_15 (Nat.le_refl _) (Nat.le_refl _)
abbrev rmX9_begin : Room := { frames := 10, cells := 0, slots := 0, locals := 300 }
abbrev qX9_begin (G : Gy) (F : Fr) (g : Bd) : Wd → State → Prop := fun r => QM G F g 0 0 ((fun _ => none) r) ((fun (r : Wd) => r) r)
set_option maxRecDepth 20000 in
set_option maxHeartbeats 4000000 in
theorem mX9_begin {l : Launch} (hf9 : l.stackTraces = false) {G : Gy} {F : Fr} (N : Nat) {w : Wd} {l0 : Nat} {r : Wd} (ol0 : okF F l0 9) (e9 : fX9_begin F N w l0 = some r) : Met l yX9_begin [.code yX9_begin cX9_begin 2 none] rmX9_begin (PcB G F w [.ref l0]) (QB G F ((fun _ => none) r) ((fun (r : Wd) => r) r)) 0 0 (AF F) := by
  refine bd_met (vs := fun _ => none) (wf := fun (r : Wd) => r) hf9 (by decide) (Nat.le_of_ble_eq_true rfl) e9 (fun g C hret hini => ?_)
  clear e9 r
  have hb2 : ∀ (n : Nat) (w : Wd) (l0 : Nat) (l1 : Int32) (ol0 : okF F l0 9), BD g G F 2 (qX9_begin G F g) 0 0 (fX9_begin_2 F N n w l0 l1) w 2 [(0, .ref l0), (1, .int l1)] [] := by
    intro n
    induction n with
    | zero =>
      intro w l0 l1 ol0
      unfold fX9_begin_2
      exact bd_none
    | succ n ih =>
      intro w l0 l1 ol0
      unfold fX9_begin_2
      refine bd_iload_n C 1 dX9_begin_2 rfl rfl ?_
      refine bd_sipush C (v := 1114) dX9_begin_3 (by decide) ?_
      refine bd_icmp_ge C 22 dX9_begin_6 (by decide) (fun c1 => ?_) (fun c1 => ?_)
      · refine bd_aload_n C 0 dX9_begin_22 rfl rfl ?_
        refine bd_gR C fi900 fv900 wd_1241 dX9_begin_23 ol0 (fun r2 gr2 hr2 => ?_)
        refine bd_iconst C (v := 2) dX9_begin_26 (by decide) ?_
        refine bd_ldc2 C (v := 50) wd_1239 dX9_begin_27 ?_
        refine bd_last C dX9_begin_30 hr2 (fun w3 => ?_)
        refine bd_aload_n C 0 dX9_begin_31 rfl rfl ?_
        refine bd_gR C fi900 fv900 wd_1241 dX9_begin_32 ol0 (fun r4 gr4 hr4 => ?_)
        refine bd_iconst C (v := 3) dX9_begin_35 (by decide) ?_
        refine bd_ldc2 C (v := 20) wd_1240 dX9_begin_36 ?_
        refine bd_last C dX9_begin_39 hr4 (fun w5 => ?_)
        refine bd_aload_n C 0 dX9_begin_40 rfl rfl ?_
        refine bd_iconst C (v := 0) dX9_begin_41 (by decide) ?_
        refine bd_pI C fi905 ftX9 fu905 wd_1246 rfl rfl rfl dX9_begin_42 ol0 (fun w6 => ?_)
        refine bd_aload_n C 0 dX9_begin_45 rfl rfl ?_
        refine bd_iconst C (v := 0) dX9_begin_46 (by decide) ?_
        refine bd_pI C fi916 ftX9 fu916 wd_1257 rfl rfl rfl dX9_begin_47 ol0 (fun w7 => ?_)
        exact bd_vret C hret rfl _ _ rfl rfl dX9_begin_50 (Nat.le_refl _) (Nat.le_refl _)
      · refine bd_aload_n C 0 dX9_begin_9 rfl rfl ?_
        refine bd_gR C fi900 fv900 wd_1241 dX9_begin_10 ol0 (fun r8 gr8 hr8 => ?_)
        refine bd_iload_n C 1 dX9_begin_13 rfl rfl ?_
        refine bd_lconst C (v := 0) dX9_begin_14 (by decide) ?_
        refine bd_last C dX9_begin_15 hr8 (fun w9 => ?_)
        refine bd_iinc C (v := l1 + 1) 1 [(1, .int (l1 + 1)), (0, .ref l0)] dX9_begin_16 rfl rfl (by decide) rfl ?_
        refine bd_goto C 2 dX9_begin_19 (by decide) ?_
        exact bd_sub (ih w9 l0 (l1 + 1) ol0) [1, 0] rfl
  unfold fX9_begin
  refine bd_sub (lv' := [(0, .ref l0)]) ?_ [0] rfl
  refine bd_iconst C (v := 0) dX9_begin_0 (by decide) ?_
  refine bd_istore_n C [(1, .int 0), (0, .ref l0)] dX9_begin_1 rfl (by decide) rfl ?_
  exact bd_sub (hb2 N w l0 0 ol0) [1, 0] rfl
abbrev rmX9_keepState : Room := { frames := 10, cells := 0, slots := 0, locals := 300 }
abbrev qX9_keepState (G : Gy) (F : Fr) (g : Bd) : Wd → State → Prop := fun r => QM G F g 0 0 ((fun _ => none) r) ((fun (r : Wd) => r) r)
set_option maxRecDepth 20000 in
set_option maxHeartbeats 4000000 in
theorem mX9_keepState {l : Launch} (hf9 : l.stackTraces = false) {G : Gy} {F : Fr} (N : Nat) {w : Wd} {l0 : Nat} {r : Wd} (ol0 : okF F l0 9) (e9 : fX9_keepState F N w l0 = some r) : Met l yX9_keepState [.code yX9_keepState cX9_keepState 1 none] rmX9_keepState (PcB G F w [.ref l0]) (QB G F ((fun _ => none) r) ((fun (r : Wd) => r) r)) 0 0 (AF F) := by
  refine bd_met (vs := fun _ => none) (wf := fun (r : Wd) => r) hf9 (by decide) (Nat.le_of_ble_eq_true rfl) e9 (fun g C hret hini => ?_)
  clear e9 r
  unfold fX9_keepState
  refine bd_sub (lv' := [(0, .ref l0)]) ?_ [0] rfl
  refine bd_aload_n C 0 dX9_keepState_0 rfl rfl ?_
  refine bd_gR C fi900 fv900 wd_1241 dX9_keepState_1 ol0 (fun r1 gr1 hr1 => ?_)
  refine bd_iconst C (v := 0) dX9_keepState_4 (by decide) ?_
  refine bd_aload_n C 0 dX9_keepState_5 rfl rfl ?_
  refine bd_gR C fi901 fv901 wd_1242 dX9_keepState_6 ol0 (fun r2 gr2 hr2 => ?_)
  refine bd_iconst C (v := 0) dX9_keepState_9 (by decide) ?_
  refine bd_sipush C (v := 1114) dX9_keepState_10 (by decide) ?_
  refine bd_copyJ C wd_1414 wd_474 wd_473 wd_103 dX9_keepState_13 hr1 hr2 ⟨Nat.le_of_ble_eq_true rfl, Nat.le_of_ble_eq_true rfl⟩ (fun w3 => ?_)
  exact bd_vret C hret rfl _ _ rfl rfl dX9_keepState_16 (Nat.le_refl _) (Nat.le_refl _)
abbrev rmX9_putBack : Room := { frames := 10, cells := 0, slots := 0, locals := 300 }
abbrev qX9_putBack (G : Gy) (F : Fr) (g : Bd) : Wd → State → Prop := fun r => QM G F g 0 0 ((fun _ => none) r) ((fun (r : Wd) => r) r)
set_option maxRecDepth 20000 in
set_option maxHeartbeats 4000000 in
theorem mX9_putBack {l : Launch} (hf9 : l.stackTraces = false) {G : Gy} {F : Fr} (N : Nat) {w : Wd} {l0 : Nat} {r : Wd} (ol0 : okF F l0 9) (e9 : fX9_putBack F N w l0 = some r) : Met l yX9_putBack [.code yX9_putBack cX9_putBack 1 none] rmX9_putBack (PcB G F w [.ref l0]) (QB G F ((fun _ => none) r) ((fun (r : Wd) => r) r)) 0 0 (AF F) := by
  refine bd_met (vs := fun _ => none) (wf := fun (r : Wd) => r) hf9 (by decide) (Nat.le_of_ble_eq_true rfl) e9 (fun g C hret hini => ?_)
  clear e9 r
  unfold fX9_putBack
  refine bd_sub (lv' := [(0, .ref l0)]) ?_ [0] rfl
  refine bd_aload_n C 0 dX9_putBack_0 rfl rfl ?_
  refine bd_gR C fi901 fv901 wd_1242 dX9_putBack_1 ol0 (fun r1 gr1 hr1 => ?_)
  refine bd_iconst C (v := 0) dX9_putBack_4 (by decide) ?_
  refine bd_aload_n C 0 dX9_putBack_5 rfl rfl ?_
  refine bd_gR C fi900 fv900 wd_1241 dX9_putBack_6 ol0 (fun r2 gr2 hr2 => ?_)
  refine bd_iconst C (v := 0) dX9_putBack_9 (by decide) ?_
  refine bd_sipush C (v := 1114) dX9_putBack_10 (by decide) ?_
  refine bd_copyJ C wd_1414 wd_474 wd_473 wd_103 dX9_putBack_13 hr1 hr2 ⟨Nat.le_of_ble_eq_true rfl, Nat.le_of_ble_eq_true rfl⟩ (fun w3 => ?_)
  exact bd_vret C hret rfl _ _ rfl rfl dX9_putBack_16 (Nat.le_refl _) (Nat.le_refl _)
abbrev rmX9_change : Room := { frames := 10, cells := 0, slots := 0, locals := 300 }
abbrev qX9_change (G : Gy) (F : Fr) (g : Bd) : Wd → State → Prop := fun r => QM G F g 0 0 ((fun _ => none) r) ((fun (r : Wd) => r) r)
set_option maxRecDepth 20000 in
set_option maxHeartbeats 4000000 in
theorem mX9_change {l : Launch} (hf9 : l.stackTraces = false) {G : Gy} {F : Fr} (N : Nat) {w : Wd} {l0 : Nat} {r : Wd} (ol0 : okF F l0 9) (e9 : fX9_change F N w l0 = some r) : Met l yX9_change [.code yX9_change cX9_change 1 none] rmX9_change (PcB G F w [.ref l0]) (QB G F ((fun _ => none) r) ((fun (r : Wd) => r) r)) 0 0 (AF F) := by
  refine bd_met (vs := fun _ => none) (wf := fun (r : Wd) => r) hf9 (by decide) (Nat.le_of_ble_eq_true rfl) e9 (fun g C hret hini => ?_)
  clear e9 r
  have hb37 : ∀  (w : Wd) (l0 : Nat) (ol0 : okF F l0 9), BD g G F 1 (qX9_change G F g) 0 0 (fX9_change_37 F N w l0) w 37 [(0, .ref l0)] [] := by
    intro w l0 ol0
    unfold fX9_change_37
    refine bd_aload_n C 0 dX9_change_37 rfl rfl ?_
    refine bd_gR C fi901 fv901 wd_1242 dX9_change_38 ol0 (fun r1 gr1 hr1 => ?_)
    refine bd_iconst C (v := 0) dX9_change_41 (by decide) ?_
    refine bd_aload_n C 0 dX9_change_42 rfl rfl ?_
    refine bd_gR C fi904 fv904 wd_1245 dX9_change_43 ol0 (fun r2 gr2 hr2 => ?_)
    refine bd_sipush C (v := 1114) dX9_change_46 (by decide) ?_
    refine bd_aload_n C 0 dX9_change_49 rfl rfl ?_
    refine bd_gI C fi905 fv905 wd_1246 dX9_change_50 ol0 ?_
    refine bd_imul C dX9_change_53 ?_
    refine bd_sipush C (v := 1114) dX9_change_54 (by decide) ?_
    refine bd_copyJ C wd_1414 wd_474 wd_473 wd_103 dX9_change_57 hr1 hr2 ⟨Nat.le_of_ble_eq_true rfl, Nat.le_of_ble_eq_true rfl⟩ (fun w3 => ?_)
    refine bd_aload_n C 0 dX9_change_60 rfl rfl ?_
    refine bd_dup C dX9_change_61 rfl ?_
    refine bd_gI C fi905 fv905 wd_1246 dX9_change_62 ol0 ?_
    refine bd_iconst C (v := 1) dX9_change_65 (by decide) ?_
    refine bd_iadd C dX9_change_66 ?_
    refine bd_pI C fi905 ftX9 fu905 wd_1246 rfl rfl rfl dX9_change_67 ol0 (fun w4 => ?_)
    exact bd_vret C hret rfl _ _ rfl rfl dX9_change_70 (Nat.le_refl _) (Nat.le_refl _)
  unfold fX9_change
  refine bd_sub (lv' := [(0, .ref l0)]) ?_ [0] rfl
  refine bd_aload_n C 0 dX9_change_0 rfl rfl ?_
  refine bd_gI C fi905 fv905 wd_1246 dX9_change_1 ol0 ?_
  refine bd_bipush C (v := 8) dX9_change_4 (by decide) ?_
  refine bd_icmp_ne C 37 dX9_change_6 (by decide) (fun c5 => ?_) (fun c5 => ?_)
  · exact bd_sub (hb37 w l0 ol0) [0] rfl
  · refine bd_aload_n C 0 dX9_change_9 rfl rfl ?_
    refine bd_gR C fi904 fv904 wd_1245 dX9_change_10 ol0 (fun r6 gr6 hr6 => ?_)
    refine bd_sipush C (v := 1114) dX9_change_13 (by decide) ?_
    refine bd_aload_n C 0 dX9_change_16 rfl rfl ?_
    refine bd_gR C fi904 fv904 wd_1245 dX9_change_17 ol0 (fun r7 gr7 hr7 => ?_)
    refine bd_iconst C (v := 0) dX9_change_20 (by decide) ?_
    refine bd_sipush C (v := 7798) dX9_change_21 (by decide) ?_
    refine bd_copyJ C wd_1414 wd_474 wd_473 wd_103 dX9_change_24 hr6 hr7 ⟨Nat.le_of_ble_eq_true rfl, Nat.le_of_ble_eq_true rfl⟩ (fun w8 => ?_)
    refine bd_aload_n C 0 dX9_change_27 rfl rfl ?_
    refine bd_dup C dX9_change_28 rfl ?_
    refine bd_gI C fi905 fv905 wd_1246 dX9_change_29 ol0 ?_
    refine bd_iconst C (v := 1) dX9_change_32 (by decide) ?_
    refine bd_isub C dX9_change_33 ?_
    refine bd_pI C fi905 ftX9 fu905 wd_1246 rfl rfl rfl dX9_change_34 ol0 (fun w9 => ?_)
    exact bd_sub (hb37 w9 l0 ol0) [0] rfl
abbrev rmX9_changes : Room := { frames := 11, cells := 0, slots := 0, locals := 320 }
abbrev qX9_changes (G : Gy) (F : Fr) (g : Bd) : Wd → State → Prop := fun r => QM G F g 0 0 ((fun _ => none) r) ((fun (r : Wd) => r) r)
set_option maxRecDepth 20000 in
set_option maxHeartbeats 4000000 in
theorem mX9_changes {l : Launch} (hf9 : l.stackTraces = false) {G : Gy} {F : Fr} (N : Nat) {w : Wd} {l0 : Nat} {r : Wd} (ol0 : okF F l0 9) (e9 : fX9_changes F N w l0 = some r) : Met l yX9_changes [.code yX9_changes cX9_changes 1 none] rmX9_changes (PcB G F w [.ref l0]) (QB G F ((fun _ => none) r) ((fun (r : Wd) => r) r)) 0 0 (AF F) := by
  refine bd_met (vs := fun _ => none) (wf := fun (r : Wd) => r) hf9 (by decide) (Nat.le_of_ble_eq_true rfl) e9 (fun g C hret hini => ?_)
  clear e9 r
  unfold fX9_changes
  refine bd_sub (lv' := [(0, .ref l0)]) ?_ [0] rfl
  refine bd_aload_n C 0 dX9_changes_0 rfl rfl ?_
  refine bd_callV (vs := fun _ => none) (wf := fun (r : Wd) => r) (st := []) (st1 := fun p1 => []) C [] (fun r9 e9 => mX9_keepState C.flag N ol0 e9) mwX9_keepState miX9_keepState wd_1410 ol0 (by decide) rfl rfl rfl (Nat.le_of_ble_eq_true rfl) dX9_changes_1 ⟨rfl, rfl, Nat.le_of_ble_eq_true rfl, Nat.le_of_ble_eq_true rfl, Nat.le_of_ble_eq_true rfl, Nat.le_of_ble_eq_true rfl⟩ (fun _ => rfl) (fun p1 ep1 => ?_)
  refine bd_aload_n C 0 dX9_changes_4 rfl rfl ?_
  refine bd_callV (vs := fun _ => none) (wf := fun (r : Wd) => r) (st := []) (st1 := fun p2 => []) C [] (fun r9 e9 => mX9_change C.flag N ol0 e9) mwX9_change miX9_change wd_1415 ol0 (by decide) rfl rfl rfl (Nat.le_of_ble_eq_true rfl) dX9_changes_5 ⟨rfl, rfl, Nat.le_of_ble_eq_true rfl, Nat.le_of_ble_eq_true rfl, Nat.le_of_ble_eq_true rfl, Nat.le_of_ble_eq_true rfl⟩ (fun _ => rfl) (fun p2 ep2 => ?_)
  exact bd_vret C hret rfl _ _ rfl rfl dX9_changes_8 (Nat.le_refl _) (Nat.le_refl _)
abbrev rmX9_tiers : Room := { frames := 10, cells := 0, slots := 0, locals := 300 }
abbrev qX9_tiers (G : Gy) (F : Fr) (g : Bd) (w : Wd) : Int32 → State → Prop := fun r => QM G F g 0 0 ((fun (r : Int32) => some (.int r)) r) ((fun _ => w) r)
set_option maxRecDepth 20000 in
set_option maxHeartbeats 4000000 in
theorem mX9_tiers {l : Launch} (hf9 : l.stackTraces = false) {G : Gy} {F : Fr} (N : Nat) {w : Wd} {l0 : Nat} {r : Int32} (ol0 : okF F l0 9) (e9 : fX9_tiers F N w l0 = some r) : Met l yX9_tiers [.code yX9_tiers cX9_tiers 1 (some .int)] rmX9_tiers (PcB G F w [.ref l0]) (QB G F ((fun (r : Int32) => some (.int r)) r) ((fun _ => w) r)) 0 0 (AF F) := by
  refine bd_met (vs := fun (r : Int32) => some (.int r)) (wf := fun _ => w) hf9 (by decide) (Nat.le_of_ble_eq_true rfl) e9 (fun g C hret hini => ?_)
  clear e9 r
  unfold fX9_tiers
  refine bd_sub (lv' := [(0, .ref l0)]) ?_ [0] rfl
  refine bd_aload_n C 0 dX9_tiers_0 rfl rfl ?_
  refine bd_gR C fi900 fv900 wd_1241 dX9_tiers_1 ol0 (fun r1 gr1 hr1 => ?_)
  refine bd_iconst C (v := 0) dX9_tiers_4 (by decide) ?_
  refine bd_lald C dX9_tiers_5 hr1 (fun x2 => ?_)
  refine bd_l2i C dX9_tiers_6 ?_
  exact bd_iret C hret rfl _ _ rfl rfl dX9_tiers_7 (Nat.le_refl _) (Nat.le_refl _)
abbrev rmX9_clear : Room := { frames := 11, cells := 0, slots := 0, locals := 321 }
abbrev qX9_clear (G : Gy) (F : Fr) (g : Bd) : (Int32 × Wd) → State → Prop := fun r => QM G F g 0 0 ((fun (r : Int32 × Wd) => some (.int r.1)) r) ((fun (r : Int32 × Wd) => r.2) r)
set_option maxRecDepth 20000 in
set_option maxHeartbeats 4000000 in
theorem mX9_clear {l : Launch} (hf9 : l.stackTraces = false) {G : Gy} {F : Fr} (N : Nat) {w : Wd} {l0 : Nat} {r : Int32 × Wd} (ol0 : okF F l0 9) (e9 : fX9_clear F N w l0 = some r) : Met l yX9_clear [.code yX9_clear cX9_clear 2 (some .int)] rmX9_clear (PcB G F w [.ref l0]) (QB G F ((fun (r : Int32 × Wd) => some (.int r.1)) r) ((fun (r : Int32 × Wd) => r.2) r)) 0 0 (AF F) := by
  refine bd_met (vs := fun (r : Int32 × Wd) => some (.int r.1)) (wf := fun (r : Int32 × Wd) => r.2) hf9 (by decide) (Nat.le_of_ble_eq_true rfl) e9 (fun g C hret hini => ?_)
  clear e9 r
  unfold fX9_clear
  refine bd_sub (lv' := [(0, .ref l0)]) ?_ [0] rfl
  refine bd_aload_n C 0 dX9_clear_0 rfl rfl ?_
  refine bd_iconst C (v := 0) dX9_clear_1 (by decide) ?_
  refine bd_pI C fi906 ftX9 fu906 wd_1247 rfl rfl rfl dX9_clear_2 ol0 (fun w1 => ?_)
  refine bd_aload_n C 0 dX9_clear_5 rfl rfl ?_
  refine bd_callV (vs := fun (r : Int32) => some (.int r)) (wf := fun _ => w1) (st := []) (st1 := fun x2 => Value.int x2 :: []) C [] (fun r9 e9 => mX9_tiers C.flag N ol0 e9) mwX9_tiers miX9_tiers wd_1391 ol0 (by decide) rfl rfl rfl (Nat.le_of_ble_eq_true rfl) dX9_clear_6 ⟨rfl, rfl, Nat.le_of_ble_eq_true rfl, Nat.le_of_ble_eq_true rfl, Nat.le_of_ble_eq_true rfl, Nat.le_of_ble_eq_true rfl⟩ (fun _ => rfl) (fun x2 ex2 => ?_)
  refine bd_istore_n C [(1, .int x2), (0, .ref l0)] dX9_clear_9 rfl (by decide) rfl ?_
  refine bd_aload_n C 1 dX9_clear_10 rfl rfl ?_
  refine bd_callV (vs := fun _ => none) (wf := fun (r : Wd) => r) (st := []) (st1 := fun p3 => []) C [] (fun r9 e9 => mX9_begin C.flag N ol0 e9) mwX9_begin miX9_begin wd_1235 ol0 (by decide) rfl rfl rfl (Nat.le_of_ble_eq_true rfl) dX9_clear_11 ⟨rfl, rfl, Nat.le_of_ble_eq_true rfl, Nat.le_of_ble_eq_true rfl, Nat.le_of_ble_eq_true rfl, Nat.le_of_ble_eq_true rfl⟩ (fun _ => rfl) (fun p3 ep3 => ?_)
  refine bd_iload_n C 0 dX9_clear_14 rfl rfl ?_
  exact bd_iret C hret rfl _ _ rfl rfl dX9_clear_15 (Nat.le_refl _) (Nat.le_refl _)
abbrev rmX9_annotator : Room := { frames := 10, cells := 0, slots := 0, locals := 300 }
abbrev qX9_annotator (G : Gy) (F : Fr) (g : Bd) (w : Wd) : Int32 → State → Prop := fun r => QM G F g 0 0 ((fun (r : Int32) => some (.int r)) r) ((fun _ => w) r)
set_option maxRecDepth 20000 in
set_option maxHeartbeats 4000000 in
theorem mX9_annotator {l : Launch} (hf9 : l.stackTraces = false) {G : Gy} {F : Fr} (N : Nat) {w : Wd} {l0 : Nat} {r : Int32} (ol0 : okF F l0 9) (e9 : fX9_annotator F N w l0 = some r) : Met l yX9_annotator [.code yX9_annotator cX9_annotator 1 (some .int)] rmX9_annotator (PcB G F w [.ref l0]) (QB G F ((fun (r : Int32) => some (.int r)) r) ((fun _ => w) r)) 0 0 (AF F) := by
  refine bd_met (vs := fun (r : Int32) => some (.int r)) (wf := fun _ => w) hf9 (by decide) (Nat.le_of_ble_eq_true rfl) e9 (fun g C hret hini => ?_)
  clear e9 r
  unfold fX9_annotator
  refine bd_sub (lv' := [(0, .ref l0)]) ?_ [0] rfl
  refine bd_aload_n C 0 dX9_annotator_0 rfl rfl ?_
  refine bd_gR C fi900 fv900 wd_1241 dX9_annotator_1 ol0 (fun r1 gr1 hr1 => ?_)
  refine bd_iconst C (v := 1) dX9_annotator_4 (by decide) ?_
  refine bd_lald C dX9_annotator_5 hr1 (fun x2 => ?_)
  refine bd_l2i C dX9_annotator_6 ?_
  exact bd_iret C hret rfl _ _ rfl rfl dX9_annotator_7 (Nat.le_refl _) (Nat.le_refl _)
abbrev rmX9_isTier : Room := { frames := 11, cells := 0, slots := 0, locals := 322 }
abbrev qX9_isTier (G : Gy) (F : Fr) (g : Bd) (w : Wd) : Int32 → State → Prop := fun r => QM G F g 0 0 ((fun (r : Int32) => some (.int r)) r) ((fun _ => w) r)
set_option maxRecDepth 20000 in
set_option maxHeartbeats 4000000 in
theorem mX9_isTier {l : Launch} (hf9 : l.stackTraces = false) {G : Gy} {F : Fr} (N : Nat) {w : Wd} {l0 : Nat} {l1 : Int32} {r : Int32} (ol0 : okF F l0 9) (e9 : fX9_isTier F N w l0 l1 = some r) : Met l yX9_isTier [.code yX9_isTier cX9_isTier 2 (some .boolean)] rmX9_isTier (PcB G F w [.ref l0, .int l1]) (QB G F ((fun (r : Int32) => some (.int r)) r) ((fun _ => w) r)) 0 0 (AF F) := by
  refine bd_met (vs := fun (r : Int32) => some (.int r)) (wf := fun _ => w) hf9 (by decide) (Nat.le_of_ble_eq_true rfl) e9 (fun g C hret hini => ?_)
  clear e9 r
  unfold fX9_isTier
  refine bd_sub (lv' := [(0, .ref l0), (1, .int l1)]) ?_ [0, 1] rfl
  refine bd_iload_n C 1 dX9_isTier_0 rfl rfl ?_
  refine bd_iconst C (v := 0) dX9_isTier_1 (by decide) ?_
  refine bd_aload_n C 0 dX9_isTier_2 rfl rfl ?_
  refine bd_callV (vs := fun (r : Int32) => some (.int r)) (wf := fun _ => w) (st := [.int 0, .int l1]) (st1 := fun x1 => Value.int x1 :: [.int 0, .int l1]) C [] (fun r9 e9 => mX9_tiers C.flag N ol0 e9) mwX9_tiers miX9_tiers wd_1391 ol0 (by decide) rfl rfl rfl (Nat.le_of_ble_eq_true rfl) dX9_isTier_3 ⟨rfl, rfl, Nat.le_of_ble_eq_true rfl, Nat.le_of_ble_eq_true rfl, Nat.le_of_ble_eq_true rfl, Nat.le_of_ble_eq_true rfl⟩ (fun _ => rfl) (fun x1 ex1 => ?_)
  refine bd_iconst C (v := 1) dX9_isTier_6 (by decide) ?_
  refine bd_isub C dX9_isTier_7 ?_
  refine bd_callS (vs := fun (r : Int32) => some (.int r)) (wf := fun _ => w) (st := []) (st1 := fun x2 => Value.int x2 :: []) C [.int l1, .int 0, .int (x1 - 1)] (fun r9 e9 => mX9_in C.flag N e9) mwX9_in miX9_in wd_1399 rfl rfl (Nat.le_of_ble_eq_true rfl) dX9_isTier_8 ⟨rfl, rfl, Nat.le_of_ble_eq_true rfl, Nat.le_of_ble_eq_true rfl, Nat.le_of_ble_eq_true rfl, Nat.le_of_ble_eq_true rfl⟩ (fun _ => rfl) (fun x2 ex2 => ?_)
  refine bd_ckZ (fun cz3 => ?_)
  exact bd_zret C hret rfl _ _ (nar_z cz3) rfl rfl dX9_isTier_11 (Nat.le_refl _) (Nat.le_refl _)
abbrev rmX9_kind : Room := { frames := 10, cells := 0, slots := 0, locals := 300 }
abbrev qX9_kind (G : Gy) (F : Fr) (g : Bd) (w : Wd) : Int32 → State → Prop := fun r => QM G F g 0 0 ((fun (r : Int32) => some (.int r)) r) ((fun _ => w) r)
set_option maxRecDepth 20000 in
set_option maxHeartbeats 4000000 in
theorem mX9_kind {l : Launch} (hf9 : l.stackTraces = false) {G : Gy} {F : Fr} (N : Nat) {w : Wd} {l0 : Nat} {l1 : Int32} {r : Int32} (ol0 : okF F l0 9) (e9 : fX9_kind F N w l0 l1 = some r) : Met l yX9_kind [.code yX9_kind cX9_kind 2 (some .int)] rmX9_kind (PcB G F w [.ref l0, .int l1]) (QB G F ((fun (r : Int32) => some (.int r)) r) ((fun _ => w) r)) 0 0 (AF F) := by
  refine bd_met (vs := fun (r : Int32) => some (.int r)) (wf := fun _ => w) hf9 (by decide) (Nat.le_of_ble_eq_true rfl) e9 (fun g C hret hini => ?_)
  clear e9 r
  unfold fX9_kind
  refine bd_sub (lv' := [(0, .ref l0), (1, .int l1)]) ?_ [0, 1] rfl
  refine bd_aload_n C 0 dX9_kind_0 rfl rfl ?_
  refine bd_gR C fi900 fv900 wd_1241 dX9_kind_1 ol0 (fun r1 gr1 hr1 => ?_)
  refine bd_iconst C (v := 4) dX9_kind_4 (by decide) ?_
  refine bd_iconst C (v := 3) dX9_kind_5 (by decide) ?_
  refine bd_iload_n C 1 dX9_kind_6 rfl rfl ?_
  refine bd_imul C dX9_kind_7 ?_
  refine bd_iadd C dX9_kind_8 ?_
  refine bd_lald C dX9_kind_9 hr1 (fun x2 => ?_)
  refine bd_l2i C dX9_kind_10 ?_
  exact bd_iret C hret rfl _ _ rfl rfl dX9_kind_11 (Nat.le_refl _) (Nat.le_refl _)
abbrev rmX9_rule : Room := { frames := 10, cells := 0, slots := 0, locals := 300 }
abbrev qX9_rule (G : Gy) (F : Fr) (g : Bd) (w : Wd) : Int32 → State → Prop := fun r => QM G F g 0 0 ((fun (r : Int32) => some (.int r)) r) ((fun _ => w) r)
set_option maxRecDepth 20000 in
set_option maxHeartbeats 4000000 in
theorem mX9_rule {l : Launch} (hf9 : l.stackTraces = false) {G : Gy} {F : Fr} (N : Nat) {w : Wd} {l0 : Nat} {l1 : Int32} {r : Int32} (ol0 : okF F l0 9) (e9 : fX9_rule F N w l0 l1 = some r) : Met l yX9_rule [.code yX9_rule cX9_rule 2 (some .int)] rmX9_rule (PcB G F w [.ref l0, .int l1]) (QB G F ((fun (r : Int32) => some (.int r)) r) ((fun _ => w) r)) 0 0 (AF F) := by
  refine bd_met (vs := fun (r : Int32) => some (.int r)) (wf := fun _ => w) hf9 (by decide) (Nat.le_of_ble_eq_true rfl) e9 (fun g C hret hini => ?_)
  clear e9 r
  unfold fX9_rule
  refine bd_sub (lv' := [(0, .ref l0), (1, .int l1)]) ?_ [0, 1] rfl
  refine bd_aload_n C 0 dX9_rule_0 rfl rfl ?_
  refine bd_gR C fi900 fv900 wd_1241 dX9_rule_1 ol0 (fun r1 gr1 hr1 => ?_)
  refine bd_iconst C (v := 4) dX9_rule_4 (by decide) ?_
  refine bd_iconst C (v := 3) dX9_rule_5 (by decide) ?_
  refine bd_iload_n C 1 dX9_rule_6 rfl rfl ?_
  refine bd_imul C dX9_rule_7 ?_
  refine bd_iadd C dX9_rule_8 ?_
  refine bd_iconst C (v := 1) dX9_rule_9 (by decide) ?_
  refine bd_iadd C dX9_rule_10 ?_
  refine bd_lald C dX9_rule_11 hr1 (fun x2 => ?_)
  refine bd_l2i C dX9_rule_12 ?_
  exact bd_iret C hret rfl _ _ rfl rfl dX9_rule_13 (Nat.le_refl _) (Nat.le_refl _)
abbrev rmX9_parent : Room := { frames := 10, cells := 0, slots := 0, locals := 300 }
abbrev qX9_parent (G : Gy) (F : Fr) (g : Bd) (w : Wd) : Int32 → State → Prop := fun r => QM G F g 0 0 ((fun (r : Int32) => some (.int r)) r) ((fun _ => w) r)
set_option maxRecDepth 20000 in
set_option maxHeartbeats 4000000 in
theorem mX9_parent {l : Launch} (hf9 : l.stackTraces = false) {G : Gy} {F : Fr} (N : Nat) {w : Wd} {l0 : Nat} {l1 : Int32} {r : Int32} (ol0 : okF F l0 9) (e9 : fX9_parent F N w l0 l1 = some r) : Met l yX9_parent [.code yX9_parent cX9_parent 2 (some .int)] rmX9_parent (PcB G F w [.ref l0, .int l1]) (QB G F ((fun (r : Int32) => some (.int r)) r) ((fun _ => w) r)) 0 0 (AF F) := by
  refine bd_met (vs := fun (r : Int32) => some (.int r)) (wf := fun _ => w) hf9 (by decide) (Nat.le_of_ble_eq_true rfl) e9 (fun g C hret hini => ?_)
  clear e9 r
  unfold fX9_parent
  refine bd_sub (lv' := [(0, .ref l0), (1, .int l1)]) ?_ [0, 1] rfl
  refine bd_aload_n C 0 dX9_parent_0 rfl rfl ?_
  refine bd_gR C fi900 fv900 wd_1241 dX9_parent_1 ol0 (fun r1 gr1 hr1 => ?_)
  refine bd_iconst C (v := 4) dX9_parent_4 (by decide) ?_
  refine bd_iconst C (v := 3) dX9_parent_5 (by decide) ?_
  refine bd_iload_n C 1 dX9_parent_6 rfl rfl ?_
  refine bd_imul C dX9_parent_7 ?_
  refine bd_iadd C dX9_parent_8 ?_
  refine bd_iconst C (v := 2) dX9_parent_9 (by decide) ?_
  refine bd_iadd C dX9_parent_10 ?_
  refine bd_lald C dX9_parent_11 hr1 (fun x2 => ?_)
  refine bd_l2i C dX9_parent_12 ?_
  exact bd_iret C hret rfl _ _ rfl rfl dX9_parent_13 (Nat.le_refl _) (Nat.le_refl _)
abbrev rmX9_addTier : Room := { frames := 12, cells := 0, slots := 0, locals := 343 }
abbrev qX9_addTier (G : Gy) (F : Fr) (g : Bd) : (Int32 × Wd) → State → Prop := fun r => QM G F g 0 0 ((fun (r : Int32 × Wd) => some (.int r.1)) r) ((fun (r : Int32 × Wd) => r.2) r)
set_option maxRecDepth 20000 in
set_option maxHeartbeats 4000000 in
theorem mX9_addTier {l : Launch} (hf9 : l.stackTraces = false) {G : Gy} {F : Fr} (N : Nat) {w : Wd} {l0 : Nat} {l1 : Int32} {l2 : Int32} {l3 : Int32} {r : Int32 × Wd} (ol0 : okF F l0 9) (e9 : fX9_addTier F N w l0 l1 l2 l3 = some r) : Met l yX9_addTier [.code yX9_addTier cX9_addTier 5 (some .int)] rmX9_addTier (PcB G F w [.ref l0, .int l1, .int l2, .int l3]) (QB G F ((fun (r : Int32 × Wd) => some (.int r.1)) r) ((fun (r : Int32 × Wd) => r.2) r)) 0 0 (AF F) := by
  refine bd_met (vs := fun (r : Int32 × Wd) => some (.int r.1)) (wf := fun (r : Int32 × Wd) => r.2) hf9 (by decide) (Nat.le_of_ble_eq_true rfl) e9 (fun g C hret hini => ?_)
  clear e9 r
  have hb127 : ∀  (w : Wd) (l0 : Nat) (l4 : Int32) (s0 : Nat) (s1 : Int32) (s2 : Int64) (ol0 : okF F l0 9) (os0 : okF F s0 12), BD g G F 5 (qX9_addTier G F g) 0 0 (fX9_addTier_127 F N w l0 l4 s0 s1 s2) w 127 [(0, .ref l0), (4, .int l4)] [.long s2, .int s1, .ref s0] := by
    intro w l0 l4 s0 s1 s2 ol0 os0
    unfold fX9_addTier_127
    refine bd_last C dX9_addTier_127 os0 (fun w13 => ?_)
    refine bd_aload_n C 0 dX9_addTier_128 rfl rfl ?_
    refine bd_gR C fi900 fv900 wd_1241 dX9_addTier_129 ol0 (fun r14 gr14 hr14 => ?_)
    refine bd_iconst C (v := 0) dX9_addTier_132 (by decide) ?_
    refine bd_dup2 C dX9_addTier_133 rfl rfl ?_
    refine bd_lald C dX9_addTier_134 hr14 (fun x15 => ?_)
    refine bd_lconst C (v := 1) dX9_addTier_135 (by decide) ?_
    refine bd_ladd C dX9_addTier_136 ?_
    refine bd_last C dX9_addTier_137 hr14 (fun w16 => ?_)
    refine bd_iload C 1 dX9_addTier_138 rfl ?_
    exact bd_iret C hret rfl _ _ rfl rfl dX9_addTier_140 (Nat.le_refl _) (Nat.le_refl _)
  have hb53 : ∀  (w : Wd) (l0 : Nat) (l1 : Int32) (l2 : Int32) (l3 : Int32) (s0 : Nat) (s1 : Int32) (ol0 : okF F l0 9) (os0 : okF F s0 9), BD g G F 5 (qX9_addTier G F g) 0 0 (fX9_addTier_53 F N w l0 l1 l2 l3 s0 s1) w 53 [(0, .ref l0), (1, .int l1), (2, .int l2), (3, .int l3)] [.int s1, .ref s0] := by
    intro w l0 l1 l2 l3 s0 s1 ol0 os0
    unfold fX9_addTier_53
    refine bd_pI C fi906 ftX9 fu906 wd_1247 rfl rfl rfl dX9_addTier_53 os0 (fun w3 => ?_)
    refine bd_aload_n C 0 dX9_addTier_56 rfl rfl ?_
    refine bd_gI C fi906 fv906 wd_1247 dX9_addTier_57 ol0 ?_
    refine bd_if_le C 65 dX9_addTier_60 (by decide) (fun c4 => ?_) (fun c4 => ?_)
    · refine bd_aload_n C 0 dX9_addTier_65 rfl rfl ?_
      refine bd_callV (vs := fun _ => none) (wf := fun (r : Wd) => r) (st := []) (st1 := fun p5 => []) C [] (fun r9 e9 => mX9_changes C.flag N ol0 e9) mwX9_changes miX9_changes wd_1406 ol0 (by decide) rfl rfl rfl (Nat.le_of_ble_eq_true rfl) dX9_addTier_66 ⟨rfl, rfl, Nat.le_of_ble_eq_true rfl, Nat.le_of_ble_eq_true rfl, Nat.le_of_ble_eq_true rfl, Nat.le_of_ble_eq_true rfl⟩ (fun _ => rfl) (fun p5 ep5 => ?_)
      refine bd_aload_n C 0 dX9_addTier_69 rfl rfl ?_
      refine bd_callV (vs := fun (r : Int32) => some (.int r)) (wf := fun _ => p5) (st := []) (st1 := fun x6 => Value.int x6 :: []) C [] (fun r9 e9 => mX9_tiers C.flag N ol0 e9) mwX9_tiers miX9_tiers wd_1391 ol0 (by decide) rfl rfl rfl (Nat.le_of_ble_eq_true rfl) dX9_addTier_70 ⟨rfl, rfl, Nat.le_of_ble_eq_true rfl, Nat.le_of_ble_eq_true rfl, Nat.le_of_ble_eq_true rfl, Nat.le_of_ble_eq_true rfl⟩ (fun _ => rfl) (fun x6 ex6 => ?_)
      refine bd_istore C [(4, .int x6), (0, .ref l0), (1, .int l1), (2, .int l2), (3, .int l3)] dX9_addTier_73 (by decide) rfl ?_
      refine bd_aload_n C 1 dX9_addTier_75 rfl rfl ?_
      refine bd_gR C fi900 fv900 wd_1241 dX9_addTier_76 ol0 (fun r7 gr7 hr7 => ?_)
      refine bd_iconst C (v := 4) dX9_addTier_79 (by decide) ?_
      refine bd_iconst C (v := 3) dX9_addTier_80 (by decide) ?_
      refine bd_iload C 0 dX9_addTier_81 rfl ?_
      refine bd_imul C dX9_addTier_83 ?_
      refine bd_iadd C dX9_addTier_84 ?_
      refine bd_iload_n C 2 dX9_addTier_85 rfl rfl ?_
      refine bd_i2l C dX9_addTier_86 ?_
      refine bd_last C dX9_addTier_87 hr7 (fun w8 => ?_)
      refine bd_aload_n C 1 dX9_addTier_88 rfl rfl ?_
      refine bd_gR C fi900 fv900 wd_1241 dX9_addTier_89 ol0 (fun r9 gr9 hr9 => ?_)
      refine bd_iconst C (v := 4) dX9_addTier_92 (by decide) ?_
      refine bd_iconst C (v := 3) dX9_addTier_93 (by decide) ?_
      refine bd_iload C 0 dX9_addTier_94 rfl ?_
      refine bd_imul C dX9_addTier_96 ?_
      refine bd_iadd C dX9_addTier_97 ?_
      refine bd_iconst C (v := 1) dX9_addTier_98 (by decide) ?_
      refine bd_iadd C dX9_addTier_99 ?_
      refine bd_iload_n C 3 dX9_addTier_100 rfl rfl ?_
      refine bd_i2l C dX9_addTier_101 ?_
      refine bd_last C dX9_addTier_102 hr9 (fun w10 => ?_)
      refine bd_aload_n C 1 dX9_addTier_103 rfl rfl ?_
      refine bd_gR C fi900 fv900 wd_1241 dX9_addTier_104 ol0 (fun r11 gr11 hr11 => ?_)
      refine bd_iconst C (v := 4) dX9_addTier_107 (by decide) ?_
      refine bd_iconst C (v := 3) dX9_addTier_108 (by decide) ?_
      refine bd_iload C 0 dX9_addTier_109 rfl ?_
      refine bd_imul C dX9_addTier_111 ?_
      refine bd_iadd C dX9_addTier_112 ?_
      refine bd_iconst C (v := 2) dX9_addTier_113 (by decide) ?_
      refine bd_iadd C dX9_addTier_114 ?_
      refine bd_iload_n C 3 dX9_addTier_115 rfl rfl ?_
      refine bd_if_ne C 125 dX9_addTier_116 (by decide) (fun c12 => ?_) (fun c12 => ?_)
      · refine bd_iload_n C 4 dX9_addTier_125 rfl rfl ?_
        refine bd_i2l C dX9_addTier_126 ?_
        exact bd_sub (hb127 w10 l0 x6 r11 ((4 + (3 * x6)) + 2) l3.toInt64 ol0 hr11) [1, 0] rfl
      · refine bd_ldc2 C (v := -1) wd_1419 dX9_addTier_119 ?_
        refine bd_goto C 127 dX9_addTier_122 (by decide) ?_
        exact bd_sub (hb127 w10 l0 x6 r11 ((4 + (3 * x6)) + 2) (-1) ol0 hr11) [1, 0] rfl
    · refine bd_iconst C (v := 0) dX9_addTier_63 (by decide) ?_
      exact bd_iret C hret rfl _ _ rfl rfl dX9_addTier_64 (Nat.le_refl _) (Nat.le_refl _)
  have hb19 : ∀  (w : Wd) (l0 : Nat) (l1 : Int32) (l2 : Int32) (l3 : Int32) (s0 : Nat) (ol0 : okF F l0 9) (os0 : okF F s0 9), BD g G F 5 (qX9_addTier G F g) 0 0 (fX9_addTier_19 F N w l0 l1 l2 l3 s0) w 19 [(0, .ref l0), (1, .int l1), (2, .int l2), (3, .int l3)] [.ref s0] := by
    intro w l0 l1 l2 l3 s0 ol0 os0
    unfold fX9_addTier_19
    refine bd_iconst C (v := 1) dX9_addTier_19 (by decide) ?_
    refine bd_goto C 53 dX9_addTier_20 (by decide) ?_
    exact bd_sub (hb53 w l0 l1 l2 l3 s0 1 ol0 os0) [0, 1, 2, 3] rfl
  have hb39 : ∀  (w : Wd) (l0 : Nat) (l1 : Int32) (l2 : Int32) (l3 : Int32) (s0 : Nat) (ol0 : okF F l0 9) (os0 : okF F s0 9), BD g G F 5 (qX9_addTier G F g) 0 0 (fX9_addTier_39 F N w l0 l1 l2 l3 s0) w 39 [(0, .ref l0), (1, .int l1), (2, .int l2), (3, .int l3)] [.ref s0] := by
    intro w l0 l1 l2 l3 s0 ol0 os0
    unfold fX9_addTier_39
    refine bd_aload_n C 0 dX9_addTier_39 rfl rfl ?_
    refine bd_callV (vs := fun (r : Int32) => some (.int r)) (wf := fun _ => w) (st := [.ref s0]) (st1 := fun x1 => Value.int x1 :: [.ref s0]) C [] (fun r9 e9 => mX9_tiers C.flag N ol0 e9) mwX9_tiers miX9_tiers wd_1391 ol0 (by decide) rfl rfl rfl (Nat.le_of_ble_eq_true rfl) dX9_addTier_40 ⟨rfl, rfl, Nat.le_of_ble_eq_true rfl, Nat.le_of_ble_eq_true rfl, Nat.le_of_ble_eq_true rfl, Nat.le_of_ble_eq_true rfl⟩ (fun _ => rfl) (fun x1 ex1 => ?_)
    refine bd_bipush C (v := 6) dX9_addTier_43 (by decide) ?_
    refine bd_icmp_ne C 52 dX9_addTier_45 (by decide) (fun c2 => ?_) (fun c2 => ?_)
    · refine bd_iconst C (v := 0) dX9_addTier_52 (by decide) ?_
      exact bd_sub (hb53 w l0 l1 l2 l3 s0 0 ol0 os0) [0, 1, 2, 3] rfl
    · refine bd_iconst C (v := 3) dX9_addTier_48 (by decide) ?_
      refine bd_goto C 53 dX9_addTier_49 (by decide) ?_
      exact bd_sub (hb53 w l0 l1 l2 l3 s0 3 ol0 os0) [0, 1, 2, 3] rfl
  unfold fX9_addTier
  refine bd_sub (lv' := [(0, .ref l0), (1, .int l1), (2, .int l2), (3, .int l3)]) ?_ [0, 1, 2, 3] rfl
  refine bd_aload_n C 0 dX9_addTier_0 rfl rfl ?_
  refine bd_iload_n C 1 dX9_addTier_1 rfl rfl ?_
  refine bd_iconst C (v := 0) dX9_addTier_2 (by decide) ?_
  refine bd_iconst C (v := 3) dX9_addTier_3 (by decide) ?_
  refine bd_callS (vs := fun (r : Int32) => some (.int r)) (wf := fun _ => w) (st := [.ref l0]) (st1 := fun x17 => Value.int x17 :: [.ref l0]) C [.int l1, .int 0, .int 3] (fun r9 e9 => mX9_in C.flag N e9) mwX9_in miX9_in wd_1399 rfl rfl (Nat.le_of_ble_eq_true rfl) dX9_addTier_4 ⟨rfl, rfl, Nat.le_of_ble_eq_true rfl, Nat.le_of_ble_eq_true rfl, Nat.le_of_ble_eq_true rfl, Nat.le_of_ble_eq_true rfl⟩ (fun _ => rfl) (fun x17 ex17 => ?_)
  refine bd_if_eq C 19 dX9_addTier_7 (by decide) (fun c18 => ?_) (fun c18 => ?_)
  · exact bd_sub (hb19 w l0 l1 l2 l3 l0 ol0 ol0) [0, 1, 2, 3] rfl
  · refine bd_iload_n C 2 dX9_addTier_10 rfl rfl ?_
    refine bd_iconst C (v := 0) dX9_addTier_11 (by decide) ?_
    refine bd_iconst C (v := 3) dX9_addTier_12 (by decide) ?_
    refine bd_callS (vs := fun (r : Int32) => some (.int r)) (wf := fun _ => w) (st := [.ref l0]) (st1 := fun x19 => Value.int x19 :: [.ref l0]) C [.int l2, .int 0, .int 3] (fun r9 e9 => mX9_in C.flag N e9) mwX9_in miX9_in wd_1399 rfl rfl (Nat.le_of_ble_eq_true rfl) dX9_addTier_13 ⟨rfl, rfl, Nat.le_of_ble_eq_true rfl, Nat.le_of_ble_eq_true rfl, Nat.le_of_ble_eq_true rfl, Nat.le_of_ble_eq_true rfl⟩ (fun _ => rfl) (fun x19 ex19 => ?_)
    refine bd_if_ne C 23 dX9_addTier_16 (by decide) (fun c20 => ?_) (fun c20 => ?_)
    · refine bd_iload_n C 2 dX9_addTier_23 rfl rfl ?_
      refine bd_if_le C 39 dX9_addTier_24 (by decide) (fun c21 => ?_) (fun c21 => ?_)
      · exact bd_sub (hb39 w l0 l1 l2 l3 l0 ol0 ol0) [0, 1, 2, 3] rfl
      · refine bd_aload_n C 0 dX9_addTier_27 rfl rfl ?_
        refine bd_iload_n C 3 dX9_addTier_28 rfl rfl ?_
        refine bd_callV (vs := fun (r : Int32) => some (.int r)) (wf := fun _ => w) (st := [.ref l0]) (st1 := fun x22 => Value.int x22 :: [.ref l0]) C [.int l3] (fun r9 e9 => mX9_isTier C.flag N ol0 e9) mwX9_isTier miX9_isTier wd_1402 ol0 (by decide) rfl rfl rfl (Nat.le_of_ble_eq_true rfl) dX9_addTier_29 ⟨rfl, rfl, Nat.le_of_ble_eq_true rfl, Nat.le_of_ble_eq_true rfl, Nat.le_of_ble_eq_true rfl, Nat.le_of_ble_eq_true rfl⟩ (fun _ => rfl) (fun x22 ex22 => ?_)
        refine bd_if_ne C 39 dX9_addTier_32 (by decide) (fun c23 => ?_) (fun c23 => ?_)
        · exact bd_sub (hb39 w l0 l1 l2 l3 l0 ol0 ol0) [0, 1, 2, 3] rfl
        · refine bd_iconst C (v := 2) dX9_addTier_35 (by decide) ?_
          refine bd_goto C 53 dX9_addTier_36 (by decide) ?_
          exact bd_sub (hb53 w l0 l1 l2 l3 l0 2 ol0 ol0) [0, 1, 2, 3] rfl
    · exact bd_sub (hb19 w l0 l1 l2 l3 l0 ol0 ol0) [0, 1, 2, 3] rfl
abbrev rmX9_select : Room := { frames := 12, cells := 0, slots := 0, locals := 340 }
abbrev qX9_select (G : Gy) (F : Fr) (g : Bd) : (Int32 × Wd) → State → Prop := fun r => QM G F g 0 0 ((fun (r : Int32 × Wd) => some (.int r.1)) r) ((fun (r : Int32 × Wd) => r.2) r)
set_option maxRecDepth 20000 in
set_option maxHeartbeats 4000000 in
theorem mX9_select {l : Launch} (hf9 : l.stackTraces = false) {G : Gy} {F : Fr} (N : Nat) {w : Wd} {l0 : Nat} {l1 : Int32} {r : Int32 × Wd} (ol0 : okF F l0 9) (e9 : fX9_select F N w l0 l1 = some r) : Met l yX9_select [.code yX9_select cX9_select 3 (some .int)] rmX9_select (PcB G F w [.ref l0, .int l1]) (QB G F ((fun (r : Int32 × Wd) => some (.int r.1)) r) ((fun (r : Int32 × Wd) => r.2) r)) 0 0 (AF F) := by
  refine bd_met (vs := fun (r : Int32 × Wd) => some (.int r.1)) (wf := fun (r : Int32 × Wd) => r.2) hf9 (by decide) (Nat.le_of_ble_eq_true rfl) e9 (fun g C hret hini => ?_)
  clear e9 r
  have hb15 : ∀  (w : Wd) (l0 : Nat) (l1 : Int32) (s0 : Nat) (s1 : Int32) (ol0 : okF F l0 9) (os0 : okF F s0 9), BD g G F 3 (qX9_select G F g) 0 0 (fX9_select_15 F N w l0 l1 s0 s1) w 15 [(0, .ref l0), (1, .int l1)] [.int s1, .ref s0] := by
    intro w l0 l1 s0 s1 ol0 os0
    unfold fX9_select_15
    refine bd_pI C fi906 ftX9 fu906 wd_1247 rfl rfl rfl dX9_select_15 os0 (fun w1 => ?_)
    refine bd_aload_n C 0 dX9_select_18 rfl rfl ?_
    refine bd_gI C fi906 fv906 wd_1247 dX9_select_19 ol0 ?_
    refine bd_if_le C 27 dX9_select_22 (by decide) (fun c2 => ?_) (fun c2 => ?_)
    · refine bd_aload_n C 0 dX9_select_27 rfl rfl ?_
      refine bd_callV (vs := fun _ => none) (wf := fun (r : Wd) => r) (st := []) (st1 := fun p3 => []) C [] (fun r9 e9 => mX9_changes C.flag N ol0 e9) mwX9_changes miX9_changes wd_1406 ol0 (by decide) rfl rfl rfl (Nat.le_of_ble_eq_true rfl) dX9_select_28 ⟨rfl, rfl, Nat.le_of_ble_eq_true rfl, Nat.le_of_ble_eq_true rfl, Nat.le_of_ble_eq_true rfl, Nat.le_of_ble_eq_true rfl⟩ (fun _ => rfl) (fun p3 ep3 => ?_)
      refine bd_aload_n C 0 dX9_select_31 rfl rfl ?_
      refine bd_callV (vs := fun (r : Int32) => some (.int r)) (wf := fun _ => p3) (st := []) (st1 := fun x4 => Value.int x4 :: []) C [] (fun r9 e9 => mX9_annotator C.flag N ol0 e9) mwX9_annotator miX9_annotator wd_1424 ol0 (by decide) rfl rfl rfl (Nat.le_of_ble_eq_true rfl) dX9_select_32 ⟨rfl, rfl, Nat.le_of_ble_eq_true rfl, Nat.le_of_ble_eq_true rfl, Nat.le_of_ble_eq_true rfl, Nat.le_of_ble_eq_true rfl⟩ (fun _ => rfl) (fun x4 ex4 => ?_)
      refine bd_istore_n C [(2, .int x4), (0, .ref l0), (1, .int l1)] dX9_select_35 rfl (by decide) rfl ?_
      refine bd_aload_n C 1 dX9_select_36 rfl rfl ?_
      refine bd_gR C fi900 fv900 wd_1241 dX9_select_37 ol0 (fun r5 gr5 hr5 => ?_)
      refine bd_iconst C (v := 1) dX9_select_40 (by decide) ?_
      refine bd_iload_n C 2 dX9_select_41 rfl rfl ?_
      refine bd_i2l C dX9_select_42 ?_
      refine bd_last C dX9_select_43 hr5 (fun w6 => ?_)
      refine bd_iload_n C 0 dX9_select_44 rfl rfl ?_
      exact bd_iret C hret rfl _ _ rfl rfl dX9_select_45 (Nat.le_refl _) (Nat.le_refl _)
    · refine bd_iconst C (v := 0) dX9_select_25 (by decide) ?_
      exact bd_iret C hret rfl _ _ rfl rfl dX9_select_26 (Nat.le_refl _) (Nat.le_refl _)
  unfold fX9_select
  refine bd_sub (lv' := [(0, .ref l0), (1, .int l1)]) ?_ [0, 1] rfl
  refine bd_aload_n C 0 dX9_select_0 rfl rfl ?_
  refine bd_iload_n C 1 dX9_select_1 rfl rfl ?_
  refine bd_iconst C (v := 0) dX9_select_2 (by decide) ?_
  refine bd_iconst C (v := 1) dX9_select_3 (by decide) ?_
  refine bd_callS (vs := fun (r : Int32) => some (.int r)) (wf := fun _ => w) (st := [.ref l0]) (st1 := fun x7 => Value.int x7 :: [.ref l0]) C [.int l1, .int 0, .int 1] (fun r9 e9 => mX9_in C.flag N e9) mwX9_in miX9_in wd_1399 rfl rfl (Nat.le_of_ble_eq_true rfl) dX9_select_4 ⟨rfl, rfl, Nat.le_of_ble_eq_true rfl, Nat.le_of_ble_eq_true rfl, Nat.le_of_ble_eq_true rfl, Nat.le_of_ble_eq_true rfl⟩ (fun _ => rfl) (fun x7 ex7 => ?_)
  refine bd_if_eq C 14 dX9_select_7 (by decide) (fun c8 => ?_) (fun c8 => ?_)
  · refine bd_iconst C (v := 1) dX9_select_14 (by decide) ?_
    exact bd_sub (hb15 w l0 l1 l0 1 ol0 ol0) [0, 1] rfl
  · refine bd_iconst C (v := 0) dX9_select_10 (by decide) ?_
    refine bd_goto C 15 dX9_select_11 (by decide) ?_
    exact bd_sub (hb15 w l0 l1 l0 0 ol0 ol0) [0, 1] rfl
abbrev rmX9_setSetting : Room := { frames := 12, cells := 0, slots := 0, locals := 340 }
abbrev qX9_setSetting (G : Gy) (F : Fr) (g : Bd) : (Int32 × Wd) → State → Prop := fun r => QM G F g 0 0 ((fun (r : Int32 × Wd) => some (.int r.1)) r) ((fun (r : Int32 × Wd) => r.2) r)
set_option maxRecDepth 20000 in
set_option maxHeartbeats 4000000 in
theorem mX9_setSetting {l : Launch} (hf9 : l.stackTraces = false) {G : Gy} {F : Fr} (N : Nat) {w : Wd} {l0 : Nat} {l1 : Int32} {l2 : Int32} {r : Int32 × Wd} (ol0 : okF F l0 9) (e9 : fX9_setSetting F N w l0 l1 l2 = some r) : Met l yX9_setSetting [.code yX9_setSetting cX9_setSetting 4 (some .int)] rmX9_setSetting (PcB G F w [.ref l0, .int l1, .int l2]) (QB G F ((fun (r : Int32 × Wd) => some (.int r.1)) r) ((fun (r : Int32 × Wd) => r.2) r)) 0 0 (AF F) := by
  refine bd_met (vs := fun (r : Int32 × Wd) => some (.int r.1)) (wf := fun (r : Int32 × Wd) => r.2) hf9 (by decide) (Nat.le_of_ble_eq_true rfl) e9 (fun g C hret hini => ?_)
  clear e9 r
  have hb30 : ∀  (w : Wd) (l0 : Nat) (l1 : Int32) (l2 : Int32) (s0 : Nat) (s1 : Int32) (ol0 : okF F l0 9) (os0 : okF F s0 9), BD g G F 4 (qX9_setSetting G F g) 0 0 (fX9_setSetting_30 F N w l0 l1 l2 s0 s1) w 30 [(0, .ref l0), (1, .int l1), (2, .int l2)] [.int s1, .ref s0] := by
    intro w l0 l1 l2 s0 s1 ol0 os0
    unfold fX9_setSetting_30
    refine bd_pI C fi906 ftX9 fu906 wd_1247 rfl rfl rfl dX9_setSetting_30 os0 (fun w1 => ?_)
    refine bd_aload_n C 0 dX9_setSetting_33 rfl rfl ?_
    refine bd_gI C fi906 fv906 wd_1247 dX9_setSetting_34 ol0 ?_
    refine bd_if_le C 42 dX9_setSetting_37 (by decide) (fun c2 => ?_) (fun c2 => ?_)
    · refine bd_aload_n C 0 dX9_setSetting_42 rfl rfl ?_
      refine bd_callV (vs := fun _ => none) (wf := fun (r : Wd) => r) (st := []) (st1 := fun p3 => []) C [] (fun r9 e9 => mX9_changes C.flag N ol0 e9) mwX9_changes miX9_changes wd_1406 ol0 (by decide) rfl rfl rfl (Nat.le_of_ble_eq_true rfl) dX9_setSetting_43 ⟨rfl, rfl, Nat.le_of_ble_eq_true rfl, Nat.le_of_ble_eq_true rfl, Nat.le_of_ble_eq_true rfl, Nat.le_of_ble_eq_true rfl⟩ (fun _ => rfl) (fun p3 ep3 => ?_)
      refine bd_aload_n C 0 dX9_setSetting_46 rfl rfl ?_
      refine bd_gR C fi900 fv900 wd_1241 dX9_setSetting_47 ol0 (fun r4 gr4 hr4 => ?_)
      refine bd_iconst C (v := 2) dX9_setSetting_50 (by decide) ?_
      refine bd_iload_n C 1 dX9_setSetting_51 rfl rfl ?_
      refine bd_iadd C dX9_setSetting_52 ?_
      refine bd_lald C dX9_setSetting_53 hr4 (fun x5 => ?_)
      refine bd_l2i C dX9_setSetting_54 ?_
      refine bd_istore_n C [(3, .int x5.toInt32), (0, .ref l0), (1, .int l1), (2, .int l2)] dX9_setSetting_55 rfl (by decide) rfl ?_
      refine bd_aload_n C 1 dX9_setSetting_56 rfl rfl ?_
      refine bd_gR C fi900 fv900 wd_1241 dX9_setSetting_57 ol0 (fun r6 gr6 hr6 => ?_)
      refine bd_iconst C (v := 2) dX9_setSetting_60 (by decide) ?_
      refine bd_iload_n C 2 dX9_setSetting_61 rfl rfl ?_
      refine bd_iadd C dX9_setSetting_62 ?_
      refine bd_iload_n C 3 dX9_setSetting_63 rfl rfl ?_
      refine bd_i2l C dX9_setSetting_64 ?_
      refine bd_last C dX9_setSetting_65 hr6 (fun w7 => ?_)
      refine bd_iload_n C 0 dX9_setSetting_66 rfl rfl ?_
      exact bd_iret C hret rfl _ _ rfl rfl dX9_setSetting_67 (Nat.le_refl _) (Nat.le_refl _)
    · refine bd_iconst C (v := 0) dX9_setSetting_40 (by decide) ?_
      exact bd_iret C hret rfl _ _ rfl rfl dX9_setSetting_41 (Nat.le_refl _) (Nat.le_refl _)
  unfold fX9_setSetting
  refine bd_sub (lv' := [(0, .ref l0), (1, .int l1), (2, .int l2)]) ?_ [0, 1, 2] rfl
  refine bd_aload_n C 0 dX9_setSetting_0 rfl rfl ?_
  refine bd_iload_n C 1 dX9_setSetting_1 rfl rfl ?_
  refine bd_iconst C (v := 0) dX9_setSetting_2 (by decide) ?_
  refine bd_iconst C (v := 1) dX9_setSetting_3 (by decide) ?_
  refine bd_callS (vs := fun (r : Int32) => some (.int r)) (wf := fun _ => w) (st := [.ref l0]) (st1 := fun x8 => Value.int x8 :: [.ref l0]) C [.int l1, .int 0, .int 1] (fun r9 e9 => mX9_in C.flag N e9) mwX9_in miX9_in wd_1399 rfl rfl (Nat.le_of_ble_eq_true rfl) dX9_setSetting_4 ⟨rfl, rfl, Nat.le_of_ble_eq_true rfl, Nat.le_of_ble_eq_true rfl, Nat.le_of_ble_eq_true rfl, Nat.le_of_ble_eq_true rfl⟩ (fun _ => rfl) (fun x8 ex8 => ?_)
  refine bd_if_ne C 14 dX9_setSetting_7 (by decide) (fun c9 => ?_) (fun c9 => ?_)
  · refine bd_iload_n C 2 dX9_setSetting_14 rfl rfl ?_
    refine bd_iconst C (v := 0) dX9_setSetting_15 (by decide) ?_
    refine bd_sipush C (v := 200) dX9_setSetting_16 (by decide) ?_
    refine bd_callS (vs := fun (r : Int32) => some (.int r)) (wf := fun _ => w) (st := [.ref l0]) (st1 := fun x10 => Value.int x10 :: [.ref l0]) C [.int l2, .int 0, .int 200] (fun r9 e9 => mX9_in C.flag N e9) mwX9_in miX9_in wd_1399 rfl rfl (Nat.le_of_ble_eq_true rfl) dX9_setSetting_19 ⟨rfl, rfl, Nat.le_of_ble_eq_true rfl, Nat.le_of_ble_eq_true rfl, Nat.le_of_ble_eq_true rfl, Nat.le_of_ble_eq_true rfl⟩ (fun _ => rfl) (fun x10 ex10 => ?_)
    refine bd_if_ne C 29 dX9_setSetting_22 (by decide) (fun c11 => ?_) (fun c11 => ?_)
    · refine bd_iconst C (v := 0) dX9_setSetting_29 (by decide) ?_
      exact bd_sub (hb30 w l0 l1 l2 l0 0 ol0 ol0) [0, 1, 2] rfl
    · refine bd_iconst C (v := 2) dX9_setSetting_25 (by decide) ?_
      refine bd_goto C 30 dX9_setSetting_26 (by decide) ?_
      exact bd_sub (hb30 w l0 l1 l2 l0 2 ol0 ol0) [0, 1, 2] rfl
  · refine bd_iconst C (v := 1) dX9_setSetting_10 (by decide) ?_
    refine bd_goto C 30 dX9_setSetting_11 (by decide) ?_
    exact bd_sub (hb30 w l0 l1 l2 l0 1 ol0 ol0) [0, 1, 2] rfl
abbrev rmX9_row : Room := { frames := 10, cells := 0, slots := 0, locals := 300 }
abbrev qX9_row (G : Gy) (F : Fr) (g : Bd) (w : Wd) : Int32 → State → Prop := fun r => QM G F g 0 0 ((fun (r : Int32) => some (.int r)) r) ((fun _ => w) r)
set_option maxRecDepth 20000 in
set_option maxHeartbeats 4000000 in
theorem mX9_row {l : Launch} (hf9 : l.stackTraces = false) {G : Gy} {F : Fr} (N : Nat) {w : Wd} {l0 : Int32} {l1 : Int32} {r : Int32} (e9 : fX9_row F N w l0 l1 = some r) : Met l yX9_row [.code yX9_row cX9_row 2 (some .int)] rmX9_row (PcB G F w [.int l0, .int l1]) (QB G F ((fun (r : Int32) => some (.int r)) r) ((fun _ => w) r)) 0 0 (AF F) := by
  refine bd_met (vs := fun (r : Int32) => some (.int r)) (wf := fun _ => w) hf9 (by decide) (Nat.le_of_ble_eq_true rfl) e9 (fun g C hret hini => ?_)
  clear e9 r
  unfold fX9_row
  refine bd_sub (lv' := [(0, .int l0), (1, .int l1)]) ?_ [0, 1] rfl
  refine bd_bipush C (v := 22) dX9_row_0 (by decide) ?_
  refine bd_bipush C (v := 91) dX9_row_2 (by decide) ?_
  refine bd_bipush C (v := 6) dX9_row_4 (by decide) ?_
  refine bd_iload_n C 0 dX9_row_6 rfl rfl ?_
  refine bd_imul C dX9_row_7 ?_
  refine bd_iload_n C 1 dX9_row_8 rfl rfl ?_
  refine bd_iadd C dX9_row_9 ?_
  refine bd_imul C dX9_row_10 ?_
  refine bd_iadd C dX9_row_11 ?_
  exact bd_iret C hret rfl _ _ rfl rfl dX9_row_12 (Nat.le_refl _) (Nat.le_refl _)
abbrev rmX9_row_ : Room := { frames := 11, cells := 0, slots := 0, locals := 321 }
abbrev qX9_row_ (G : Gy) (F : Fr) (g : Bd) (w : Wd) : Int32 → State → Prop := fun r => QM G F g 0 0 ((fun (r : Int32) => some (.int r)) r) ((fun _ => w) r)
set_option maxRecDepth 20000 in
set_option maxHeartbeats 4000000 in
theorem mX9_row_ {l : Launch} (hf9 : l.stackTraces = false) {G : Gy} {F : Fr} (N : Nat) {w : Wd} {l0 : Nat} {l1 : Int32} {r : Int32} (ol0 : okF F l0 9) (e9 : fX9_row_ F N w l0 l1 = some r) : Met l yX9_row_ [.code yX9_row_ cX9_row_ 2 (some .int)] rmX9_row_ (PcB G F w [.ref l0, .int l1]) (QB G F ((fun (r : Int32) => some (.int r)) r) ((fun _ => w) r)) 0 0 (AF F) := by
  refine bd_met (vs := fun (r : Int32) => some (.int r)) (wf := fun _ => w) hf9 (by decide) (Nat.le_of_ble_eq_true rfl) e9 (fun g C hret hini => ?_)
  clear e9 r
  unfold fX9_row_
  refine bd_sub (lv' := [(0, .ref l0), (1, .int l1)]) ?_ [0, 1] rfl
  refine bd_aload_n C 0 dX9_row__0 rfl rfl ?_
  refine bd_callV (vs := fun (r : Int32) => some (.int r)) (wf := fun _ => w) (st := []) (st1 := fun x1 => Value.int x1 :: []) C [] (fun r9 e9 => mX9_annotator C.flag N ol0 e9) mwX9_annotator miX9_annotator wd_1424 ol0 (by decide) rfl rfl rfl (Nat.le_of_ble_eq_true rfl) dX9_row__1 ⟨rfl, rfl, Nat.le_of_ble_eq_true rfl, Nat.le_of_ble_eq_true rfl, Nat.le_of_ble_eq_true rfl, Nat.le_of_ble_eq_true rfl⟩ (fun _ => rfl) (fun x1 ex1 => ?_)
  refine bd_iload_n C 1 dX9_row__4 rfl rfl ?_
  refine bd_callS (vs := fun (r : Int32) => some (.int r)) (wf := fun _ => w) (st := []) (st1 := fun x2 => Value.int x2 :: []) C [.int x1, .int l1] (fun r9 e9 => mX9_row C.flag N e9) mwX9_row miX9_row wd_1444 rfl rfl (Nat.le_of_ble_eq_true rfl) dX9_row__5 ⟨rfl, rfl, Nat.le_of_ble_eq_true rfl, Nat.le_of_ble_eq_true rfl, Nat.le_of_ble_eq_true rfl, Nat.le_of_ble_eq_true rfl⟩ (fun _ => rfl) (fun x2 ex2 => ?_)
  exact bd_iret C hret rfl _ _ rfl rfl dX9_row__8 (Nat.le_refl _) (Nat.le_refl _)
abbrev rmX9_many : Room := { frames := 12, cells := 0, slots := 0, locals := 342 }
abbrev qX9_many (G : Gy) (F : Fr) (g : Bd) (w : Wd) : Int32 → State → Prop := fun r => QM G F g 0 0 ((fun (r : Int32) => some (.int r)) r) ((fun _ => w) r)
set_option maxRecDepth 20000 in
set_option maxHeartbeats 4000000 in
theorem mX9_many {l : Launch} (hf9 : l.stackTraces = false) {G : Gy} {F : Fr} (N : Nat) {w : Wd} {l0 : Nat} {l1 : Int32} {r : Int32} (ol0 : okF F l0 9) (e9 : fX9_many F N w l0 l1 = some r) : Met l yX9_many [.code yX9_many cX9_many 2 (some .int)] rmX9_many (PcB G F w [.ref l0, .int l1]) (QB G F ((fun (r : Int32) => some (.int r)) r) ((fun _ => w) r)) 0 0 (AF F) := by
  refine bd_met (vs := fun (r : Int32) => some (.int r)) (wf := fun _ => w) hf9 (by decide) (Nat.le_of_ble_eq_true rfl) e9 (fun g C hret hini => ?_)
  clear e9 r
  unfold fX9_many
  refine bd_sub (lv' := [(0, .ref l0), (1, .int l1)]) ?_ [0, 1] rfl
  refine bd_aload_n C 0 dX9_many_0 rfl rfl ?_
  refine bd_gR C fi900 fv900 wd_1241 dX9_many_1 ol0 (fun r1 gr1 hr1 => ?_)
  refine bd_aload_n C 0 dX9_many_4 rfl rfl ?_
  refine bd_iload_n C 1 dX9_many_5 rfl rfl ?_
  refine bd_callV (vs := fun (r : Int32) => some (.int r)) (wf := fun _ => w) (st := [.ref r1]) (st1 := fun x2 => Value.int x2 :: [.ref r1]) C [.int l1] (fun r9 e9 => mX9_row_ C.flag N ol0 e9) mwX9_row_ miX9_row_ wd_1440 ol0 (by decide) rfl rfl rfl (Nat.le_of_ble_eq_true rfl) dX9_many_6 ⟨rfl, rfl, Nat.le_of_ble_eq_true rfl, Nat.le_of_ble_eq_true rfl, Nat.le_of_ble_eq_true rfl, Nat.le_of_ble_eq_true rfl⟩ (fun _ => rfl) (fun x2 ex2 => ?_)
  refine bd_lald C dX9_many_9 hr1 (fun x3 => ?_)
  refine bd_l2i C dX9_many_10 ?_
  exact bd_iret C hret rfl _ _ rfl rfl dX9_many_11 (Nat.le_refl _) (Nat.le_refl _)
abbrev rmX9_isSpan : Room := { frames := 13, cells := 0, slots := 0, locals := 363 }
abbrev qX9_isSpan (G : Gy) (F : Fr) (g : Bd) (w : Wd) : Int32 → State → Prop := fun r => QM G F g 0 0 ((fun (r : Int32) => some (.int r)) r) ((fun _ => w) r)
set_option maxRecDepth 20000 in
set_option maxHeartbeats 4000000 in
theorem mX9_isSpan {l : Launch} (hf9 : l.stackTraces = false) {G : Gy} {F : Fr} (N : Nat) {w : Wd} {l0 : Nat} {l1 : Int32} {l2 : Int32} {r : Int32} (ol0 : okF F l0 9) (e9 : fX9_isSpan F N w l0 l1 l2 = some r) : Met l yX9_isSpan [.code yX9_isSpan cX9_isSpan 3 (some .boolean)] rmX9_isSpan (PcB G F w [.ref l0, .int l1, .int l2]) (QB G F ((fun (r : Int32) => some (.int r)) r) ((fun _ => w) r)) 0 0 (AF F) := by
  refine bd_met (vs := fun (r : Int32) => some (.int r)) (wf := fun _ => w) hf9 (by decide) (Nat.le_of_ble_eq_true rfl) e9 (fun g C hret hini => ?_)
  clear e9 r
  unfold fX9_isSpan
  refine bd_sub (lv' := [(0, .ref l0), (1, .int l1), (2, .int l2)]) ?_ [0, 1, 2] rfl
  refine bd_aload_n C 0 dX9_isSpan_0 rfl rfl ?_
  refine bd_iload_n C 1 dX9_isSpan_1 rfl rfl ?_
  refine bd_callV (vs := fun (r : Int32) => some (.int r)) (wf := fun _ => w) (st := []) (st1 := fun x1 => Value.int x1 :: []) C [.int l1] (fun r9 e9 => mX9_isTier C.flag N ol0 e9) mwX9_isTier miX9_isTier wd_1402 ol0 (by decide) rfl rfl rfl (Nat.le_of_ble_eq_true rfl) dX9_isSpan_2 ⟨rfl, rfl, Nat.le_of_ble_eq_true rfl, Nat.le_of_ble_eq_true rfl, Nat.le_of_ble_eq_true rfl, Nat.le_of_ble_eq_true rfl⟩ (fun _ => rfl) (fun x1 ex1 => ?_)
  refine bd_if_eq C 27 dX9_isSpan_5 (by decide) (fun c2 => ?_) (fun c2 => ?_)
  · refine bd_iconst C (v := 0) dX9_isSpan_27 (by decide) ?_
    exact bd_zret C hret rfl _ _ rfl rfl rfl dX9_isSpan_28 (Nat.le_refl _) (Nat.le_refl _)
  · refine bd_iload_n C 2 dX9_isSpan_8 rfl rfl ?_
    refine bd_iconst C (v := 0) dX9_isSpan_9 (by decide) ?_
    refine bd_aload_n C 0 dX9_isSpan_10 rfl rfl ?_
    refine bd_iload_n C 1 dX9_isSpan_11 rfl rfl ?_
    refine bd_callV (vs := fun (r : Int32) => some (.int r)) (wf := fun _ => w) (st := [.int 0, .int l2]) (st1 := fun x3 => Value.int x3 :: [.int 0, .int l2]) C [.int l1] (fun r9 e9 => mX9_many C.flag N ol0 e9) mwX9_many miX9_many wd_1436 ol0 (by decide) rfl rfl rfl (Nat.le_of_ble_eq_true rfl) dX9_isSpan_12 ⟨rfl, rfl, Nat.le_of_ble_eq_true rfl, Nat.le_of_ble_eq_true rfl, Nat.le_of_ble_eq_true rfl, Nat.le_of_ble_eq_true rfl⟩ (fun _ => rfl) (fun x3 ex3 => ?_)
    refine bd_iconst C (v := 1) dX9_isSpan_15 (by decide) ?_
    refine bd_isub C dX9_isSpan_16 ?_
    refine bd_callS (vs := fun (r : Int32) => some (.int r)) (wf := fun _ => w) (st := []) (st1 := fun x4 => Value.int x4 :: []) C [.int l2, .int 0, .int (x3 - 1)] (fun r9 e9 => mX9_in C.flag N e9) mwX9_in miX9_in wd_1399 rfl rfl (Nat.le_of_ble_eq_true rfl) dX9_isSpan_17 ⟨rfl, rfl, Nat.le_of_ble_eq_true rfl, Nat.le_of_ble_eq_true rfl, Nat.le_of_ble_eq_true rfl, Nat.le_of_ble_eq_true rfl⟩ (fun _ => rfl) (fun x4 ex4 => ?_)
    refine bd_if_eq C 27 dX9_isSpan_20 (by decide) (fun c5 => ?_) (fun c5 => ?_)
    · refine bd_iconst C (v := 0) dX9_isSpan_27 (by decide) ?_
      exact bd_zret C hret rfl _ _ rfl rfl rfl dX9_isSpan_28 (Nat.le_refl _) (Nat.le_refl _)
    · refine bd_iconst C (v := 1) dX9_isSpan_23 (by decide) ?_
      refine bd_goto C 28 dX9_isSpan_24 (by decide) ?_
      exact bd_zret C hret rfl _ _ rfl rfl rfl dX9_isSpan_28 (Nat.le_refl _) (Nat.le_refl _)
abbrev rmX9_at : Room := { frames := 12, cells := 0, slots := 0, locals := 342 }
abbrev qX9_at (G : Gy) (F : Fr) (g : Bd) (w : Wd) : Int32 → State → Prop := fun r => QM G F g 0 0 ((fun (r : Int32) => some (.int r)) r) ((fun _ => w) r)
set_option maxRecDepth 20000 in
set_option maxHeartbeats 4000000 in
theorem mX9_at {l : Launch} (hf9 : l.stackTraces = false) {G : Gy} {F : Fr} (N : Nat) {w : Wd} {l0 : Nat} {l1 : Int32} {l2 : Int32} {r : Int32} (ol0 : okF F l0 9) (e9 : fX9_at F N w l0 l1 l2 = some r) : Met l yX9_at [.code yX9_at cX9_at 3 (some .int)] rmX9_at (PcB G F w [.ref l0, .int l1, .int l2]) (QB G F ((fun (r : Int32) => some (.int r)) r) ((fun _ => w) r)) 0 0 (AF F) := by
  refine bd_met (vs := fun (r : Int32) => some (.int r)) (wf := fun _ => w) hf9 (by decide) (Nat.le_of_ble_eq_true rfl) e9 (fun g C hret hini => ?_)
  clear e9 r
  unfold fX9_at
  refine bd_sub (lv' := [(0, .ref l0), (1, .int l1), (2, .int l2)]) ?_ [0, 1, 2] rfl
  refine bd_aload_n C 0 dX9_at_0 rfl rfl ?_
  refine bd_iload_n C 1 dX9_at_1 rfl rfl ?_
  refine bd_callV (vs := fun (r : Int32) => some (.int r)) (wf := fun _ => w) (st := []) (st1 := fun x1 => Value.int x1 :: []) C [.int l1] (fun r9 e9 => mX9_row_ C.flag N ol0 e9) mwX9_row_ miX9_row_ wd_1440 ol0 (by decide) rfl rfl rfl (Nat.le_of_ble_eq_true rfl) dX9_at_2 ⟨rfl, rfl, Nat.le_of_ble_eq_true rfl, Nat.le_of_ble_eq_true rfl, Nat.le_of_ble_eq_true rfl, Nat.le_of_ble_eq_true rfl⟩ (fun _ => rfl) (fun x1 ex1 => ?_)
  refine bd_iconst C (v := 1) dX9_at_5 (by decide) ?_
  refine bd_iadd C dX9_at_6 ?_
  refine bd_iconst C (v := 3) dX9_at_7 (by decide) ?_
  refine bd_iload_n C 2 dX9_at_8 rfl rfl ?_
  refine bd_imul C dX9_at_9 ?_
  refine bd_iadd C dX9_at_10 ?_
  exact bd_iret C hret rfl _ _ rfl rfl dX9_at_11 (Nat.le_refl _) (Nat.le_refl _)
abbrev rmX9_first : Room := { frames := 13, cells := 0, slots := 0, locals := 364 }
abbrev qX9_first (G : Gy) (F : Fr) (g : Bd) (w : Wd) : Int32 → State → Prop := fun r => QM G F g 0 0 ((fun (r : Int32) => some (.int r)) r) ((fun _ => w) r)
set_option maxRecDepth 20000 in
set_option maxHeartbeats 4000000 in
theorem mX9_first {l : Launch} (hf9 : l.stackTraces = false) {G : Gy} {F : Fr} (N : Nat) {w : Wd} {l0 : Nat} {l1 : Int32} {l2 : Int32} {r : Int32} (ol0 : okF F l0 9) (e9 : fX9_first F N w l0 l1 l2 = some r) : Met l yX9_first [.code yX9_first cX9_first 3 (some .int)] rmX9_first (PcB G F w [.ref l0, .int l1, .int l2]) (QB G F ((fun (r : Int32) => some (.int r)) r) ((fun _ => w) r)) 0 0 (AF F) := by
  refine bd_met (vs := fun (r : Int32) => some (.int r)) (wf := fun _ => w) hf9 (by decide) (Nat.le_of_ble_eq_true rfl) e9 (fun g C hret hini => ?_)
  clear e9 r
  unfold fX9_first
  refine bd_sub (lv' := [(0, .ref l0), (1, .int l1), (2, .int l2)]) ?_ [0, 1, 2] rfl
  refine bd_aload_n C 0 dX9_first_0 rfl rfl ?_
  refine bd_gR C fi900 fv900 wd_1241 dX9_first_1 ol0 (fun r1 gr1 hr1 => ?_)
  refine bd_aload_n C 0 dX9_first_4 rfl rfl ?_
  refine bd_iload_n C 1 dX9_first_5 rfl rfl ?_
  refine bd_iload_n C 2 dX9_first_6 rfl rfl ?_
  refine bd_callV (vs := fun (r : Int32) => some (.int r)) (wf := fun _ => w) (st := [.ref r1]) (st1 := fun x2 => Value.int x2 :: [.ref r1]) C [.int l1, .int l2] (fun r9 e9 => mX9_at C.flag N ol0 e9) mwX9_at miX9_at wd_1463 ol0 (by decide) rfl rfl rfl (Nat.le_of_ble_eq_true rfl) dX9_first_7 ⟨rfl, rfl, Nat.le_of_ble_eq_true rfl, Nat.le_of_ble_eq_true rfl, Nat.le_of_ble_eq_true rfl, Nat.le_of_ble_eq_true rfl⟩ (fun _ => rfl) (fun x2 ex2 => ?_)
  refine bd_lald C dX9_first_10 hr1 (fun x3 => ?_)
  refine bd_l2i C dX9_first_11 ?_
  exact bd_iret C hret rfl _ _ rfl rfl dX9_first_12 (Nat.le_refl _) (Nat.le_refl _)
abbrev rmX9_end : Room := { frames := 13, cells := 0, slots := 0, locals := 364 }
abbrev qX9_end (G : Gy) (F : Fr) (g : Bd) (w : Wd) : Int32 → State → Prop := fun r => QM G F g 0 0 ((fun (r : Int32) => some (.int r)) r) ((fun _ => w) r)
set_option maxRecDepth 20000 in
set_option maxHeartbeats 4000000 in
theorem mX9_end {l : Launch} (hf9 : l.stackTraces = false) {G : Gy} {F : Fr} (N : Nat) {w : Wd} {l0 : Nat} {l1 : Int32} {l2 : Int32} {r : Int32} (ol0 : okF F l0 9) (e9 : fX9_end F N w l0 l1 l2 = some r) : Met l yX9_end [.code yX9_end cX9_end 3 (some .int)] rmX9_end (PcB G F w [.ref l0, .int l1, .int l2]) (QB G F ((fun (r : Int32) => some (.int r)) r) ((fun _ => w) r)) 0 0 (AF F) := by
  refine bd_met (vs := fun (r : Int32) => some (.int r)) (wf := fun _ => w) hf9 (by decide) (Nat.le_of_ble_eq_true rfl) e9 (fun g C hret hini => ?_)
  clear e9 r
  unfold fX9_end
  refine bd_sub (lv' := [(0, .ref l0), (1, .int l1), (2, .int l2)]) ?_ [0, 1, 2] rfl
  refine bd_aload_n C 0 dX9_end_0 rfl rfl ?_
  refine bd_gR C fi900 fv900 wd_1241 dX9_end_1 ol0 (fun r1 gr1 hr1 => ?_)
  refine bd_aload_n C 0 dX9_end_4 rfl rfl ?_
  refine bd_iload_n C 1 dX9_end_5 rfl rfl ?_
  refine bd_iload_n C 2 dX9_end_6 rfl rfl ?_
  refine bd_callV (vs := fun (r : Int32) => some (.int r)) (wf := fun _ => w) (st := [.ref r1]) (st1 := fun x2 => Value.int x2 :: [.ref r1]) C [.int l1, .int l2] (fun r9 e9 => mX9_at C.flag N ol0 e9) mwX9_at miX9_at wd_1463 ol0 (by decide) rfl rfl rfl (Nat.le_of_ble_eq_true rfl) dX9_end_7 ⟨rfl, rfl, Nat.le_of_ble_eq_true rfl, Nat.le_of_ble_eq_true rfl, Nat.le_of_ble_eq_true rfl, Nat.le_of_ble_eq_true rfl⟩ (fun _ => rfl) (fun x2 ex2 => ?_)
  refine bd_iconst C (v := 1) dX9_end_10 (by decide) ?_
  refine bd_iadd C dX9_end_11 ?_
  refine bd_lald C dX9_end_12 hr1 (fun x3 => ?_)
  refine bd_l2i C dX9_end_13 ?_
  exact bd_iret C hret rfl _ _ rfl rfl dX9_end_14 (Nat.le_refl _) (Nat.le_refl _)
abbrev rmX9_label : Room := { frames := 13, cells := 0, slots := 0, locals := 364 }
abbrev qX9_label (G : Gy) (F : Fr) (g : Bd) (w : Wd) : Int64 → State → Prop := fun r => QM G F g 0 0 ((fun (r : Int64) => some (.long r)) r) ((fun _ => w) r)
set_option maxRecDepth 20000 in
set_option maxHeartbeats 4000000 in
theorem mX9_label {l : Launch} (hf9 : l.stackTraces = false) {G : Gy} {F : Fr} (N : Nat) {w : Wd} {l0 : Nat} {l1 : Int32} {l2 : Int32} {r : Int64} (ol0 : okF F l0 9) (e9 : fX9_label F N w l0 l1 l2 = some r) : Met l yX9_label [.code yX9_label cX9_label 3 (some .long)] rmX9_label (PcB G F w [.ref l0, .int l1, .int l2]) (QB G F ((fun (r : Int64) => some (.long r)) r) ((fun _ => w) r)) 0 0 (AF F) := by
  refine bd_met (vs := fun (r : Int64) => some (.long r)) (wf := fun _ => w) hf9 (by decide) (Nat.le_of_ble_eq_true rfl) e9 (fun g C hret hini => ?_)
  clear e9 r
  unfold fX9_label
  refine bd_sub (lv' := [(0, .ref l0), (1, .int l1), (2, .int l2)]) ?_ [0, 1, 2] rfl
  refine bd_aload_n C 0 dX9_label_0 rfl rfl ?_
  refine bd_gR C fi900 fv900 wd_1241 dX9_label_1 ol0 (fun r1 gr1 hr1 => ?_)
  refine bd_aload_n C 0 dX9_label_4 rfl rfl ?_
  refine bd_iload_n C 1 dX9_label_5 rfl rfl ?_
  refine bd_iload_n C 2 dX9_label_6 rfl rfl ?_
  refine bd_callV (vs := fun (r : Int32) => some (.int r)) (wf := fun _ => w) (st := [.ref r1]) (st1 := fun x2 => Value.int x2 :: [.ref r1]) C [.int l1, .int l2] (fun r9 e9 => mX9_at C.flag N ol0 e9) mwX9_at miX9_at wd_1463 ol0 (by decide) rfl rfl rfl (Nat.le_of_ble_eq_true rfl) dX9_label_7 ⟨rfl, rfl, Nat.le_of_ble_eq_true rfl, Nat.le_of_ble_eq_true rfl, Nat.le_of_ble_eq_true rfl, Nat.le_of_ble_eq_true rfl⟩ (fun _ => rfl) (fun x2 ex2 => ?_)
  refine bd_iconst C (v := 2) dX9_label_10 (by decide) ?_
  refine bd_iadd C dX9_label_11 ?_
  refine bd_lald C dX9_label_12 hr1 (fun x3 => ?_)
  exact bd_lret C hret rfl _ _ rfl rfl dX9_label_13 (Nat.le_refl _) (Nat.le_refl _)
abbrev rmX9_takeOut : Room := { frames := 13, cells := 0, slots := 0, locals := 364 }
abbrev qX9_takeOut (G : Gy) (F : Fr) (g : Bd) : Wd → State → Prop := fun r => QM G F g 0 0 ((fun _ => none) r) ((fun (r : Wd) => r) r)
set_option maxRecDepth 20000 in
set_option maxHeartbeats 4000000 in
theorem mX9_takeOut {l : Launch} (hf9 : l.stackTraces = false) {G : Gy} {F : Fr} (N : Nat) {w : Wd} {l0 : Nat} {l1 : Int32} {l2 : Int32} {r : Wd} (ol0 : okF F l0 9) (e9 : fX9_takeOut F N w l0 l1 l2 = some r) : Met l yX9_takeOut [.code yX9_takeOut cX9_takeOut 3 none] rmX9_takeOut (PcB G F w [.ref l0, .int l1, .int l2]) (QB G F ((fun _ => none) r) ((fun (r : Wd) => r) r)) 0 0 (AF F) := by
  refine bd_met (vs := fun _ => none) (wf := fun (r : Wd) => r) hf9 (by decide) (Nat.le_of_ble_eq_true rfl) e9 (fun g C hret hini => ?_)
  clear e9 r
  unfold fX9_takeOut
  refine bd_sub (lv' := [(0, .ref l0), (1, .int l1), (2, .int l2)]) ?_ [0, 1, 2] rfl
  refine bd_aload_n C 0 dX9_takeOut_0 rfl rfl ?_
  refine bd_gR C fi900 fv900 wd_1241 dX9_takeOut_1 ol0 (fun r1 gr1 hr1 => ?_)
  refine bd_aload_n C 0 dX9_takeOut_4 rfl rfl ?_
  refine bd_iload_n C 1 dX9_takeOut_5 rfl rfl ?_
  refine bd_callV (vs := fun (r : Int32) => some (.int r)) (wf := fun _ => w) (st := [.ref r1]) (st1 := fun x2 => Value.int x2 :: [.ref r1]) C [.int l1] (fun r9 e9 => mX9_row_ C.flag N ol0 e9) mwX9_row_ miX9_row_ wd_1440 ol0 (by decide) rfl rfl rfl (Nat.le_of_ble_eq_true rfl) dX9_takeOut_6 ⟨rfl, rfl, Nat.le_of_ble_eq_true rfl, Nat.le_of_ble_eq_true rfl, Nat.le_of_ble_eq_true rfl, Nat.le_of_ble_eq_true rfl⟩ (fun _ => rfl) (fun x2 ex2 => ?_)
  refine bd_dup2 C dX9_takeOut_9 rfl rfl ?_
  refine bd_lald C dX9_takeOut_10 hr1 (fun x3 => ?_)
  refine bd_lconst C (v := 1) dX9_takeOut_11 (by decide) ?_
  refine bd_lsub C dX9_takeOut_12 ?_
  refine bd_last C dX9_takeOut_13 hr1 (fun w4 => ?_)
  refine bd_aload_n C 0 dX9_takeOut_14 rfl rfl ?_
  refine bd_gR C fi900 fv900 wd_1241 dX9_takeOut_15 ol0 (fun r5 gr5 hr5 => ?_)
  refine bd_aload_n C 0 dX9_takeOut_18 rfl rfl ?_
  refine bd_iload_n C 1 dX9_takeOut_19 rfl rfl ?_
  refine bd_iload_n C 2 dX9_takeOut_20 rfl rfl ?_
  refine bd_iconst C (v := 1) dX9_takeOut_21 (by decide) ?_
  refine bd_iadd C dX9_takeOut_22 ?_
  refine bd_callV (vs := fun (r : Int32) => some (.int r)) (wf := fun _ => w4) (st := [.ref r5]) (st1 := fun x6 => Value.int x6 :: [.ref r5]) C [.int l1, .int (l2 + 1)] (fun r9 e9 => mX9_at C.flag N ol0 e9) mwX9_at miX9_at wd_1463 ol0 (by decide) rfl rfl rfl (Nat.le_of_ble_eq_true rfl) dX9_takeOut_23 ⟨rfl, rfl, Nat.le_of_ble_eq_true rfl, Nat.le_of_ble_eq_true rfl, Nat.le_of_ble_eq_true rfl, Nat.le_of_ble_eq_true rfl⟩ (fun _ => rfl) (fun x6 ex6 => ?_)
  refine bd_aload_n C 0 dX9_takeOut_26 rfl rfl ?_
  refine bd_gR C fi900 fv900 wd_1241 dX9_takeOut_27 ol0 (fun r7 gr7 hr7 => ?_)
  refine bd_aload_n C 0 dX9_takeOut_30 rfl rfl ?_
  refine bd_iload_n C 1 dX9_takeOut_31 rfl rfl ?_
  refine bd_iload_n C 2 dX9_takeOut_32 rfl rfl ?_
  refine bd_callV (vs := fun (r : Int32) => some (.int r)) (wf := fun _ => w4) (st := [.ref r7, .int x6, .ref r5]) (st1 := fun x8 => Value.int x8 :: [.ref r7, .int x6, .ref r5]) C [.int l1, .int l2] (fun r9 e9 => mX9_at C.flag N ol0 e9) mwX9_at miX9_at wd_1463 ol0 (by decide) rfl rfl rfl (Nat.le_of_ble_eq_true rfl) dX9_takeOut_33 ⟨rfl, rfl, Nat.le_of_ble_eq_true rfl, Nat.le_of_ble_eq_true rfl, Nat.le_of_ble_eq_true rfl, Nat.le_of_ble_eq_true rfl⟩ (fun _ => rfl) (fun x8 ex8 => ?_)
  refine bd_iconst C (v := 3) dX9_takeOut_36 (by decide) ?_
  refine bd_aload_n C 0 dX9_takeOut_37 rfl rfl ?_
  refine bd_iload_n C 1 dX9_takeOut_38 rfl rfl ?_
  refine bd_callV (vs := fun (r : Int32) => some (.int r)) (wf := fun _ => w4) (st := [.int 3, .int x8, .ref r7, .int x6, .ref r5]) (st1 := fun x9 => Value.int x9 :: [.int 3, .int x8, .ref r7, .int x6, .ref r5]) C [.int l1] (fun r9 e9 => mX9_many C.flag N ol0 e9) mwX9_many miX9_many wd_1436 ol0 (by decide) rfl rfl rfl (Nat.le_of_ble_eq_true rfl) dX9_takeOut_39 ⟨rfl, rfl, Nat.le_of_ble_eq_true rfl, Nat.le_of_ble_eq_true rfl, Nat.le_of_ble_eq_true rfl, Nat.le_of_ble_eq_true rfl⟩ (fun _ => rfl) (fun x9 ex9 => ?_)
  refine bd_iload_n C 2 dX9_takeOut_42 rfl rfl ?_
  refine bd_isub C dX9_takeOut_43 ?_
  refine bd_imul C dX9_takeOut_44 ?_
  refine bd_copyJ C wd_1414 wd_474 wd_473 wd_103 dX9_takeOut_45 hr5 hr7 ⟨Nat.le_of_ble_eq_true rfl, Nat.le_of_ble_eq_true rfl⟩ (fun w10 => ?_)
  exact bd_vret C hret rfl _ _ rfl rfl dX9_takeOut_48 (Nat.le_refl _) (Nat.le_refl _)
abbrev rmX9_putIn : Room := { frames := 14, cells := 0, slots := 0, locals := 386 }
abbrev qX9_putIn (G : Gy) (F : Fr) (g : Bd) : (Int32 × Wd) → State → Prop := fun r => QM G F g 0 0 ((fun (r : Int32 × Wd) => some (.int r.1)) r) ((fun (r : Int32 × Wd) => r.2) r)
set_option maxRecDepth 20000 in
set_option maxHeartbeats 4000000 in
theorem mX9_putIn {l : Launch} (hf9 : l.stackTraces = false) {G : Gy} {F : Fr} (N : Nat) {w : Wd} {l0 : Nat} {l1 : Int32} {l2 : Int32} {l3 : Int32} {l4 : Int64} {r : Int32 × Wd} (ol0 : okF F l0 9) (e9 : fX9_putIn F N w l0 l1 l2 l3 l4 = some r) : Met l yX9_putIn [.code yX9_putIn cX9_putIn 7 (some .int)] rmX9_putIn (PcB G F w [.ref l0, .int l1, .int l2, .int l3, .long l4]) (QB G F ((fun (r : Int32 × Wd) => some (.int r.1)) r) ((fun (r : Int32 × Wd) => r.2) r)) 0 0 (AF F) := by
  refine bd_met (vs := fun (r : Int32 × Wd) => some (.int r.1)) (wf := fun (r : Int32 × Wd) => r.2) hf9 (by decide) (Nat.le_of_ble_eq_true rfl) e9 (fun g C hret hini => ?_)
  clear e9 r
  have hb30 : ∀  (w : Wd) (l0 : Nat) (l1 : Int32) (l2 : Int32) (l3 : Int32) (l4 : Int64) (l6 : Int32) (ol0 : okF F l0 9), BD g G F 7 (qX9_putIn G F g) 0 0 (fX9_putIn_30 F N w l0 l1 l2 l3 l4 l6) w 30 [(0, .ref l0), (1, .int l1), (2, .int l2), (3, .int l3), (4, .long l4), (6, .int l6)] [] := by
    intro w l0 l1 l2 l3 l4 l6 ol0
    unfold fX9_putIn_30
    refine bd_aload_n C 0 dX9_putIn_30 rfl rfl ?_
    refine bd_gR C fi900 fv900 wd_1241 dX9_putIn_31 ol0 (fun r5 gr5 hr5 => ?_)
    refine bd_aload_n C 0 dX9_putIn_34 rfl rfl ?_
    refine bd_iload_n C 1 dX9_putIn_35 rfl rfl ?_
    refine bd_iload C 5 dX9_putIn_36 rfl ?_
    refine bd_callV (vs := fun (r : Int32) => some (.int r)) (wf := fun _ => w) (st := [.ref r5]) (st1 := fun x6 => Value.int x6 :: [.ref r5]) C [.int l1, .int l6] (fun r9 e9 => mX9_at C.flag N ol0 e9) mwX9_at miX9_at wd_1463 ol0 (by decide) rfl rfl rfl (Nat.le_of_ble_eq_true rfl) dX9_putIn_38 ⟨rfl, rfl, Nat.le_of_ble_eq_true rfl, Nat.le_of_ble_eq_true rfl, Nat.le_of_ble_eq_true rfl, Nat.le_of_ble_eq_true rfl⟩ (fun _ => rfl) (fun x6 ex6 => ?_)
    refine bd_aload_n C 0 dX9_putIn_41 rfl rfl ?_
    refine bd_gR C fi900 fv900 wd_1241 dX9_putIn_42 ol0 (fun r7 gr7 hr7 => ?_)
    refine bd_aload_n C 0 dX9_putIn_45 rfl rfl ?_
    refine bd_iload_n C 1 dX9_putIn_46 rfl rfl ?_
    refine bd_iload C 5 dX9_putIn_47 rfl ?_
    refine bd_iconst C (v := 1) dX9_putIn_49 (by decide) ?_
    refine bd_iadd C dX9_putIn_50 ?_
    refine bd_callV (vs := fun (r : Int32) => some (.int r)) (wf := fun _ => w) (st := [.ref r7, .int x6, .ref r5]) (st1 := fun x8 => Value.int x8 :: [.ref r7, .int x6, .ref r5]) C [.int l1, .int (l6 + 1)] (fun r9 e9 => mX9_at C.flag N ol0 e9) mwX9_at miX9_at wd_1463 ol0 (by decide) rfl rfl rfl (Nat.le_of_ble_eq_true rfl) dX9_putIn_51 ⟨rfl, rfl, Nat.le_of_ble_eq_true rfl, Nat.le_of_ble_eq_true rfl, Nat.le_of_ble_eq_true rfl, Nat.le_of_ble_eq_true rfl⟩ (fun _ => rfl) (fun x8 ex8 => ?_)
    refine bd_iconst C (v := 3) dX9_putIn_54 (by decide) ?_
    refine bd_aload_n C 0 dX9_putIn_55 rfl rfl ?_
    refine bd_iload_n C 1 dX9_putIn_56 rfl rfl ?_
    refine bd_callV (vs := fun (r : Int32) => some (.int r)) (wf := fun _ => w) (st := [.int 3, .int x8, .ref r7, .int x6, .ref r5]) (st1 := fun x9 => Value.int x9 :: [.int 3, .int x8, .ref r7, .int x6, .ref r5]) C [.int l1] (fun r9 e9 => mX9_many C.flag N ol0 e9) mwX9_many miX9_many wd_1436 ol0 (by decide) rfl rfl rfl (Nat.le_of_ble_eq_true rfl) dX9_putIn_57 ⟨rfl, rfl, Nat.le_of_ble_eq_true rfl, Nat.le_of_ble_eq_true rfl, Nat.le_of_ble_eq_true rfl, Nat.le_of_ble_eq_true rfl⟩ (fun _ => rfl) (fun x9 ex9 => ?_)
    refine bd_iload C 5 dX9_putIn_60 rfl ?_
    refine bd_isub C dX9_putIn_62 ?_
    refine bd_imul C dX9_putIn_63 ?_
    refine bd_copyJ C wd_1414 wd_474 wd_473 wd_103 dX9_putIn_64 hr5 hr7 ⟨Nat.le_of_ble_eq_true rfl, Nat.le_of_ble_eq_true rfl⟩ (fun w10 => ?_)
    refine bd_aload_n C 0 dX9_putIn_67 rfl rfl ?_
    refine bd_gR C fi900 fv900 wd_1241 dX9_putIn_68 ol0 (fun r11 gr11 hr11 => ?_)
    refine bd_aload_n C 0 dX9_putIn_71 rfl rfl ?_
    refine bd_iload_n C 1 dX9_putIn_72 rfl rfl ?_
    refine bd_iload C 5 dX9_putIn_73 rfl ?_
    refine bd_callV (vs := fun (r : Int32) => some (.int r)) (wf := fun _ => w10) (st := [.ref r11]) (st1 := fun x12 => Value.int x12 :: [.ref r11]) C [.int l1, .int l6] (fun r9 e9 => mX9_at C.flag N ol0 e9) mwX9_at miX9_at wd_1463 ol0 (by decide) rfl rfl rfl (Nat.le_of_ble_eq_true rfl) dX9_putIn_75 ⟨rfl, rfl, Nat.le_of_ble_eq_true rfl, Nat.le_of_ble_eq_true rfl, Nat.le_of_ble_eq_true rfl, Nat.le_of_ble_eq_true rfl⟩ (fun _ => rfl) (fun x12 ex12 => ?_)
    refine bd_iload_n C 2 dX9_putIn_78 rfl rfl ?_
    refine bd_i2l C dX9_putIn_79 ?_
    refine bd_last C dX9_putIn_80 hr11 (fun w13 => ?_)
    refine bd_aload_n C 0 dX9_putIn_81 rfl rfl ?_
    refine bd_gR C fi900 fv900 wd_1241 dX9_putIn_82 ol0 (fun r14 gr14 hr14 => ?_)
    refine bd_aload_n C 0 dX9_putIn_85 rfl rfl ?_
    refine bd_iload_n C 1 dX9_putIn_86 rfl rfl ?_
    refine bd_iload C 5 dX9_putIn_87 rfl ?_
    refine bd_callV (vs := fun (r : Int32) => some (.int r)) (wf := fun _ => w13) (st := [.ref r14]) (st1 := fun x15 => Value.int x15 :: [.ref r14]) C [.int l1, .int l6] (fun r9 e9 => mX9_at C.flag N ol0 e9) mwX9_at miX9_at wd_1463 ol0 (by decide) rfl rfl rfl (Nat.le_of_ble_eq_true rfl) dX9_putIn_89 ⟨rfl, rfl, Nat.le_of_ble_eq_true rfl, Nat.le_of_ble_eq_true rfl, Nat.le_of_ble_eq_true rfl, Nat.le_of_ble_eq_true rfl⟩ (fun _ => rfl) (fun x15 ex15 => ?_)
    refine bd_iconst C (v := 1) dX9_putIn_92 (by decide) ?_
    refine bd_iadd C dX9_putIn_93 ?_
    refine bd_iload_n C 3 dX9_putIn_94 rfl rfl ?_
    refine bd_i2l C dX9_putIn_95 ?_
    refine bd_last C dX9_putIn_96 hr14 (fun w16 => ?_)
    refine bd_aload_n C 0 dX9_putIn_97 rfl rfl ?_
    refine bd_gR C fi900 fv900 wd_1241 dX9_putIn_98 ol0 (fun r17 gr17 hr17 => ?_)
    refine bd_aload_n C 0 dX9_putIn_101 rfl rfl ?_
    refine bd_iload_n C 1 dX9_putIn_102 rfl rfl ?_
    refine bd_iload C 5 dX9_putIn_103 rfl ?_
    refine bd_callV (vs := fun (r : Int32) => some (.int r)) (wf := fun _ => w16) (st := [.ref r17]) (st1 := fun x18 => Value.int x18 :: [.ref r17]) C [.int l1, .int l6] (fun r9 e9 => mX9_at C.flag N ol0 e9) mwX9_at miX9_at wd_1463 ol0 (by decide) rfl rfl rfl (Nat.le_of_ble_eq_true rfl) dX9_putIn_105 ⟨rfl, rfl, Nat.le_of_ble_eq_true rfl, Nat.le_of_ble_eq_true rfl, Nat.le_of_ble_eq_true rfl, Nat.le_of_ble_eq_true rfl⟩ (fun _ => rfl) (fun x18 ex18 => ?_)
    refine bd_iconst C (v := 2) dX9_putIn_108 (by decide) ?_
    refine bd_iadd C dX9_putIn_109 ?_
    refine bd_lload C 4 dX9_putIn_110 rfl ?_
    refine bd_last C dX9_putIn_112 hr17 (fun w19 => ?_)
    refine bd_aload_n C 0 dX9_putIn_113 rfl rfl ?_
    refine bd_gR C fi900 fv900 wd_1241 dX9_putIn_114 ol0 (fun r20 gr20 hr20 => ?_)
    refine bd_aload_n C 0 dX9_putIn_117 rfl rfl ?_
    refine bd_iload_n C 1 dX9_putIn_118 rfl rfl ?_
    refine bd_callV (vs := fun (r : Int32) => some (.int r)) (wf := fun _ => w19) (st := [.ref r20]) (st1 := fun x21 => Value.int x21 :: [.ref r20]) C [.int l1] (fun r9 e9 => mX9_row_ C.flag N ol0 e9) mwX9_row_ miX9_row_ wd_1440 ol0 (by decide) rfl rfl rfl (Nat.le_of_ble_eq_true rfl) dX9_putIn_119 ⟨rfl, rfl, Nat.le_of_ble_eq_true rfl, Nat.le_of_ble_eq_true rfl, Nat.le_of_ble_eq_true rfl, Nat.le_of_ble_eq_true rfl⟩ (fun _ => rfl) (fun x21 ex21 => ?_)
    refine bd_dup2 C dX9_putIn_122 rfl rfl ?_
    refine bd_lald C dX9_putIn_123 hr20 (fun x22 => ?_)
    refine bd_lconst C (v := 1) dX9_putIn_124 (by decide) ?_
    refine bd_ladd C dX9_putIn_125 ?_
    refine bd_last C dX9_putIn_126 hr20 (fun w23 => ?_)
    refine bd_iload C 5 dX9_putIn_127 rfl ?_
    exact bd_iret C hret rfl _ _ rfl rfl dX9_putIn_129 (Nat.le_refl _) (Nat.le_refl _)
  have hb3 : ∀ (n : Nat) (w : Wd) (l0 : Nat) (l1 : Int32) (l2 : Int32) (l3 : Int32) (l4 : Int64) (l6 : Int32) (ol0 : okF F l0 9), BD g G F 7 (qX9_putIn G F g) 0 0 (fX9_putIn_3 F N n w l0 l1 l2 l3 l4 l6) w 3 [(0, .ref l0), (1, .int l1), (2, .int l2), (3, .int l3), (4, .long l4), (6, .int l6)] [] := by
    intro n
    induction n with
    | zero =>
      intro w l0 l1 l2 l3 l4 l6 ol0
      unfold fX9_putIn_3
      exact bd_none
    | succ n ih =>
      intro w l0 l1 l2 l3 l4 l6 ol0
      unfold fX9_putIn_3
      refine bd_iload C 5 dX9_putIn_3 rfl ?_
      refine bd_aload_n C 0 dX9_putIn_5 rfl rfl ?_
      refine bd_iload_n C 1 dX9_putIn_6 rfl rfl ?_
      refine bd_callV (vs := fun (r : Int32) => some (.int r)) (wf := fun _ => w) (st := [.int l6]) (st1 := fun x1 => Value.int x1 :: [.int l6]) C [.int l1] (fun r9 e9 => mX9_many C.flag N ol0 e9) mwX9_many miX9_many wd_1436 ol0 (by decide) rfl rfl rfl (Nat.le_of_ble_eq_true rfl) dX9_putIn_7 ⟨rfl, rfl, Nat.le_of_ble_eq_true rfl, Nat.le_of_ble_eq_true rfl, Nat.le_of_ble_eq_true rfl, Nat.le_of_ble_eq_true rfl⟩ (fun _ => rfl) (fun x1 ex1 => ?_)
      refine bd_icmp_ge C 30 dX9_putIn_10 (by decide) (fun c2 => ?_) (fun c2 => ?_)
      · exact bd_sub (hb30 w l0 l1 l2 l3 l4 l6 ol0) [0, 1, 2, 3, 4, 5] rfl
      · refine bd_aload_n C 0 dX9_putIn_13 rfl rfl ?_
        refine bd_iload_n C 1 dX9_putIn_14 rfl rfl ?_
        refine bd_iload C 5 dX9_putIn_15 rfl ?_
        refine bd_callV (vs := fun (r : Int32) => some (.int r)) (wf := fun _ => w) (st := []) (st1 := fun x3 => Value.int x3 :: []) C [.int l1, .int l6] (fun r9 e9 => mX9_first C.flag N ol0 e9) mwX9_first miX9_first wd_1522 ol0 (by decide) rfl rfl rfl (Nat.le_of_ble_eq_true rfl) dX9_putIn_17 ⟨rfl, rfl, Nat.le_of_ble_eq_true rfl, Nat.le_of_ble_eq_true rfl, Nat.le_of_ble_eq_true rfl, Nat.le_of_ble_eq_true rfl⟩ (fun _ => rfl) (fun x3 ex3 => ?_)
        refine bd_iload_n C 2 dX9_putIn_20 rfl rfl ?_
        refine bd_icmp_ge C 30 dX9_putIn_21 (by decide) (fun c4 => ?_) (fun c4 => ?_)
        · exact bd_sub (hb30 w l0 l1 l2 l3 l4 l6 ol0) [0, 1, 2, 3, 4, 5] rfl
        · refine bd_iinc C (v := l6 + 1) 5 [(6, .int (l6 + 1)), (0, .ref l0), (1, .int l1), (2, .int l2), (3, .int l3), (4, .long l4)] dX9_putIn_24 rfl rfl (by decide) rfl ?_
          refine bd_goto C 3 dX9_putIn_27 (by decide) ?_
          exact bd_sub (ih w l0 l1 l2 l3 l4 (l6 + 1) ol0) [1, 2, 3, 4, 5, 0] rfl
  unfold fX9_putIn
  refine bd_sub (lv' := [(0, .ref l0), (1, .int l1), (2, .int l2), (3, .int l3), (4, .long l4)]) ?_ [0, 1, 2, 3, 4] rfl
  refine bd_iconst C (v := 0) dX9_putIn_0 (by decide) ?_
  refine bd_istore C [(6, .int 0), (0, .ref l0), (1, .int l1), (2, .int l2), (3, .int l3), (4, .long l4)] dX9_putIn_1 (by decide) rfl ?_
  exact bd_sub (hb3 N w l0 l1 l2 l3 l4 0 ol0) [1, 2, 3, 4, 5, 0] rfl
abbrev rmX9_hostOf : Room := { frames := 14, cells := 0, slots := 0, locals := 386 }
abbrev qX9_hostOf (G : Gy) (F : Fr) (g : Bd) (w : Wd) : Int32 → State → Prop := fun r => QM G F g 0 0 ((fun (r : Int32) => some (.int r)) r) ((fun _ => w) r)
set_option maxRecDepth 20000 in
set_option maxHeartbeats 4000000 in
theorem mX9_hostOf {l : Launch} (hf9 : l.stackTraces = false) {G : Gy} {F : Fr} (N : Nat) {w : Wd} {l0 : Nat} {l1 : Int32} {l2 : Int32} {l3 : Int32} {r : Int32} (ol0 : okF F l0 9) (e9 : fX9_hostOf F N w l0 l1 l2 l3 = some r) : Met l yX9_hostOf [.code yX9_hostOf cX9_hostOf 10 (some .int)] rmX9_hostOf (PcB G F w [.ref l0, .int l1, .int l2, .int l3]) (QB G F ((fun (r : Int32) => some (.int r)) r) ((fun _ => w) r)) 0 0 (AF F) := by
  refine bd_met (vs := fun (r : Int32) => some (.int r)) (wf := fun _ => w) hf9 (by decide) (Nat.le_of_ble_eq_true rfl) e9 (fun g C hret hini => ?_)
  clear e9 r
  have hb102 : ∀ (k17 : Nat → Int32 → Int32 → Int32 → Int32 → Int32 → Option (Int32)), (∀ (l0 : Nat) (l2 : Int32) (l3 : Int32) (l4 : Int32) (l5 : Int32) (l6 : Int32) (ol0 : okF F l0 9), BD g G F 10 (qX9_hostOf G F g w) 0 0 (k17 l0 l2 l3 l4 l5 l6) w 17 [(0, .ref l0), (2, .int l2), (3, .int l3), (4, .int l4), (5, .int l5), (6, .int l6)] []) → ∀  (l0 : Nat) (l2 : Int32) (l3 : Int32) (l4 : Int32) (l5 : Int32) (l6 : Int32) (s0 : Int32) (ol0 : okF F l0 9), BD g G F 10 (qX9_hostOf G F g w) 0 0 (fX9_hostOf_102 F N w k17 l0 l2 l3 l4 l5 l6 s0) w 102 [(0, .ref l0), (2, .int l2), (3, .int l3), (4, .int l4), (5, .int l5), (6, .int l6)] [.int s0] := by
    intro k17 hk17
    intro l0 l2 l3 l4 l5 l6 s0 ol0
    unfold fX9_hostOf_102
    refine bd_istore C [(9, .int s0), (0, .ref l0), (2, .int l2), (3, .int l3), (4, .int l4), (5, .int l5), (6, .int l6)] dX9_hostOf_102 (by decide) rfl ?_
    refine bd_iload C 0 dX9_hostOf_104 rfl ?_
    refine bd_if_eq C 112 dX9_hostOf_106 (by decide) (fun c12 => ?_) (fun c12 => ?_)
    · refine bd_iinc C (v := l6 + 1) 6 [(6, .int (l6 + 1)), (9, .int s0), (0, .ref l0), (2, .int l2), (3, .int l3), (4, .int l4), (5, .int l5)] dX9_hostOf_112 rfl rfl (by decide) rfl ?_
      refine bd_goto C 17 dX9_hostOf_115 (by decide) ?_
      exact bd_sub (hk17 l0 l2 l3 l4 l5 (l6 + 1) ol0) [2, 3, 4, 5, 6, 0] rfl
    · refine bd_iload C 6 dX9_hostOf_109 rfl ?_
      exact bd_iret C hret rfl _ _ rfl rfl dX9_hostOf_111 (Nat.le_refl _) (Nat.le_refl _)
  have hb97 : ∀ (k17 : Nat → Int32 → Int32 → Int32 → Int32 → Int32 → Option (Int32)), (∀ (l0 : Nat) (l2 : Int32) (l3 : Int32) (l4 : Int32) (l5 : Int32) (l6 : Int32) (ol0 : okF F l0 9), BD g G F 10 (qX9_hostOf G F g w) 0 0 (k17 l0 l2 l3 l4 l5 l6) w 17 [(0, .ref l0), (2, .int l2), (3, .int l3), (4, .int l4), (5, .int l5), (6, .int l6)] []) → ∀  (l0 : Nat) (l2 : Int32) (l3 : Int32) (l4 : Int32) (l5 : Int32) (l6 : Int32) (ol0 : okF F l0 9), BD g G F 10 (qX9_hostOf G F g w) 0 0 (fX9_hostOf_97 F N w k17 l0 l2 l3 l4 l5 l6) w 97 [(0, .ref l0), (2, .int l2), (3, .int l3), (4, .int l4), (5, .int l5), (6, .int l6)] [] := by
    intro k17 hk17
    intro l0 l2 l3 l4 l5 l6 ol0
    unfold fX9_hostOf_97
    refine bd_iconst C (v := 1) dX9_hostOf_97 (by decide) ?_
    refine bd_goto C 102 dX9_hostOf_98 (by decide) ?_
    exact bd_sub (hb102 _ hk17 l0 l2 l3 l4 l5 l6 1 ol0) [0, 1, 2, 3, 4, 5] rfl
  have hb75 : ∀ (k17 : Nat → Int32 → Int32 → Int32 → Int32 → Int32 → Option (Int32)), (∀ (l0 : Nat) (l2 : Int32) (l3 : Int32) (l4 : Int32) (l5 : Int32) (l6 : Int32) (ol0 : okF F l0 9), BD g G F 10 (qX9_hostOf G F g w) 0 0 (k17 l0 l2 l3 l4 l5 l6) w 17 [(0, .ref l0), (2, .int l2), (3, .int l3), (4, .int l4), (5, .int l5), (6, .int l6)] []) → ∀  (l0 : Nat) (l2 : Int32) (l3 : Int32) (l4 : Int32) (l5 : Int32) (l6 : Int32) (ol0 : okF F l0 9), BD g G F 10 (qX9_hostOf G F g w) 0 0 (fX9_hostOf_75 F N w k17 l0 l2 l3 l4 l5 l6) w 75 [(0, .ref l0), (2, .int l2), (3, .int l3), (4, .int l4), (5, .int l5), (6, .int l6)] [] := by
    intro k17 hk17
    intro l0 l2 l3 l4 l5 l6 ol0
    unfold fX9_hostOf_75
    refine bd_iconst C (v := 0) dX9_hostOf_75 (by decide) ?_
    refine bd_goto C 102 dX9_hostOf_76 (by decide) ?_
    exact bd_sub (hb102 _ hk17 l0 l2 l3 l4 l5 l6 0 ol0) [0, 1, 2, 3, 4, 5] rfl
  have hb101 : ∀ (k17 : Nat → Int32 → Int32 → Int32 → Int32 → Int32 → Option (Int32)), (∀ (l0 : Nat) (l2 : Int32) (l3 : Int32) (l4 : Int32) (l5 : Int32) (l6 : Int32) (ol0 : okF F l0 9), BD g G F 10 (qX9_hostOf G F g w) 0 0 (k17 l0 l2 l3 l4 l5 l6) w 17 [(0, .ref l0), (2, .int l2), (3, .int l3), (4, .int l4), (5, .int l5), (6, .int l6)] []) → ∀  (l0 : Nat) (l2 : Int32) (l3 : Int32) (l4 : Int32) (l5 : Int32) (l6 : Int32) (ol0 : okF F l0 9), BD g G F 10 (qX9_hostOf G F g w) 0 0 (fX9_hostOf_101 F N w k17 l0 l2 l3 l4 l5 l6) w 101 [(0, .ref l0), (2, .int l2), (3, .int l3), (4, .int l4), (5, .int l5), (6, .int l6)] [] := by
    intro k17 hk17
    intro l0 l2 l3 l4 l5 l6 ol0
    unfold fX9_hostOf_101
    refine bd_iconst C (v := 0) dX9_hostOf_101 (by decide) ?_
    exact bd_sub (hb102 _ hk17 l0 l2 l3 l4 l5 l6 0 ol0) [0, 1, 2, 3, 4, 5] rfl
  have hb17 : ∀ (n : Nat) (l0 : Nat) (l2 : Int32) (l3 : Int32) (l4 : Int32) (l5 : Int32) (l6 : Int32) (ol0 : okF F l0 9), BD g G F 10 (qX9_hostOf G F g w) 0 0 (fX9_hostOf_17 F N w n l0 l2 l3 l4 l5 l6) w 17 [(0, .ref l0), (2, .int l2), (3, .int l3), (4, .int l4), (5, .int l5), (6, .int l6)] [] := by
    intro n
    induction n with
    | zero =>
      intro l0 l2 l3 l4 l5 l6 ol0
      unfold fX9_hostOf_17
      exact bd_none
    | succ n ih =>
      intro l0 l2 l3 l4 l5 l6 ol0
      unfold fX9_hostOf_17
      refine bd_iload C 3 dX9_hostOf_17 rfl ?_
      refine bd_if_le C 118 dX9_hostOf_19 (by decide) (fun c1 => ?_) (fun c1 => ?_)
      · refine bd_iconst C (v := (-1)) dX9_hostOf_118 (by decide) ?_
        exact bd_iret C hret rfl _ _ rfl rfl dX9_hostOf_119 (Nat.le_refl _) (Nat.le_refl _)
      · refine bd_iload C 5 dX9_hostOf_22 rfl ?_
        refine bd_aload_n C 0 dX9_hostOf_24 rfl rfl ?_
        refine bd_iload C 4 dX9_hostOf_25 rfl ?_
        refine bd_callV (vs := fun (r : Int32) => some (.int r)) (wf := fun _ => w) (st := [.int l6]) (st1 := fun x2 => Value.int x2 :: [.int l6]) C [.int l5] (fun r9 e9 => mX9_many C.flag N ol0 e9) mwX9_many miX9_many wd_1436 ol0 (by decide) rfl rfl rfl (Nat.le_of_ble_eq_true rfl) dX9_hostOf_27 ⟨rfl, rfl, Nat.le_of_ble_eq_true rfl, Nat.le_of_ble_eq_true rfl, Nat.le_of_ble_eq_true rfl, Nat.le_of_ble_eq_true rfl⟩ (fun _ => rfl) (fun x2 ex2 => ?_)
        refine bd_icmp_ge C 118 dX9_hostOf_30 (by decide) (fun c3 => ?_) (fun c3 => ?_)
        · refine bd_iconst C (v := (-1)) dX9_hostOf_118 (by decide) ?_
          exact bd_iret C hret rfl _ _ rfl rfl dX9_hostOf_119 (Nat.le_refl _) (Nat.le_refl _)
        · refine bd_aload_n C 0 dX9_hostOf_33 rfl rfl ?_
          refine bd_iload C 4 dX9_hostOf_34 rfl ?_
          refine bd_iload C 5 dX9_hostOf_36 rfl ?_
          refine bd_callV (vs := fun (r : Int32) => some (.int r)) (wf := fun _ => w) (st := []) (st1 := fun x4 => Value.int x4 :: []) C [.int l5, .int l6] (fun r9 e9 => mX9_first C.flag N ol0 e9) mwX9_first miX9_first wd_1522 ol0 (by decide) rfl rfl rfl (Nat.le_of_ble_eq_true rfl) dX9_hostOf_38 ⟨rfl, rfl, Nat.le_of_ble_eq_true rfl, Nat.le_of_ble_eq_true rfl, Nat.le_of_ble_eq_true rfl, Nat.le_of_ble_eq_true rfl⟩ (fun _ => rfl) (fun x4 ex4 => ?_)
          refine bd_istore C [(7, .int x4), (0, .ref l0), (2, .int l2), (3, .int l3), (4, .int l4), (5, .int l5), (6, .int l6)] dX9_hostOf_41 (by decide) rfl ?_
          refine bd_aload_n C 1 dX9_hostOf_43 rfl rfl ?_
          refine bd_iload C 5 dX9_hostOf_44 rfl ?_
          refine bd_iload C 6 dX9_hostOf_46 rfl ?_
          refine bd_callV (vs := fun (r : Int32) => some (.int r)) (wf := fun _ => w) (st := []) (st1 := fun x5 => Value.int x5 :: []) C [.int l5, .int l6] (fun r9 e9 => mX9_end C.flag N ol0 e9) mwX9_end miX9_end wd_1526 ol0 (by decide) rfl rfl rfl (Nat.le_of_ble_eq_true rfl) dX9_hostOf_48 ⟨rfl, rfl, Nat.le_of_ble_eq_true rfl, Nat.le_of_ble_eq_true rfl, Nat.le_of_ble_eq_true rfl, Nat.le_of_ble_eq_true rfl⟩ (fun _ => rfl) (fun x5 ex5 => ?_)
          refine bd_istore C [(8, .int x5), (7, .int x4), (0, .ref l0), (2, .int l2), (3, .int l3), (4, .int l4), (5, .int l5), (6, .int l6)] dX9_hostOf_51 (by decide) rfl ?_
          refine bd_iload C 5 dX9_hostOf_53 rfl ?_
          refine bd_iconst C (v := 1) dX9_hostOf_55 (by decide) ?_
          refine bd_icmp_ne C 79 dX9_hostOf_56 (by decide) (fun c6 => ?_) (fun c6 => ?_)
          · refine bd_iload C 1 dX9_hostOf_79 rfl ?_
            refine bd_iload_n C 3 dX9_hostOf_81 rfl rfl ?_
            refine bd_icmp_ne C 101 dX9_hostOf_82 (by decide) (fun c7 => ?_) (fun c7 => ?_)
            · exact bd_sub (hb101 _ ih l0 l2 l3 l4 l5 l6 ol0) [2, 3, 4, 5, 6, 7] rfl
            · refine bd_iload C 5 dX9_hostOf_85 rfl ?_
              refine bd_iconst C (v := 3) dX9_hostOf_87 (by decide) ?_
              refine bd_icmp_eq C 97 dX9_hostOf_88 (by decide) (fun c8 => ?_) (fun c8 => ?_)
              · exact bd_sub (hb97 _ ih l0 l2 l3 l4 l5 l6 ol0) [2, 3, 4, 5, 6, 7] rfl
              · refine bd_iload C 0 dX9_hostOf_91 rfl ?_
                refine bd_iload_n C 4 dX9_hostOf_93 rfl rfl ?_
                refine bd_icmp_ne C 101 dX9_hostOf_94 (by decide) (fun c9 => ?_) (fun c9 => ?_)
                · exact bd_sub (hb101 _ ih l0 l2 l3 l4 l5 l6 ol0) [2, 3, 4, 5, 6, 7] rfl
                · exact bd_sub (hb97 _ ih l0 l2 l3 l4 l5 l6 ol0) [2, 3, 4, 5, 6, 7] rfl
          · refine bd_iload C 1 dX9_hostOf_59 rfl ?_
            refine bd_iload_n C 3 dX9_hostOf_61 rfl rfl ?_
            refine bd_icmp_gt C 75 dX9_hostOf_62 (by decide) (fun c10 => ?_) (fun c10 => ?_)
            · exact bd_sub (hb75 _ ih l0 l2 l3 l4 l5 l6 ol0) [2, 3, 4, 5, 6, 7] rfl
            · refine bd_iload_n C 4 dX9_hostOf_65 rfl rfl ?_
              refine bd_iload C 0 dX9_hostOf_66 rfl ?_
              refine bd_icmp_gt C 75 dX9_hostOf_68 (by decide) (fun c11 => ?_) (fun c11 => ?_)
              · exact bd_sub (hb75 _ ih l0 l2 l3 l4 l5 l6 ol0) [2, 3, 4, 5, 6, 7] rfl
              · refine bd_iconst C (v := 1) dX9_hostOf_71 (by decide) ?_
                refine bd_goto C 102 dX9_hostOf_72 (by decide) ?_
                exact bd_sub (hb102 _ ih l0 l2 l3 l4 l5 l6 1 ol0) [2, 3, 4, 5, 6, 7] rfl
  unfold fX9_hostOf
  refine bd_sub (lv' := [(0, .ref l0), (1, .int l1), (2, .int l2), (3, .int l3)]) ?_ [0, 1, 2, 3] rfl
  refine bd_aload_n C 0 dX9_hostOf_0 rfl rfl ?_
  refine bd_iload_n C 1 dX9_hostOf_1 rfl rfl ?_
  refine bd_callV (vs := fun (r : Int32) => some (.int r)) (wf := fun _ => w) (st := []) (st1 := fun x13 => Value.int x13 :: []) C [.int l1] (fun r9 e9 => mX9_rule C.flag N ol0 e9) mwX9_rule miX9_rule wd_1534 ol0 (by decide) rfl rfl rfl (Nat.le_of_ble_eq_true rfl) dX9_hostOf_2 ⟨rfl, rfl, Nat.le_of_ble_eq_true rfl, Nat.le_of_ble_eq_true rfl, Nat.le_of_ble_eq_true rfl, Nat.le_of_ble_eq_true rfl⟩ (fun _ => rfl) (fun x13 ex13 => ?_)
  refine bd_istore C [(4, .int x13), (0, .ref l0), (1, .int l1), (2, .int l2), (3, .int l3)] dX9_hostOf_5 (by decide) rfl ?_
  refine bd_aload_n C 1 dX9_hostOf_7 rfl rfl ?_
  refine bd_iload_n C 2 dX9_hostOf_8 rfl rfl ?_
  refine bd_callV (vs := fun (r : Int32) => some (.int r)) (wf := fun _ => w) (st := []) (st1 := fun x14 => Value.int x14 :: []) C [.int l1] (fun r9 e9 => mX9_parent C.flag N ol0 e9) mwX9_parent miX9_parent wd_1451 ol0 (by decide) rfl rfl rfl (Nat.le_of_ble_eq_true rfl) dX9_hostOf_9 ⟨rfl, rfl, Nat.le_of_ble_eq_true rfl, Nat.le_of_ble_eq_true rfl, Nat.le_of_ble_eq_true rfl, Nat.le_of_ble_eq_true rfl⟩ (fun _ => rfl) (fun x14 ex14 => ?_)
  refine bd_istore C [(5, .int x14), (4, .int x13), (0, .ref l0), (1, .int l1), (2, .int l2), (3, .int l3)] dX9_hostOf_12 (by decide) rfl ?_
  refine bd_iconst C (v := 0) dX9_hostOf_14 (by decide) ?_
  refine bd_istore C [(6, .int 0), (5, .int x14), (4, .int x13), (0, .ref l0), (1, .int l1), (2, .int l2), (3, .int l3)] dX9_hostOf_15 (by decide) rfl ?_
  exact bd_sub (hb17 N l0 l2 l3 x13 x14 0 ol0) [3, 5, 6, 2, 1, 0] rfl
abbrev rmX9_lacksHost : Room := { frames := 15, cells := 0, slots := 0, locals := 415 }
abbrev qX9_lacksHost (G : Gy) (F : Fr) (g : Bd) (w : Wd) : Int32 → State → Prop := fun r => QM G F g 0 0 ((fun (r : Int32) => some (.int r)) r) ((fun _ => w) r)
set_option maxRecDepth 20000 in
set_option maxHeartbeats 4000000 in
theorem mX9_lacksHost {l : Launch} (hf9 : l.stackTraces = false) {G : Gy} {F : Fr} (N : Nat) {w : Wd} {l0 : Nat} {l1 : Int32} {l2 : Int32} {l3 : Int32} {r : Int32} (ol0 : okF F l0 9) (e9 : fX9_lacksHost F N w l0 l1 l2 l3 = some r) : Met l yX9_lacksHost [.code yX9_lacksHost cX9_lacksHost 4 (some .boolean)] rmX9_lacksHost (PcB G F w [.ref l0, .int l1, .int l2, .int l3]) (QB G F ((fun (r : Int32) => some (.int r)) r) ((fun _ => w) r)) 0 0 (AF F) := by
  refine bd_met (vs := fun (r : Int32) => some (.int r)) (wf := fun _ => w) hf9 (by decide) (Nat.le_of_ble_eq_true rfl) e9 (fun g C hret hini => ?_)
  clear e9 r
  unfold fX9_lacksHost
  refine bd_sub (lv' := [(0, .ref l0), (1, .int l1), (2, .int l2), (3, .int l3)]) ?_ [0, 1, 2, 3] rfl
  refine bd_aload_n C 0 dX9_lacksHost_0 rfl rfl ?_
  refine bd_iload_n C 1 dX9_lacksHost_1 rfl rfl ?_
  refine bd_callV (vs := fun (r : Int32) => some (.int r)) (wf := fun _ => w) (st := []) (st1 := fun x1 => Value.int x1 :: []) C [.int l1] (fun r9 e9 => mX9_rule C.flag N ol0 e9) mwX9_rule miX9_rule wd_1534 ol0 (by decide) rfl rfl rfl (Nat.le_of_ble_eq_true rfl) dX9_lacksHost_2 ⟨rfl, rfl, Nat.le_of_ble_eq_true rfl, Nat.le_of_ble_eq_true rfl, Nat.le_of_ble_eq_true rfl, Nat.le_of_ble_eq_true rfl⟩ (fun _ => rfl) (fun x1 ex1 => ?_)
  refine bd_if_le C 22 dX9_lacksHost_5 (by decide) (fun c2 => ?_) (fun c2 => ?_)
  · refine bd_iconst C (v := 0) dX9_lacksHost_22 (by decide) ?_
    exact bd_zret C hret rfl _ _ rfl rfl rfl dX9_lacksHost_23 (Nat.le_refl _) (Nat.le_refl _)
  · refine bd_aload_n C 0 dX9_lacksHost_8 rfl rfl ?_
    refine bd_iload_n C 1 dX9_lacksHost_9 rfl rfl ?_
    refine bd_iload_n C 2 dX9_lacksHost_10 rfl rfl ?_
    refine bd_iload_n C 3 dX9_lacksHost_11 rfl rfl ?_
    refine bd_callV (vs := fun (r : Int32) => some (.int r)) (wf := fun _ => w) (st := []) (st1 := fun x3 => Value.int x3 :: []) C [.int l1, .int l2, .int l3] (fun r9 e9 => mX9_hostOf C.flag N ol0 e9) mwX9_hostOf miX9_hostOf wd_1538 ol0 (by decide) rfl rfl rfl (Nat.le_of_ble_eq_true rfl) dX9_lacksHost_12 ⟨rfl, rfl, Nat.le_of_ble_eq_true rfl, Nat.le_of_ble_eq_true rfl, Nat.le_of_ble_eq_true rfl, Nat.le_of_ble_eq_true rfl⟩ (fun _ => rfl) (fun x3 ex3 => ?_)
    refine bd_if_ge C 22 dX9_lacksHost_15 (by decide) (fun c4 => ?_) (fun c4 => ?_)
    · refine bd_iconst C (v := 0) dX9_lacksHost_22 (by decide) ?_
      exact bd_zret C hret rfl _ _ rfl rfl rfl dX9_lacksHost_23 (Nat.le_refl _) (Nat.le_refl _)
    · refine bd_iconst C (v := 1) dX9_lacksHost_18 (by decide) ?_
      refine bd_goto C 23 dX9_lacksHost_19 (by decide) ?_
      exact bd_zret C hret rfl _ _ rfl rfl rfl dX9_lacksHost_23 (Nat.le_refl _) (Nat.le_refl _)
abbrev rmX9_hostless : Room := { frames := 16, cells := 0, slots := 0, locals := 438 }
abbrev qX9_hostless (G : Gy) (F : Fr) (g : Bd) (w : Wd) : Int32 → State → Prop := fun r => QM G F g 0 0 ((fun (r : Int32) => some (.int r)) r) ((fun _ => w) r)
set_option maxRecDepth 20000 in
set_option maxHeartbeats 4000000 in
theorem mX9_hostless {l : Launch} (hf9 : l.stackTraces = false) {G : Gy} {F : Fr} (N : Nat) {w : Wd} {l0 : Nat} {l1 : Int32} {r : Int32} (ol0 : okF F l0 9) (e9 : fX9_hostless F N w l0 l1 = some r) : Met l yX9_hostless [.code yX9_hostless cX9_hostless 3 (some .int)] rmX9_hostless (PcB G F w [.ref l0, .int l1]) (QB G F ((fun (r : Int32) => some (.int r)) r) ((fun _ => w) r)) 0 0 (AF F) := by
  refine bd_met (vs := fun (r : Int32) => some (.int r)) (wf := fun _ => w) hf9 (by decide) (Nat.le_of_ble_eq_true rfl) e9 (fun g C hret hini => ?_)
  clear e9 r
  have hb37 : ∀  (l0 : Nat) (l1 : Int32) (l2 : Int32) (ol0 : okF F l0 9), BD g G F 3 (qX9_hostless G F g w) 0 0 (fX9_hostless_37 F N w l0 l1 l2) w 37 [(0, .ref l0), (1, .int l1), (2, .int l2)] [] := by
    intro l0 l1 l2 ol0
    unfold fX9_hostless_37
    refine bd_iload_n C 2 dX9_hostless_37 rfl rfl ?_
    refine bd_aload_n C 0 dX9_hostless_38 rfl rfl ?_
    refine bd_iload_n C 1 dX9_hostless_39 rfl rfl ?_
    refine bd_callV (vs := fun (r : Int32) => some (.int r)) (wf := fun _ => w) (st := [.int l2]) (st1 := fun x7 => Value.int x7 :: [.int l2]) C [.int l1] (fun r9 e9 => mX9_many C.flag N ol0 e9) mwX9_many miX9_many wd_1436 ol0 (by decide) rfl rfl rfl (Nat.le_of_ble_eq_true rfl) dX9_hostless_40 ⟨rfl, rfl, Nat.le_of_ble_eq_true rfl, Nat.le_of_ble_eq_true rfl, Nat.le_of_ble_eq_true rfl, Nat.le_of_ble_eq_true rfl⟩ (fun _ => rfl) (fun x7 ex7 => ?_)
    refine bd_icmp_ge C 50 dX9_hostless_43 (by decide) (fun c8 => ?_) (fun c8 => ?_)
    · refine bd_iconst C (v := (-1)) dX9_hostless_50 (by decide) ?_
      exact bd_iret C hret rfl _ _ rfl rfl dX9_hostless_51 (Nat.le_refl _) (Nat.le_refl _)
    · refine bd_iload_n C 2 dX9_hostless_46 rfl rfl ?_
      refine bd_goto C 51 dX9_hostless_47 (by decide) ?_
      exact bd_iret C hret rfl _ _ rfl rfl dX9_hostless_51 (Nat.le_refl _) (Nat.le_refl _)
  have hb2 : ∀ (n : Nat) (l0 : Nat) (l1 : Int32) (l2 : Int32) (ol0 : okF F l0 9), BD g G F 3 (qX9_hostless G F g w) 0 0 (fX9_hostless_2 F N w n l0 l1 l2) w 2 [(0, .ref l0), (1, .int l1), (2, .int l2)] [] := by
    intro n
    induction n with
    | zero =>
      intro l0 l1 l2 ol0
      unfold fX9_hostless_2
      exact bd_none
    | succ n ih =>
      intro l0 l1 l2 ol0
      unfold fX9_hostless_2
      refine bd_iload_n C 2 dX9_hostless_2 rfl rfl ?_
      refine bd_aload_n C 0 dX9_hostless_3 rfl rfl ?_
      refine bd_iload_n C 1 dX9_hostless_4 rfl rfl ?_
      refine bd_callV (vs := fun (r : Int32) => some (.int r)) (wf := fun _ => w) (st := [.int l2]) (st1 := fun x1 => Value.int x1 :: [.int l2]) C [.int l1] (fun r9 e9 => mX9_many C.flag N ol0 e9) mwX9_many miX9_many wd_1436 ol0 (by decide) rfl rfl rfl (Nat.le_of_ble_eq_true rfl) dX9_hostless_5 ⟨rfl, rfl, Nat.le_of_ble_eq_true rfl, Nat.le_of_ble_eq_true rfl, Nat.le_of_ble_eq_true rfl, Nat.le_of_ble_eq_true rfl⟩ (fun _ => rfl) (fun x1 ex1 => ?_)
      refine bd_icmp_ge C 37 dX9_hostless_8 (by decide) (fun c2 => ?_) (fun c2 => ?_)
      · exact bd_sub (hb37 l0 l1 l2 ol0) [0, 1, 2] rfl
      · refine bd_aload_n C 0 dX9_hostless_11 rfl rfl ?_
        refine bd_iload_n C 1 dX9_hostless_12 rfl rfl ?_
        refine bd_aload_n C 0 dX9_hostless_13 rfl rfl ?_
        refine bd_iload_n C 1 dX9_hostless_14 rfl rfl ?_
        refine bd_iload_n C 2 dX9_hostless_15 rfl rfl ?_
        refine bd_callV (vs := fun (r : Int32) => some (.int r)) (wf := fun _ => w) (st := [.int l1, .ref l0]) (st1 := fun x3 => Value.int x3 :: [.int l1, .ref l0]) C [.int l1, .int l2] (fun r9 e9 => mX9_first C.flag N ol0 e9) mwX9_first miX9_first wd_1522 ol0 (by decide) rfl rfl rfl (Nat.le_of_ble_eq_true rfl) dX9_hostless_16 ⟨rfl, rfl, Nat.le_of_ble_eq_true rfl, Nat.le_of_ble_eq_true rfl, Nat.le_of_ble_eq_true rfl, Nat.le_of_ble_eq_true rfl⟩ (fun _ => rfl) (fun x3 ex3 => ?_)
        refine bd_aload_n C 0 dX9_hostless_19 rfl rfl ?_
        refine bd_iload_n C 1 dX9_hostless_20 rfl rfl ?_
        refine bd_iload_n C 2 dX9_hostless_21 rfl rfl ?_
        refine bd_callV (vs := fun (r : Int32) => some (.int r)) (wf := fun _ => w) (st := [.int x3, .int l1, .ref l0]) (st1 := fun x4 => Value.int x4 :: [.int x3, .int l1, .ref l0]) C [.int l1, .int l2] (fun r9 e9 => mX9_end C.flag N ol0 e9) mwX9_end miX9_end wd_1526 ol0 (by decide) rfl rfl rfl (Nat.le_of_ble_eq_true rfl) dX9_hostless_22 ⟨rfl, rfl, Nat.le_of_ble_eq_true rfl, Nat.le_of_ble_eq_true rfl, Nat.le_of_ble_eq_true rfl, Nat.le_of_ble_eq_true rfl⟩ (fun _ => rfl) (fun x4 ex4 => ?_)
        refine bd_callV (vs := fun (r : Int32) => some (.int r)) (wf := fun _ => w) (st := []) (st1 := fun x5 => Value.int x5 :: []) C [.int l1, .int x3, .int x4] (fun r9 e9 => mX9_lacksHost C.flag N ol0 e9) mwX9_lacksHost miX9_lacksHost wd_1530 ol0 (by decide) rfl rfl rfl (Nat.le_of_ble_eq_true rfl) dX9_hostless_25 ⟨rfl, rfl, Nat.le_of_ble_eq_true rfl, Nat.le_of_ble_eq_true rfl, Nat.le_of_ble_eq_true rfl, Nat.le_of_ble_eq_true rfl⟩ (fun _ => rfl) (fun x5 ex5 => ?_)
        refine bd_if_ne C 37 dX9_hostless_28 (by decide) (fun c6 => ?_) (fun c6 => ?_)
        · exact bd_sub (hb37 l0 l1 l2 ol0) [0, 1, 2] rfl
        · refine bd_iinc C (v := l2 + 1) 2 [(2, .int (l2 + 1)), (0, .ref l0), (1, .int l1)] dX9_hostless_31 rfl rfl (by decide) rfl ?_
          refine bd_goto C 2 dX9_hostless_34 (by decide) ?_
          exact bd_sub (ih l0 l1 (l2 + 1) ol0) [1, 2, 0] rfl
  unfold fX9_hostless
  refine bd_sub (lv' := [(0, .ref l0), (1, .int l1)]) ?_ [0, 1] rfl
  refine bd_iconst C (v := 0) dX9_hostless_0 (by decide) ?_
  refine bd_istore_n C [(2, .int 0), (0, .ref l0), (1, .int l1)] dX9_hostless_1 rfl (by decide) rfl ?_
  exact bd_sub (hb2 N l0 l1 0 ol0) [1, 2, 0] rfl
abbrev rmX9_hostlessTier : Room := { frames := 17, cells := 0, slots := 0, locals := 460 }
abbrev qX9_hostlessTier (G : Gy) (F : Fr) (g : Bd) (w : Wd) : Int32 → State → Prop := fun r => QM G F g 0 0 ((fun (r : Int32) => some (.int r)) r) ((fun _ => w) r)
set_option maxRecDepth 20000 in
set_option maxHeartbeats 4000000 in
theorem mX9_hostlessTier {l : Launch} (hf9 : l.stackTraces = false) {G : Gy} {F : Fr} (N : Nat) {w : Wd} {l0 : Nat} {r : Int32} (ol0 : okF F l0 9) (e9 : fX9_hostlessTier F N w l0 = some r) : Met l yX9_hostlessTier [.code yX9_hostlessTier cX9_hostlessTier 2 (some .int)] rmX9_hostlessTier (PcB G F w [.ref l0]) (QB G F ((fun (r : Int32) => some (.int r)) r) ((fun _ => w) r)) 0 0 (AF F) := by
  refine bd_met (vs := fun (r : Int32) => some (.int r)) (wf := fun _ => w) hf9 (by decide) (Nat.le_of_ble_eq_true rfl) e9 (fun g C hret hini => ?_)
  clear e9 r
  have hb24 : ∀  (l0 : Nat) (l1 : Int32) (ol0 : okF F l0 9), BD g G F 2 (qX9_hostlessTier G F g w) 0 0 (fX9_hostlessTier_24 F N w l0 l1) w 24 [(0, .ref l0), (1, .int l1)] [] := by
    intro l0 l1 ol0
    unfold fX9_hostlessTier_24
    refine bd_iload_n C 1 dX9_hostlessTier_24 rfl rfl ?_
    refine bd_aload_n C 0 dX9_hostlessTier_25 rfl rfl ?_
    refine bd_callV (vs := fun (r : Int32) => some (.int r)) (wf := fun _ => w) (st := [.int l1]) (st1 := fun x5 => Value.int x5 :: [.int l1]) C [] (fun r9 e9 => mX9_tiers C.flag N ol0 e9) mwX9_tiers miX9_tiers wd_1391 ol0 (by decide) rfl rfl rfl (Nat.le_of_ble_eq_true rfl) dX9_hostlessTier_26 ⟨rfl, rfl, Nat.le_of_ble_eq_true rfl, Nat.le_of_ble_eq_true rfl, Nat.le_of_ble_eq_true rfl, Nat.le_of_ble_eq_true rfl⟩ (fun _ => rfl) (fun x5 ex5 => ?_)
    refine bd_icmp_ge C 36 dX9_hostlessTier_29 (by decide) (fun c6 => ?_) (fun c6 => ?_)
    · refine bd_iconst C (v := (-1)) dX9_hostlessTier_36 (by decide) ?_
      exact bd_iret C hret rfl _ _ rfl rfl dX9_hostlessTier_37 (Nat.le_refl _) (Nat.le_refl _)
    · refine bd_iload_n C 1 dX9_hostlessTier_32 rfl rfl ?_
      refine bd_goto C 37 dX9_hostlessTier_33 (by decide) ?_
      exact bd_iret C hret rfl _ _ rfl rfl dX9_hostlessTier_37 (Nat.le_refl _) (Nat.le_refl _)
  have hb2 : ∀ (n : Nat) (l0 : Nat) (l1 : Int32) (ol0 : okF F l0 9), BD g G F 2 (qX9_hostlessTier G F g w) 0 0 (fX9_hostlessTier_2 F N w n l0 l1) w 2 [(0, .ref l0), (1, .int l1)] [] := by
    intro n
    induction n with
    | zero =>
      intro l0 l1 ol0
      unfold fX9_hostlessTier_2
      exact bd_none
    | succ n ih =>
      intro l0 l1 ol0
      unfold fX9_hostlessTier_2
      refine bd_iload_n C 1 dX9_hostlessTier_2 rfl rfl ?_
      refine bd_aload_n C 0 dX9_hostlessTier_3 rfl rfl ?_
      refine bd_callV (vs := fun (r : Int32) => some (.int r)) (wf := fun _ => w) (st := [.int l1]) (st1 := fun x1 => Value.int x1 :: [.int l1]) C [] (fun r9 e9 => mX9_tiers C.flag N ol0 e9) mwX9_tiers miX9_tiers wd_1391 ol0 (by decide) rfl rfl rfl (Nat.le_of_ble_eq_true rfl) dX9_hostlessTier_4 ⟨rfl, rfl, Nat.le_of_ble_eq_true rfl, Nat.le_of_ble_eq_true rfl, Nat.le_of_ble_eq_true rfl, Nat.le_of_ble_eq_true rfl⟩ (fun _ => rfl) (fun x1 ex1 => ?_)
      refine bd_icmp_ge C 24 dX9_hostlessTier_7 (by decide) (fun c2 => ?_) (fun c2 => ?_)
      · exact bd_sub (hb24 l0 l1 ol0) [0, 1] rfl
      · refine bd_aload_n C 0 dX9_hostlessTier_10 rfl rfl ?_
        refine bd_iload_n C 1 dX9_hostlessTier_11 rfl rfl ?_
        refine bd_callV (vs := fun (r : Int32) => some (.int r)) (wf := fun _ => w) (st := []) (st1 := fun x3 => Value.int x3 :: []) C [.int l1] (fun r9 e9 => mX9_hostless C.flag N ol0 e9) mwX9_hostless miX9_hostless wd_1558 ol0 (by decide) rfl rfl rfl (Nat.le_of_ble_eq_true rfl) dX9_hostlessTier_12 ⟨rfl, rfl, Nat.le_of_ble_eq_true rfl, Nat.le_of_ble_eq_true rfl, Nat.le_of_ble_eq_true rfl, Nat.le_of_ble_eq_true rfl⟩ (fun _ => rfl) (fun x3 ex3 => ?_)
        refine bd_if_ge C 24 dX9_hostlessTier_15 (by decide) (fun c4 => ?_) (fun c4 => ?_)
        · exact bd_sub (hb24 l0 l1 ol0) [0, 1] rfl
        · refine bd_iinc C (v := l1 + 1) 1 [(1, .int (l1 + 1)), (0, .ref l0)] dX9_hostlessTier_18 rfl rfl (by decide) rfl ?_
          refine bd_goto C 2 dX9_hostlessTier_21 (by decide) ?_
          exact bd_sub (ih l0 (l1 + 1) ol0) [1, 0] rfl
  unfold fX9_hostlessTier
  refine bd_sub (lv' := [(0, .ref l0)]) ?_ [0] rfl
  refine bd_iconst C (v := 0) dX9_hostlessTier_0 (by decide) ?_
  refine bd_istore_n C [(1, .int 0), (0, .ref l0)] dX9_hostlessTier_1 rfl (by decide) rfl ?_
  exact bd_sub (hb2 N l0 0 ol0) [1, 0] rfl
abbrev rmX9_framesOf : Room := { frames := 11, cells := 0, slots := 0, locals := 321 }
abbrev qX9_framesOf (G : Gy) (F : Fr) (g : Bd) (w : Wd) : Int32 → State → Prop := fun r => QM G F g 0 0 ((fun (r : Int32) => some (.int r)) r) ((fun _ => w) r)
set_option maxRecDepth 20000 in
set_option maxHeartbeats 4000000 in
theorem mX9_framesOf {l : Launch} (hf9 : l.stackTraces = false) {G : Gy} {F : Fr} (N : Nat) {w : Wd} {l0 : Nat} {l1 : Int32} {l2 : Int32} {r : Int32} (ol0 : okF F l0 9) (e9 : fX9_framesOf F N w l0 l1 l2 = some r) : Met l yX9_framesOf [.code yX9_framesOf cX9_framesOf 6 (some .int)] rmX9_framesOf (PcB G F w [.ref l0, .int l1, .int l2]) (QB G F ((fun (r : Int32) => some (.int r)) r) ((fun _ => w) r)) 0 0 (AF F) := by
  refine bd_met (vs := fun (r : Int32) => some (.int r)) (wf := fun _ => w) hf9 (by decide) (Nat.le_of_ble_eq_true rfl) e9 (fun g C hret hini => ?_)
  clear e9 r
  have hb12 : ∀ (n : Nat) (l0 : Nat) (l3 : Int32) (l4 : Int32) (l5 : Int32) (ol0 : okF F l0 9), BD g G F 6 (qX9_framesOf G F g w) 0 0 (fX9_framesOf_12 F N w n l0 l3 l4 l5) w 12 [(0, .ref l0), (3, .int l3), (4, .int l4), (5, .int l5)] [] := by
    intro n
    induction n with
    | zero =>
      intro l0 l3 l4 l5 ol0
      unfold fX9_framesOf_12
      exact bd_none
    | succ n ih =>
      intro l0 l3 l4 l5 ol0
      unfold fX9_framesOf_12
      refine bd_iload C 3 dX9_framesOf_12 rfl ?_
      refine bd_i2l C dX9_framesOf_14 ?_
      refine bd_aload_n C 0 dX9_framesOf_15 rfl rfl ?_
      refine bd_gR C fi900 fv900 wd_1241 dX9_framesOf_16 ol0 (fun r1 gr1 hr1 => ?_)
      refine bd_iload_n C 1 dX9_framesOf_19 rfl rfl ?_
      refine bd_lald C dX9_framesOf_20 hr1 (fun x2 => ?_)
      refine bd_lcmp C dX9_framesOf_21 ?_
      refine bd_if_ge C 64 dX9_framesOf_22 (by decide) (fun c3 => ?_) (fun c3 => ?_)
      · refine bd_iload C 2 dX9_framesOf_64 rfl ?_
        exact bd_iret C hret rfl _ _ rfl rfl dX9_framesOf_66 (Nat.le_refl _) (Nat.le_refl _)
      · refine bd_iload C 2 dX9_framesOf_25 rfl ?_
        refine bd_aload_n C 0 dX9_framesOf_27 rfl rfl ?_
        refine bd_gR C fi900 fv900 wd_1241 dX9_framesOf_28 ol0 (fun r4 gr4 hr4 => ?_)
        refine bd_iload_n C 1 dX9_framesOf_31 rfl rfl ?_
        refine bd_iconst C (v := 2) dX9_framesOf_32 (by decide) ?_
        refine bd_iadd C dX9_framesOf_33 ?_
        refine bd_iconst C (v := 3) dX9_framesOf_34 (by decide) ?_
        refine bd_iload C 3 dX9_framesOf_35 rfl ?_
        refine bd_imul C dX9_framesOf_37 ?_
        refine bd_iadd C dX9_framesOf_38 ?_
        refine bd_lald C dX9_framesOf_39 hr4 (fun x5 => ?_)
        refine bd_aload_n C 0 dX9_framesOf_40 rfl rfl ?_
        refine bd_gR C fi900 fv900 wd_1241 dX9_framesOf_41 ol0 (fun r6 gr6 hr6 => ?_)
        refine bd_iload_n C 1 dX9_framesOf_44 rfl rfl ?_
        refine bd_iconst C (v := 1) dX9_framesOf_45 (by decide) ?_
        refine bd_iadd C dX9_framesOf_46 ?_
        refine bd_iconst C (v := 3) dX9_framesOf_47 (by decide) ?_
        refine bd_iload C 3 dX9_framesOf_48 rfl ?_
        refine bd_imul C dX9_framesOf_50 ?_
        refine bd_iadd C dX9_framesOf_51 ?_
        refine bd_lald C dX9_framesOf_52 hr6 (fun x7 => ?_)
        refine bd_lsub C dX9_framesOf_53 ?_
        refine bd_l2i C dX9_framesOf_54 ?_
        refine bd_iadd C dX9_framesOf_55 ?_
        refine bd_bnd (tp := Value.int) (fun v8 ev8 => ?_)
        refine bd_istore C [(4, .int v8), (0, .ref l0), (3, .int l3), (5, .int l5)] dX9_framesOf_56 (by decide) rfl ?_
        refine bd_iinc C (v := l5 + 1) 3 [(5, .int (l5 + 1)), (4, .int v8), (0, .ref l0), (3, .int l3)] dX9_framesOf_58 rfl rfl (by decide) rfl ?_
        refine bd_goto C 12 dX9_framesOf_61 (by decide) ?_
        exact bd_sub (ih l0 l3 v8 (l5 + 1) ol0) [2, 3, 1, 0] rfl
  unfold fX9_framesOf
  refine bd_sub (lv' := [(0, .ref l0), (1, .int l1), (2, .int l2)]) ?_ [0, 1, 2] rfl
  refine bd_iload_n C 1 dX9_framesOf_0 rfl rfl ?_
  refine bd_iload_n C 2 dX9_framesOf_1 rfl rfl ?_
  refine bd_callS (vs := fun (r : Int32) => some (.int r)) (wf := fun _ => w) (st := []) (st1 := fun x9 => Value.int x9 :: []) C [.int l1, .int l2] (fun r9 e9 => mX9_row C.flag N e9) mwX9_row miX9_row wd_1444 rfl rfl (Nat.le_of_ble_eq_true rfl) dX9_framesOf_2 ⟨rfl, rfl, Nat.le_of_ble_eq_true rfl, Nat.le_of_ble_eq_true rfl, Nat.le_of_ble_eq_true rfl, Nat.le_of_ble_eq_true rfl⟩ (fun _ => rfl) (fun x9 ex9 => ?_)
  refine bd_istore_n C [(3, .int x9), (0, .ref l0), (1, .int l1), (2, .int l2)] dX9_framesOf_5 rfl (by decide) rfl ?_
  refine bd_iconst C (v := 0) dX9_framesOf_6 (by decide) ?_
  refine bd_istore C [(4, .int 0), (3, .int x9), (0, .ref l0), (1, .int l1), (2, .int l2)] dX9_framesOf_7 (by decide) rfl ?_
  refine bd_iconst C (v := 0) dX9_framesOf_9 (by decide) ?_
  refine bd_istore C [(5, .int 0), (4, .int 0), (3, .int x9), (0, .ref l0), (1, .int l1), (2, .int l2)] dX9_framesOf_10 (by decide) rfl ?_
  exact bd_sub (hb12 N l0 x9 0 0 ol0) [3, 2, 1, 0] rfl
abbrev rmX9_differentLabels : Room := { frames := 14, cells := 0, slots := 0, locals := 386 }
abbrev qX9_differentLabels (G : Gy) (F : Fr) (g : Bd) (w : Wd) : Int32 → State → Prop := fun r => QM G F g 0 0 ((fun (r : Int32) => some (.int r)) r) ((fun _ => w) r)
set_option maxRecDepth 20000 in
set_option maxHeartbeats 4000000 in
theorem mX9_differentLabels {l : Launch} (hf9 : l.stackTraces = false) {G : Gy} {F : Fr} (N : Nat) {w : Wd} {l0 : Nat} {l1 : Int32} {r : Int32} (ol0 : okF F l0 9) (e9 : fX9_differentLabels F N w l0 l1 = some r) : Met l yX9_differentLabels [.code yX9_differentLabels cX9_differentLabels 6 (some .int)] rmX9_differentLabels (PcB G F w [.ref l0, .int l1]) (QB G F ((fun (r : Int32) => some (.int r)) r) ((fun _ => w) r)) 0 0 (AF F) := by
  refine bd_met (vs := fun (r : Int32) => some (.int r)) (wf := fun _ => w) hf9 (by decide) (Nat.le_of_ble_eq_true rfl) e9 (fun g C hret hini => ?_)
  clear e9 r
  have hb52 : ∀ (k4 : Nat → Int32 → Int32 → Int32 → Option (Int32)), (∀ (l0 : Nat) (l1 : Int32) (l2 : Int32) (l3 : Int32) (ol0 : okF F l0 9), BD g G F 6 (qX9_differentLabels G F g w) 0 0 (k4 l0 l1 l2 l3) w 4 [(0, .ref l0), (1, .int l1), (2, .int l2), (3, .int l3)] []) → ∀ (k19 : Nat → Int32 → Int32 → Int32 → Int32 → Int32 → Option (Int32)), (∀ (l0 : Nat) (l1 : Int32) (l2 : Int32) (l3 : Int32) (l4 : Int32) (l5 : Int32) (ol0 : okF F l0 9), BD g G F 6 (qX9_differentLabels G F g w) 0 0 (k19 l0 l1 l2 l3 l4 l5) w 19 [(0, .ref l0), (1, .int l1), (2, .int l2), (3, .int l3), (4, .int l4), (5, .int l5)] []) → ∀  (l0 : Nat) (l1 : Int32) (l2 : Int32) (l3 : Int32) (l5 : Int32) (s0 : Int32) (ol0 : okF F l0 9), BD g G F 6 (qX9_differentLabels G F g w) 0 0 (fX9_differentLabels_52 F N w k4 k19 l0 l1 l2 l3 l5 s0) w 52 [(0, .ref l0), (1, .int l1), (2, .int l2), (3, .int l3), (5, .int l5)] [.int s0] := by
    intro k4 hk4 k19 hk19
    intro l0 l1 l2 l3 l5 s0 ol0
    unfold fX9_differentLabels_52
    refine bd_istore C [(4, .int s0), (0, .ref l0), (1, .int l1), (2, .int l2), (3, .int l3), (5, .int l5)] dX9_differentLabels_52 (by decide) rfl ?_
    refine bd_iinc C (v := l5 + 1) 5 [(5, .int (l5 + 1)), (4, .int s0), (0, .ref l0), (1, .int l1), (2, .int l2), (3, .int l3)] dX9_differentLabels_54 rfl rfl (by decide) rfl ?_
    refine bd_goto C 19 dX9_differentLabels_57 (by decide) ?_
    exact bd_sub (hk19 l0 l1 l2 l3 s0 (l5 + 1) ol0) [2, 3, 4, 5, 1, 0] rfl
  have hb51 : ∀ (k4 : Nat → Int32 → Int32 → Int32 → Option (Int32)), (∀ (l0 : Nat) (l1 : Int32) (l2 : Int32) (l3 : Int32) (ol0 : okF F l0 9), BD g G F 6 (qX9_differentLabels G F g w) 0 0 (k4 l0 l1 l2 l3) w 4 [(0, .ref l0), (1, .int l1), (2, .int l2), (3, .int l3)] []) → ∀ (k19 : Nat → Int32 → Int32 → Int32 → Int32 → Int32 → Option (Int32)), (∀ (l0 : Nat) (l1 : Int32) (l2 : Int32) (l3 : Int32) (l4 : Int32) (l5 : Int32) (ol0 : okF F l0 9), BD g G F 6 (qX9_differentLabels G F g w) 0 0 (k19 l0 l1 l2 l3 l4 l5) w 19 [(0, .ref l0), (1, .int l1), (2, .int l2), (3, .int l3), (4, .int l4), (5, .int l5)] []) → ∀  (l0 : Nat) (l1 : Int32) (l2 : Int32) (l3 : Int32) (l5 : Int32) (ol0 : okF F l0 9), BD g G F 6 (qX9_differentLabels G F g w) 0 0 (fX9_differentLabels_51 F N w k4 k19 l0 l1 l2 l3 l5) w 51 [(0, .ref l0), (1, .int l1), (2, .int l2), (3, .int l3), (5, .int l5)] [] := by
    intro k4 hk4 k19 hk19
    intro l0 l1 l2 l3 l5 ol0
    unfold fX9_differentLabels_51
    refine bd_iconst C (v := 0) dX9_differentLabels_51 (by decide) ?_
    exact bd_sub (hb52 _ hk4 _ hk19 l0 l1 l2 l3 l5 0 ol0) [0, 1, 2, 3, 4] rfl
  have hb71 : ∀ (k4 : Nat → Int32 → Int32 → Int32 → Option (Int32)), (∀ (l0 : Nat) (l1 : Int32) (l2 : Int32) (l3 : Int32) (ol0 : okF F l0 9), BD g G F 6 (qX9_differentLabels G F g w) 0 0 (k4 l0 l1 l2 l3) w 4 [(0, .ref l0), (1, .int l1), (2, .int l2), (3, .int l3)] []) → ∀  (l0 : Nat) (l1 : Int32) (l3 : Int32) (s0 : Int32) (s1 : Int32) (ol0 : okF F l0 9), BD g G F 6 (qX9_differentLabels G F g w) 0 0 (fX9_differentLabels_71 F N w k4 l0 l1 l3 s0 s1) w 71 [(0, .ref l0), (1, .int l1), (3, .int l3)] [.int s1, .int s0] := by
    intro k4 hk4
    intro l0 l1 l3 s0 s1 ol0
    unfold fX9_differentLabels_71
    refine bd_iadd C dX9_differentLabels_71 ?_
    refine bd_bnd (tp := Value.int) (fun v9 ev9 => ?_)
    refine bd_istore_n C [(2, .int v9), (0, .ref l0), (1, .int l1), (3, .int l3)] dX9_differentLabels_72 rfl (by decide) rfl ?_
    refine bd_iinc C (v := l3 + 1) 3 [(3, .int (l3 + 1)), (2, .int v9), (0, .ref l0), (1, .int l1)] dX9_differentLabels_73 rfl rfl (by decide) rfl ?_
    refine bd_goto C 4 dX9_differentLabels_76 (by decide) ?_
    exact bd_sub (hk4 l0 l1 v9 (l3 + 1) ol0) [2, 3, 1, 0] rfl
  have hb19 : ∀ (k4 : Nat → Int32 → Int32 → Int32 → Option (Int32)), (∀ (l0 : Nat) (l1 : Int32) (l2 : Int32) (l3 : Int32) (ol0 : okF F l0 9), BD g G F 6 (qX9_differentLabels G F g w) 0 0 (k4 l0 l1 l2 l3) w 4 [(0, .ref l0), (1, .int l1), (2, .int l2), (3, .int l3)] []) → ∀ (n : Nat) (l0 : Nat) (l1 : Int32) (l2 : Int32) (l3 : Int32) (l4 : Int32) (l5 : Int32) (ol0 : okF F l0 9), BD g G F 6 (qX9_differentLabels G F g w) 0 0 (fX9_differentLabels_19 F N w k4 n l0 l1 l2 l3 l4 l5) w 19 [(0, .ref l0), (1, .int l1), (2, .int l2), (3, .int l3), (4, .int l4), (5, .int l5)] [] := by
    intro k4 hk4
    intro n
    induction n with
    | zero =>
      intro l0 l1 l2 l3 l4 l5 ol0
      unfold fX9_differentLabels_19
      exact bd_none
    | succ n ih =>
      intro l0 l1 l2 l3 l4 l5 ol0
      unfold fX9_differentLabels_19
      refine bd_iload C 5 dX9_differentLabels_19 rfl ?_
      refine bd_iload_n C 3 dX9_differentLabels_21 rfl rfl ?_
      refine bd_icmp_ge C 60 dX9_differentLabels_22 (by decide) (fun c3 => ?_) (fun c3 => ?_)
      · refine bd_iload_n C 2 dX9_differentLabels_60 rfl rfl ?_
        refine bd_iload C 4 dX9_differentLabels_61 rfl ?_
        refine bd_if_eq C 70 dX9_differentLabels_63 (by decide) (fun c4 => ?_) (fun c4 => ?_)
        · refine bd_iconst C (v := 0) dX9_differentLabels_70 (by decide) ?_
          exact bd_sub (hb71 _ hk4 l0 l1 l3 l2 0 ol0) [0, 1, 3] rfl
        · refine bd_iconst C (v := 1) dX9_differentLabels_66 (by decide) ?_
          refine bd_goto C 71 dX9_differentLabels_67 (by decide) ?_
          exact bd_sub (hb71 _ hk4 l0 l1 l3 l2 1 ol0) [0, 1, 3] rfl
      · refine bd_iload C 4 dX9_differentLabels_25 rfl ?_
        refine bd_if_eq C 51 dX9_differentLabels_27 (by decide) (fun c5 => ?_) (fun c5 => ?_)
        · exact bd_sub (hb51 _ hk4 _ ih l0 l1 l2 l3 l5 ol0) [0, 1, 2, 3, 5] rfl
        · refine bd_aload_n C 0 dX9_differentLabels_30 rfl rfl ?_
          refine bd_iload_n C 1 dX9_differentLabels_31 rfl rfl ?_
          refine bd_iload C 5 dX9_differentLabels_32 rfl ?_
          refine bd_callV (vs := fun (r : Int64) => some (.long r)) (wf := fun _ => w) (st := []) (st1 := fun x6 => Value.long x6 :: []) C [.int l1, .int l5] (fun r9 e9 => mX9_label C.flag N ol0 e9) mwX9_label miX9_label wd_1459 ol0 (by decide) rfl rfl rfl (Nat.le_of_ble_eq_true rfl) dX9_differentLabels_34 ⟨rfl, rfl, Nat.le_of_ble_eq_true rfl, Nat.le_of_ble_eq_true rfl, Nat.le_of_ble_eq_true rfl, Nat.le_of_ble_eq_true rfl⟩ (fun _ => rfl) (fun x6 ex6 => ?_)
          refine bd_aload_n C 0 dX9_differentLabels_37 rfl rfl ?_
          refine bd_iload_n C 1 dX9_differentLabels_38 rfl rfl ?_
          refine bd_iload_n C 3 dX9_differentLabels_39 rfl rfl ?_
          refine bd_callV (vs := fun (r : Int64) => some (.long r)) (wf := fun _ => w) (st := [.long x6]) (st1 := fun x7 => Value.long x7 :: [.long x6]) C [.int l1, .int l3] (fun r9 e9 => mX9_label C.flag N ol0 e9) mwX9_label miX9_label wd_1459 ol0 (by decide) rfl rfl rfl (Nat.le_of_ble_eq_true rfl) dX9_differentLabels_40 ⟨rfl, rfl, Nat.le_of_ble_eq_true rfl, Nat.le_of_ble_eq_true rfl, Nat.le_of_ble_eq_true rfl, Nat.le_of_ble_eq_true rfl⟩ (fun _ => rfl) (fun x7 ex7 => ?_)
          refine bd_lcmp C dX9_differentLabels_43 ?_
          refine bd_if_eq C 51 dX9_differentLabels_44 (by decide) (fun c8 => ?_) (fun c8 => ?_)
          · exact bd_sub (hb51 _ hk4 _ ih l0 l1 l2 l3 l5 ol0) [0, 1, 2, 3, 5] rfl
          · refine bd_iconst C (v := 1) dX9_differentLabels_47 (by decide) ?_
            refine bd_goto C 52 dX9_differentLabels_48 (by decide) ?_
            exact bd_sub (hb52 _ hk4 _ ih l0 l1 l2 l3 l5 1 ol0) [0, 1, 2, 3, 5] rfl
  have hb4 : ∀ (n : Nat) (l0 : Nat) (l1 : Int32) (l2 : Int32) (l3 : Int32) (ol0 : okF F l0 9), BD g G F 6 (qX9_differentLabels G F g w) 0 0 (fX9_differentLabels_4 F N w n l0 l1 l2 l3) w 4 [(0, .ref l0), (1, .int l1), (2, .int l2), (3, .int l3)] [] := by
    intro n
    induction n with
    | zero =>
      intro l0 l1 l2 l3 ol0
      unfold fX9_differentLabels_4
      exact bd_none
    | succ n ih =>
      intro l0 l1 l2 l3 ol0
      unfold fX9_differentLabels_4
      refine bd_iload_n C 3 dX9_differentLabels_4 rfl rfl ?_
      refine bd_aload_n C 0 dX9_differentLabels_5 rfl rfl ?_
      refine bd_iload_n C 1 dX9_differentLabels_6 rfl rfl ?_
      refine bd_callV (vs := fun (r : Int32) => some (.int r)) (wf := fun _ => w) (st := [.int l3]) (st1 := fun x1 => Value.int x1 :: [.int l3]) C [.int l1] (fun r9 e9 => mX9_many C.flag N ol0 e9) mwX9_many miX9_many wd_1436 ol0 (by decide) rfl rfl rfl (Nat.le_of_ble_eq_true rfl) dX9_differentLabels_7 ⟨rfl, rfl, Nat.le_of_ble_eq_true rfl, Nat.le_of_ble_eq_true rfl, Nat.le_of_ble_eq_true rfl, Nat.le_of_ble_eq_true rfl⟩ (fun _ => rfl) (fun x1 ex1 => ?_)
      refine bd_icmp_ge C 79 dX9_differentLabels_10 (by decide) (fun c2 => ?_) (fun c2 => ?_)
      · refine bd_iload_n C 2 dX9_differentLabels_79 rfl rfl ?_
        exact bd_iret C hret rfl _ _ rfl rfl dX9_differentLabels_80 (Nat.le_refl _) (Nat.le_refl _)
      · refine bd_iconst C (v := 1) dX9_differentLabels_13 (by decide) ?_
        refine bd_istore C [(4, .int 1), (0, .ref l0), (1, .int l1), (2, .int l2), (3, .int l3)] dX9_differentLabels_14 (by decide) rfl ?_
        refine bd_iconst C (v := 0) dX9_differentLabels_16 (by decide) ?_
        refine bd_istore C [(5, .int 0), (4, .int 1), (0, .ref l0), (1, .int l1), (2, .int l2), (3, .int l3)] dX9_differentLabels_17 (by decide) rfl ?_
        exact bd_sub (hb19 _ ih N l0 l1 l2 l3 1 0 ol0) [2, 3, 4, 5, 1, 0] rfl
  unfold fX9_differentLabels
  refine bd_sub (lv' := [(0, .ref l0), (1, .int l1)]) ?_ [0, 1] rfl
  refine bd_iconst C (v := 0) dX9_differentLabels_0 (by decide) ?_
  refine bd_istore_n C [(2, .int 0), (0, .ref l0), (1, .int l1)] dX9_differentLabels_1 rfl (by decide) rfl ?_
  refine bd_iconst C (v := 0) dX9_differentLabels_2 (by decide) ?_
  refine bd_istore_n C [(3, .int 0), (2, .int 0), (0, .ref l0), (1, .int l1)] dX9_differentLabels_3 rfl (by decide) rfl ?_
  exact bd_sub (hb4 N l0 l1 0 0 ol0) [2, 3, 1, 0] rfl
abbrev rmX9_tier : Room := { frames := 15, cells := 0, slots := 0, locals := 411 }
abbrev qX9_tier (G : Gy) (F : Fr) (g : Bd) : (Int32 × Wd) → State → Prop := fun r => QM G F g 0 0 ((fun (r : Int32 × Wd) => some (.int r.1)) r) ((fun (r : Int32 × Wd) => r.2) r)
set_option maxRecDepth 20000 in
set_option maxHeartbeats 4000000 in
theorem mX9_tier {l : Launch} (hf9 : l.stackTraces = false) {G : Gy} {F : Fr} (N : Nat) {w : Wd} {l0 : Nat} {l1 : Int32} {l2 : Int32} {r : Int32 × Wd} (ol0 : okF F l0 9) (e9 : fX9_tier F N w l0 l1 l2 = some r) : Met l yX9_tier [.code yX9_tier cX9_tier 5 (some .int)] rmX9_tier (PcB G F w [.ref l0, .int l1, .int l2]) (QB G F ((fun (r : Int32 × Wd) => some (.int r.1)) r) ((fun (r : Int32 × Wd) => r.2) r)) 0 0 (AF F) := by
  refine bd_met (vs := fun (r : Int32 × Wd) => some (.int r.1)) (wf := fun (r : Int32 × Wd) => r.2) hf9 (by decide) (Nat.le_of_ble_eq_true rfl) e9 (fun g C hret hini => ?_)
  clear e9 r
  have hb142 : ∀ (k114 : Wd → Nat → Int32 → Int32 → Int32 → Option (Int32 × Wd)), (∀ (w : Wd) (l0 : Nat) (l1 : Int32) (l3 : Int32) (l4 : Int32) (ol0 : okF F l0 9), BD g G F 5 (qX9_tier G F g) 0 0 (k114 w l0 l1 l3 l4) w 114 [(0, .ref l0), (1, .int l1), (3, .int l3), (4, .int l4)] []) → ∀  (w : Wd) (l0 : Nat) (l1 : Int32) (l4 : Int32) (s0 : Int32) (s1 : Int32) (ol0 : okF F l0 9), BD g G F 5 (qX9_tier G F g) 0 0 (fX9_tier_142 F N k114 w l0 l1 l4 s0 s1) w 142 [(0, .ref l0), (1, .int l1), (4, .int l4)] [.int s1, .int s0] := by
    intro k114 hk114
    intro w l0 l1 l4 s0 s1 ol0
    unfold fX9_tier_142
    refine bd_ior C dX9_tier_142 ?_
    refine bd_bnd (tp := Value.int) (fun v22 ev22 => ?_)
    refine bd_istore_n C [(3, .int v22), (0, .ref l0), (1, .int l1), (4, .int l4)] dX9_tier_143 rfl (by decide) rfl ?_
    refine bd_iinc C (v := l4 + 1) 3 [(4, .int (l4 + 1)), (3, .int v22), (0, .ref l0), (1, .int l1)] dX9_tier_144 rfl rfl (by decide) rfl ?_
    refine bd_goto C 114 dX9_tier_147 (by decide) ?_
    exact bd_sub (hk114 w l0 l1 v22 (l4 + 1) ol0) [2, 3, 1, 0] rfl
  have hb114 : ∀ (n : Nat) (w : Wd) (l0 : Nat) (l1 : Int32) (l3 : Int32) (l4 : Int32) (ol0 : okF F l0 9), BD g G F 5 (qX9_tier G F g) 0 0 (fX9_tier_114 F N n w l0 l1 l3 l4) w 114 [(0, .ref l0), (1, .int l1), (3, .int l3), (4, .int l4)] [] := by
    intro n
    induction n with
    | zero =>
      intro w l0 l1 l3 l4 ol0
      unfold fX9_tier_114
      exact bd_none
    | succ n ih =>
      intro w l0 l1 l3 l4 ol0
      unfold fX9_tier_114
      refine bd_iload C 3 dX9_tier_114 rfl ?_
      refine bd_aload_n C 0 dX9_tier_116 rfl rfl ?_
      refine bd_callV (vs := fun (r : Int32) => some (.int r)) (wf := fun _ => w) (st := [.int l4]) (st1 := fun x18 => Value.int x18 :: [.int l4]) C [] (fun r9 e9 => mX9_tiers C.flag N ol0 e9) mwX9_tiers miX9_tiers wd_1391 ol0 (by decide) rfl rfl rfl (Nat.le_of_ble_eq_true rfl) dX9_tier_117 ⟨rfl, rfl, Nat.le_of_ble_eq_true rfl, Nat.le_of_ble_eq_true rfl, Nat.le_of_ble_eq_true rfl, Nat.le_of_ble_eq_true rfl⟩ (fun _ => rfl) (fun x18 ex18 => ?_)
      refine bd_icmp_ge C 150 dX9_tier_120 (by decide) (fun c19 => ?_) (fun c19 => ?_)
      · refine bd_iload_n C 2 dX9_tier_150 rfl rfl ?_
        exact bd_iret C hret rfl _ _ rfl rfl dX9_tier_151 (Nat.le_refl _) (Nat.le_refl _)
      · refine bd_iload_n C 2 dX9_tier_123 rfl rfl ?_
        refine bd_aload_n C 0 dX9_tier_124 rfl rfl ?_
        refine bd_iload C 3 dX9_tier_125 rfl ?_
        refine bd_callV (vs := fun (r : Int32) => some (.int r)) (wf := fun _ => w) (st := [.int l3]) (st1 := fun x20 => Value.int x20 :: [.int l3]) C [.int l4] (fun r9 e9 => mX9_parent C.flag N ol0 e9) mwX9_parent miX9_parent wd_1451 ol0 (by decide) rfl rfl rfl (Nat.le_of_ble_eq_true rfl) dX9_tier_127 ⟨rfl, rfl, Nat.le_of_ble_eq_true rfl, Nat.le_of_ble_eq_true rfl, Nat.le_of_ble_eq_true rfl, Nat.le_of_ble_eq_true rfl⟩ (fun _ => rfl) (fun x20 ex20 => ?_)
        refine bd_iload_n C 1 dX9_tier_130 rfl rfl ?_
        refine bd_icmp_ne C 141 dX9_tier_131 (by decide) (fun c21 => ?_) (fun c21 => ?_)
        · refine bd_iconst C (v := 0) dX9_tier_141 (by decide) ?_
          exact bd_sub (hb142 _ ih w l0 l1 l4 l3 0 ol0) [0, 1, 3] rfl
        · refine bd_iconst C (v := 1) dX9_tier_134 (by decide) ?_
          refine bd_iload C 3 dX9_tier_135 rfl ?_
          refine bd_ishl C dX9_tier_137 ?_
          refine bd_goto C 142 dX9_tier_138 (by decide) ?_
          exact bd_sub (hb142 _ ih w l0 l1 l4 l3 (1 <<< (l4 &&& 31)) ol0) [0, 1, 3] rfl
  have hb28 : ∀  (w : Wd) (l0 : Nat) (l1 : Int32) (l2 : Int32) (s0 : Nat) (s1 : Int32) (ol0 : okF F l0 9) (os0 : okF F s0 9), BD g G F 5 (qX9_tier G F g) 0 0 (fX9_tier_28 F N w l0 l1 l2 s0 s1) w 28 [(0, .ref l0), (1, .int l1), (2, .int l2)] [.int s1, .ref s0] := by
    intro w l0 l1 l2 s0 s1 ol0 os0
    unfold fX9_tier_28
    refine bd_pI C fi906 ftX9 fu906 wd_1247 rfl rfl rfl dX9_tier_28 os0 (fun w1 => ?_)
    refine bd_aload_n C 0 dX9_tier_31 rfl rfl ?_
    refine bd_gI C fi906 fv906 wd_1247 dX9_tier_32 ol0 ?_
    refine bd_if_le C 40 dX9_tier_35 (by decide) (fun c2 => ?_) (fun c2 => ?_)
    · refine bd_iload_n C 2 dX9_tier_40 rfl rfl ?_
      refine bd_ite (fun c3 => ?_) (fun c3 => ?_)
      · refine bd_tableIn C (off := 35) 76 dX9_tier_41 (by rw [c3]; decide) (by rw [c3]; decide) (by rw [c3]; rfl) (by decide) ?_
        refine bd_aload_n C 0 dX9_tier_76 rfl rfl ?_
        refine bd_iload_n C 1 dX9_tier_77 rfl rfl ?_
        refine bd_callV (vs := fun (r : Int32) => some (.int r)) (wf := fun _ => w1) (st := []) (st1 := fun x4 => Value.int x4 :: []) C [.int l1] (fun r9 e9 => mX9_many C.flag N ol0 e9) mwX9_many miX9_many wd_1436 ol0 (by decide) rfl rfl rfl (Nat.le_of_ble_eq_true rfl) dX9_tier_78 ⟨rfl, rfl, Nat.le_of_ble_eq_true rfl, Nat.le_of_ble_eq_true rfl, Nat.le_of_ble_eq_true rfl, Nat.le_of_ble_eq_true rfl⟩ (fun _ => rfl) (fun x4 ex4 => ?_)
        exact bd_iret C hret rfl _ _ rfl rfl dX9_tier_81 (Nat.le_refl _) (Nat.le_refl _)
      · refine bd_ite (fun c5 => ?_) (fun c5 => ?_)
        · refine bd_tableIn C (off := 41) 82 dX9_tier_41 (by rw [c5]; decide) (by rw [c5]; decide) (by rw [c5]; rfl) (by decide) ?_
          refine bd_aload_n C 0 dX9_tier_82 rfl rfl ?_
          refine bd_aload_n C 0 dX9_tier_83 rfl rfl ?_
          refine bd_callV (vs := fun (r : Int32) => some (.int r)) (wf := fun _ => w1) (st := [.ref l0]) (st1 := fun x6 => Value.int x6 :: [.ref l0]) C [] (fun r9 e9 => mX9_annotator C.flag N ol0 e9) mwX9_annotator miX9_annotator wd_1424 ol0 (by decide) rfl rfl rfl (Nat.le_of_ble_eq_true rfl) dX9_tier_84 ⟨rfl, rfl, Nat.le_of_ble_eq_true rfl, Nat.le_of_ble_eq_true rfl, Nat.le_of_ble_eq_true rfl, Nat.le_of_ble_eq_true rfl⟩ (fun _ => rfl) (fun x6 ex6 => ?_)
          refine bd_iload_n C 1 dX9_tier_87 rfl rfl ?_
          refine bd_callV (vs := fun (r : Int32) => some (.int r)) (wf := fun _ => w1) (st := []) (st1 := fun x7 => Value.int x7 :: []) C [.int x6, .int l1] (fun r9 e9 => mX9_framesOf C.flag N ol0 e9) mwX9_framesOf miX9_framesOf wd_1447 ol0 (by decide) rfl rfl rfl (Nat.le_of_ble_eq_true rfl) dX9_tier_88 ⟨rfl, rfl, Nat.le_of_ble_eq_true rfl, Nat.le_of_ble_eq_true rfl, Nat.le_of_ble_eq_true rfl, Nat.le_of_ble_eq_true rfl⟩ (fun _ => rfl) (fun x7 ex7 => ?_)
          exact bd_iret C hret rfl _ _ rfl rfl dX9_tier_91 (Nat.le_refl _) (Nat.le_refl _)
        · refine bd_ite (fun c8 => ?_) (fun c8 => ?_)
          · refine bd_tableIn C (off := 51) 92 dX9_tier_41 (by rw [c8]; decide) (by rw [c8]; decide) (by rw [c8]; rfl) (by decide) ?_
            refine bd_aload_n C 0 dX9_tier_92 rfl rfl ?_
            refine bd_gR C fi900 fv900 wd_1241 dX9_tier_93 ol0 (fun r9 gr9 hr9 => ?_)
            refine bd_iconst C (v := 1) dX9_tier_96 (by decide) ?_
            refine bd_aload_n C 0 dX9_tier_97 rfl rfl ?_
            refine bd_callV (vs := fun (r : Int32) => some (.int r)) (wf := fun _ => w1) (st := [.int 1, .ref r9]) (st1 := fun x10 => Value.int x10 :: [.int 1, .ref r9]) C [] (fun r9 e9 => mX9_annotator C.flag N ol0 e9) mwX9_annotator miX9_annotator wd_1424 ol0 (by decide) rfl rfl rfl (Nat.le_of_ble_eq_true rfl) dX9_tier_98 ⟨rfl, rfl, Nat.le_of_ble_eq_true rfl, Nat.le_of_ble_eq_true rfl, Nat.le_of_ble_eq_true rfl, Nat.le_of_ble_eq_true rfl⟩ (fun _ => rfl) (fun x10 ex10 => ?_)
            refine bd_isub C dX9_tier_101 ?_
            refine bd_iload_n C 1 dX9_tier_102 rfl rfl ?_
            refine bd_callS (vs := fun (r : Int32) => some (.int r)) (wf := fun _ => w1) (st := [.ref r9]) (st1 := fun x11 => Value.int x11 :: [.ref r9]) C [.int (1 - x10), .int l1] (fun r9 e9 => mX9_row C.flag N e9) mwX9_row miX9_row wd_1444 rfl rfl (Nat.le_of_ble_eq_true rfl) dX9_tier_103 ⟨rfl, rfl, Nat.le_of_ble_eq_true rfl, Nat.le_of_ble_eq_true rfl, Nat.le_of_ble_eq_true rfl, Nat.le_of_ble_eq_true rfl⟩ (fun _ => rfl) (fun x11 ex11 => ?_)
            refine bd_lald C dX9_tier_106 hr9 (fun x12 => ?_)
            refine bd_l2i C dX9_tier_107 ?_
            exact bd_iret C hret rfl _ _ rfl rfl dX9_tier_108 (Nat.le_refl _) (Nat.le_refl _)
          · refine bd_ite (fun c13 => ?_) (fun c13 => ?_)
            · refine bd_tableIn C (off := 68) 109 dX9_tier_41 (by rw [c13]; decide) (by rw [c13]; decide) (by rw [c13]; rfl) (by decide) ?_
              refine bd_iconst C (v := 0) dX9_tier_109 (by decide) ?_
              refine bd_istore_n C [(3, .int 0), (0, .ref l0), (1, .int l1), (2, .int l2)] dX9_tier_110 rfl (by decide) rfl ?_
              refine bd_iconst C (v := 0) dX9_tier_111 (by decide) ?_
              refine bd_istore C [(4, .int 0), (3, .int 0), (0, .ref l0), (1, .int l1), (2, .int l2)] dX9_tier_112 (by decide) rfl ?_
              exact bd_sub (hb114 N w1 l0 l1 0 0 ol0) [2, 3, 1, 0] rfl
            · refine bd_ite (fun c14 => ?_) (fun c14 => ?_)
              · refine bd_tableIn C (off := 111) 152 dX9_tier_41 (by rw [c14]; decide) (by rw [c14]; decide) (by rw [c14]; rfl) (by decide) ?_
                refine bd_aload_n C 0 dX9_tier_152 rfl rfl ?_
                refine bd_iload_n C 1 dX9_tier_153 rfl rfl ?_
                refine bd_callV (vs := fun (r : Int32) => some (.int r)) (wf := fun _ => w1) (st := []) (st1 := fun x15 => Value.int x15 :: []) C [.int l1] (fun r9 e9 => mX9_differentLabels C.flag N ol0 e9) mwX9_differentLabels miX9_differentLabels wd_1455 ol0 (by decide) rfl rfl rfl (Nat.le_of_ble_eq_true rfl) dX9_tier_154 ⟨rfl, rfl, Nat.le_of_ble_eq_true rfl, Nat.le_of_ble_eq_true rfl, Nat.le_of_ble_eq_true rfl, Nat.le_of_ble_eq_true rfl⟩ (fun _ => rfl) (fun x15 ex15 => ?_)
                exact bd_iret C hret rfl _ _ rfl rfl dX9_tier_157 (Nat.le_refl _) (Nat.le_refl _)
              · refine bd_tableOut C 158 dX9_tier_41 (tbl_outL 3 5 _ (fun j hj => by match j, hj with | 0, _ => exact c3 | 1, _ => exact c5 | 2, _ => exact c8 | 3, _ => exact c13 | 4, _ => exact c14) (by decide)) (by decide) ?_
                refine bd_aload_n C 0 dX9_tier_158 rfl rfl ?_
                refine bd_gR C fi900 fv900 wd_1241 dX9_tier_159 ol0 (fun r16 gr16 hr16 => ?_)
                refine bd_iconst C (v := 4) dX9_tier_162 (by decide) ?_
                refine bd_iconst C (v := 3) dX9_tier_163 (by decide) ?_
                refine bd_iload_n C 1 dX9_tier_164 rfl rfl ?_
                refine bd_imul C dX9_tier_165 ?_
                refine bd_iadd C dX9_tier_166 ?_
                refine bd_iload_n C 2 dX9_tier_167 rfl rfl ?_
                refine bd_iadd C dX9_tier_168 ?_
                refine bd_lald C dX9_tier_169 hr16 (fun x17 => ?_)
                refine bd_l2i C dX9_tier_170 ?_
                exact bd_iret C hret rfl _ _ rfl rfl dX9_tier_171 (Nat.le_refl _) (Nat.le_refl _)
    · refine bd_iconst C (v := 0) dX9_tier_38 (by decide) ?_
      exact bd_iret C hret rfl _ _ rfl rfl dX9_tier_39 (Nat.le_refl _) (Nat.le_refl _)
  unfold fX9_tier
  refine bd_sub (lv' := [(0, .ref l0), (1, .int l1), (2, .int l2)]) ?_ [0, 1, 2] rfl
  refine bd_aload_n C 0 dX9_tier_0 rfl rfl ?_
  refine bd_aload_n C 0 dX9_tier_1 rfl rfl ?_
  refine bd_iload_n C 1 dX9_tier_2 rfl rfl ?_
  refine bd_callV (vs := fun (r : Int32) => some (.int r)) (wf := fun _ => w) (st := [.ref l0]) (st1 := fun x23 => Value.int x23 :: [.ref l0]) C [.int l1] (fun r9 e9 => mX9_isTier C.flag N ol0 e9) mwX9_isTier miX9_isTier wd_1402 ol0 (by decide) rfl rfl rfl (Nat.le_of_ble_eq_true rfl) dX9_tier_3 ⟨rfl, rfl, Nat.le_of_ble_eq_true rfl, Nat.le_of_ble_eq_true rfl, Nat.le_of_ble_eq_true rfl, Nat.le_of_ble_eq_true rfl⟩ (fun _ => rfl) (fun x23 ex23 => ?_)
  refine bd_if_ne C 13 dX9_tier_6 (by decide) (fun c24 => ?_) (fun c24 => ?_)
  · refine bd_iload_n C 2 dX9_tier_13 rfl rfl ?_
    refine bd_iconst C (v := 0) dX9_tier_14 (by decide) ?_
    refine bd_bipush C (v := 7) dX9_tier_15 (by decide) ?_
    refine bd_callS (vs := fun (r : Int32) => some (.int r)) (wf := fun _ => w) (st := [.ref l0]) (st1 := fun x25 => Value.int x25 :: [.ref l0]) C [.int l2, .int 0, .int 7] (fun r9 e9 => mX9_in C.flag N e9) mwX9_in miX9_in wd_1399 rfl rfl (Nat.le_of_ble_eq_true rfl) dX9_tier_17 ⟨rfl, rfl, Nat.le_of_ble_eq_true rfl, Nat.le_of_ble_eq_true rfl, Nat.le_of_ble_eq_true rfl, Nat.le_of_ble_eq_true rfl⟩ (fun _ => rfl) (fun x25 ex25 => ?_)
    refine bd_if_ne C 27 dX9_tier_20 (by decide) (fun c26 => ?_) (fun c26 => ?_)
    · refine bd_iconst C (v := 0) dX9_tier_27 (by decide) ?_
      exact bd_sub (hb28 w l0 l1 l2 l0 0 ol0 ol0) [0, 1, 2] rfl
    · refine bd_iconst C (v := 2) dX9_tier_23 (by decide) ?_
      refine bd_goto C 28 dX9_tier_24 (by decide) ?_
      exact bd_sub (hb28 w l0 l1 l2 l0 2 ol0 ol0) [0, 1, 2] rfl
  · refine bd_iconst C (v := 1) dX9_tier_9 (by decide) ?_
    refine bd_goto C 28 dX9_tier_10 (by decide) ?_
    exact bd_sub (hb28 w l0 l1 l2 l0 1 ol0 ol0) [0, 1, 2] rfl
abbrev rmX9_book : Room := { frames := 11, cells := 0, slots := 0, locals := 322 }
abbrev qX9_book (G : Gy) (F : Fr) (g : Bd) : (Int32 × Wd) → State → Prop := fun r => QM G F g 0 0 ((fun (r : Int32 × Wd) => some (.int r.1)) r) ((fun (r : Int32 × Wd) => r.2) r)
set_option maxRecDepth 20000 in
set_option maxHeartbeats 4000000 in
theorem mX9_book {l : Launch} (hf9 : l.stackTraces = false) {G : Gy} {F : Fr} (N : Nat) {w : Wd} {l0 : Nat} {l1 : Int32} {r : Int32 × Wd} (ol0 : okF F l0 9) (e9 : fX9_book F N w l0 l1 = some r) : Met l yX9_book [.code yX9_book cX9_book 4 (some .int)] rmX9_book (PcB G F w [.ref l0, .int l1]) (QB G F ((fun (r : Int32 × Wd) => some (.int r.1)) r) ((fun (r : Int32 × Wd) => r.2) r)) 0 0 (AF F) := by
  refine bd_met (vs := fun (r : Int32 × Wd) => some (.int r.1)) (wf := fun (r : Int32 × Wd) => r.2) hf9 (by decide) (Nat.le_of_ble_eq_true rfl) e9 (fun g C hret hini => ?_)
  clear e9 r
  have hb64 : ∀ (n : Nat) (w : Wd) (l0 : Nat) (l2 : Int32) (l3 : Int32) (ol0 : okF F l0 9), BD g G F 4 (qX9_book G F g) 0 0 (fX9_book_64 F N n w l0 l2 l3) w 64 [(0, .ref l0), (2, .int l2), (3, .int l3)] [] := by
    intro n
    induction n with
    | zero =>
      intro w l0 l2 l3 ol0
      unfold fX9_book_64
      exact bd_none
    | succ n ih =>
      intro w l0 l2 l3 ol0
      unfold fX9_book_64
      refine bd_iload_n C 2 dX9_book_64 rfl rfl ?_
      refine bd_bipush C (v := 6) dX9_book_65 (by decide) ?_
      refine bd_icmp_ge C 101 dX9_book_67 (by decide) (fun c9 => ?_) (fun c9 => ?_)
      · refine bd_iload_n C 1 dX9_book_101 rfl rfl ?_
        exact bd_iret C hret rfl _ _ rfl rfl dX9_book_102 (Nat.le_refl _) (Nat.le_refl _)
      · refine bd_iload_n C 1 dX9_book_70 rfl rfl ?_
        refine bd_aload_n C 0 dX9_book_71 rfl rfl ?_
        refine bd_gR C fi900 fv900 wd_1241 dX9_book_72 ol0 (fun r10 gr10 hr10 => ?_)
        refine bd_iconst C (v := 0) dX9_book_75 (by decide) ?_
        refine bd_iload_n C 2 dX9_book_76 rfl rfl ?_
        refine bd_callS (vs := fun (r : Int32) => some (.int r)) (wf := fun _ => w) (st := [.ref r10, .int l2]) (st1 := fun x11 => Value.int x11 :: [.ref r10, .int l2]) C [.int 0, .int l3] (fun r9 e9 => mX9_row C.flag N e9) mwX9_row miX9_row wd_1444 rfl rfl (Nat.le_of_ble_eq_true rfl) dX9_book_77 ⟨rfl, rfl, Nat.le_of_ble_eq_true rfl, Nat.le_of_ble_eq_true rfl, Nat.le_of_ble_eq_true rfl, Nat.le_of_ble_eq_true rfl⟩ (fun _ => rfl) (fun x11 ex11 => ?_)
        refine bd_lald C dX9_book_80 hr10 (fun x12 => ?_)
        refine bd_aload_n C 0 dX9_book_81 rfl rfl ?_
        refine bd_gR C fi900 fv900 wd_1241 dX9_book_82 ol0 (fun r13 gr13 hr13 => ?_)
        refine bd_iconst C (v := 1) dX9_book_85 (by decide) ?_
        refine bd_iload_n C 2 dX9_book_86 rfl rfl ?_
        refine bd_callS (vs := fun (r : Int32) => some (.int r)) (wf := fun _ => w) (st := [.ref r13, .long x12, .int l2]) (st1 := fun x14 => Value.int x14 :: [.ref r13, .long x12, .int l2]) C [.int 1, .int l3] (fun r9 e9 => mX9_row C.flag N e9) mwX9_row miX9_row wd_1444 rfl rfl (Nat.le_of_ble_eq_true rfl) dX9_book_87 ⟨rfl, rfl, Nat.le_of_ble_eq_true rfl, Nat.le_of_ble_eq_true rfl, Nat.le_of_ble_eq_true rfl, Nat.le_of_ble_eq_true rfl⟩ (fun _ => rfl) (fun x14 ex14 => ?_)
        refine bd_lald C dX9_book_90 hr13 (fun x15 => ?_)
        refine bd_ladd C dX9_book_91 ?_
        refine bd_l2i C dX9_book_92 ?_
        refine bd_iadd C dX9_book_93 ?_
        refine bd_bnd (tp := Value.int) (fun v16 ev16 => ?_)
        refine bd_istore_n C [(2, .int v16), (0, .ref l0), (3, .int l3)] dX9_book_94 rfl (by decide) rfl ?_
        refine bd_iinc C (v := l3 + 1) 2 [(3, .int (l3 + 1)), (2, .int v16), (0, .ref l0)] dX9_book_95 rfl rfl (by decide) rfl ?_
        refine bd_goto C 64 dX9_book_98 (by decide) ?_
        exact bd_sub (ih w l0 v16 (l3 + 1) ol0) [2, 1, 0] rfl
  have hb16 : ∀  (w : Wd) (l0 : Nat) (l1 : Int32) (s0 : Nat) (s1 : Int32) (ol0 : okF F l0 9) (os0 : okF F s0 9), BD g G F 4 (qX9_book G F g) 0 0 (fX9_book_16 F N w l0 l1 s0 s1) w 16 [(0, .ref l0), (1, .int l1)] [.int s1, .ref s0] := by
    intro w l0 l1 s0 s1 ol0 os0
    unfold fX9_book_16
    refine bd_pI C fi906 ftX9 fu906 wd_1247 rfl rfl rfl dX9_book_16 os0 (fun w1 => ?_)
    refine bd_aload_n C 0 dX9_book_19 rfl rfl ?_
    refine bd_gI C fi906 fv906 wd_1247 dX9_book_20 ol0 ?_
    refine bd_if_le C 28 dX9_book_23 (by decide) (fun c2 => ?_) (fun c2 => ?_)
    · refine bd_iload_n C 1 dX9_book_28 rfl rfl ?_
      refine bd_ite (fun c3 => ?_) (fun c3 => ?_)
      · refine bd_tableIn C (off := 31) 60 dX9_book_29 (by rw [c3]; decide) (by rw [c3]; decide) (by rw [c3]; rfl) (by decide) ?_
        refine bd_iconst C (v := 0) dX9_book_60 (by decide) ?_
        refine bd_istore_n C [(2, .int 0), (0, .ref l0), (1, .int l1)] dX9_book_61 rfl (by decide) rfl ?_
        refine bd_iconst C (v := 0) dX9_book_62 (by decide) ?_
        refine bd_istore_n C [(3, .int 0), (2, .int 0), (0, .ref l0), (1, .int l1)] dX9_book_63 rfl (by decide) rfl ?_
        exact bd_sub (hb64 N w1 l0 0 0 ol0) [2, 1, 0] rfl
      · refine bd_ite (fun c4 => ?_) (fun c4 => ?_)
        · refine bd_tableIn C (off := 74) 103 dX9_book_29 (by rw [c4]; decide) (by rw [c4]; decide) (by rw [c4]; rfl) (by decide) ?_
          refine bd_aload_n C 0 dX9_book_103 rfl rfl ?_
          refine bd_gI C fi908 fv908 wd_1249 dX9_book_104 ol0 ?_
          exact bd_iret C hret rfl _ _ rfl rfl dX9_book_107 (Nat.le_refl _) (Nat.le_refl _)
        · refine bd_ite (fun c5 => ?_) (fun c5 => ?_)
          · refine bd_tableIn C (off := 79) 108 dX9_book_29 (by rw [c5]; decide) (by rw [c5]; decide) (by rw [c5]; rfl) (by decide) ?_
            refine bd_aload_n C 0 dX9_book_108 rfl rfl ?_
            refine bd_gI C fi905 fv905 wd_1246 dX9_book_109 ol0 ?_
            exact bd_iret C hret rfl _ _ rfl rfl dX9_book_112 (Nat.le_refl _) (Nat.le_refl _)
          · refine bd_ite (fun c6 => ?_) (fun c6 => ?_)
            · refine bd_tableIn C (off := 84) 113 dX9_book_29 (by rw [c6]; decide) (by rw [c6]; decide) (by rw [c6]; rfl) (by decide) ?_
              refine bd_aload_n C 0 dX9_book_113 rfl rfl ?_
              refine bd_gI C fi916 fv916 wd_1257 dX9_book_114 ol0 ?_
              exact bd_iret C hret rfl _ _ rfl rfl dX9_book_117 (Nat.le_refl _) (Nat.le_refl _)
            · refine bd_tableOut C 118 dX9_book_29 (tbl_outL 4 4 _ (fun j hj => by match j, hj with | 0, _ => exact c3 | 1, _ => exact c4 | 2, _ => exact c5 | 3, _ => exact c6) (by decide)) (by decide) ?_
              refine bd_aload_n C 0 dX9_book_118 rfl rfl ?_
              refine bd_gR C fi900 fv900 wd_1241 dX9_book_119 ol0 (fun r7 gr7 hr7 => ?_)
              refine bd_iload_n C 1 dX9_book_122 rfl rfl ?_
              refine bd_lald C dX9_book_123 hr7 (fun x8 => ?_)
              refine bd_l2i C dX9_book_124 ?_
              exact bd_iret C hret rfl _ _ rfl rfl dX9_book_125 (Nat.le_refl _) (Nat.le_refl _)
    · refine bd_iconst C (v := 0) dX9_book_26 (by decide) ?_
      exact bd_iret C hret rfl _ _ rfl rfl dX9_book_27 (Nat.le_refl _) (Nat.le_refl _)
  unfold fX9_book
  refine bd_sub (lv' := [(0, .ref l0), (1, .int l1)]) ?_ [0, 1] rfl
  refine bd_aload_n C 0 dX9_book_0 rfl rfl ?_
  refine bd_iload_n C 1 dX9_book_1 rfl rfl ?_
  refine bd_iconst C (v := 0) dX9_book_2 (by decide) ?_
  refine bd_bipush C (v := 7) dX9_book_3 (by decide) ?_
  refine bd_callS (vs := fun (r : Int32) => some (.int r)) (wf := fun _ => w) (st := [.ref l0]) (st1 := fun x17 => Value.int x17 :: [.ref l0]) C [.int l1, .int 0, .int 7] (fun r9 e9 => mX9_in C.flag N e9) mwX9_in miX9_in wd_1399 rfl rfl (Nat.le_of_ble_eq_true rfl) dX9_book_5 ⟨rfl, rfl, Nat.le_of_ble_eq_true rfl, Nat.le_of_ble_eq_true rfl, Nat.le_of_ble_eq_true rfl, Nat.le_of_ble_eq_true rfl⟩ (fun _ => rfl) (fun x17 ex17 => ?_)
  refine bd_if_eq C 15 dX9_book_8 (by decide) (fun c18 => ?_) (fun c18 => ?_)
  · refine bd_iconst C (v := 1) dX9_book_15 (by decide) ?_
    exact bd_sub (hb16 w l0 l1 l0 1 ol0 ol0) [0, 1] rfl
  · refine bd_iconst C (v := 0) dX9_book_11 (by decide) ?_
    refine bd_goto C 16 dX9_book_12 (by decide) ?_
    exact bd_sub (hb16 w l0 l1 l0 0 ol0 ol0) [0, 1] rfl
abbrev rmX9_append : Room := { frames := 11, cells := 0, slots := 0, locals := 322 }
abbrev qX9_append (G : Gy) (F : Fr) (g : Bd) : (Int32 × Wd) → State → Prop := fun r => QM G F g 0 0 ((fun (r : Int32 × Wd) => some (.int r.1)) r) ((fun (r : Int32 × Wd) => r.2) r)
set_option maxRecDepth 20000 in
set_option maxHeartbeats 4000000 in
theorem mX9_append {l : Launch} (hf9 : l.stackTraces = false) {G : Gy} {F : Fr} (N : Nat) {w : Wd} {l0 : Nat} {l1 : Int32} {r : Int32 × Wd} (ol0 : okF F l0 9) (e9 : fX9_append F N w l0 l1 = some r) : Met l yX9_append [.code yX9_append cX9_append 5 (some .int)] rmX9_append (PcB G F w [.ref l0, .int l1]) (QB G F ((fun (r : Int32 × Wd) => some (.int r.1)) r) ((fun (r : Int32 × Wd) => r.2) r)) 0 0 (AF F) := by
  refine bd_met (vs := fun (r : Int32 × Wd) => some (.int r.1)) (wf := fun (r : Int32 × Wd) => r.2) hf9 (by decide) (Nat.le_of_ble_eq_true rfl) e9 (fun g C hret hini => ?_)
  clear e9 r
  have hb152 : ∀ (k113 : Wd → Nat → Int32 → Int32 → Option (Int32 × Wd)), (∀ (w : Wd) (l0 : Nat) (l1 : Int32) (l3 : Int32) (ol0 : okF F l0 9), BD g G F 5 (qX9_append G F g) 0 0 (k113 w l0 l1 l3) w 113 [(0, .ref l0), (1, .int l1), (3, .int l3)] []) → ∀  (w : Wd) (l0 : Nat) (l1 : Int32) (l3 : Int32) (ol0 : okF F l0 9), BD g G F 5 (qX9_append G F g) 0 0 (fX9_append_152 F N k113 w l0 l1 l3) w 152 [(0, .ref l0), (1, .int l1), (3, .int l3)] [] := by
    intro k113 hk113
    intro w l0 l1 l3 ol0
    unfold fX9_append_152
    refine bd_iinc C (v := l3 + (-8)) 2 [(3, .int (l3 + (-8))), (0, .ref l0), (1, .int l1)] dX9_append_152 rfl rfl (by decide) rfl ?_
    refine bd_goto C 113 dX9_append_155 (by decide) ?_
    exact bd_sub (hk113 w l0 l1 (l3 + (-8)) ol0) [1, 2, 0] rfl
  have hb113 : ∀ (n : Nat) (w : Wd) (l0 : Nat) (l1 : Int32) (l3 : Int32) (ol0 : okF F l0 9), BD g G F 5 (qX9_append G F g) 0 0 (fX9_append_113 F N n w l0 l1 l3) w 113 [(0, .ref l0), (1, .int l1), (3, .int l3)] [] := by
    intro n
    induction n with
    | zero =>
      intro w l0 l1 l3 ol0
      unfold fX9_append_113
      exact bd_none
    | succ n ih =>
      intro w l0 l1 l3 ol0
      unfold fX9_append_113
      refine bd_iload_n C 2 dX9_append_113 rfl rfl ?_
      refine bd_if_lt C 158 dX9_append_114 (by decide) (fun c13 => ?_) (fun c13 => ?_)
      · refine bd_aload_n C 0 dX9_append_158 rfl rfl ?_
        refine bd_gI C fi908 fv908 wd_1249 dX9_append_159 ol0 ?_
        exact bd_iret C hret rfl _ _ rfl rfl dX9_append_162 (Nat.le_refl _) (Nat.le_refl _)
      · refine bd_iload_n C 1 dX9_append_117 rfl rfl ?_
        refine bd_iload_n C 2 dX9_append_118 rfl rfl ?_
        refine bd_iushr C dX9_append_119 ?_
        refine bd_sipush C (v := 255) dX9_append_120 (by decide) ?_
        refine bd_iand C dX9_append_123 ?_
        refine bd_bnd (tp := Value.int) (fun v14 ev14 => ?_)
        refine bd_istore C [(4, .int v14), (0, .ref l0), (1, .int l1), (3, .int l3)] dX9_append_124 (by decide) rfl ?_
        refine bd_iload C 0 dX9_append_126 rfl ?_
        refine bd_if_le C 152 dX9_append_128 (by decide) (fun c15 => ?_) (fun c15 => ?_)
        · exact bd_sub (hb152 _ ih w l0 l1 l3 ol0) [1, 2, 3] rfl
        · refine bd_aload_n C 1 dX9_append_131 rfl rfl ?_
          refine bd_gR C fi907 fv907 wd_1248 dX9_append_132 ol0 (fun r16 gr16 hr16 => ?_)
          refine bd_aload_n C 1 dX9_append_135 rfl rfl ?_
          refine bd_gI C fi908 fv908 wd_1249 dX9_append_136 ol0 ?_
          refine bd_iload C 0 dX9_append_139 rfl ?_
          refine bd_iast C dX9_append_141 hr16 (fun w17 => ?_)
          refine bd_aload_n C 1 dX9_append_142 rfl rfl ?_
          refine bd_dup C dX9_append_143 rfl ?_
          refine bd_gI C fi908 fv908 wd_1249 dX9_append_144 ol0 ?_
          refine bd_iconst C (v := 1) dX9_append_147 (by decide) ?_
          refine bd_iadd C dX9_append_148 ?_
          refine bd_pI C fi908 ftX9 fu908 wd_1249 rfl rfl rfl dX9_append_149 ol0 (fun w18 => ?_)
          exact bd_sub (hb152 _ ih w18 l0 l1 l3 ol0) [1, 2, 3] rfl
  have hb98 : ∀  (w : Wd) (l0 : Nat) (l1 : Int32) (s0 : Nat) (s1 : Int32) (ol0 : okF F l0 9) (os0 : okF F s0 9), BD g G F 5 (qX9_append G F g) 0 0 (fX9_append_98 F N w l0 l1 s0 s1) w 98 [(0, .ref l0), (1, .int l1)] [.int s1, .ref s0] := by
    intro w l0 l1 s0 s1 ol0 os0
    unfold fX9_append_98
    refine bd_pI C fi906 ftX9 fu906 wd_1247 rfl rfl rfl dX9_append_98 os0 (fun w11 => ?_)
    refine bd_aload_n C 0 dX9_append_101 rfl rfl ?_
    refine bd_gI C fi906 fv906 wd_1247 dX9_append_102 ol0 ?_
    refine bd_if_le C 110 dX9_append_105 (by decide) (fun c12 => ?_) (fun c12 => ?_)
    · refine bd_bipush C (v := 24) dX9_append_110 (by decide) ?_
      refine bd_istore_n C [(3, .int 24), (0, .ref l0), (1, .int l1)] dX9_append_112 rfl (by decide) rfl ?_
      exact bd_sub (hb113 N w11 l0 l1 24 ol0) [1, 2, 0] rfl
    · refine bd_iconst C (v := 0) dX9_append_108 (by decide) ?_
      exact bd_iret C hret rfl _ _ rfl rfl dX9_append_109 (Nat.le_refl _) (Nat.le_refl _)
  have hb62 : ∀ (k10 : Wd → Nat → Int32 → Int32 → Int32 → Option (Int32 × Wd)), (∀ (w : Wd) (l0 : Nat) (l1 : Int32) (l2 : Int32) (l3 : Int32) (ol0 : okF F l0 9), BD g G F 5 (qX9_append G F g) 0 0 (k10 w l0 l1 l2 l3) w 10 [(0, .ref l0), (1, .int l1), (2, .int l2), (3, .int l3)] []) → ∀  (w : Wd) (l0 : Nat) (l1 : Int32) (l2 : Int32) (l3 : Int32) (s0 : Nat) (s1 : Int32) (ol0 : okF F l0 9) (os0 : okF F s0 9), BD g G F 5 (qX9_append G F g) 0 0 (fX9_append_62 F N k10 w l0 l1 l2 l3 s0 s1) w 62 [(0, .ref l0), (1, .int l1), (2, .int l2), (3, .int l3)] [.int s1, .ref s0] := by
    intro k10 hk10
    intro w l0 l1 l2 l3 s0 s1 ol0 os0
    unfold fX9_append_62
    refine bd_pI C fi906 ftX9 fu906 wd_1247 rfl rfl rfl dX9_append_62 os0 (fun w10 => ?_)
    refine bd_iinc C (v := l3 + (-8)) 3 [(3, .int (l3 + (-8))), (0, .ref l0), (1, .int l1), (2, .int l2)] dX9_append_65 rfl rfl (by decide) rfl ?_
    refine bd_goto C 10 dX9_append_68 (by decide) ?_
    exact bd_sub (hk10 w10 l0 l1 l2 (l3 + (-8)) ol0) [1, 2, 3, 0] rfl
  have hb58 : ∀ (k10 : Wd → Nat → Int32 → Int32 → Int32 → Option (Int32 × Wd)), (∀ (w : Wd) (l0 : Nat) (l1 : Int32) (l2 : Int32) (l3 : Int32) (ol0 : okF F l0 9), BD g G F 5 (qX9_append G F g) 0 0 (k10 w l0 l1 l2 l3) w 10 [(0, .ref l0), (1, .int l1), (2, .int l2), (3, .int l3)] []) → ∀  (w : Wd) (l0 : Nat) (l1 : Int32) (l2 : Int32) (l3 : Int32) (s0 : Nat) (ol0 : okF F l0 9) (os0 : okF F s0 9), BD g G F 5 (qX9_append G F g) 0 0 (fX9_append_58 F N k10 w l0 l1 l2 l3 s0) w 58 [(0, .ref l0), (1, .int l1), (2, .int l2), (3, .int l3)] [.ref s0] := by
    intro k10 hk10
    intro w l0 l1 l2 l3 s0 ol0 os0
    unfold fX9_append_58
    refine bd_aload_n C 0 dX9_append_58 rfl rfl ?_
    refine bd_gI C fi906 fv906 wd_1247 dX9_append_59 ol0 ?_
    exact bd_sub (hb62 _ hk10 w l0 l1 l2 l3 s0 (gI w 906 l0) ol0 os0) [0, 1, 2, 3] rfl
  have hb34 : ∀ (k10 : Wd → Nat → Int32 → Int32 → Int32 → Option (Int32 × Wd)), (∀ (w : Wd) (l0 : Nat) (l1 : Int32) (l2 : Int32) (l3 : Int32) (ol0 : okF F l0 9), BD g G F 5 (qX9_append G F g) 0 0 (k10 w l0 l1 l2 l3) w 10 [(0, .ref l0), (1, .int l1), (2, .int l2), (3, .int l3)] []) → ∀  (w : Wd) (l0 : Nat) (l1 : Int32) (l3 : Int32) (l4 : Int32) (s0 : Int32) (s1 : Int32) (ol0 : okF F l0 9), BD g G F 5 (qX9_append G F g) 0 0 (fX9_append_34 F N k10 w l0 l1 l3 l4 s0 s1) w 34 [(0, .ref l0), (1, .int l1), (3, .int l3), (4, .int l4)] [.int s1, .int s0] := by
    intro k10 hk10
    intro w l0 l1 l3 l4 s0 s1 ol0
    unfold fX9_append_34
    refine bd_iadd C dX9_append_34 ?_
    refine bd_bnd (tp := Value.int) (fun v6 ev6 => ?_)
    refine bd_istore_n C [(2, .int v6), (0, .ref l0), (1, .int l1), (3, .int l3), (4, .int l4)] dX9_append_35 rfl (by decide) rfl ?_
    refine bd_aload_n C 1 dX9_append_36 rfl rfl ?_
    refine bd_iload C 4 dX9_append_37 rfl ?_
    refine bd_if_le C 58 dX9_append_39 (by decide) (fun c7 => ?_) (fun c7 => ?_)
    · exact bd_sub (hb58 _ hk10 w l0 l1 v6 l3 l0 ol0 ol0) [1, 2, 0, 3] rfl
    · refine bd_iload C 4 dX9_append_42 rfl ?_
      refine bd_bipush C (v := 32) dX9_append_44 (by decide) ?_
      refine bd_bipush C (v := 126) dX9_append_46 (by decide) ?_
      refine bd_callS (vs := fun (r : Int32) => some (.int r)) (wf := fun _ => w) (st := [.ref l0]) (st1 := fun x8 => Value.int x8 :: [.ref l0]) C [.int l4, .int 32, .int 126] (fun r9 e9 => mX9_in C.flag N e9) mwX9_in miX9_in wd_1399 rfl rfl (Nat.le_of_ble_eq_true rfl) dX9_append_48 ⟨rfl, rfl, Nat.le_of_ble_eq_true rfl, Nat.le_of_ble_eq_true rfl, Nat.le_of_ble_eq_true rfl, Nat.le_of_ble_eq_true rfl⟩ (fun _ => rfl) (fun x8 ex8 => ?_)
      refine bd_if_ne C 58 dX9_append_51 (by decide) (fun c9 => ?_) (fun c9 => ?_)
      · exact bd_sub (hb58 _ hk10 w l0 l1 v6 l3 l0 ol0 ol0) [1, 2, 0, 3] rfl
      · refine bd_iconst C (v := 1) dX9_append_54 (by decide) ?_
        refine bd_goto C 62 dX9_append_55 (by decide) ?_
        exact bd_sub (hb62 _ hk10 w l0 l1 v6 l3 l0 1 ol0 ol0) [1, 2, 0, 3] rfl
  have hb94 : ∀  (w : Wd) (l0 : Nat) (l1 : Int32) (s0 : Nat) (ol0 : okF F l0 9) (os0 : okF F s0 9), BD g G F 5 (qX9_append G F g) 0 0 (fX9_append_94 F N w l0 l1 s0) w 94 [(0, .ref l0), (1, .int l1)] [.ref s0] := by
    intro w l0 l1 s0 ol0 os0
    unfold fX9_append_94
    refine bd_aload_n C 0 dX9_append_94 rfl rfl ?_
    refine bd_gI C fi906 fv906 wd_1247 dX9_append_95 ol0 ?_
    exact bd_sub (hb98 w l0 l1 s0 (gI w 906 l0) ol0 os0) [0, 1] rfl
  have hb10 : ∀ (n : Nat) (w : Wd) (l0 : Nat) (l1 : Int32) (l2 : Int32) (l3 : Int32) (ol0 : okF F l0 9), BD g G F 5 (qX9_append G F g) 0 0 (fX9_append_10 F N n w l0 l1 l2 l3) w 10 [(0, .ref l0), (1, .int l1), (2, .int l2), (3, .int l3)] [] := by
    intro n
    induction n with
    | zero =>
      intro w l0 l1 l2 l3 ol0
      unfold fX9_append_10
      exact bd_none
    | succ n ih =>
      intro w l0 l1 l2 l3 ol0
      unfold fX9_append_10
      refine bd_iload_n C 3 dX9_append_10 rfl rfl ?_
      refine bd_if_lt C 71 dX9_append_11 (by decide) (fun c1 => ?_) (fun c1 => ?_)
      · refine bd_aload_n C 0 dX9_append_71 rfl rfl ?_
        refine bd_aload_n C 0 dX9_append_72 rfl rfl ?_
        refine bd_gI C fi906 fv906 wd_1247 dX9_append_73 ol0 ?_
        refine bd_if_ne C 94 dX9_append_76 (by decide) (fun c2 => ?_) (fun c2 => ?_)
        · exact bd_sub (hb94 w l0 l1 l0 ol0 ol0) [0, 1] rfl
        · refine bd_aload_n C 0 dX9_append_79 rfl rfl ?_
          refine bd_gI C fi908 fv908 wd_1249 dX9_append_80 ol0 ?_
          refine bd_iload_n C 2 dX9_append_83 rfl rfl ?_
          refine bd_iadd C dX9_append_84 ?_
          refine bd_bipush C (v := 100) dX9_append_85 (by decide) ?_
          refine bd_icmp_le C 94 dX9_append_87 (by decide) (fun c3 => ?_) (fun c3 => ?_)
          · exact bd_sub (hb94 w l0 l1 l0 ol0 ol0) [0, 1] rfl
          · refine bd_iconst C (v := 2) dX9_append_90 (by decide) ?_
            refine bd_goto C 98 dX9_append_91 (by decide) ?_
            exact bd_sub (hb98 w l0 l1 l0 2 ol0 ol0) [0, 1] rfl
      · refine bd_iload_n C 1 dX9_append_14 rfl rfl ?_
        refine bd_iload_n C 3 dX9_append_15 rfl rfl ?_
        refine bd_iushr C dX9_append_16 ?_
        refine bd_sipush C (v := 255) dX9_append_17 (by decide) ?_
        refine bd_iand C dX9_append_20 ?_
        refine bd_bnd (tp := Value.int) (fun v4 ev4 => ?_)
        refine bd_istore C [(4, .int v4), (0, .ref l0), (1, .int l1), (2, .int l2), (3, .int l3)] dX9_append_21 (by decide) rfl ?_
        refine bd_iload_n C 3 dX9_append_23 rfl rfl ?_
        refine bd_iload C 0 dX9_append_24 rfl ?_
        refine bd_if_le C 33 dX9_append_26 (by decide) (fun c5 => ?_) (fun c5 => ?_)
        · refine bd_iconst C (v := 0) dX9_append_33 (by decide) ?_
          exact bd_sub (hb34 _ ih w l0 l1 l3 v4 l2 0 ol0) [1, 2, 4, 0] rfl
        · refine bd_iconst C (v := 1) dX9_append_29 (by decide) ?_
          refine bd_goto C 34 dX9_append_30 (by decide) ?_
          exact bd_sub (hb34 _ ih w l0 l1 l3 v4 l2 1 ol0) [1, 2, 4, 0] rfl
  unfold fX9_append
  refine bd_sub (lv' := [(0, .ref l0), (1, .int l1)]) ?_ [0, 1] rfl
  refine bd_iconst C (v := 0) dX9_append_0 (by decide) ?_
  refine bd_istore_n C [(2, .int 0), (0, .ref l0), (1, .int l1)] dX9_append_1 rfl (by decide) rfl ?_
  refine bd_aload_n C 1 dX9_append_2 rfl rfl ?_
  refine bd_iconst C (v := 0) dX9_append_3 (by decide) ?_
  refine bd_pI C fi906 ftX9 fu906 wd_1247 rfl rfl rfl dX9_append_4 ol0 (fun w19 => ?_)
  refine bd_bipush C (v := 24) dX9_append_7 (by decide) ?_
  refine bd_istore_n C [(3, .int 24), (2, .int 0), (0, .ref l0), (1, .int l1)] dX9_append_9 rfl (by decide) rfl ?_
  exact bd_sub (hb10 N w19 l0 l1 0 24 ol0) [2, 3, 1, 0] rfl
abbrev rmX9_here : Room := { frames := 10, cells := 0, slots := 0, locals := 300 }
abbrev qX9_here (G : Gy) (F : Fr) (g : Bd) (w : Wd) : Int32 → State → Prop := fun r => QM G F g 0 0 ((fun (r : Int32) => some (.int r)) r) ((fun _ => w) r)
set_option maxRecDepth 20000 in
set_option maxHeartbeats 4000000 in
theorem mX9_here {l : Launch} (hf9 : l.stackTraces = false) {G : Gy} {F : Fr} (N : Nat) {w : Wd} {l0 : Nat} {r : Int32} (ol0 : okF F l0 9) (e9 : fX9_here F N w l0 = some r) : Met l yX9_here [.code yX9_here cX9_here 1 (some .int)] rmX9_here (PcB G F w [.ref l0]) (QB G F ((fun (r : Int32) => some (.int r)) r) ((fun _ => w) r)) 0 0 (AF F) := by
  refine bd_met (vs := fun (r : Int32) => some (.int r)) (wf := fun _ => w) hf9 (by decide) (Nat.le_of_ble_eq_true rfl) e9 (fun g C hret hini => ?_)
  clear e9 r
  unfold fX9_here
  refine bd_sub (lv' := [(0, .ref l0)]) ?_ [0] rfl
  refine bd_aload_n C 0 dX9_here_0 rfl rfl ?_
  refine bd_gI C fi909 fv909 wd_1250 dX9_here_1 ol0 ?_
  refine bd_aload_n C 0 dX9_here_4 rfl rfl ?_
  refine bd_gI C fi908 fv908 wd_1249 dX9_here_5 ol0 ?_
  refine bd_icmp_ge C 23 dX9_here_8 (by decide) (fun c1 => ?_) (fun c1 => ?_)
  · refine bd_iconst C (v := 0) dX9_here_23 (by decide) ?_
    exact bd_iret C hret rfl _ _ rfl rfl dX9_here_24 (Nat.le_refl _) (Nat.le_refl _)
  · refine bd_aload_n C 0 dX9_here_11 rfl rfl ?_
    refine bd_gR C fi907 fv907 wd_1248 dX9_here_12 ol0 (fun r2 gr2 hr2 => ?_)
    refine bd_aload_n C 0 dX9_here_15 rfl rfl ?_
    refine bd_gI C fi909 fv909 wd_1250 dX9_here_16 ol0 ?_
    refine bd_iald C dX9_here_19 hr2 (fun x3 => ?_)
    refine bd_goto C 24 dX9_here_20 (by decide) ?_
    exact bd_iret C hret rfl _ _ rfl rfl dX9_here_24 (Nat.le_refl _) (Nat.le_refl _)
abbrev rmX9_isOf : Room := { frames := 11, cells := 0, slots := 0, locals := 322 }
abbrev qX9_isOf (G : Gy) (F : Fr) (g : Bd) (w : Wd) : Int32 → State → Prop := fun r => QM G F g 0 0 ((fun (r : Int32) => some (.int r)) r) ((fun _ => w) r)
set_option maxRecDepth 20000 in
set_option maxHeartbeats 4000000 in
theorem mX9_isOf {l : Launch} (hf9 : l.stackTraces = false) {G : Gy} {F : Fr} (N : Nat) {w : Wd} {l0 : Int32} {l1 : Int32} {r : Int32} (e9 : fX9_isOf F N w l0 l1 = some r) : Met l yX9_isOf [.code yX9_isOf cX9_isOf 2 (some .boolean)] rmX9_isOf (PcB G F w [.int l0, .int l1]) (QB G F ((fun (r : Int32) => some (.int r)) r) ((fun _ => w) r)) 0 0 (AF F) := by
  refine bd_met (vs := fun (r : Int32) => some (.int r)) (wf := fun _ => w) hf9 (by decide) (Nat.le_of_ble_eq_true rfl) e9 (fun g C hret hini => ?_)
  clear e9 r
  have hb46 : BD g G F 2 (qX9_isOf G F g w) 0 0 (fX9_isOf_46 F N w) w 46 [] [] := by
    unfold fX9_isOf_46
    refine bd_iconst C (v := 1) dX9_isOf_46 (by decide) ?_
    refine bd_goto C 51 dX9_isOf_47 (by decide) ?_
    exact bd_zret C hret rfl _ _ rfl rfl rfl dX9_isOf_51 (Nat.le_refl _) (Nat.le_refl _)
  unfold fX9_isOf
  refine bd_sub (lv' := [(0, .int l0), (1, .int l1)]) ?_ [0, 1] rfl
  refine bd_iload_n C 0 dX9_isOf_0 rfl rfl ?_
  refine bd_ite (fun c1 => ?_) (fun c1 => ?_)
  · refine bd_lookup C (off := 27) 28 dX9_isOf_1 (by decide) (by rw [c1]; rfl) (by decide) ?_
    refine bd_iload_n C 1 dX9_isOf_28 rfl rfl ?_
    refine bd_bipush C (v := 108) dX9_isOf_29 (by decide) ?_
    refine bd_icmp_eq C 46 dX9_isOf_31 (by decide) (fun c2 => ?_) (fun c2 => ?_)
    · exact bd_sub (hb46) [] rfl
    · refine bd_iload_n C 1 dX9_isOf_34 rfl rfl ?_
      refine bd_bipush C (v := 114) dX9_isOf_35 (by decide) ?_
      refine bd_icmp_eq C 46 dX9_isOf_37 (by decide) (fun c3 => ?_) (fun c3 => ?_)
      · exact bd_sub (hb46) [] rfl
      · refine bd_iload_n C 1 dX9_isOf_40 rfl rfl ?_
        refine bd_bipush C (v := 98) dX9_isOf_41 (by decide) ?_
        refine bd_icmp_ne C 50 dX9_isOf_43 (by decide) (fun c4 => ?_) (fun c4 => ?_)
        · refine bd_iconst C (v := 0) dX9_isOf_50 (by decide) ?_
          exact bd_zret C hret rfl _ _ rfl rfl rfl dX9_isOf_51 (Nat.le_refl _) (Nat.le_refl _)
        · exact bd_sub (hb46) [] rfl
  · refine bd_ite (fun c5 => ?_) (fun c5 => ?_)
    · refine bd_lookup C (off := 51) 52 dX9_isOf_1 (by decide) (by rw [c5]; rfl) (by decide) ?_
      refine bd_iload_n C 1 dX9_isOf_52 rfl rfl ?_
      refine bd_bipush C (v := 48) dX9_isOf_53 (by decide) ?_
      refine bd_bipush C (v := 57) dX9_isOf_55 (by decide) ?_
      refine bd_callS (vs := fun (r : Int32) => some (.int r)) (wf := fun _ => w) (st := []) (st1 := fun x6 => Value.int x6 :: []) C [.int l1, .int 48, .int 57] (fun r9 e9 => mX9_in C.flag N e9) mwX9_in miX9_in wd_1399 rfl rfl (Nat.le_of_ble_eq_true rfl) dX9_isOf_57 ⟨rfl, rfl, Nat.le_of_ble_eq_true rfl, Nat.le_of_ble_eq_true rfl, Nat.le_of_ble_eq_true rfl, Nat.le_of_ble_eq_true rfl⟩ (fun _ => rfl) (fun x6 ex6 => ?_)
      refine bd_ckZ (fun cz7 => ?_)
      exact bd_zret C hret rfl _ _ (nar_z cz7) rfl rfl dX9_isOf_60 (Nat.le_refl _) (Nat.le_refl _)
    · refine bd_lookup C (off := 60) 61 dX9_isOf_1 (by decide) ((lv_osw c1 rfl).trans ((lv_osw c5 rfl).trans rfl)) (by decide) ?_
      refine bd_iload_n C 1 dX9_isOf_61 rfl rfl ?_
      refine bd_bipush C (v := 97) dX9_isOf_62 (by decide) ?_
      refine bd_bipush C (v := 122) dX9_isOf_64 (by decide) ?_
      refine bd_callS (vs := fun (r : Int32) => some (.int r)) (wf := fun _ => w) (st := []) (st1 := fun x8 => Value.int x8 :: []) C [.int l1, .int 97, .int 122] (fun r9 e9 => mX9_in C.flag N e9) mwX9_in miX9_in wd_1399 rfl rfl (Nat.le_of_ble_eq_true rfl) dX9_isOf_66 ⟨rfl, rfl, Nat.le_of_ble_eq_true rfl, Nat.le_of_ble_eq_true rfl, Nat.le_of_ble_eq_true rfl, Nat.le_of_ble_eq_true rfl⟩ (fun _ => rfl) (fun x8 ex8 => ?_)
      refine bd_ckZ (fun cz9 => ?_)
      exact bd_zret C hret rfl _ _ (nar_z cz9) rfl rfl dX9_isOf_69 (Nat.le_refl _) (Nat.le_refl _)
abbrev rmX9_readLabel : Room := { frames := 12, cells := 0, slots := 0, locals := 343 }
abbrev qX9_readLabel (G : Gy) (F : Fr) (g : Bd) : (Int64 × Wd) → State → Prop := fun r => QM G F g 0 0 ((fun (r : Int64 × Wd) => some (.long r.1)) r) ((fun (r : Int64 × Wd) => r.2) r)
set_option maxRecDepth 20000 in
set_option maxHeartbeats 4000000 in
theorem mX9_readLabel {l : Launch} (hf9 : l.stackTraces = false) {G : Gy} {F : Fr} (N : Nat) {w : Wd} {l0 : Nat} {l1 : Int32} {r : Int64 × Wd} (ol0 : okF F l0 9) (e9 : fX9_readLabel F N w l0 l1 = some r) : Met l yX9_readLabel [.code yX9_readLabel cX9_readLabel 6 (some .long)] rmX9_readLabel (PcB G F w [.ref l0, .int l1]) (QB G F ((fun (r : Int64 × Wd) => some (.long r.1)) r) ((fun (r : Int64 × Wd) => r.2) r)) 0 0 (AF F) := by
  refine bd_met (vs := fun (r : Int64 × Wd) => some (.long r.1)) (wf := fun (r : Int64 × Wd) => r.2) hf9 (by decide) (Nat.le_of_ble_eq_true rfl) e9 (fun g C hret hini => ?_)
  clear e9 r
  have hb89 : ∀  (w : Wd) (l2 : Int64) (s0 : Nat) (os0 : okF F s0 9), BD g G F 6 (qX9_readLabel G F g) 0 0 (fX9_readLabel_89 F N w l2 s0) w 89 [(2, .long l2)] [.ref s0] := by
    intro w l2 s0 os0
    unfold fX9_readLabel_89
    refine bd_iconst C (v := 1) dX9_readLabel_89 (by decide) ?_
    refine bd_goto C 94 dX9_readLabel_90 (by decide) ?_
    refine bd_pI C fi910 ftX9 fu910 wd_1251 rfl rfl rfl dX9_readLabel_94 os0 (fun w12 => ?_)
    refine bd_lload_n C 0 dX9_readLabel_97 rfl rfl ?_
    exact bd_lret C hret rfl _ _ rfl rfl dX9_readLabel_98 (Nat.le_refl _) (Nat.le_refl _)
  have hb76 : ∀  (w : Wd) (l0 : Nat) (l2 : Int64) (l5 : Int32) (ol0 : okF F l0 9), BD g G F 6 (qX9_readLabel G F g) 0 0 (fX9_readLabel_76 F N w l0 l2 l5) w 76 [(0, .ref l0), (2, .long l2), (5, .int l5)] [] := by
    intro w l0 l2 l5 ol0
    unfold fX9_readLabel_76
    refine bd_aload_n C 0 dX9_readLabel_76 rfl rfl ?_
    refine bd_aload_n C 0 dX9_readLabel_77 rfl rfl ?_
    refine bd_gI C fi910 fv910 wd_1251 dX9_readLabel_78 ol0 ?_
    refine bd_if_ne C 89 dX9_readLabel_81 (by decide) (fun c9 => ?_) (fun c9 => ?_)
    · exact bd_sub (hb89 w l2 l0 ol0) [1] rfl
    · refine bd_iload C 2 dX9_readLabel_84 rfl ?_
      refine bd_if_ne C 93 dX9_readLabel_86 (by decide) (fun c10 => ?_) (fun c10 => ?_)
      · refine bd_iconst C (v := 0) dX9_readLabel_93 (by decide) ?_
        refine bd_pI C fi910 ftX9 fu910 wd_1251 rfl rfl rfl dX9_readLabel_94 ol0 (fun w11 => ?_)
        refine bd_lload_n C 1 dX9_readLabel_97 rfl rfl ?_
        exact bd_lret C hret rfl _ _ rfl rfl dX9_readLabel_98 (Nat.le_refl _) (Nat.le_refl _)
      · exact bd_sub (hb89 w l2 l0 ol0) [1] rfl
  have hb23 : ∀ (n : Nat) (w : Wd) (l0 : Nat) (l1 : Int32) (l2 : Int64) (l4 : Int32) (l5 : Int32) (ol0 : okF F l0 9), BD g G F 6 (qX9_readLabel G F g) 0 0 (fX9_readLabel_23 F N n w l0 l1 l2 l4 l5) w 23 [(0, .ref l0), (1, .int l1), (2, .long l2), (4, .int l4), (5, .int l5)] [] := by
    intro n
    induction n with
    | zero =>
      intro w l0 l1 l2 l4 l5 ol0
      unfold fX9_readLabel_23
      exact bd_none
    | succ n ih =>
      intro w l0 l1 l2 l4 l5 ol0
      unfold fX9_readLabel_23
      refine bd_aload_n C 0 dX9_readLabel_23 rfl rfl ?_
      refine bd_gI C fi910 fv910 wd_1251 dX9_readLabel_24 ol0 ?_
      refine bd_if_ne C 76 dX9_readLabel_27 (by decide) (fun c1 => ?_) (fun c1 => ?_)
      · exact bd_sub (hb76 w l0 l2 l5 ol0) [0, 2, 4] rfl
      · refine bd_iload C 4 dX9_readLabel_30 rfl ?_
        refine bd_iload C 3 dX9_readLabel_32 rfl ?_
        refine bd_icmp_ge C 76 dX9_readLabel_34 (by decide) (fun c2 => ?_) (fun c2 => ?_)
        · exact bd_sub (hb76 w l0 l2 l5 ol0) [0, 2, 4] rfl
        · refine bd_iload_n C 1 dX9_readLabel_37 rfl rfl ?_
          refine bd_aload_n C 0 dX9_readLabel_38 rfl rfl ?_
          refine bd_callV (vs := fun (r : Int32) => some (.int r)) (wf := fun _ => w) (st := [.int l1]) (st1 := fun x3 => Value.int x3 :: [.int l1]) C [] (fun r9 e9 => mX9_here C.flag N ol0 e9) mwX9_here miX9_here wd_1491 ol0 (by decide) rfl rfl rfl (Nat.le_of_ble_eq_true rfl) dX9_readLabel_39 ⟨rfl, rfl, Nat.le_of_ble_eq_true rfl, Nat.le_of_ble_eq_true rfl, Nat.le_of_ble_eq_true rfl, Nat.le_of_ble_eq_true rfl⟩ (fun _ => rfl) (fun x3 ex3 => ?_)
          refine bd_callS (vs := fun (r : Int32) => some (.int r)) (wf := fun _ => w) (st := []) (st1 := fun x4 => Value.int x4 :: []) C [.int l1, .int x3] (fun r9 e9 => mX9_isOf C.flag N e9) mwX9_isOf miX9_isOf wd_1495 rfl rfl (Nat.le_of_ble_eq_true rfl) dX9_readLabel_42 ⟨rfl, rfl, Nat.le_of_ble_eq_true rfl, Nat.le_of_ble_eq_true rfl, Nat.le_of_ble_eq_true rfl, Nat.le_of_ble_eq_true rfl⟩ (fun _ => rfl) (fun x4 ex4 => ?_)
          refine bd_if_eq C 76 dX9_readLabel_45 (by decide) (fun c5 => ?_) (fun c5 => ?_)
          · exact bd_sub (hb76 w l0 l2 l5 ol0) [0, 2, 4] rfl
          · refine bd_ldc2 C (v := 128) wd_1498 dX9_readLabel_48 ?_
            refine bd_lload_n C 2 dX9_readLabel_51 rfl rfl ?_
            refine bd_lmul C dX9_readLabel_52 ?_
            refine bd_aload_n C 0 dX9_readLabel_53 rfl rfl ?_
            refine bd_callV (vs := fun (r : Int32) => some (.int r)) (wf := fun _ => w) (st := [.long (128 * l2)]) (st1 := fun x6 => Value.int x6 :: [.long (128 * l2)]) C [] (fun r9 e9 => mX9_here C.flag N ol0 e9) mwX9_here miX9_here wd_1491 ol0 (by decide) rfl rfl rfl (Nat.le_of_ble_eq_true rfl) dX9_readLabel_54 ⟨rfl, rfl, Nat.le_of_ble_eq_true rfl, Nat.le_of_ble_eq_true rfl, Nat.le_of_ble_eq_true rfl, Nat.le_of_ble_eq_true rfl⟩ (fun _ => rfl) (fun x6 ex6 => ?_)
            refine bd_i2l C dX9_readLabel_57 ?_
            refine bd_ladd C dX9_readLabel_58 ?_
            refine bd_bnd (tp := Value.long) (fun v7 ev7 => ?_)
            refine bd_lstore_n C [(2, .long v7), (0, .ref l0), (1, .int l1), (4, .int l4), (5, .int l5)] dX9_readLabel_59 rfl (by decide) rfl ?_
            refine bd_aload_n C 1 dX9_readLabel_60 rfl rfl ?_
            refine bd_dup C dX9_readLabel_61 rfl ?_
            refine bd_gI C fi909 fv909 wd_1250 dX9_readLabel_62 ol0 ?_
            refine bd_iconst C (v := 1) dX9_readLabel_65 (by decide) ?_
            refine bd_iadd C dX9_readLabel_66 ?_
            refine bd_pI C fi909 ftX9 fu909 wd_1250 rfl rfl rfl dX9_readLabel_67 ol0 (fun w8 => ?_)
            refine bd_iinc C (v := l5 + 1) 4 [(5, .int (l5 + 1)), (2, .long v7), (0, .ref l0), (1, .int l1), (4, .int l4)] dX9_readLabel_70 rfl rfl (by decide) rfl ?_
            refine bd_goto C 23 dX9_readLabel_73 (by decide) ?_
            exact bd_sub (ih w8 l0 l1 v7 l4 (l5 + 1) ol0) [2, 3, 1, 4, 0] rfl
  have hb18 : ∀  (w : Wd) (l0 : Nat) (l1 : Int32) (l2 : Int64) (s0 : Int32) (ol0 : okF F l0 9), BD g G F 6 (qX9_readLabel G F g) 0 0 (fX9_readLabel_18 F N w l0 l1 l2 s0) w 18 [(0, .ref l0), (1, .int l1), (2, .long l2)] [.int s0] := by
    intro w l0 l1 l2 s0 ol0
    unfold fX9_readLabel_18
    refine bd_istore C [(4, .int s0), (0, .ref l0), (1, .int l1), (2, .long l2)] dX9_readLabel_18 (by decide) rfl ?_
    refine bd_iconst C (v := 0) dX9_readLabel_20 (by decide) ?_
    refine bd_istore C [(5, .int 0), (4, .int s0), (0, .ref l0), (1, .int l1), (2, .long l2)] dX9_readLabel_21 (by decide) rfl ?_
    exact bd_sub (hb23 N w l0 l1 l2 s0 0 ol0) [2, 3, 4, 1, 0] rfl
  have hb12 : ∀  (w : Wd) (l0 : Nat) (l1 : Int32) (l2 : Int64) (ol0 : okF F l0 9), BD g G F 6 (qX9_readLabel G F g) 0 0 (fX9_readLabel_12 F N w l0 l1 l2) w 12 [(0, .ref l0), (1, .int l1), (2, .long l2)] [] := by
    intro w l0 l1 l2 ol0
    unfold fX9_readLabel_12
    refine bd_iconst C (v := 1) dX9_readLabel_12 (by decide) ?_
    refine bd_goto C 18 dX9_readLabel_13 (by decide) ?_
    exact bd_sub (hb18 w l0 l1 l2 1 ol0) [0, 1, 2] rfl
  unfold fX9_readLabel
  refine bd_sub (lv' := [(0, .ref l0), (1, .int l1)]) ?_ [0, 1] rfl
  refine bd_lconst C (v := 0) dX9_readLabel_0 (by decide) ?_
  refine bd_lstore_n C [(2, .long 0), (0, .ref l0), (1, .int l1)] dX9_readLabel_1 rfl (by decide) rfl ?_
  refine bd_iload_n C 2 dX9_readLabel_2 rfl rfl ?_
  refine bd_iconst C (v := 1) dX9_readLabel_3 (by decide) ?_
  refine bd_icmp_eq C 12 dX9_readLabel_4 (by decide) (fun c13 => ?_) (fun c13 => ?_)
  · exact bd_sub (hb12 w l0 l1 0 ol0) [1, 2, 0] rfl
  · refine bd_iload_n C 2 dX9_readLabel_7 rfl rfl ?_
    refine bd_iconst C (v := 2) dX9_readLabel_8 (by decide) ?_
    refine bd_icmp_ne C 16 dX9_readLabel_9 (by decide) (fun c14 => ?_) (fun c14 => ?_)
    · refine bd_bipush C (v := 8) dX9_readLabel_16 (by decide) ?_
      exact bd_sub (hb18 w l0 l1 0 8 ol0) [1, 2, 0] rfl
    · exact bd_sub (hb12 w l0 l1 0 ol0) [1, 2, 0] rfl
abbrev rmX9_beginText : Room := { frames := 10, cells := 0, slots := 0, locals := 300 }
abbrev qX9_beginText (G : Gy) (F : Fr) (g : Bd) : Wd → State → Prop := fun r => QM G F g 0 0 ((fun _ => none) r) ((fun (r : Wd) => r) r)
set_option maxRecDepth 20000 in
set_option maxHeartbeats 4000000 in
theorem mX9_beginText {l : Launch} (hf9 : l.stackTraces = false) {G : Gy} {F : Fr} (N : Nat) {w : Wd} {l0 : Nat} {r : Wd} (ol0 : okF F l0 9) (e9 : fX9_beginText F N w l0 = some r) : Met l yX9_beginText [.code yX9_beginText cX9_beginText 1 none] rmX9_beginText (PcB G F w [.ref l0]) (QB G F ((fun _ => none) r) ((fun (r : Wd) => r) r)) 0 0 (AF F) := by
  refine bd_met (vs := fun _ => none) (wf := fun (r : Wd) => r) hf9 (by decide) (Nat.le_of_ble_eq_true rfl) e9 (fun g C hret hini => ?_)
  clear e9 r
  unfold fX9_beginText
  refine bd_sub (lv' := [(0, .ref l0)]) ?_ [0] rfl
  refine bd_aload_n C 0 dX9_beginText_0 rfl rfl ?_
  refine bd_iconst C (v := 0) dX9_beginText_1 (by decide) ?_
  refine bd_pI C fi909 ftX9 fu909 wd_1250 rfl rfl rfl dX9_beginText_2 ol0 (fun w1 => ?_)
  refine bd_aload_n C 0 dX9_beginText_5 rfl rfl ?_
  refine bd_iconst C (v := 0) dX9_beginText_6 (by decide) ?_
  refine bd_pI C fi910 ftX9 fu910 wd_1251 rfl rfl rfl dX9_beginText_7 ol0 (fun w2 => ?_)
  exact bd_vret C hret rfl _ _ rfl rfl dX9_beginText_10 (Nat.le_refl _) (Nat.le_refl _)
abbrev rmX9_endText : Room := { frames := 10, cells := 0, slots := 0, locals := 300 }
abbrev qX9_endText (G : Gy) (F : Fr) (g : Bd) : (Int32 × Wd) → State → Prop := fun r => QM G F g 0 0 ((fun (r : Int32 × Wd) => some (.int r.1)) r) ((fun (r : Int32 × Wd) => r.2) r)
set_option maxRecDepth 20000 in
set_option maxHeartbeats 4000000 in
theorem mX9_endText {l : Launch} (hf9 : l.stackTraces = false) {G : Gy} {F : Fr} (N : Nat) {w : Wd} {l0 : Nat} {r : Int32 × Wd} (ol0 : okF F l0 9) (e9 : fX9_endText F N w l0 = some r) : Met l yX9_endText [.code yX9_endText cX9_endText 1 (some .boolean)] rmX9_endText (PcB G F w [.ref l0]) (QB G F ((fun (r : Int32 × Wd) => some (.int r.1)) r) ((fun (r : Int32 × Wd) => r.2) r)) 0 0 (AF F) := by
  refine bd_met (vs := fun (r : Int32 × Wd) => some (.int r.1)) (wf := fun (r : Int32 × Wd) => r.2) hf9 (by decide) (Nat.le_of_ble_eq_true rfl) e9 (fun g C hret hini => ?_)
  clear e9 r
  have hb51 : ∀  (w : Wd) (l0 : Nat) (s0 : Nat) (s1 : Int32) (ol0 : okF F l0 9) (os0 : okF F s0 9), BD g G F 1 (qX9_endText G F g) 0 0 (fX9_endText_51 F N w l0 s0 s1) w 51 [(0, .ref l0)] [.int s1, .ref s0] := by
    intro w l0 s0 s1 ol0 os0
    unfold fX9_endText_51
    refine bd_pI C fi911 ftX9 fu911 wd_1252 rfl rfl rfl dX9_endText_51 os0 (fun w6 => ?_)
    refine bd_aload_n C 0 dX9_endText_54 rfl rfl ?_
    refine bd_gI C fi910 fv910 wd_1251 dX9_endText_55 ol0 ?_
    refine bd_ckZ (fun cz7 => ?_)
    exact bd_zret C hret rfl _ _ (nar_z cz7) rfl rfl dX9_endText_58 (Nat.le_refl _) (Nat.le_refl _)
  have hb24 : ∀  (w : Wd) (l0 : Nat) (s0 : Nat) (s1 : Int32) (ol0 : okF F l0 9) (os0 : okF F s0 9), BD g G F 1 (qX9_endText G F g) 0 0 (fX9_endText_24 F N w l0 s0 s1) w 24 [(0, .ref l0)] [.int s1, .ref s0] := by
    intro w l0 s0 s1 ol0 os0
    unfold fX9_endText_24
    refine bd_ckZ (fun cz1 => ?_)
    refine bd_pI C fi910 ftX9 fu910 wd_1251 rfl (nar_z cz1) (fit_z cz1) dX9_endText_24 os0 (fun w3 => ?_)
    refine bd_aload_n C 0 dX9_endText_27 rfl rfl ?_
    refine bd_iconst C (v := 0) dX9_endText_28 (by decide) ?_
    refine bd_pI C fi908 ftX9 fu908 wd_1249 rfl rfl rfl dX9_endText_29 ol0 (fun w4 => ?_)
    refine bd_aload_n C 0 dX9_endText_32 rfl rfl ?_
    refine bd_aload_n C 0 dX9_endText_33 rfl rfl ?_
    refine bd_gI C fi910 fv910 wd_1251 dX9_endText_34 ol0 ?_
    refine bd_if_eq C 47 dX9_endText_37 (by decide) (fun c5 => ?_) (fun c5 => ?_)
    · refine bd_aload_n C 0 dX9_endText_47 rfl rfl ?_
      refine bd_gI C fi911 fv911 wd_1252 dX9_endText_48 ol0 ?_
      exact bd_sub (hb51 w4 l0 l0 (gI w4 911 l0) ol0 ol0) [0] rfl
    · refine bd_aload_n C 0 dX9_endText_40 rfl rfl ?_
      refine bd_gI C fi909 fv909 wd_1250 dX9_endText_41 ol0 ?_
      refine bd_goto C 51 dX9_endText_44 (by decide) ?_
      exact bd_sub (hb51 w4 l0 l0 (gI w4 909 l0) ol0 ol0) [0] rfl
  have hb19 : ∀  (w : Wd) (l0 : Nat) (s0 : Nat) (ol0 : okF F l0 9) (os0 : okF F s0 9), BD g G F 1 (qX9_endText G F g) 0 0 (fX9_endText_19 F N w l0 s0) w 19 [(0, .ref l0)] [.ref s0] := by
    intro w l0 s0 ol0 os0
    unfold fX9_endText_19
    refine bd_iconst C (v := 1) dX9_endText_19 (by decide) ?_
    refine bd_goto C 24 dX9_endText_20 (by decide) ?_
    exact bd_sub (hb24 w l0 s0 1 ol0 os0) [0] rfl
  unfold fX9_endText
  refine bd_sub (lv' := [(0, .ref l0)]) ?_ [0] rfl
  refine bd_aload_n C 0 dX9_endText_0 rfl rfl ?_
  refine bd_aload_n C 0 dX9_endText_1 rfl rfl ?_
  refine bd_gI C fi910 fv910 wd_1251 dX9_endText_2 ol0 ?_
  refine bd_if_ne C 19 dX9_endText_5 (by decide) (fun c8 => ?_) (fun c8 => ?_)
  · exact bd_sub (hb19 w l0 l0 ol0 ol0) [0] rfl
  · refine bd_aload_n C 0 dX9_endText_8 rfl rfl ?_
    refine bd_gI C fi909 fv909 wd_1250 dX9_endText_9 ol0 ?_
    refine bd_aload_n C 0 dX9_endText_12 rfl rfl ?_
    refine bd_gI C fi908 fv908 wd_1249 dX9_endText_13 ol0 ?_
    refine bd_icmp_ge C 23 dX9_endText_16 (by decide) (fun c9 => ?_) (fun c9 => ?_)
    · refine bd_iconst C (v := 0) dX9_endText_23 (by decide) ?_
      exact bd_sub (hb24 w l0 l0 0 ol0 ol0) [0] rfl
    · exact bd_sub (hb19 w l0 l0 ol0 ol0) [0] rfl
abbrev rmX9_lengthOf : Room := { frames := 10, cells := 0, slots := 0, locals := 300 }
abbrev qX9_lengthOf (G : Gy) (F : Fr) (g : Bd) (w : Wd) : Int32 → State → Prop := fun r => QM G F g 0 0 ((fun (r : Int32) => some (.int r)) r) ((fun _ => w) r)
set_option maxRecDepth 20000 in
set_option maxHeartbeats 4000000 in
theorem mX9_lengthOf {l : Launch} (hf9 : l.stackTraces = false) {G : Gy} {F : Fr} (N : Nat) {w : Wd} {l0 : Int64} {r : Int32} (e9 : fX9_lengthOf F N w l0 = some r) : Met l yX9_lengthOf [.code yX9_lengthOf cX9_lengthOf 5 (some .int)] rmX9_lengthOf (PcB G F w [.long l0]) (QB G F ((fun (r : Int32) => some (.int r)) r) ((fun _ => w) r)) 0 0 (AF F) := by
  refine bd_met (vs := fun (r : Int32) => some (.int r)) (wf := fun _ => w) hf9 (by decide) (Nat.le_of_ble_eq_true rfl) e9 (fun g C hret hini => ?_)
  clear e9 r
  have hb4 : ∀ (n : Nat) (l2 : Int32) (l3 : Int64), BD g G F 5 (qX9_lengthOf G F g w) 0 0 (fX9_lengthOf_4 F N w n l2 l3) w 4 [(2, .int l2), (3, .long l3)] [] := by
    intro n
    induction n with
    | zero =>
      intro l2 l3
      unfold fX9_lengthOf_4
      exact bd_none
    | succ n ih =>
      intro l2 l3
      unfold fX9_lengthOf_4
      refine bd_lload_n C 1 dX9_lengthOf_4 rfl rfl ?_
      refine bd_lconst C (v := 0) dX9_lengthOf_5 (by decide) ?_
      refine bd_lcmp C dX9_lengthOf_6 ?_
      refine bd_if_le C 22 dX9_lengthOf_7 (by decide) (fun c1 => ?_) (fun c1 => ?_)
      · refine bd_iload_n C 0 dX9_lengthOf_22 rfl rfl ?_
        exact bd_iret C hret rfl _ _ rfl rfl dX9_lengthOf_23 (Nat.le_refl _) (Nat.le_refl _)
      · refine bd_iinc C (v := l2 + 1) 0 [(2, .int (l2 + 1)), (3, .long l3)] dX9_lengthOf_10 rfl rfl (by decide) rfl ?_
        refine bd_lload_n C 1 dX9_lengthOf_13 rfl rfl ?_
        refine bd_ldc2 C (v := 128) wd_1498 dX9_lengthOf_14 ?_
        refine bd_ldiv C dX9_lengthOf_17 (by decide) ?_
        refine bd_bnd (tp := Value.long) (fun v2 ev2 => ?_)
        refine bd_lstore_n C [(3, .long v2), (2, .int (l2 + 1))] dX9_lengthOf_18 rfl (by decide) rfl ?_
        refine bd_goto C 4 dX9_lengthOf_19 (by decide) ?_
        exact bd_sub (ih (l2 + 1) v2) [1, 0] rfl
  unfold fX9_lengthOf
  refine bd_sub (lv' := [(0, .long l0)]) ?_ [0] rfl
  refine bd_iconst C (v := 0) dX9_lengthOf_0 (by decide) ?_
  refine bd_istore_n C [(2, .int 0), (0, .long l0)] dX9_lengthOf_1 rfl (by decide) rfl ?_
  refine bd_lload_n C 1 dX9_lengthOf_2 rfl rfl ?_
  refine bd_lstore_n C [(3, .long l0), (2, .int 0), (0, .long l0)] dX9_lengthOf_3 rfl (by decide) rfl ?_
  exact bd_sub (hb4 N 0 l0) [1, 0] rfl
abbrev rmX9_isRefused : Room := { frames := 10, cells := 0, slots := 0, locals := 300 }
abbrev qX9_isRefused (G : Gy) (F : Fr) (g : Bd) : (Int32 × Wd) → State → Prop := fun r => QM G F g 0 0 ((fun (r : Int32 × Wd) => some (.int r.1)) r) ((fun (r : Int32 × Wd) => r.2) r)
set_option maxRecDepth 20000 in
set_option maxHeartbeats 4000000 in
theorem mX9_isRefused {l : Launch} (hf9 : l.stackTraces = false) {G : Gy} {F : Fr} (N : Nat) {w : Wd} {l0 : Nat} {l1 : Int32} {l2 : Int32} {r : Int32 × Wd} (ol0 : okF F l0 9) (e9 : fX9_isRefused F N w l0 l1 l2 = some r) : Met l yX9_isRefused [.code yX9_isRefused cX9_isRefused 3 (some .boolean)] rmX9_isRefused (PcB G F w [.ref l0, .int l1, .int l2]) (QB G F ((fun (r : Int32 × Wd) => some (.int r.1)) r) ((fun (r : Int32 × Wd) => r.2) r)) 0 0 (AF F) := by
  refine bd_met (vs := fun (r : Int32 × Wd) => some (.int r.1)) (wf := fun (r : Int32 × Wd) => r.2) hf9 (by decide) (Nat.le_of_ble_eq_true rfl) e9 (fun g C hret hini => ?_)
  clear e9 r
  have hb14 : ∀  (w : Wd) (l1 : Int32), BD g G F 3 (qX9_isRefused G F g) 0 0 (fX9_isRefused_14 F N w l1) w 14 [(1, .int l1)] [] := by
    intro w l1
    unfold fX9_isRefused_14
    refine bd_iload_n C 0 dX9_isRefused_14 rfl rfl ?_
    refine bd_if_le C 22 dX9_isRefused_15 (by decide) (fun c1 => ?_) (fun c1 => ?_)
    · refine bd_iconst C (v := 0) dX9_isRefused_22 (by decide) ?_
      exact bd_zret C hret rfl _ _ rfl rfl rfl dX9_isRefused_23 (Nat.le_refl _) (Nat.le_refl _)
    · refine bd_iconst C (v := 1) dX9_isRefused_18 (by decide) ?_
      refine bd_goto C 23 dX9_isRefused_19 (by decide) ?_
      exact bd_zret C hret rfl _ _ rfl rfl rfl dX9_isRefused_23 (Nat.le_refl _) (Nat.le_refl _)
  unfold fX9_isRefused
  refine bd_sub (lv' := [(0, .ref l0), (1, .int l1), (2, .int l2)]) ?_ [0, 1, 2] rfl
  refine bd_iload_n C 1 dX9_isRefused_0 rfl rfl ?_
  refine bd_if_le C 14 dX9_isRefused_1 (by decide) (fun c2 => ?_) (fun c2 => ?_)
  · exact bd_sub (hb14 w l1) [1] rfl
  · refine bd_aload_n C 0 dX9_isRefused_4 rfl rfl ?_
    refine bd_iload_n C 1 dX9_isRefused_5 rfl rfl ?_
    refine bd_pI C fi912 ftX9 fu912 wd_1253 rfl rfl rfl dX9_isRefused_6 ol0 (fun w3 => ?_)
    refine bd_aload_n C 0 dX9_isRefused_9 rfl rfl ?_
    refine bd_iload_n C 2 dX9_isRefused_10 rfl rfl ?_
    refine bd_pI C fi913 ftX9 fu913 wd_1254 rfl rfl rfl dX9_isRefused_11 ol0 (fun w4 => ?_)
    exact bd_sub (hb14 w4 l1) [1] rfl
abbrev rmX9_inTheWay : Room := { frames := 14, cells := 0, slots := 0, locals := 386 }
abbrev qX9_inTheWay (G : Gy) (F : Fr) (g : Bd) (w : Wd) : Int32 → State → Prop := fun r => QM G F g 0 0 ((fun (r : Int32) => some (.int r)) r) ((fun _ => w) r)
set_option maxRecDepth 20000 in
set_option maxHeartbeats 4000000 in
theorem mX9_inTheWay {l : Launch} (hf9 : l.stackTraces = false) {G : Gy} {F : Fr} (N : Nat) {w : Wd} {l0 : Nat} {l1 : Int32} {l2 : Int32} {l3 : Int32} {l4 : Int32} {r : Int32} (ol0 : okF F l0 9) (e9 : fX9_inTheWay F N w l0 l1 l2 l3 l4 = some r) : Met l yX9_inTheWay [.code yX9_inTheWay cX9_inTheWay 6 (some .int)] rmX9_inTheWay (PcB G F w [.ref l0, .int l1, .int l2, .int l3, .int l4]) (QB G F ((fun (r : Int32) => some (.int r)) r) ((fun _ => w) r)) 0 0 (AF F) := by
  refine bd_met (vs := fun (r : Int32) => some (.int r)) (wf := fun _ => w) hf9 (by decide) (Nat.le_of_ble_eq_true rfl) e9 (fun g C hret hini => ?_)
  clear e9 r
  have hb45 : ∀ (k3 : Nat → Int32 → Int32 → Int32 → Int32 → Int32 → Option (Int32)), (∀ (l0 : Nat) (l1 : Int32) (l2 : Int32) (l3 : Int32) (l4 : Int32) (l5 : Int32) (ol0 : okF F l0 9), BD g G F 6 (qX9_inTheWay G F g w) 0 0 (k3 l0 l1 l2 l3 l4 l5) w 3 [(0, .ref l0), (1, .int l1), (2, .int l2), (3, .int l3), (4, .int l4), (5, .int l5)] []) → ∀  (l0 : Nat) (l1 : Int32) (l2 : Int32) (l3 : Int32) (l4 : Int32) (l5 : Int32) (ol0 : okF F l0 9), BD g G F 6 (qX9_inTheWay G F g w) 0 0 (fX9_inTheWay_45 F N w k3 l0 l1 l2 l3 l4 l5) w 45 [(0, .ref l0), (1, .int l1), (2, .int l2), (3, .int l3), (4, .int l4), (5, .int l5)] [] := by
    intro k3 hk3
    intro l0 l1 l2 l3 l4 l5 ol0
    unfold fX9_inTheWay_45
    refine bd_iinc C (v := l5 + 1) 5 [(5, .int (l5 + 1)), (0, .ref l0), (1, .int l1), (2, .int l2), (3, .int l3), (4, .int l4)] dX9_inTheWay_45 rfl rfl (by decide) rfl ?_
    refine bd_goto C 3 dX9_inTheWay_48 (by decide) ?_
    exact bd_sub (hk3 l0 l1 l2 l3 l4 (l5 + 1) ol0) [1, 2, 3, 4, 5, 0] rfl
  have hb3 : ∀ (n : Nat) (l0 : Nat) (l1 : Int32) (l2 : Int32) (l3 : Int32) (l4 : Int32) (l5 : Int32) (ol0 : okF F l0 9), BD g G F 6 (qX9_inTheWay G F g w) 0 0 (fX9_inTheWay_3 F N w n l0 l1 l2 l3 l4 l5) w 3 [(0, .ref l0), (1, .int l1), (2, .int l2), (3, .int l3), (4, .int l4), (5, .int l5)] [] := by
    intro n
    induction n with
    | zero =>
      intro l0 l1 l2 l3 l4 l5 ol0
      unfold fX9_inTheWay_3
      exact bd_none
    | succ n ih =>
      intro l0 l1 l2 l3 l4 l5 ol0
      unfold fX9_inTheWay_3
      refine bd_iload C 5 dX9_inTheWay_3 rfl ?_
      refine bd_aload_n C 0 dX9_inTheWay_5 rfl rfl ?_
      refine bd_iload_n C 1 dX9_inTheWay_6 rfl rfl ?_
      refine bd_callV (vs := fun (r : Int32) => some (.int r)) (wf := fun _ => w) (st := [.int l5]) (st1 := fun x1 => Value.int x1 :: [.int l5]) C [.int l1] (fun r9 e9 => mX9_many C.flag N ol0 e9) mwX9_many miX9_many wd_1436 ol0 (by decide) rfl rfl rfl (Nat.le_of_ble_eq_true rfl) dX9_inTheWay_7 ⟨rfl, rfl, Nat.le_of_ble_eq_true rfl, Nat.le_of_ble_eq_true rfl, Nat.le_of_ble_eq_true rfl, Nat.le_of_ble_eq_true rfl⟩ (fun _ => rfl) (fun x1 ex1 => ?_)
      refine bd_icmp_ge C 51 dX9_inTheWay_10 (by decide) (fun c2 => ?_) (fun c2 => ?_)
      · refine bd_iconst C (v := (-1)) dX9_inTheWay_51 (by decide) ?_
        exact bd_iret C hret rfl _ _ rfl rfl dX9_inTheWay_52 (Nat.le_refl _) (Nat.le_refl _)
      · refine bd_iload C 5 dX9_inTheWay_13 rfl ?_
        refine bd_iload_n C 2 dX9_inTheWay_15 rfl rfl ?_
        refine bd_icmp_eq C 45 dX9_inTheWay_16 (by decide) (fun c3 => ?_) (fun c3 => ?_)
        · exact bd_sub (hb45 _ ih l0 l1 l2 l3 l4 l5 ol0) [0, 1, 2, 3, 4, 5] rfl
        · refine bd_aload_n C 0 dX9_inTheWay_19 rfl rfl ?_
          refine bd_iload_n C 1 dX9_inTheWay_20 rfl rfl ?_
          refine bd_iload C 5 dX9_inTheWay_21 rfl ?_
          refine bd_callV (vs := fun (r : Int32) => some (.int r)) (wf := fun _ => w) (st := []) (st1 := fun x4 => Value.int x4 :: []) C [.int l1, .int l5] (fun r9 e9 => mX9_first C.flag N ol0 e9) mwX9_first miX9_first wd_1522 ol0 (by decide) rfl rfl rfl (Nat.le_of_ble_eq_true rfl) dX9_inTheWay_23 ⟨rfl, rfl, Nat.le_of_ble_eq_true rfl, Nat.le_of_ble_eq_true rfl, Nat.le_of_ble_eq_true rfl, Nat.le_of_ble_eq_true rfl⟩ (fun _ => rfl) (fun x4 ex4 => ?_)
          refine bd_iload C 4 dX9_inTheWay_26 rfl ?_
          refine bd_icmp_ge C 45 dX9_inTheWay_28 (by decide) (fun c5 => ?_) (fun c5 => ?_)
          · exact bd_sub (hb45 _ ih l0 l1 l2 l3 l4 l5 ol0) [0, 1, 2, 3, 4, 5] rfl
          · refine bd_iload_n C 3 dX9_inTheWay_31 rfl rfl ?_
            refine bd_aload_n C 0 dX9_inTheWay_32 rfl rfl ?_
            refine bd_iload_n C 1 dX9_inTheWay_33 rfl rfl ?_
            refine bd_iload C 5 dX9_inTheWay_34 rfl ?_
            refine bd_callV (vs := fun (r : Int32) => some (.int r)) (wf := fun _ => w) (st := [.int l3]) (st1 := fun x6 => Value.int x6 :: [.int l3]) C [.int l1, .int l5] (fun r9 e9 => mX9_end C.flag N ol0 e9) mwX9_end miX9_end wd_1526 ol0 (by decide) rfl rfl rfl (Nat.le_of_ble_eq_true rfl) dX9_inTheWay_36 ⟨rfl, rfl, Nat.le_of_ble_eq_true rfl, Nat.le_of_ble_eq_true rfl, Nat.le_of_ble_eq_true rfl, Nat.le_of_ble_eq_true rfl⟩ (fun _ => rfl) (fun x6 ex6 => ?_)
            refine bd_icmp_ge C 45 dX9_inTheWay_39 (by decide) (fun c7 => ?_) (fun c7 => ?_)
            · exact bd_sub (hb45 _ ih l0 l1 l2 l3 l4 l5 ol0) [0, 1, 2, 3, 4, 5] rfl
            · refine bd_iload C 5 dX9_inTheWay_42 rfl ?_
              exact bd_iret C hret rfl _ _ rfl rfl dX9_inTheWay_44 (Nat.le_refl _) (Nat.le_refl _)
  unfold fX9_inTheWay
  refine bd_sub (lv' := [(0, .ref l0), (1, .int l1), (2, .int l2), (3, .int l3), (4, .int l4)]) ?_ [0, 1, 2, 3, 4] rfl
  refine bd_iconst C (v := 0) dX9_inTheWay_0 (by decide) ?_
  refine bd_istore C [(5, .int 0), (0, .ref l0), (1, .int l1), (2, .int l2), (3, .int l3), (4, .int l4)] dX9_inTheWay_1 (by decide) rfl ?_
  exact bd_sub (hb3 N l0 l1 l2 l3 l4 0 ol0) [1, 2, 3, 4, 5, 0] rfl
abbrev rmX9_areFrames : Room := { frames := 11, cells := 0, slots := 0, locals := 322 }
abbrev qX9_areFrames (G : Gy) (F : Fr) (g : Bd) (w : Wd) : Int32 → State → Prop := fun r => QM G F g 0 0 ((fun (r : Int32) => some (.int r)) r) ((fun _ => w) r)
set_option maxRecDepth 20000 in
set_option maxHeartbeats 4000000 in
theorem mX9_areFrames {l : Launch} (hf9 : l.stackTraces = false) {G : Gy} {F : Fr} (N : Nat) {w : Wd} {l0 : Int32} {l1 : Int32} {r : Int32} (e9 : fX9_areFrames F N w l0 l1 = some r) : Met l yX9_areFrames [.code yX9_areFrames cX9_areFrames 2 (some .boolean)] rmX9_areFrames (PcB G F w [.int l0, .int l1]) (QB G F ((fun (r : Int32) => some (.int r)) r) ((fun _ => w) r)) 0 0 (AF F) := by
  refine bd_met (vs := fun (r : Int32) => some (.int r)) (wf := fun _ => w) hf9 (by decide) (Nat.le_of_ble_eq_true rfl) e9 (fun g C hret hini => ?_)
  clear e9 r
  unfold fX9_areFrames
  refine bd_sub (lv' := [(0, .int l0), (1, .int l1)]) ?_ [0, 1] rfl
  refine bd_iload_n C 0 dX9_areFrames_0 rfl rfl ?_
  refine bd_iconst C (v := 0) dX9_areFrames_1 (by decide) ?_
  refine bd_sipush C (v := 999) dX9_areFrames_2 (by decide) ?_
  refine bd_callS (vs := fun (r : Int32) => some (.int r)) (wf := fun _ => w) (st := []) (st1 := fun x1 => Value.int x1 :: []) C [.int l0, .int 0, .int 999] (fun r9 e9 => mX9_in C.flag N e9) mwX9_in miX9_in wd_1399 rfl rfl (Nat.le_of_ble_eq_true rfl) dX9_areFrames_5 ⟨rfl, rfl, Nat.le_of_ble_eq_true rfl, Nat.le_of_ble_eq_true rfl, Nat.le_of_ble_eq_true rfl, Nat.le_of_ble_eq_true rfl⟩ (fun _ => rfl) (fun x1 ex1 => ?_)
  refine bd_if_eq C 31 dX9_areFrames_8 (by decide) (fun c2 => ?_) (fun c2 => ?_)
  · refine bd_iconst C (v := 0) dX9_areFrames_31 (by decide) ?_
    exact bd_zret C hret rfl _ _ rfl rfl rfl dX9_areFrames_32 (Nat.le_refl _) (Nat.le_refl _)
  · refine bd_iload_n C 1 dX9_areFrames_11 rfl rfl ?_
    refine bd_iconst C (v := 1) dX9_areFrames_12 (by decide) ?_
    refine bd_sipush C (v := 1000) dX9_areFrames_13 (by decide) ?_
    refine bd_callS (vs := fun (r : Int32) => some (.int r)) (wf := fun _ => w) (st := []) (st1 := fun x3 => Value.int x3 :: []) C [.int l1, .int 1, .int 1000] (fun r9 e9 => mX9_in C.flag N e9) mwX9_in miX9_in wd_1399 rfl rfl (Nat.le_of_ble_eq_true rfl) dX9_areFrames_16 ⟨rfl, rfl, Nat.le_of_ble_eq_true rfl, Nat.le_of_ble_eq_true rfl, Nat.le_of_ble_eq_true rfl, Nat.le_of_ble_eq_true rfl⟩ (fun _ => rfl) (fun x3 ex3 => ?_)
    refine bd_if_eq C 31 dX9_areFrames_19 (by decide) (fun c4 => ?_) (fun c4 => ?_)
    · refine bd_iconst C (v := 0) dX9_areFrames_31 (by decide) ?_
      exact bd_zret C hret rfl _ _ rfl rfl rfl dX9_areFrames_32 (Nat.le_refl _) (Nat.le_refl _)
    · refine bd_iload_n C 1 dX9_areFrames_22 rfl rfl ?_
      refine bd_iload_n C 0 dX9_areFrames_23 rfl rfl ?_
      refine bd_icmp_le C 31 dX9_areFrames_24 (by decide) (fun c5 => ?_) (fun c5 => ?_)
      · refine bd_iconst C (v := 0) dX9_areFrames_31 (by decide) ?_
        exact bd_zret C hret rfl _ _ rfl rfl rfl dX9_areFrames_32 (Nat.le_refl _) (Nat.le_refl _)
      · refine bd_iconst C (v := 1) dX9_areFrames_27 (by decide) ?_
        refine bd_goto C 32 dX9_areFrames_28 (by decide) ?_
        exact bd_zret C hret rfl _ _ rfl rfl rfl dX9_areFrames_32 (Nat.le_refl _) (Nat.le_refl _)
abbrev rmX9_areRefused : Room := { frames := 16, cells := 0, slots := 0, locals := 438 }
abbrev qX9_areRefused (G : Gy) (F : Fr) (g : Bd) : (Int32 × Wd) → State → Prop := fun r => QM G F g 0 0 ((fun (r : Int32 × Wd) => some (.int r.1)) r) ((fun (r : Int32 × Wd) => r.2) r)
set_option maxRecDepth 20000 in
set_option maxHeartbeats 4000000 in
theorem mX9_areRefused {l : Launch} (hf9 : l.stackTraces = false) {G : Gy} {F : Fr} (N : Nat) {w : Wd} {l0 : Nat} {l1 : Int32} {l2 : Int32} {l3 : Int32} {l4 : Int32} {r : Int32 × Wd} (ol0 : okF F l0 9) (e9 : fX9_areRefused F N w l0 l1 l2 l3 l4 = some r) : Met l yX9_areRefused [.code yX9_areRefused cX9_areRefused 6 (some .boolean)] rmX9_areRefused (PcB G F w [.ref l0, .int l1, .int l2, .int l3, .int l4]) (QB G F ((fun (r : Int32 × Wd) => some (.int r.1)) r) ((fun (r : Int32 × Wd) => r.2) r)) 0 0 (AF F) := by
  refine bd_met (vs := fun (r : Int32 × Wd) => some (.int r.1)) (wf := fun (r : Int32 × Wd) => r.2) hf9 (by decide) (Nat.le_of_ble_eq_true rfl) e9 (fun g C hret hini => ?_)
  clear e9 r
  have hb59 : ∀  (w : Wd) (s0 : Nat) (s1 : Int32) (os0 : okF F s0 9), BD g G F 6 (qX9_areRefused G F g) 0 0 (fX9_areRefused_59 F N w s0 s1) w 59 [] [.int s1, .ref s0] := by
    intro w s0 s1 os0
    unfold fX9_areRefused_59
    refine bd_iconst C (v := 0) dX9_areRefused_59 (by decide) ?_
    refine bd_callV (vs := fun (r : Int32 × Wd) => some (.int r.1)) (wf := fun (r : Int32 × Wd) => r.2) (st := []) (st1 := fun p1 => Value.int p1.1 :: []) C [.int s1, .int 0] (fun r9 e9 => mX9_isRefused C.flag N os0 e9) mwX9_isRefused miX9_isRefused wd_1514 os0 (by decide) rfl rfl rfl (Nat.le_of_ble_eq_true rfl) dX9_areRefused_60 ⟨rfl, rfl, Nat.le_of_ble_eq_true rfl, Nat.le_of_ble_eq_true rfl, Nat.le_of_ble_eq_true rfl, Nat.le_of_ble_eq_true rfl⟩ (fun _ => rfl) (fun p1 ep1 => ?_)
    refine bd_ckZ (fun cz2 => ?_)
    exact bd_zret C hret rfl _ _ (nar_z cz2) rfl rfl dX9_areRefused_63 (Nat.le_refl _) (Nat.le_refl _)
  unfold fX9_areRefused
  refine bd_sub (lv' := [(0, .ref l0), (1, .int l1), (2, .int l2), (3, .int l3), (4, .int l4)]) ?_ [0, 1, 2, 3, 4] rfl
  refine bd_iload_n C 3 dX9_areRefused_0 rfl rfl ?_
  refine bd_iload C 4 dX9_areRefused_1 rfl ?_
  refine bd_callS (vs := fun (r : Int32) => some (.int r)) (wf := fun _ => w) (st := []) (st1 := fun x3 => Value.int x3 :: []) C [.int l3, .int l4] (fun r9 e9 => mX9_areFrames C.flag N e9) mwX9_areFrames miX9_areFrames wd_1511 rfl rfl (Nat.le_of_ble_eq_true rfl) dX9_areRefused_3 ⟨rfl, rfl, Nat.le_of_ble_eq_true rfl, Nat.le_of_ble_eq_true rfl, Nat.le_of_ble_eq_true rfl, Nat.le_of_ble_eq_true rfl⟩ (fun _ => rfl) (fun x3 ex3 => ?_)
  refine bd_if_ne C 16 dX9_areRefused_6 (by decide) (fun c4 => ?_) (fun c4 => ?_)
  · refine bd_aload_n C 0 dX9_areRefused_16 rfl rfl ?_
    refine bd_iload_n C 1 dX9_areRefused_17 rfl rfl ?_
    refine bd_iload_n C 2 dX9_areRefused_18 rfl rfl ?_
    refine bd_iload_n C 3 dX9_areRefused_19 rfl rfl ?_
    refine bd_iload C 4 dX9_areRefused_20 rfl ?_
    refine bd_callV (vs := fun (r : Int32) => some (.int r)) (wf := fun _ => w) (st := []) (st1 := fun x5 => Value.int x5 :: []) C [.int l1, .int l2, .int l3, .int l4] (fun r9 e9 => mX9_inTheWay C.flag N ol0 e9) mwX9_inTheWay miX9_inTheWay wd_1518 ol0 (by decide) rfl rfl rfl (Nat.le_of_ble_eq_true rfl) dX9_areRefused_22 ⟨rfl, rfl, Nat.le_of_ble_eq_true rfl, Nat.le_of_ble_eq_true rfl, Nat.le_of_ble_eq_true rfl, Nat.le_of_ble_eq_true rfl⟩ (fun _ => rfl) (fun x5 ex5 => ?_)
    refine bd_istore C [(5, .int x5), (0, .ref l0), (1, .int l1), (2, .int l2), (3, .int l3), (4, .int l4)] dX9_areRefused_25 (by decide) rfl ?_
    refine bd_iload C 0 dX9_areRefused_27 rfl ?_
    refine bd_if_lt C 42 dX9_areRefused_29 (by decide) (fun c6 => ?_) (fun c6 => ?_)
    · refine bd_aload_n C 1 dX9_areRefused_42 rfl rfl ?_
      refine bd_aload_n C 1 dX9_areRefused_43 rfl rfl ?_
      refine bd_iload_n C 2 dX9_areRefused_44 rfl rfl ?_
      refine bd_iload_n C 4 dX9_areRefused_45 rfl rfl ?_
      refine bd_iload C 5 dX9_areRefused_46 rfl ?_
      refine bd_callV (vs := fun (r : Int32) => some (.int r)) (wf := fun _ => w) (st := [.ref l0]) (st1 := fun x7 => Value.int x7 :: [.ref l0]) C [.int l1, .int l3, .int l4] (fun r9 e9 => mX9_lacksHost C.flag N ol0 e9) mwX9_lacksHost miX9_lacksHost wd_1530 ol0 (by decide) rfl rfl rfl (Nat.le_of_ble_eq_true rfl) dX9_areRefused_48 ⟨rfl, rfl, Nat.le_of_ble_eq_true rfl, Nat.le_of_ble_eq_true rfl, Nat.le_of_ble_eq_true rfl, Nat.le_of_ble_eq_true rfl⟩ (fun _ => rfl) (fun x7 ex7 => ?_)
      refine bd_if_eq C 58 dX9_areRefused_51 (by decide) (fun c8 => ?_) (fun c8 => ?_)
      · refine bd_iconst C (v := 0) dX9_areRefused_58 (by decide) ?_
        exact bd_sub (hb59 w l0 0 ol0) [] rfl
      · refine bd_iconst C (v := 3) dX9_areRefused_54 (by decide) ?_
        refine bd_goto C 59 dX9_areRefused_55 (by decide) ?_
        exact bd_sub (hb59 w l0 3 ol0) [] rfl
    · refine bd_aload_n C 1 dX9_areRefused_32 rfl rfl ?_
      refine bd_iconst C (v := 2) dX9_areRefused_33 (by decide) ?_
      refine bd_iload C 0 dX9_areRefused_34 rfl ?_
      refine bd_callV (vs := fun (r : Int32 × Wd) => some (.int r.1)) (wf := fun (r : Int32 × Wd) => r.2) (st := []) (st1 := fun p9 => Value.int p9.1 :: []) C [.int 2, .int x5] (fun r9 e9 => mX9_isRefused C.flag N ol0 e9) mwX9_isRefused miX9_isRefused wd_1514 ol0 (by decide) rfl rfl rfl (Nat.le_of_ble_eq_true rfl) dX9_areRefused_36 ⟨rfl, rfl, Nat.le_of_ble_eq_true rfl, Nat.le_of_ble_eq_true rfl, Nat.le_of_ble_eq_true rfl, Nat.le_of_ble_eq_true rfl⟩ (fun _ => rfl) (fun p9 ep9 => ?_)
      refine bd_goto C 63 dX9_areRefused_39 (by decide) ?_
      refine bd_ckZ (fun cz10 => ?_)
      exact bd_zret C hret rfl _ _ (nar_z cz10) rfl rfl dX9_areRefused_63 (Nat.le_refl _) (Nat.le_refl _)
  · refine bd_aload_n C 0 dX9_areRefused_9 rfl rfl ?_
    refine bd_iconst C (v := 1) dX9_areRefused_10 (by decide) ?_
    refine bd_iconst C (v := 0) dX9_areRefused_11 (by decide) ?_
    refine bd_callV (vs := fun (r : Int32 × Wd) => some (.int r.1)) (wf := fun (r : Int32 × Wd) => r.2) (st := []) (st1 := fun p11 => Value.int p11.1 :: []) C [.int 1, .int 0] (fun r9 e9 => mX9_isRefused C.flag N ol0 e9) mwX9_isRefused miX9_isRefused wd_1514 ol0 (by decide) rfl rfl rfl (Nat.le_of_ble_eq_true rfl) dX9_areRefused_12 ⟨rfl, rfl, Nat.le_of_ble_eq_true rfl, Nat.le_of_ble_eq_true rfl, Nat.le_of_ble_eq_true rfl, Nat.le_of_ble_eq_true rfl⟩ (fun _ => rfl) (fun p11 ep11 => ?_)
    refine bd_ckZ (fun cz12 => ?_)
    exact bd_zret C hret rfl _ _ (nar_z cz12) rfl rfl dX9_areRefused_15 (Nat.le_refl _) (Nat.le_refl _)
abbrev rmX9_add : Room := { frames := 17, cells := 0, slots := 0, locals := 463 }
abbrev qX9_add (G : Gy) (F : Fr) (g : Bd) : (Int32 × Wd) → State → Prop := fun r => QM G F g 0 0 ((fun (r : Int32 × Wd) => some (.int r.1)) r) ((fun (r : Int32 × Wd) => r.2) r)
set_option maxRecDepth 20000 in
set_option maxHeartbeats 4000000 in
theorem mX9_add {l : Launch} (hf9 : l.stackTraces = false) {G : Gy} {F : Fr} (N : Nat) {w : Wd} {l0 : Nat} {l1 : Int32} {l2 : Int32} {l3 : Int32} {l4 : Int64} {r : Int32 × Wd} (ol0 : okF F l0 9) (e9 : fX9_add F N w l0 l1 l2 l3 l4 = some r) : Met l yX9_add [.code yX9_add cX9_add 6 (some .int)] rmX9_add (PcB G F w [.ref l0, .int l1, .int l2, .int l3, .long l4]) (QB G F ((fun (r : Int32 × Wd) => some (.int r.1)) r) ((fun (r : Int32 × Wd) => r.2) r)) 0 0 (AF F) := by
  refine bd_met (vs := fun (r : Int32 × Wd) => some (.int r.1)) (wf := fun (r : Int32 × Wd) => r.2) hf9 (by decide) (Nat.le_of_ble_eq_true rfl) e9 (fun g C hret hini => ?_)
  clear e9 r
  have hb27 : ∀  (w : Wd) (l0 : Nat) (l1 : Int32) (l2 : Int32) (l3 : Int32) (l4 : Int64) (s0 : Nat) (s1 : Int32) (ol0 : okF F l0 9) (os0 : okF F s0 9), BD g G F 6 (qX9_add G F g) 0 0 (fX9_add_27 F N w l0 l1 l2 l3 l4 s0 s1) w 27 [(0, .ref l0), (1, .int l1), (2, .int l2), (3, .int l3), (4, .long l4)] [.int s1, .ref s0] := by
    intro w l0 l1 l2 l3 l4 s0 s1 ol0 os0
    unfold fX9_add_27
    refine bd_iconst C (v := 0) dX9_add_27 (by decide) ?_
    refine bd_callV (vs := fun (r : Int32 × Wd) => some (.int r.1)) (wf := fun (r : Int32 × Wd) => r.2) (st := []) (st1 := fun p1 => Value.int p1.1 :: []) C [.int s1, .int 0] (fun r9 e9 => mX9_isRefused C.flag N os0 e9) mwX9_isRefused miX9_isRefused wd_1514 os0 (by decide) rfl rfl rfl (Nat.le_of_ble_eq_true rfl) dX9_add_28 ⟨rfl, rfl, Nat.le_of_ble_eq_true rfl, Nat.le_of_ble_eq_true rfl, Nat.le_of_ble_eq_true rfl, Nat.le_of_ble_eq_true rfl⟩ (fun _ => rfl) (fun p1 ep1 => ?_)
    refine bd_if_eq C 36 dX9_add_31 (by decide) (fun c2 => ?_) (fun c2 => ?_)
    · refine bd_aload_n C 0 dX9_add_36 rfl rfl ?_
      refine bd_iload_n C 1 dX9_add_37 rfl rfl ?_
      refine bd_iload_n C 2 dX9_add_38 rfl rfl ?_
      refine bd_iload_n C 3 dX9_add_39 rfl rfl ?_
      refine bd_lload C 4 dX9_add_40 rfl ?_
      refine bd_callV (vs := fun (r : Int32 × Wd) => some (.int r.1)) (wf := fun (r : Int32 × Wd) => r.2) (st := []) (st1 := fun p3 => Value.int p3.1 :: []) C [.int l1, .int l2, .int l3, .long l4] (fun r9 e9 => mX9_putIn C.flag N ol0 e9) mwX9_putIn miX9_putIn wd_1542 ol0 (by decide) rfl rfl rfl (Nat.le_of_ble_eq_true rfl) dX9_add_42 ⟨rfl, rfl, Nat.le_of_ble_eq_true rfl, Nat.le_of_ble_eq_true rfl, Nat.le_of_ble_eq_true rfl, Nat.le_of_ble_eq_true rfl⟩ (fun _ => rfl) (fun p3 ep3 => ?_)
      exact bd_iret C hret rfl _ _ rfl rfl dX9_add_45 (Nat.le_refl _) (Nat.le_refl _)
    · refine bd_iconst C (v := (-1)) dX9_add_34 (by decide) ?_
      exact bd_iret C hret rfl _ _ rfl rfl dX9_add_35 (Nat.le_refl _) (Nat.le_refl _)
  unfold fX9_add
  refine bd_sub (lv' := [(0, .ref l0), (1, .int l1), (2, .int l2), (3, .int l3), (4, .long l4)]) ?_ [0, 1, 2, 3, 4] rfl
  refine bd_aload_n C 0 dX9_add_0 rfl rfl ?_
  refine bd_iload_n C 1 dX9_add_1 rfl rfl ?_
  refine bd_iconst C (v := (-1)) dX9_add_2 (by decide) ?_
  refine bd_iload_n C 2 dX9_add_3 rfl rfl ?_
  refine bd_iload_n C 3 dX9_add_4 rfl rfl ?_
  refine bd_callV (vs := fun (r : Int32 × Wd) => some (.int r.1)) (wf := fun (r : Int32 × Wd) => r.2) (st := []) (st1 := fun p4 => Value.int p4.1 :: []) C [.int l1, .int (-1), .int l2, .int l3] (fun r9 e9 => mX9_areRefused C.flag N ol0 e9) mwX9_areRefused miX9_areRefused wd_1507 ol0 (by decide) rfl rfl rfl (Nat.le_of_ble_eq_true rfl) dX9_add_5 ⟨rfl, rfl, Nat.le_of_ble_eq_true rfl, Nat.le_of_ble_eq_true rfl, Nat.le_of_ble_eq_true rfl, Nat.le_of_ble_eq_true rfl⟩ (fun _ => rfl) (fun p4 ep4 => ?_)
  refine bd_if_ne C 34 dX9_add_8 (by decide) (fun c5 => ?_) (fun c5 => ?_)
  · refine bd_iconst C (v := (-1)) dX9_add_34 (by decide) ?_
    exact bd_iret C hret rfl _ _ rfl rfl dX9_add_35 (Nat.le_refl _) (Nat.le_refl _)
  · refine bd_aload_n C 0 dX9_add_11 rfl rfl ?_
    refine bd_aload_n C 0 dX9_add_12 rfl rfl ?_
    refine bd_iload_n C 1 dX9_add_13 rfl rfl ?_
    refine bd_callV (vs := fun (r : Int32) => some (.int r)) (wf := fun _ => p4.2) (st := [.ref l0]) (st1 := fun x6 => Value.int x6 :: [.ref l0]) C [.int l1] (fun r9 e9 => mX9_many C.flag N ol0 e9) mwX9_many miX9_many wd_1436 ol0 (by decide) rfl rfl rfl (Nat.le_of_ble_eq_true rfl) dX9_add_14 ⟨rfl, rfl, Nat.le_of_ble_eq_true rfl, Nat.le_of_ble_eq_true rfl, Nat.le_of_ble_eq_true rfl, Nat.le_of_ble_eq_true rfl⟩ (fun _ => rfl) (fun x6 ex6 => ?_)
    refine bd_bipush C (v := 30) dX9_add_17 (by decide) ?_
    refine bd_icmp_ne C 26 dX9_add_19 (by decide) (fun c7 => ?_) (fun c7 => ?_)
    · refine bd_iconst C (v := 0) dX9_add_26 (by decide) ?_
      exact bd_sub (hb27 p4.2 l0 l1 l2 l3 l4 l0 0 ol0 ol0) [0, 1, 2, 3, 4] rfl
    · refine bd_iconst C (v := 5) dX9_add_22 (by decide) ?_
      refine bd_goto C 27 dX9_add_23 (by decide) ?_
      exact bd_sub (hb27 p4.2 l0 l1 l2 l3 l4 l0 5 ol0 ol0) [0, 1, 2, 3, 4] rfl
abbrev rmX9_addSpan : Room := { frames := 18, cells := 0, slots := 0, locals := 488 }
abbrev qX9_addSpan (G : Gy) (F : Fr) (g : Bd) : (Int32 × Wd) → State → Prop := fun r => QM G F g 0 0 ((fun (r : Int32 × Wd) => some (.int r.1)) r) ((fun (r : Int32 × Wd) => r.2) r)
set_option maxRecDepth 20000 in
set_option maxHeartbeats 4000000 in
theorem mX9_addSpan {l : Launch} (hf9 : l.stackTraces = false) {G : Gy} {F : Fr} (N : Nat) {w : Wd} {l0 : Nat} {l1 : Int32} {l2 : Int32} {l3 : Int32} {r : Int32 × Wd} (ol0 : okF F l0 9) (e9 : fX9_addSpan F N w l0 l1 l2 l3 = some r) : Met l yX9_addSpan [.code yX9_addSpan cX9_addSpan 7 (some .int)] rmX9_addSpan (PcB G F w [.ref l0, .int l1, .int l2, .int l3]) (QB G F ((fun (r : Int32 × Wd) => some (.int r.1)) r) ((fun (r : Int32 × Wd) => r.2) r)) 0 0 (AF F) := by
  refine bd_met (vs := fun (r : Int32 × Wd) => some (.int r.1)) (wf := fun (r : Int32 × Wd) => r.2) hf9 (by decide) (Nat.le_of_ble_eq_true rfl) e9 (fun g C hret hini => ?_)
  clear e9 r
  have hb14 : ∀  (w : Wd) (l0 : Nat) (l1 : Int32) (l2 : Int32) (l3 : Int32) (s0 : Nat) (s1 : Int32) (ol0 : okF F l0 9) (os0 : okF F s0 9), BD g G F 7 (qX9_addSpan G F g) 0 0 (fX9_addSpan_14 F N w l0 l1 l2 l3 s0 s1) w 14 [(0, .ref l0), (1, .int l1), (2, .int l2), (3, .int l3)] [.int s1, .ref s0] := by
    intro w l0 l1 l2 l3 s0 s1 ol0 os0
    unfold fX9_addSpan_14
    refine bd_pI C fi906 ftX9 fu906 wd_1247 rfl rfl rfl dX9_addSpan_14 os0 (fun w1 => ?_)
    refine bd_aload_n C 0 dX9_addSpan_17 rfl rfl ?_
    refine bd_gI C fi906 fv906 wd_1247 dX9_addSpan_18 ol0 ?_
    refine bd_if_le C 26 dX9_addSpan_21 (by decide) (fun c2 => ?_) (fun c2 => ?_)
    · refine bd_aload_n C 0 dX9_addSpan_26 rfl rfl ?_
      refine bd_callV (vs := fun _ => none) (wf := fun (r : Wd) => r) (st := []) (st1 := fun p3 => []) C [] (fun r9 e9 => mX9_beginText C.flag N ol0 e9) mwX9_beginText miX9_beginText wd_1479 ol0 (by decide) rfl rfl rfl (Nat.le_of_ble_eq_true rfl) dX9_addSpan_27 ⟨rfl, rfl, Nat.le_of_ble_eq_true rfl, Nat.le_of_ble_eq_true rfl, Nat.le_of_ble_eq_true rfl, Nat.le_of_ble_eq_true rfl⟩ (fun _ => rfl) (fun p3 ep3 => ?_)
      refine bd_aload_n C 0 dX9_addSpan_30 rfl rfl ?_
      refine bd_aload_n C 0 dX9_addSpan_31 rfl rfl ?_
      refine bd_iload_n C 1 dX9_addSpan_32 rfl rfl ?_
      refine bd_callV (vs := fun (r : Int32) => some (.int r)) (wf := fun _ => p3) (st := [.ref l0]) (st1 := fun x4 => Value.int x4 :: [.ref l0]) C [.int l1] (fun r9 e9 => mX9_kind C.flag N ol0 e9) mwX9_kind miX9_kind wd_1483 ol0 (by decide) rfl rfl rfl (Nat.le_of_ble_eq_true rfl) dX9_addSpan_33 ⟨rfl, rfl, Nat.le_of_ble_eq_true rfl, Nat.le_of_ble_eq_true rfl, Nat.le_of_ble_eq_true rfl, Nat.le_of_ble_eq_true rfl⟩ (fun _ => rfl) (fun x4 ex4 => ?_)
      refine bd_callV (vs := fun (r : Int64 × Wd) => some (.long r.1)) (wf := fun (r : Int64 × Wd) => r.2) (st := []) (st1 := fun p5 => Value.long p5.1 :: []) C [.int x4] (fun r9 e9 => mX9_readLabel C.flag N ol0 e9) mwX9_readLabel miX9_readLabel wd_1487 ol0 (by decide) rfl rfl rfl (Nat.le_of_ble_eq_true rfl) dX9_addSpan_36 ⟨rfl, rfl, Nat.le_of_ble_eq_true rfl, Nat.le_of_ble_eq_true rfl, Nat.le_of_ble_eq_true rfl, Nat.le_of_ble_eq_true rfl⟩ (fun _ => rfl) (fun p5 ep5 => ?_)
      refine bd_lstore C [(4, .long p5.1), (0, .ref l0), (1, .int l1), (2, .int l2), (3, .int l3)] dX9_addSpan_39 (by decide) rfl ?_
      refine bd_aload_n C 1 dX9_addSpan_41 rfl rfl ?_
      refine bd_callV (vs := fun (r : Int32 × Wd) => some (.int r.1)) (wf := fun (r : Int32 × Wd) => r.2) (st := []) (st1 := fun p6 => Value.int p6.1 :: []) C [] (fun r9 e9 => mX9_endText C.flag N ol0 e9) mwX9_endText miX9_endText wd_1499 ol0 (by decide) rfl rfl rfl (Nat.le_of_ble_eq_true rfl) dX9_addSpan_42 ⟨rfl, rfl, Nat.le_of_ble_eq_true rfl, Nat.le_of_ble_eq_true rfl, Nat.le_of_ble_eq_true rfl, Nat.le_of_ble_eq_true rfl⟩ (fun _ => rfl) (fun p6 ep6 => ?_)
      refine bd_if_eq C 55 dX9_addSpan_45 (by decide) (fun c7 => ?_) (fun c7 => ?_)
      · refine bd_aload_n C 1 dX9_addSpan_55 rfl rfl ?_
        refine bd_callV (vs := fun _ => none) (wf := fun (r : Wd) => r) (st := []) (st1 := fun p8 => []) C [] (fun r9 e9 => mX9_keepState C.flag N ol0 e9) mwX9_keepState miX9_keepState wd_1410 ol0 (by decide) rfl rfl rfl (Nat.le_of_ble_eq_true rfl) dX9_addSpan_56 ⟨rfl, rfl, Nat.le_of_ble_eq_true rfl, Nat.le_of_ble_eq_true rfl, Nat.le_of_ble_eq_true rfl, Nat.le_of_ble_eq_true rfl⟩ (fun _ => rfl) (fun p8 ep8 => ?_)
        refine bd_aload_n C 1 dX9_addSpan_59 rfl rfl ?_
        refine bd_iload_n C 2 dX9_addSpan_60 rfl rfl ?_
        refine bd_iload_n C 3 dX9_addSpan_61 rfl rfl ?_
        refine bd_iload_n C 4 dX9_addSpan_62 rfl rfl ?_
        refine bd_lload C 0 dX9_addSpan_63 rfl ?_
        refine bd_callV (vs := fun (r : Int32 × Wd) => some (.int r.1)) (wf := fun (r : Int32 × Wd) => r.2) (st := []) (st1 := fun p9 => Value.int p9.1 :: []) C [.int l1, .int l2, .int l3, .long p5.1] (fun r9 e9 => mX9_add C.flag N ol0 e9) mwX9_add miX9_add wd_1503 ol0 (by decide) rfl rfl rfl (Nat.le_of_ble_eq_true rfl) dX9_addSpan_65 ⟨rfl, rfl, Nat.le_of_ble_eq_true rfl, Nat.le_of_ble_eq_true rfl, Nat.le_of_ble_eq_true rfl, Nat.le_of_ble_eq_true rfl⟩ (fun _ => rfl) (fun p9 ep9 => ?_)
        refine bd_istore C [(6, .int p9.1), (4, .long p5.1), (0, .ref l0), (1, .int l1), (2, .int l2), (3, .int l3)] dX9_addSpan_68 (by decide) rfl ?_
        refine bd_iload C 0 dX9_addSpan_70 rfl ?_
        refine bd_if_ge C 82 dX9_addSpan_72 (by decide) (fun c10 => ?_) (fun c10 => ?_)
        · refine bd_aload_n C 2 dX9_addSpan_82 rfl rfl ?_
          refine bd_callV (vs := fun _ => none) (wf := fun (r : Wd) => r) (st := []) (st1 := fun p11 => []) C [] (fun r9 e9 => mX9_change C.flag N ol0 e9) mwX9_change miX9_change wd_1415 ol0 (by decide) rfl rfl rfl (Nat.le_of_ble_eq_true rfl) dX9_addSpan_83 ⟨rfl, rfl, Nat.le_of_ble_eq_true rfl, Nat.le_of_ble_eq_true rfl, Nat.le_of_ble_eq_true rfl, Nat.le_of_ble_eq_true rfl⟩ (fun _ => rfl) (fun p11 ep11 => ?_)
          refine bd_iload C 0 dX9_addSpan_86 rfl ?_
          exact bd_iret C hret rfl _ _ rfl rfl dX9_addSpan_88 (Nat.le_refl _) (Nat.le_refl _)
        · refine bd_aload_n C 2 dX9_addSpan_75 rfl rfl ?_
          refine bd_iconst C (v := 3) dX9_addSpan_76 (by decide) ?_
          refine bd_pI C fi906 ftX9 fu906 wd_1247 rfl rfl rfl dX9_addSpan_77 ol0 (fun w12 => ?_)
          refine bd_iconst C (v := 0) dX9_addSpan_80 (by decide) ?_
          exact bd_iret C hret rfl _ _ rfl rfl dX9_addSpan_81 (Nat.le_refl _) (Nat.le_refl _)
      · refine bd_aload_n C 1 dX9_addSpan_48 rfl rfl ?_
        refine bd_iconst C (v := 2) dX9_addSpan_49 (by decide) ?_
        refine bd_pI C fi906 ftX9 fu906 wd_1247 rfl rfl rfl dX9_addSpan_50 ol0 (fun w13 => ?_)
        refine bd_iconst C (v := 0) dX9_addSpan_53 (by decide) ?_
        exact bd_iret C hret rfl _ _ rfl rfl dX9_addSpan_54 (Nat.le_refl _) (Nat.le_refl _)
    · refine bd_iconst C (v := 0) dX9_addSpan_24 (by decide) ?_
      exact bd_iret C hret rfl _ _ rfl rfl dX9_addSpan_25 (Nat.le_refl _) (Nat.le_refl _)
  unfold fX9_addSpan
  refine bd_sub (lv' := [(0, .ref l0), (1, .int l1), (2, .int l2), (3, .int l3)]) ?_ [0, 1, 2, 3] rfl
  refine bd_aload_n C 0 dX9_addSpan_0 rfl rfl ?_
  refine bd_aload_n C 0 dX9_addSpan_1 rfl rfl ?_
  refine bd_iload_n C 1 dX9_addSpan_2 rfl rfl ?_
  refine bd_callV (vs := fun (r : Int32) => some (.int r)) (wf := fun _ => w) (st := [.ref l0]) (st1 := fun x14 => Value.int x14 :: [.ref l0]) C [.int l1] (fun r9 e9 => mX9_isTier C.flag N ol0 e9) mwX9_isTier miX9_isTier wd_1402 ol0 (by decide) rfl rfl rfl (Nat.le_of_ble_eq_true rfl) dX9_addSpan_3 ⟨rfl, rfl, Nat.le_of_ble_eq_true rfl, Nat.le_of_ble_eq_true rfl, Nat.le_of_ble_eq_true rfl, Nat.le_of_ble_eq_true rfl⟩ (fun _ => rfl) (fun x14 ex14 => ?_)
  refine bd_if_eq C 13 dX9_addSpan_6 (by decide) (fun c15 => ?_) (fun c15 => ?_)
  · refine bd_iconst C (v := 1) dX9_addSpan_13 (by decide) ?_
    exact bd_sub (hb14 w l0 l1 l2 l3 l0 1 ol0 ol0) [0, 1, 2, 3] rfl
  · refine bd_iconst C (v := 0) dX9_addSpan_9 (by decide) ?_
    refine bd_goto C 14 dX9_addSpan_10 (by decide) ?_
    exact bd_sub (hb14 w l0 l1 l2 l3 l0 0 ol0 ol0) [0, 1, 2, 3] rfl
abbrev rmX9_removeSpan : Room := { frames := 17, cells := 0, slots := 0, locals := 460 }
abbrev qX9_removeSpan (G : Gy) (F : Fr) (g : Bd) : (Int32 × Wd) → State → Prop := fun r => QM G F g 0 0 ((fun (r : Int32 × Wd) => some (.int r.1)) r) ((fun (r : Int32 × Wd) => r.2) r)
set_option maxRecDepth 20000 in
set_option maxHeartbeats 4000000 in
theorem mX9_removeSpan {l : Launch} (hf9 : l.stackTraces = false) {G : Gy} {F : Fr} (N : Nat) {w : Wd} {l0 : Nat} {l1 : Int32} {l2 : Int32} {r : Int32 × Wd} (ol0 : okF F l0 9) (e9 : fX9_removeSpan F N w l0 l1 l2 = some r) : Met l yX9_removeSpan [.code yX9_removeSpan cX9_removeSpan 6 (some .int)] rmX9_removeSpan (PcB G F w [.ref l0, .int l1, .int l2]) (QB G F ((fun (r : Int32 × Wd) => some (.int r.1)) r) ((fun (r : Int32 × Wd) => r.2) r)) 0 0 (AF F) := by
  refine bd_met (vs := fun (r : Int32 × Wd) => some (.int r.1)) (wf := fun (r : Int32 × Wd) => r.2) hf9 (by decide) (Nat.le_of_ble_eq_true rfl) e9 (fun g C hret hini => ?_)
  clear e9 r
  have hb59 : ∀ (k42 : Wd → Nat → Int32 → Int32 → Option (Int32 × Wd)), (∀ (w : Wd) (l0 : Nat) (l3 : Int32) (l4 : Int32) (ol0 : okF F l0 9), BD g G F 6 (qX9_removeSpan G F g) 0 0 (k42 w l0 l3 l4) w 42 [(0, .ref l0), (3, .int l3), (4, .int l4)] []) → ∀ (n : Nat) (w : Wd) (l0 : Nat) (l3 : Int32) (l4 : Int32) (l5 : Int32) (ol0 : okF F l0 9), BD g G F 6 (qX9_removeSpan G F g) 0 0 (fX9_removeSpan_59 F N k42 n w l0 l3 l4 l5) w 59 [(0, .ref l0), (3, .int l3), (4, .int l4), (5, .int l5)] [] := by
    intro k42 hk42
    intro n
    induction n with
    | zero =>
      intro w l0 l3 l4 l5 ol0
      unfold fX9_removeSpan_59
      exact bd_none
    | succ n ih =>
      intro w l0 l3 l4 l5 ol0
      unfold fX9_removeSpan_59
      refine bd_iload C 3 dX9_removeSpan_59 rfl ?_
      refine bd_if_lt C 86 dX9_removeSpan_61 (by decide) (fun c8 => ?_) (fun c8 => ?_)
      · refine bd_iinc C (v := l4 + 1) 2 [(4, .int (l4 + 1)), (0, .ref l0), (3, .int l3), (5, .int l5)] dX9_removeSpan_86 rfl rfl (by decide) rfl ?_
        refine bd_goto C 42 dX9_removeSpan_89 (by decide) ?_
        exact bd_sub (hk42 w l0 l3 (l4 + 1) ol0) [1, 2, 0] rfl
      · refine bd_aload_n C 0 dX9_removeSpan_64 rfl rfl ?_
        refine bd_iload C 2 dX9_removeSpan_65 rfl ?_
        refine bd_iload C 3 dX9_removeSpan_67 rfl ?_
        refine bd_callV (vs := fun _ => none) (wf := fun (r : Wd) => r) (st := []) (st1 := fun p9 => []) C [.int l4, .int l5] (fun r9 e9 => mX9_takeOut C.flag N ol0 e9) mwX9_takeOut miX9_takeOut wd_1554 ol0 (by decide) rfl rfl rfl (Nat.le_of_ble_eq_true rfl) dX9_removeSpan_69 ⟨rfl, rfl, Nat.le_of_ble_eq_true rfl, Nat.le_of_ble_eq_true rfl, Nat.le_of_ble_eq_true rfl, Nat.le_of_ble_eq_true rfl⟩ (fun _ => rfl) (fun p9 ep9 => ?_)
        refine bd_iinc C (v := l3 + 1) 1 [(3, .int (l3 + 1)), (0, .ref l0), (4, .int l4), (5, .int l5)] dX9_removeSpan_72 rfl rfl (by decide) rfl ?_
        refine bd_aload_n C 1 dX9_removeSpan_75 rfl rfl ?_
        refine bd_iload C 2 dX9_removeSpan_76 rfl ?_
        refine bd_callV (vs := fun (r : Int32) => some (.int r)) (wf := fun _ => p9) (st := []) (st1 := fun x10 => Value.int x10 :: []) C [.int l4] (fun r9 e9 => mX9_hostless C.flag N ol0 e9) mwX9_hostless miX9_hostless wd_1558 ol0 (by decide) rfl rfl rfl (Nat.le_of_ble_eq_true rfl) dX9_removeSpan_78 ⟨rfl, rfl, Nat.le_of_ble_eq_true rfl, Nat.le_of_ble_eq_true rfl, Nat.le_of_ble_eq_true rfl, Nat.le_of_ble_eq_true rfl⟩ (fun _ => rfl) (fun x10 ex10 => ?_)
        refine bd_istore C [(5, .int x10), (3, .int (l3 + 1)), (0, .ref l0), (4, .int l4)] dX9_removeSpan_81 (by decide) rfl ?_
        refine bd_goto C 59 dX9_removeSpan_83 (by decide) ?_
        exact bd_sub (ih p9 l0 (l3 + 1) l4 x10 ol0) [2, 1, 3, 0] rfl
  have hb42 : ∀ (n : Nat) (w : Wd) (l0 : Nat) (l3 : Int32) (l4 : Int32) (ol0 : okF F l0 9), BD g G F 6 (qX9_removeSpan G F g) 0 0 (fX9_removeSpan_42 F N n w l0 l3 l4) w 42 [(0, .ref l0), (3, .int l3), (4, .int l4)] [] := by
    intro n
    induction n with
    | zero =>
      intro w l0 l3 l4 ol0
      unfold fX9_removeSpan_42
      exact bd_none
    | succ n ih =>
      intro w l0 l3 l4 ol0
      unfold fX9_removeSpan_42
      refine bd_iload C 2 dX9_removeSpan_42 rfl ?_
      refine bd_aload_n C 0 dX9_removeSpan_44 rfl rfl ?_
      refine bd_callV (vs := fun (r : Int32) => some (.int r)) (wf := fun _ => w) (st := [.int l4]) (st1 := fun x5 => Value.int x5 :: [.int l4]) C [] (fun r9 e9 => mX9_tiers C.flag N ol0 e9) mwX9_tiers miX9_tiers wd_1391 ol0 (by decide) rfl rfl rfl (Nat.le_of_ble_eq_true rfl) dX9_removeSpan_45 ⟨rfl, rfl, Nat.le_of_ble_eq_true rfl, Nat.le_of_ble_eq_true rfl, Nat.le_of_ble_eq_true rfl, Nat.le_of_ble_eq_true rfl⟩ (fun _ => rfl) (fun x5 ex5 => ?_)
      refine bd_icmp_ge C 92 dX9_removeSpan_48 (by decide) (fun c6 => ?_) (fun c6 => ?_)
      · refine bd_iload_n C 1 dX9_removeSpan_92 rfl rfl ?_
        exact bd_iret C hret rfl _ _ rfl rfl dX9_removeSpan_93 (Nat.le_refl _) (Nat.le_refl _)
      · refine bd_aload_n C 0 dX9_removeSpan_51 rfl rfl ?_
        refine bd_iload C 2 dX9_removeSpan_52 rfl ?_
        refine bd_callV (vs := fun (r : Int32) => some (.int r)) (wf := fun _ => w) (st := []) (st1 := fun x7 => Value.int x7 :: []) C [.int l4] (fun r9 e9 => mX9_hostless C.flag N ol0 e9) mwX9_hostless miX9_hostless wd_1558 ol0 (by decide) rfl rfl rfl (Nat.le_of_ble_eq_true rfl) dX9_removeSpan_54 ⟨rfl, rfl, Nat.le_of_ble_eq_true rfl, Nat.le_of_ble_eq_true rfl, Nat.le_of_ble_eq_true rfl, Nat.le_of_ble_eq_true rfl⟩ (fun _ => rfl) (fun x7 ex7 => ?_)
        refine bd_istore C [(5, .int x7), (0, .ref l0), (3, .int l3), (4, .int l4)] dX9_removeSpan_57 (by decide) rfl ?_
        exact bd_sub (hb59 _ ih N w l0 l3 l4 x7 ol0) [1, 2, 3, 0] rfl
  have hb15 : ∀  (w : Wd) (l0 : Nat) (l1 : Int32) (l2 : Int32) (s0 : Nat) (s1 : Int32) (ol0 : okF F l0 9) (os0 : okF F s0 9), BD g G F 6 (qX9_removeSpan G F g) 0 0 (fX9_removeSpan_15 F N w l0 l1 l2 s0 s1) w 15 [(0, .ref l0), (1, .int l1), (2, .int l2)] [.int s1, .ref s0] := by
    intro w l0 l1 l2 s0 s1 ol0 os0
    unfold fX9_removeSpan_15
    refine bd_pI C fi906 ftX9 fu906 wd_1247 rfl rfl rfl dX9_removeSpan_15 os0 (fun w1 => ?_)
    refine bd_aload_n C 0 dX9_removeSpan_18 rfl rfl ?_
    refine bd_gI C fi906 fv906 wd_1247 dX9_removeSpan_19 ol0 ?_
    refine bd_if_le C 27 dX9_removeSpan_22 (by decide) (fun c2 => ?_) (fun c2 => ?_)
    · refine bd_aload_n C 0 dX9_removeSpan_27 rfl rfl ?_
      refine bd_callV (vs := fun _ => none) (wf := fun (r : Wd) => r) (st := []) (st1 := fun p3 => []) C [] (fun r9 e9 => mX9_changes C.flag N ol0 e9) mwX9_changes miX9_changes wd_1406 ol0 (by decide) rfl rfl rfl (Nat.le_of_ble_eq_true rfl) dX9_removeSpan_28 ⟨rfl, rfl, Nat.le_of_ble_eq_true rfl, Nat.le_of_ble_eq_true rfl, Nat.le_of_ble_eq_true rfl, Nat.le_of_ble_eq_true rfl⟩ (fun _ => rfl) (fun p3 ep3 => ?_)
      refine bd_aload_n C 0 dX9_removeSpan_31 rfl rfl ?_
      refine bd_iload_n C 1 dX9_removeSpan_32 rfl rfl ?_
      refine bd_iload_n C 2 dX9_removeSpan_33 rfl rfl ?_
      refine bd_callV (vs := fun _ => none) (wf := fun (r : Wd) => r) (st := []) (st1 := fun p4 => []) C [.int l1, .int l2] (fun r9 e9 => mX9_takeOut C.flag N ol0 e9) mwX9_takeOut miX9_takeOut wd_1554 ol0 (by decide) rfl rfl rfl (Nat.le_of_ble_eq_true rfl) dX9_removeSpan_34 ⟨rfl, rfl, Nat.le_of_ble_eq_true rfl, Nat.le_of_ble_eq_true rfl, Nat.le_of_ble_eq_true rfl, Nat.le_of_ble_eq_true rfl⟩ (fun _ => rfl) (fun p4 ep4 => ?_)
      refine bd_iconst C (v := 1) dX9_removeSpan_37 (by decide) ?_
      refine bd_istore_n C [(3, .int 1), (0, .ref l0), (1, .int l1), (2, .int l2)] dX9_removeSpan_38 rfl (by decide) rfl ?_
      refine bd_iconst C (v := 0) dX9_removeSpan_39 (by decide) ?_
      refine bd_istore C [(4, .int 0), (3, .int 1), (0, .ref l0), (1, .int l1), (2, .int l2)] dX9_removeSpan_40 (by decide) rfl ?_
      exact bd_sub (hb42 N p4 l0 1 0 ol0) [2, 1, 0] rfl
    · refine bd_iconst C (v := 0) dX9_removeSpan_25 (by decide) ?_
      exact bd_iret C hret rfl _ _ rfl rfl dX9_removeSpan_26 (Nat.le_refl _) (Nat.le_refl _)
  unfold fX9_removeSpan
  refine bd_sub (lv' := [(0, .ref l0), (1, .int l1), (2, .int l2)]) ?_ [0, 1, 2] rfl
  refine bd_aload_n C 0 dX9_removeSpan_0 rfl rfl ?_
  refine bd_aload_n C 0 dX9_removeSpan_1 rfl rfl ?_
  refine bd_iload_n C 1 dX9_removeSpan_2 rfl rfl ?_
  refine bd_iload_n C 2 dX9_removeSpan_3 rfl rfl ?_
  refine bd_callV (vs := fun (r : Int32) => some (.int r)) (wf := fun _ => w) (st := [.ref l0]) (st1 := fun x11 => Value.int x11 :: [.ref l0]) C [.int l1, .int l2] (fun r9 e9 => mX9_isSpan C.flag N ol0 e9) mwX9_isSpan miX9_isSpan wd_1550 ol0 (by decide) rfl rfl rfl (Nat.le_of_ble_eq_true rfl) dX9_removeSpan_4 ⟨rfl, rfl, Nat.le_of_ble_eq_true rfl, Nat.le_of_ble_eq_true rfl, Nat.le_of_ble_eq_true rfl, Nat.le_of_ble_eq_true rfl⟩ (fun _ => rfl) (fun x11 ex11 => ?_)
  refine bd_if_eq C 14 dX9_removeSpan_7 (by decide) (fun c12 => ?_) (fun c12 => ?_)
  · refine bd_iconst C (v := 1) dX9_removeSpan_14 (by decide) ?_
    exact bd_sub (hb15 w l0 l1 l2 l0 1 ol0 ol0) [0, 1, 2] rfl
  · refine bd_iconst C (v := 0) dX9_removeSpan_10 (by decide) ?_
    refine bd_goto C 15 dX9_removeSpan_11 (by decide) ?_
    exact bd_sub (hb15 w l0 l1 l2 l0 0 ol0 ol0) [0, 1, 2] rfl
