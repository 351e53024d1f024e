abbrev rmX1_init : Room := { frames := 11, cells := 56, slots := 1736, locals := 320 }
abbrev qX1_init (G : Gy) (F : Fr) (h0 : Nat) (g : Bd) : Wd → State → Prop := fun r => QM G (Fto F (h0 + 56)) g 56 1736 none r
set_option maxRecDepth 20000 in
set_option maxHeartbeats 4000000 in
theorem mX1_init {l : Launch} (hf9 : l.stackTraces = false) {G : Gy} {F : Fr} (N : Nat) {w : Wd} {l0 h0 : Nat} {r : Wd} (hcm : F.2.2.2.2 = true) (ol0 : okF (Fto F h0) l0 1) (e9 : fX1_init F N w l0 h0 = some r) : Met l yX1_init [.code yX1_init cX1_init 2 none] rmX1_init (PcB G (Fto F h0) w [.ref l0]) (QB G (Fto F (h0 + 56)) none r) 56 1736 (AF F) := by
  refine bd_metC (F1 := Fto F h0) (F2 := Fto F (h0 + 56)) hf9 (by decide) (Nat.le_of_ble_eq_true rfl) rfl e9 (fun g C hret hini => ?_)
  refine bd_eqc (k' := h0 - h0) (n' := 31 * (h0 - h0)) (by omega) (by rw [Nat.sub_self]) ?_
  clear e9 r
  have hb62 : ∀ (n : Nat) (h : Nat) (w : Wd) (l0 : Nat) (l1 : Int32) (ol0 : okF (Fto F h) l0 1), BD g G (Fto F h) 2 (qX1_init G F h0 g) (h - h0) (31 * (h - h0)) (fX1_init_62 F N h0 n h w l0 l1) w 62 [(0, .ref l0), (1, .int l1)] [] := by
    intro n
    induction n with
    | zero =>
      intro h w l0 l1 ol0
      unfold fX1_init_62
      exact bd_none
    | succ n ih =>
      intro h w l0 l1 ol0
      unfold fX1_init_62
      have C := C.to h
      refine bd_iload_n C 1 dX1_init_62 rfl rfl ?_
      refine bd_aload_n C 0 dX1_init_63 rfl rfl ?_
      refine bd_gR C fi103 fv103 wd_152 dX1_init_64 ol0 (fun r1 gr1 hr1 => ?_)
      refine bd_alen C dX1_init_67 hr1 (by decide) 5 rfl ?_
      refine bd_icmp_ge C 90 dX1_init_68 (by decide) (fun c2 => ?_) (fun c2 => ?_)
      · exact bd_cret (mc := 56) (SB := 31) C hret rfl dX1_init_90 (Nat.le_refl _)
      · refine bd_aload_n C 0 dX1_init_71 rfl rfl ?_
        refine bd_gR C fi103 fv103 wd_152 dX1_init_72 ol0 (fun r3 gr3 hr3 => ?_)
        refine bd_iload_n C 1 dX1_init_75 rfl rfl ?_
        refine bd_newO (mc := 56) (SB := 31) C hcm (kk := 7) rfl (by decide) inX7 ftX7 fzX7 wd_122 wd_124 wd_87 dX1_init_76 ⟨Nat.le_of_ble_eq_true rfl, Nat.le_of_ble_eq_true rfl, Nat.le_of_ble_eq_true rfl⟩ (fun c9 o5 up9 w4 => ?_)
        have C := C.to (h + 1)
        have ol0 := up9 _ _ ol0
        have hr3 := up9 _ _ hr3
        refine bd_dup C dX1_init_79 rfl ?_
        refine bd_callIN (mc := 56) (SB := 31) (mc' := 3) (ms' := 93) C (fun r9 e9 => mX7_init C.flag N hcm o5 e9) mwX7_init miX7_init rfl wd_125 rfl (Nat.le_of_ble_eq_true rfl) dX1_init_80 ⟨Nat.le_of_ble_eq_true rfl, Nat.le_of_ble_eq_true rfl, Nat.le_of_ble_eq_true rfl⟩ ⟨rfl, rfl, Nat.le_of_ble_eq_true rfl, Nat.le_of_ble_eq_true rfl⟩ (fun c9 up9 w6 => ?_)
        have C := C.to (h + 4)
        have ol0 := up9 _ _ ol0
        have hr3 := up9 _ _ hr3
        have o5 := up9 _ _ o5
        refine bd_aast C (ka := 15) (ci := 7) (t0 := 5) (by decide) (by decide) rfl rfl dX1_init_83 hr3 o5 (fun w7 => ?_)
        refine bd_iinc C (v := l1 + 1) 1 [(1, .int (l1 + 1)), (0, .ref l0)] dX1_init_84 rfl rfl (by decide) rfl ?_
        refine bd_goto C 62 dX1_init_87 (by decide) ?_
        exact bd_sub (ih (h + 4) w7 l0 (l1 + 1) ol0) [1, 0] rfl
  unfold fX1_init
  refine bd_sub (lv' := [(0, .ref l0)]) ?_ [0] rfl
  refine bd_aload_n C 0 dX1_init_0 rfl rfl ?_
  refine bd_objInit C wd_121 wd_114 wd_115 dX1_init_1 ⟨Nat.le_of_ble_eq_true rfl, Nat.le_of_ble_eq_true rfl⟩ ?_
  refine bd_aload_n C 0 dX1_init_4 rfl rfl ?_
  refine bd_bipush C (v := 6) dX1_init_5 (by decide) ?_
  refine bd_newA (mc := 56) (SB := 31) C hcm (kk := 11) 1 (atype := .int) (ty := .int) (N := 6) rfl (by decide) rfl wd_147 (by decide) (by decide) (Nat.le_of_ble_eq_true rfl) (fun h => h) rfl dX1_init_7 ⟨Nat.le_of_ble_eq_true rfl, Nat.le_of_ble_eq_true rfl, Nat.le_of_ble_eq_true rfl⟩ (fun c9 o9 up9 w8 => ?_)
  have C := C.to (h0 + 1)
  have ol0 := up9 _ _ ol0
  refine bd_pRF C fi100 ftX1 fu100 wd_149 rfl (hini rfl) rfl rfl rfl dX1_init_9 ol0 (fun w10 => ?_)
  refine bd_aload_n C 0 dX1_init_12 rfl rfl ?_
  refine bd_bipush C (v := 6) dX1_init_13 (by decide) ?_
  refine bd_newA (mc := 56) (SB := 31) C hcm (kk := 11) 1 (atype := .int) (ty := .int) (N := 6) rfl (by decide) rfl wd_147 (by decide) (by decide) (Nat.le_of_ble_eq_true rfl) (fun h => h) rfl dX1_init_15 ⟨Nat.le_of_ble_eq_true rfl, Nat.le_of_ble_eq_true rfl, Nat.le_of_ble_eq_true rfl⟩ (fun c9 o12 up9 w11 => ?_)
  have C := C.to (h0 + 2)
  have ol0 := up9 _ _ ol0
  refine bd_pRF C fi101 ftX1 fu101 wd_150 rfl (hini rfl) rfl rfl rfl dX1_init_17 ol0 (fun w13 => ?_)
  refine bd_aload_n C 0 dX1_init_20 rfl rfl ?_
  refine bd_bipush C (v := 6) dX1_init_21 (by decide) ?_
  refine bd_newA (mc := 56) (SB := 31) C hcm (kk := 11) 1 (atype := .int) (ty := .int) (N := 6) rfl (by decide) rfl wd_147 (by decide) (by decide) (Nat.le_of_ble_eq_true rfl) (fun h => h) rfl dX1_init_23 ⟨Nat.le_of_ble_eq_true rfl, Nat.le_of_ble_eq_true rfl, Nat.le_of_ble_eq_true rfl⟩ (fun c9 o15 up9 w14 => ?_)
  have C := C.to (h0 + 3)
  have ol0 := up9 _ _ ol0
  refine bd_pRF C fi102 ftX1 fu102 wd_151 rfl (hini rfl) rfl rfl rfl dX1_init_25 ol0 (fun w16 => ?_)
  refine bd_aload_n C 0 dX1_init_28 rfl rfl ?_
  refine bd_bipush C (v := 12) dX1_init_29 (by decide) ?_
  refine bd_newR (mc := 56) (SB := 31) C hcm (kk := 15) 5 (N := 12) (by decide) rfl wd_122 C.tw.2.1 (by decide) (by decide) (Nat.le_of_ble_eq_true rfl) rfl dX1_init_31 ⟨Nat.le_of_ble_eq_true rfl, Nat.le_of_ble_eq_true rfl, Nat.le_of_ble_eq_true rfl⟩ (fun c9 o18 up9 w17 => ?_)
  have C := C.to (h0 + 4)
  have ol0 := up9 _ _ ol0
  refine bd_pRF C fi103 ftX1 fu103 wd_152 rfl (hini rfl) rfl rfl rfl dX1_init_34 ol0 (fun w19 => ?_)
  refine bd_aload_n C 0 dX1_init_37 rfl rfl ?_
  refine bd_newO (mc := 56) (SB := 31) C hcm (kk := 7) rfl (by decide) inX7 ftX7 fzX7 wd_122 wd_124 wd_87 dX1_init_38 ⟨Nat.le_of_ble_eq_true rfl, Nat.le_of_ble_eq_true rfl, Nat.le_of_ble_eq_true rfl⟩ (fun c9 o21 up9 w20 => ?_)
  have C := C.to (h0 + 5)
  have ol0 := up9 _ _ ol0
  refine bd_dup C dX1_init_41 rfl ?_
  refine bd_callIN (mc := 56) (SB := 31) (mc' := 3) (ms' := 93) C (fun r9 e9 => mX7_init C.flag N hcm o21 e9) mwX7_init miX7_init rfl wd_125 rfl (Nat.le_of_ble_eq_true rfl) dX1_init_42 ⟨Nat.le_of_ble_eq_true rfl, Nat.le_of_ble_eq_true rfl, Nat.le_of_ble_eq_true rfl⟩ ⟨rfl, rfl, Nat.le_of_ble_eq_true rfl, Nat.le_of_ble_eq_true rfl⟩ (fun c9 up9 w22 => ?_)
  have C := C.to (h0 + 8)
  have ol0 := up9 _ _ ol0
  have o21 := up9 _ _ o21
  refine bd_pRF C fi104 ftX1 fu104 wd_153 rfl (hini rfl) rfl rfl rfl dX1_init_45 ol0 (fun w23 => ?_)
  refine bd_aload_n C 0 dX1_init_48 rfl rfl ?_
  refine bd_bipush C (v := 50) dX1_init_49 (by decide) ?_
  refine bd_pI C fi107 ftX1 fu107 wd_160 rfl rfl rfl dX1_init_51 ol0 (fun w24 => ?_)
  refine bd_aload_n C 0 dX1_init_54 rfl rfl ?_
  refine bd_bipush C (v := 20) dX1_init_55 (by decide) ?_
  refine bd_pI C fi108 ftX1 fu108 wd_162 rfl rfl rfl dX1_init_57 ol0 (fun w25 => ?_)
  refine bd_iconst C (v := 0) dX1_init_60 (by decide) ?_
  refine bd_istore_n C [(1, .int 0), (0, .ref l0)] dX1_init_61 rfl (by decide) rfl ?_
  exact bd_sub (hb62 N (h0 + 8) w25 l0 0 ol0) [1, 0] rfl
abbrev rmX5_init : Room := { frames := 11, cells := 9, slots := 1080, locals := 320 }
abbrev qX5_init (G : Gy) (F : Fr) (h0 : Nat) (g : Bd) : Wd → State → Prop := fun r => QM G (Fto F (h0 + 9)) g 9 1080 none r
set_option maxRecDepth 20000 in
set_option maxHeartbeats 4000000 in
theorem mX5_init {l : Launch} (hf9 : l.stackTraces = false) {G : Gy} {F : Fr} (N : Nat) {w : Wd} {l0 h0 : Nat} {r : Wd} (hcm : F.2.2.2.2 = true) (ol0 : okF (Fto F h0) l0 5) (e9 : fX5_init F N w l0 h0 = some r) : Met l yX5_init [.code yX5_init cX5_init 1 none] rmX5_init (PcB G (Fto F h0) w [.ref l0]) (QB G (Fto F (h0 + 9)) none r) 9 1080 (AF F) := by
  refine bd_metC (F1 := Fto F h0) (F2 := Fto F (h0 + 9)) hf9 (by decide) (Nat.le_of_ble_eq_true rfl) rfl e9 (fun g C hret hini => ?_)
  refine bd_eqc (k' := h0 - h0) (n' := 120 * (h0 - h0)) (by omega) (by rw [Nat.sub_self]) ?_
  clear e9 r
  unfold fX5_init
  refine bd_sub (lv' := [(0, .ref l0)]) ?_ [0] rfl
  refine bd_aload_n C 0 dX5_init_0 rfl rfl ?_
  refine bd_objInit C wd_311 wd_114 wd_115 dX5_init_1 ⟨Nat.le_of_ble_eq_true rfl, Nat.le_of_ble_eq_true rfl⟩ ?_
  refine bd_aload_n C 0 dX5_init_4 rfl rfl ?_
  refine bd_iconst C (v := 4) dX5_init_5 (by decide) ?_
  refine bd_newA (mc := 9) (SB := 120) C hcm (kk := 11) 1 (atype := .int) (ty := .int) (N := 4) rfl (by decide) rfl wd_147 (by decide) (by decide) (Nat.le_of_ble_eq_true rfl) (fun h => h) rfl dX5_init_6 ⟨Nat.le_of_ble_eq_true rfl, Nat.le_of_ble_eq_true rfl, Nat.le_of_ble_eq_true rfl⟩ (fun c9 o2 up9 w1 => ?_)
  have C := C.to (h0 + 1)
  have ol0 := up9 _ _ ol0
  refine bd_pRF C fi500 ftX5 fu500 wd_314 rfl (hini rfl) rfl rfl rfl dX5_init_8 ol0 (fun w3 => ?_)
  refine bd_aload_n C 0 dX5_init_11 rfl rfl ?_
  refine bd_iconst C (v := 4) dX5_init_12 (by decide) ?_
  refine bd_newA (mc := 9) (SB := 120) C hcm (kk := 11) 1 (atype := .int) (ty := .int) (N := 4) rfl (by decide) rfl wd_147 (by decide) (by decide) (Nat.le_of_ble_eq_true rfl) (fun h => h) rfl dX5_init_13 ⟨Nat.le_of_ble_eq_true rfl, Nat.le_of_ble_eq_true rfl, Nat.le_of_ble_eq_true rfl⟩ (fun c9 o5 up9 w4 => ?_)
  have C := C.to (h0 + 2)
  have ol0 := up9 _ _ ol0
  refine bd_pRF C fi501 ftX5 fu501 wd_315 rfl (hini rfl) rfl rfl rfl dX5_init_15 ol0 (fun w6 => ?_)
  refine bd_aload_n C 0 dX5_init_18 rfl rfl ?_
  refine bd_iconst C (v := 4) dX5_init_19 (by decide) ?_
  refine bd_newA (mc := 9) (SB := 120) C hcm (kk := 12) 2 (atype := .long) (ty := .long) (N := 4) rfl (by decide) rfl wd_148 (by decide) (by decide) (Nat.le_of_ble_eq_true rfl) (fun h => h) rfl dX5_init_20 ⟨Nat.le_of_ble_eq_true rfl, Nat.le_of_ble_eq_true rfl, Nat.le_of_ble_eq_true rfl⟩ (fun c9 o8 up9 w7 => ?_)
  have C := C.to (h0 + 3)
  have ol0 := up9 _ _ ol0
  refine bd_pRF C fi502 ftX5 fu502 wd_316 rfl (hini rfl) rfl rfl rfl dX5_init_22 ol0 (fun w9 => ?_)
  refine bd_aload_n C 0 dX5_init_25 rfl rfl ?_
  refine bd_iconst C (v := 4) dX5_init_26 (by decide) ?_
  refine bd_newA (mc := 9) (SB := 120) C hcm (kk := 13) 3 (atype := .boolean) (ty := .boolean) (N := 4) rfl (by decide) rfl wd_337 (by decide) (by decide) (Nat.le_of_ble_eq_true rfl) (fun h => h) rfl dX5_init_27 ⟨Nat.le_of_ble_eq_true rfl, Nat.le_of_ble_eq_true rfl, Nat.le_of_ble_eq_true rfl⟩ (fun c9 o11 up9 w10 => ?_)
  have C := C.to (h0 + 4)
  have ol0 := up9 _ _ ol0
  refine bd_pRF C fi503 ftX5 fu503 wd_317 rfl (hini rfl) rfl rfl rfl dX5_init_29 ol0 (fun w12 => ?_)
  refine bd_aload_n C 0 dX5_init_32 rfl rfl ?_
  refine bd_bipush C (v := 120) dX5_init_33 (by decide) ?_
  refine bd_newA (mc := 9) (SB := 120) C hcm (kk := 11) 1 (atype := .int) (ty := .int) (N := 120) rfl (by decide) rfl wd_147 (by decide) (by decide) (Nat.le_of_ble_eq_true rfl) (fun h => h) rfl dX5_init_35 ⟨Nat.le_of_ble_eq_true rfl, Nat.le_of_ble_eq_true rfl, Nat.le_of_ble_eq_true rfl⟩ (fun c9 o14 up9 w13 => ?_)
  have C := C.to (h0 + 5)
  have ol0 := up9 _ _ ol0
  refine bd_pRF C fi504 ftX5 fu504 wd_318 rfl (hini rfl) rfl rfl rfl dX5_init_37 ol0 (fun w15 => ?_)
  refine bd_aload_n C 0 dX5_init_40 rfl rfl ?_
  refine bd_newO (mc := 9) (SB := 120) C hcm (kk := 7) rfl (by decide) inX7 ftX7 fzX7 wd_312 wd_124 wd_87 dX5_init_41 ⟨Nat.le_of_ble_eq_true rfl, Nat.le_of_ble_eq_true rfl, Nat.le_of_ble_eq_true rfl⟩ (fun c9 o17 up9 w16 => ?_)
  have C := C.to (h0 + 6)
  have ol0 := up9 _ _ ol0
  refine bd_dup C dX5_init_44 rfl ?_
  refine bd_callIN (mc := 9) (SB := 120) (mc' := 3) (ms' := 93) C (fun r9 e9 => mX7_init C.flag N hcm o17 e9) mwX7_init miX7_init rfl wd_313 rfl (Nat.le_of_ble_eq_true rfl) dX5_init_45 ⟨Nat.le_of_ble_eq_true rfl, Nat.le_of_ble_eq_true rfl, Nat.le_of_ble_eq_true rfl⟩ ⟨rfl, rfl, Nat.le_of_ble_eq_true rfl, Nat.le_of_ble_eq_true rfl⟩ (fun c9 up9 w18 => ?_)
  have C := C.to (h0 + 9)
  have ol0 := up9 _ _ ol0
  have o17 := up9 _ _ o17
  refine bd_pRF C fi505 ftX5 fu505 wd_319 rfl (hini rfl) rfl rfl rfl dX5_init_48 ol0 (fun w19 => ?_)
  exact bd_cret (mc := 9) (SB := 120) C hret rfl dX5_init_51 (Nat.le_refl _)
abbrev rmX2_init : Room := { frames := 12, cells := 457, slots := 14167, locals := 341 }
abbrev qX2_init (G : Gy) (F : Fr) (h0 : Nat) (g : Bd) : Wd → State → Prop := fun r => QM G (Fto F (h0 + 457)) g 457 14167 none r
set_option maxRecDepth 20000 in
set_option maxHeartbeats 4000000 in
theorem mX2_init {l : Launch} (hf9 : l.stackTraces = false) {G : Gy} {F : Fr} (N : Nat) {w : Wd} {l0 h0 : Nat} {r : Wd} (hcm : F.2.2.2.2 = true) (ol0 : okF (Fto F h0) l0 2) (e9 : fX2_init F N w l0 h0 = some r) : Met l yX2_init [.code yX2_init cX2_init 2 none] rmX2_init (PcB G (Fto F h0) w [.ref l0]) (QB G (Fto F (h0 + 457)) none r) 457 14167 (AF F) := by
  refine bd_metC (F1 := Fto F h0) (F2 := Fto F (h0 + 457)) hf9 (by decide) (Nat.le_of_ble_eq_true rfl) rfl e9 (fun g C hret hini => ?_)
  refine bd_eqc (k' := h0 - h0) (n' := 31 * (h0 - h0)) (by omega) (by rw [Nat.sub_self]) ?_
  clear e9 r
  have hb15 : ∀ (n : Nat) (h : Nat) (w : Wd) (l0 : Nat) (l1 : Int32) (ol0 : okF (Fto F h) l0 2), BD g G (Fto F h) 2 (qX2_init G F h0 g) (h - h0) (31 * (h - h0)) (fX2_init_15 F N h0 n h w l0 l1) w 15 [(0, .ref l0), (1, .int l1)] [] := by
    intro n
    induction n with
    | zero =>
      intro h w l0 l1 ol0
      unfold fX2_init_15
      exact bd_none
    | succ n ih =>
      intro h w l0 l1 ol0
      unfold fX2_init_15
      have C := C.to h
      refine bd_iload_n C 1 dX2_init_15 rfl rfl ?_
      refine bd_aload_n C 0 dX2_init_16 rfl rfl ?_
      refine bd_gR C fi200 fv200 wd_193 dX2_init_17 ol0 (fun r1 gr1 hr1 => ?_)
      refine bd_alen C dX2_init_20 hr1 (by decide) 4 rfl ?_
      refine bd_icmp_ge C 43 dX2_init_21 (by decide) (fun c2 => ?_) (fun c2 => ?_)
      · exact bd_cret (mc := 457) (SB := 31) C hret rfl dX2_init_43 (Nat.le_refl _)
      · refine bd_aload_n C 0 dX2_init_24 rfl rfl ?_
        refine bd_gR C fi200 fv200 wd_193 dX2_init_25 ol0 (fun r3 gr3 hr3 => ?_)
        refine bd_iload_n C 1 dX2_init_28 rfl rfl ?_
        refine bd_newO (mc := 457) (SB := 31) C hcm (kk := 1) rfl (by decide) inX1 ftX1 fzX1 wd_190 wd_117 wd_86 dX2_init_29 ⟨Nat.le_of_ble_eq_true rfl, Nat.le_of_ble_eq_true rfl, Nat.le_of_ble_eq_true rfl⟩ (fun c9 o5 up9 w4 => ?_)
        have C := C.to (h + 1)
        have ol0 := up9 _ _ ol0
        have hr3 := up9 _ _ hr3
        refine bd_dup C dX2_init_32 rfl ?_
        refine bd_callI (mc := 457) (SB := 31) (mc' := 56) (ms' := 1736) C (fun r9 e9 => mX1_init C.flag N hcm o5 e9) mwX1_init miX1_init rfl wd_192 rfl (Nat.le_of_ble_eq_true rfl) dX2_init_33 ⟨Nat.le_of_ble_eq_true rfl, Nat.le_of_ble_eq_true rfl, Nat.le_of_ble_eq_true rfl⟩ ⟨rfl, rfl, Nat.le_of_ble_eq_true rfl, Nat.le_of_ble_eq_true rfl⟩ (fun c9 up9 w6 => ?_)
        have C := C.to (h + 57)
        have ol0 := up9 _ _ ol0
        have hr3 := up9 _ _ hr3
        have o5 := up9 _ _ o5
        refine bd_aast C (ka := 14) (ci := 1) (t0 := 4) (by decide) (by decide) rfl rfl dX2_init_36 hr3 o5 (fun w7 => ?_)
        refine bd_iinc C (v := l1 + 1) 1 [(1, .int (l1 + 1)), (0, .ref l0)] dX2_init_37 rfl rfl (by decide) rfl ?_
        refine bd_goto C 15 dX2_init_40 (by decide) ?_
        exact bd_sub (ih (h + 57) w7 l0 (l1 + 1) ol0) [1, 0] rfl
  unfold fX2_init
  refine bd_sub (lv' := [(0, .ref l0)]) ?_ [0] rfl
  refine bd_aload_n C 0 dX2_init_0 rfl rfl ?_
  refine bd_objInit C wd_189 wd_114 wd_115 dX2_init_1 ⟨Nat.le_of_ble_eq_true rfl, Nat.le_of_ble_eq_true rfl⟩ ?_
  refine bd_aload_n C 0 dX2_init_4 rfl rfl ?_
  refine bd_bipush C (v := 8) dX2_init_5 (by decide) ?_
  refine bd_newR (mc := 457) (SB := 31) C hcm (kk := 14) 4 (N := 8) (by decide) rfl wd_190 C.tw.2.2 (by decide) (by decide) (Nat.le_of_ble_eq_true rfl) rfl dX2_init_7 ⟨Nat.le_of_ble_eq_true rfl, Nat.le_of_ble_eq_true rfl, Nat.le_of_ble_eq_true rfl⟩ (fun c9 o9 up9 w8 => ?_)
  have C := C.to (h0 + 1)
  have ol0 := up9 _ _ ol0
  refine bd_pRF C fi200 ftX2 fu200 wd_193 rfl (hini rfl) rfl rfl rfl dX2_init_10 ol0 (fun w10 => ?_)
  refine bd_iconst C (v := 0) dX2_init_13 (by decide) ?_
  refine bd_istore_n C [(1, .int 0), (0, .ref l0)] dX2_init_14 rfl (by decide) rfl ?_
  exact bd_sub (hb15 N (h0 + 1) w10 l0 0 ol0) [1, 0] rfl
