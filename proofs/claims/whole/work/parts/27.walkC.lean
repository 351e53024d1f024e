abbrev rmX8_init : Room := { frames := 13, cells := 660, slots := 634260, locals := 362 }
abbrev qX8_init (G : Gy) (F : Fr) (h0 : Nat) (g : Bd) : Wd → State → Prop := fun r => QM G (Fto F (h0 + 660)) g 660 634260 none r
set_option maxRecDepth 20000 in
set_option maxHeartbeats 4000000 in
theorem mX8_init {l : Launch} (hf9 : l.stackTraces = false) {G : Gy} {F : Fr} (N : Nat) {w : Wd} {l0 h0 : Nat} {r : Wd} (hcm : F.2.2.2.2 = true) (ol0 : okF (Fto F h0) l0 8) (e9 : fX8_init F N w l0 h0 = some r) : Met l yX8_init [.code yX8_init cX8_init 1 none] rmX8_init (PcB G (Fto F h0) w [.ref l0]) (QB G (Fto F (h0 + 660)) none r) 660 634260 (AF F) := by
  refine bd_metC (F1 := Fto F h0) (F2 := Fto F (h0 + 660)) hf9 (by decide) (Nat.le_of_ble_eq_true rfl) rfl e9 (fun g C hret hini => ?_)
  refine bd_eqc (k' := h0 - h0) (n' := 961 * (h0 - h0)) (by omega) (by rw [Nat.sub_self]) ?_
  clear e9 r
  unfold fX8_init
  refine bd_sub (lv' := [(0, .ref l0)]) ?_ [0] rfl
  refine bd_aload_n C 0 dX8_init_0 rfl rfl ?_
  refine bd_objInit C wd_113 wd_114 wd_115 dX8_init_1 ⟨Nat.le_of_ble_eq_true rfl, Nat.le_of_ble_eq_true rfl⟩ ?_
  refine bd_aload_n C 0 dX8_init_4 rfl rfl ?_
  refine bd_newO (mc := 660) (SB := 961) C hcm (kk := 1) rfl (by decide) inX1 ftX1 fzX1 wd_116 wd_117 wd_86 dX8_init_5 ⟨Nat.le_of_ble_eq_true rfl, Nat.le_of_ble_eq_true rfl, Nat.le_of_ble_eq_true rfl⟩ (fun c9 o2 up9 w1 => ?_)
  have C := C.to (h0 + 1)
  have ol0 := up9 _ _ ol0
  refine bd_dup C dX8_init_8 rfl ?_
  refine bd_callI (mc := 660) (SB := 961) (mc' := 56) (ms' := 1736) C (fun r9 e9 => mX1_init C.flag N hcm o2 e9) mwX1_init miX1_init rfl wd_118 rfl (Nat.le_of_ble_eq_true rfl) dX8_init_9 ⟨Nat.le_of_ble_eq_true rfl, Nat.le_of_ble_eq_true rfl, Nat.le_of_ble_eq_true rfl⟩ ⟨rfl, rfl, Nat.le_of_ble_eq_true rfl, Nat.le_of_ble_eq_true rfl⟩ (fun c9 up9 w3 => ?_)
  have C := C.to (h0 + 57)
  have ol0 := up9 _ _ ol0
  have o2 := up9 _ _ o2
  refine bd_pRF C fi800 ftX8 fu800 wd_338 rfl (hini rfl) rfl rfl rfl dX8_init_12 ol0 (fun w4 => ?_)
  refine bd_aload_n C 0 dX8_init_15 rfl rfl ?_
  refine bd_newO (mc := 660) (SB := 961) C hcm (kk := 1) rfl (by decide) inX1 ftX1 fzX1 wd_116 wd_117 wd_86 dX8_init_16 ⟨Nat.le_of_ble_eq_true rfl, Nat.le_of_ble_eq_true rfl, Nat.le_of_ble_eq_true rfl⟩ (fun c9 o6 up9 w5 => ?_)
  have C := C.to (h0 + 58)
  have ol0 := up9 _ _ ol0
  refine bd_dup C dX8_init_19 rfl ?_
  refine bd_callI (mc := 660) (SB := 961) (mc' := 56) (ms' := 1736) C (fun r9 e9 => mX1_init C.flag N hcm o6 e9) mwX1_init miX1_init rfl wd_118 rfl (Nat.le_of_ble_eq_true rfl) dX8_init_20 ⟨Nat.le_of_ble_eq_true rfl, Nat.le_of_ble_eq_true rfl, Nat.le_of_ble_eq_true rfl⟩ ⟨rfl, rfl, Nat.le_of_ble_eq_true rfl, Nat.le_of_ble_eq_true rfl⟩ (fun c9 up9 w7 => ?_)
  have C := C.to (h0 + 114)
  have ol0 := up9 _ _ ol0
  have o6 := up9 _ _ o6
  refine bd_pRF C fi801 ftX8 fu801 wd_339 rfl (hini rfl) rfl rfl rfl dX8_init_23 ol0 (fun w8 => ?_)
  refine bd_aload_n C 0 dX8_init_26 rfl rfl ?_
  refine bd_newO (mc := 660) (SB := 961) C hcm (kk := 1) rfl (by decide) inX1 ftX1 fzX1 wd_116 wd_117 wd_86 dX8_init_27 ⟨Nat.le_of_ble_eq_true rfl, Nat.le_of_ble_eq_true rfl, Nat.le_of_ble_eq_true rfl⟩ (fun c9 o10 up9 w9 => ?_)
  have C := C.to (h0 + 115)
  have ol0 := up9 _ _ ol0
  refine bd_dup C dX8_init_30 rfl ?_
  refine bd_callI (mc := 660) (SB := 961) (mc' := 56) (ms' := 1736) C (fun r9 e9 => mX1_init C.flag N hcm o10 e9) mwX1_init miX1_init rfl wd_118 rfl (Nat.le_of_ble_eq_true rfl) dX8_init_31 ⟨Nat.le_of_ble_eq_true rfl, Nat.le_of_ble_eq_true rfl, Nat.le_of_ble_eq_true rfl⟩ ⟨rfl, rfl, Nat.le_of_ble_eq_true rfl, Nat.le_of_ble_eq_true rfl⟩ (fun c9 up9 w11 => ?_)
  have C := C.to (h0 + 171)
  have ol0 := up9 _ _ ol0
  have o10 := up9 _ _ o10
  refine bd_pRF C fi802 ftX8 fu802 wd_340 rfl (hini rfl) rfl rfl rfl dX8_init_34 ol0 (fun w12 => ?_)
  refine bd_aload_n C 0 dX8_init_37 rfl rfl ?_
  refine bd_newO (mc := 660) (SB := 961) C hcm (kk := 2) rfl (by decide) inX2 ftX2 fzX2 wd_184 wd_185 wd_88 dX8_init_38 ⟨Nat.le_of_ble_eq_true rfl, Nat.le_of_ble_eq_true rfl, Nat.le_of_ble_eq_true rfl⟩ (fun c9 o14 up9 w13 => ?_)
  have C := C.to (h0 + 172)
  have ol0 := up9 _ _ ol0
  refine bd_dup C dX8_init_41 rfl ?_
  refine bd_callI (mc := 660) (SB := 961) (mc' := 457) (ms' := 14167) C (fun r9 e9 => mX2_init C.flag N hcm o14 e9) mwX2_init miX2_init rfl wd_186 rfl (Nat.le_of_ble_eq_true rfl) dX8_init_42 ⟨Nat.le_of_ble_eq_true rfl, Nat.le_of_ble_eq_true rfl, Nat.le_of_ble_eq_true rfl⟩ ⟨rfl, rfl, Nat.le_of_ble_eq_true rfl, Nat.le_of_ble_eq_true rfl⟩ (fun c9 up9 w15 => ?_)
  have C := C.to (h0 + 629)
  have ol0 := up9 _ _ ol0
  have o14 := up9 _ _ o14
  refine bd_pRF C fi803 ftX8 fu803 wd_341 rfl (hini rfl) rfl rfl rfl dX8_init_45 ol0 (fun w16 => ?_)
  refine bd_aload_n C 0 dX8_init_48 rfl rfl ?_
  refine bd_newO (mc := 660) (SB := 961) C hcm (kk := 3) rfl (by decide) inX3 ftX3 fzX3 wd_204 wd_205 wd_89 dX8_init_49 ⟨Nat.le_of_ble_eq_true rfl, Nat.le_of_ble_eq_true rfl, Nat.le_of_ble_eq_true rfl⟩ (fun c9 o18 up9 w17 => ?_)
  have C := C.to (h0 + 630)
  have ol0 := up9 _ _ ol0
  refine bd_dup C dX8_init_52 rfl ?_
  refine bd_callIN (mc := 660) (SB := 961) (mc' := 1) (ms' := 100) C (fun r9 e9 => mX3_init C.flag N hcm o18 e9) mwX3_init miX3_init rfl wd_206 rfl (Nat.le_of_ble_eq_true rfl) dX8_init_53 ⟨Nat.le_of_ble_eq_true rfl, Nat.le_of_ble_eq_true rfl, Nat.le_of_ble_eq_true rfl⟩ ⟨rfl, rfl, Nat.le_of_ble_eq_true rfl, Nat.le_of_ble_eq_true rfl⟩ (fun c9 up9 w19 => ?_)
  have C := C.to (h0 + 631)
  have ol0 := up9 _ _ ol0
  have o18 := up9 _ _ o18
  refine bd_pRF C fi804 ftX8 fu804 wd_342 rfl (hini rfl) rfl rfl rfl dX8_init_56 ol0 (fun w20 => ?_)
  refine bd_aload_n C 0 dX8_init_59 rfl rfl ?_
  refine bd_newO (mc := 660) (SB := 961) C hcm (kk := 6) rfl (by decide) inX6 ftX6 fzX6 wd_239 wd_240 wd_90 dX8_init_60 ⟨Nat.le_of_ble_eq_true rfl, Nat.le_of_ble_eq_true rfl, Nat.le_of_ble_eq_true rfl⟩ (fun c9 o22 up9 w21 => ?_)
  have C := C.to (h0 + 632)
  have ol0 := up9 _ _ ol0
  refine bd_dup C dX8_init_63 rfl ?_
  refine bd_callIN (mc := 660) (SB := 961) (mc' := 0) (ms' := 0) C (fun r9 e9 => mX6_init C.flag N hcm o22 e9) mwX6_init miX6_init rfl wd_241 rfl (Nat.le_of_ble_eq_true rfl) dX8_init_64 ⟨Nat.le_of_ble_eq_true rfl, Nat.le_of_ble_eq_true rfl, Nat.le_of_ble_eq_true rfl⟩ ⟨rfl, rfl, Nat.le_of_ble_eq_true rfl, Nat.le_of_ble_eq_true rfl⟩ (fun c9 up9 w23 => ?_)
  have C := C.to (h0 + 632)
  have ol0 := up9 _ _ ol0
  have o22 := up9 _ _ o22
  refine bd_pRF C fi805 ftX8 fu805 wd_343 rfl (hini rfl) rfl rfl rfl dX8_init_67 ol0 (fun w24 => ?_)
  refine bd_aload_n C 0 dX8_init_70 rfl rfl ?_
  refine bd_newO (mc := 660) (SB := 961) C hcm (kk := 0) rfl (by decide) inX0 ftX0 fzX0 wd_254 wd_255 wd_91 dX8_init_71 ⟨Nat.le_of_ble_eq_true rfl, Nat.le_of_ble_eq_true rfl, Nat.le_of_ble_eq_true rfl⟩ (fun c9 o26 up9 w25 => ?_)
  have C := C.to (h0 + 633)
  have ol0 := up9 _ _ ol0
  refine bd_dup C dX8_init_74 rfl ?_
  refine bd_callIN (mc := 660) (SB := 961) (mc' := 2) (ms' := 1922) C (fun r9 e9 => mX0_init C.flag N hcm o26 e9) mwX0_init miX0_init rfl wd_256 rfl (Nat.le_of_ble_eq_true rfl) dX8_init_75 ⟨Nat.le_of_ble_eq_true rfl, Nat.le_of_ble_eq_true rfl, Nat.le_of_ble_eq_true rfl⟩ ⟨rfl, rfl, Nat.le_of_ble_eq_true rfl, Nat.le_of_ble_eq_true rfl⟩ (fun c9 up9 w27 => ?_)
  have C := C.to (h0 + 635)
  have ol0 := up9 _ _ ol0
  have o26 := up9 _ _ o26
  refine bd_pRF C fi806 ftX8 fu806 wd_344 rfl (hini rfl) rfl rfl rfl dX8_init_78 ol0 (fun w28 => ?_)
  refine bd_aload_n C 0 dX8_init_81 rfl rfl ?_
  refine bd_newO (mc := 660) (SB := 961) C hcm (kk := 4) rfl (by decide) inX4 ftX4 fzX4 wd_275 wd_276 wd_92 dX8_init_82 ⟨Nat.le_of_ble_eq_true rfl, Nat.le_of_ble_eq_true rfl, Nat.le_of_ble_eq_true rfl⟩ (fun c9 o30 up9 w29 => ?_)
  have C := C.to (h0 + 636)
  have ol0 := up9 _ _ ol0
  refine bd_dup C dX8_init_85 rfl ?_
  refine bd_callIN (mc := 660) (SB := 961) (mc' := 4) (ms' := 240) C (fun r9 e9 => mX4_init C.flag N hcm o30 e9) mwX4_init miX4_init rfl wd_277 rfl (Nat.le_of_ble_eq_true rfl) dX8_init_86 ⟨Nat.le_of_ble_eq_true rfl, Nat.le_of_ble_eq_true rfl, Nat.le_of_ble_eq_true rfl⟩ ⟨rfl, rfl, Nat.le_of_ble_eq_true rfl, Nat.le_of_ble_eq_true rfl⟩ (fun c9 up9 w31 => ?_)
  have C := C.to (h0 + 640)
  have ol0 := up9 _ _ ol0
  have o30 := up9 _ _ o30
  refine bd_pRF C fi807 ftX8 fu807 wd_345 rfl (hini rfl) rfl rfl rfl dX8_init_89 ol0 (fun w32 => ?_)
  refine bd_aload_n C 0 dX8_init_92 rfl rfl ?_
  refine bd_newO (mc := 660) (SB := 961) C hcm (kk := 5) rfl (by decide) inX5 ftX5 fzX5 wd_306 wd_307 wd_93 dX8_init_93 ⟨Nat.le_of_ble_eq_true rfl, Nat.le_of_ble_eq_true rfl, Nat.le_of_ble_eq_true rfl⟩ (fun c9 o34 up9 w33 => ?_)
  have C := C.to (h0 + 641)
  have ol0 := up9 _ _ ol0
  refine bd_dup C dX8_init_96 rfl ?_
  refine bd_callIN (mc := 660) (SB := 961) (mc' := 9) (ms' := 1080) C (fun r9 e9 => mX5_init C.flag N hcm o34 e9) mwX5_init miX5_init rfl wd_308 rfl (Nat.le_of_ble_eq_true rfl) dX8_init_97 ⟨Nat.le_of_ble_eq_true rfl, Nat.le_of_ble_eq_true rfl, Nat.le_of_ble_eq_true rfl⟩ ⟨rfl, rfl, Nat.le_of_ble_eq_true rfl, Nat.le_of_ble_eq_true rfl⟩ (fun c9 up9 w35 => ?_)
  have C := C.to (h0 + 650)
  have ol0 := up9 _ _ ol0
  have o34 := up9 _ _ o34
  refine bd_pR C fi808 ftX8 fu808 wd_346 rfl rfl rfl dX8_init_100 ol0 (fun w36 => ?_)
  refine bd_aload_n C 0 dX8_init_103 rfl rfl ?_
  refine bd_newO (mc := 660) (SB := 961) C hcm (kk := 5) rfl (by decide) inX5 ftX5 fzX5 wd_306 wd_307 wd_93 dX8_init_104 ⟨Nat.le_of_ble_eq_true rfl, Nat.le_of_ble_eq_true rfl, Nat.le_of_ble_eq_true rfl⟩ (fun c9 o38 up9 w37 => ?_)
  have C := C.to (h0 + 651)
  have ol0 := up9 _ _ ol0
  refine bd_dup C dX8_init_107 rfl ?_
  refine bd_callIN (mc := 660) (SB := 961) (mc' := 9) (ms' := 1080) C (fun r9 e9 => mX5_init C.flag N hcm o38 e9) mwX5_init miX5_init rfl wd_308 rfl (Nat.le_of_ble_eq_true rfl) dX8_init_108 ⟨Nat.le_of_ble_eq_true rfl, Nat.le_of_ble_eq_true rfl, Nat.le_of_ble_eq_true rfl⟩ ⟨rfl, rfl, Nat.le_of_ble_eq_true rfl, Nat.le_of_ble_eq_true rfl⟩ (fun c9 up9 w39 => ?_)
  have C := C.to (h0 + 660)
  have ol0 := up9 _ _ ol0
  have o38 := up9 _ _ o38
  refine bd_pR C fi809 ftX8 fu809 wd_347 rfl rfl rfl dX8_init_111 ol0 (fun w40 => ?_)
  refine bd_aload_n C 0 dX8_init_114 rfl rfl ?_
  refine bd_iconst C (v := (-1)) dX8_init_115 (by decide) ?_
  refine bd_pI C fi811 ftX8 fu811 wd_349 rfl rfl rfl dX8_init_116 ol0 (fun w41 => ?_)
  refine bd_aload_n C 0 dX8_init_119 rfl rfl ?_
  refine bd_iconst C (v := (-1)) dX8_init_120 (by decide) ?_
  refine bd_pI C fi812 ftX8 fu812 wd_350 rfl rfl rfl dX8_init_121 ol0 (fun w42 => ?_)
  exact bd_cret (mc := 660) (SB := 961) C hret rfl dX8_init_124 (Nat.le_refl _)
