abbrev rmX6_init : Room := { frames := 10, cells := 0, slots := 0, locals := 300 }
abbrev qX6_init (G : Gy) (F : Fr) (h0 : Nat) (g : Bd) : Wd → State → Prop := fun r => QM G (Fto F (h0 + 0)) g 0 0 none r
set_option maxRecDepth 20000 in
set_option maxHeartbeats 4000000 in
theorem mX6_init {l : Launch} (hf9 : l.stackTraces = false) {G : Gy} {F : Fr} (N : Nat) {w : Wd} {l0 h0 : Nat} {r : Wd} (hcm : F.2.2.2.2 = true) (ol0 : okF (Fto F h0) l0 6) (e9 : fX6_init F N w l0 h0 = some r) : Met l yX6_init [.code yX6_init cX6_init 1 none] rmX6_init (PcB G (Fto F h0) w [.ref l0]) (QB G (Fto F (h0 + 0)) none r) 0 0 (AF F) := by
  refine bd_metC (F1 := Fto F h0) (F2 := Fto F (h0 + 0)) hf9 (by decide) (Nat.le_of_ble_eq_true rfl) rfl e9 (fun g C hret hini => ?_)
  refine bd_eqc (k' := h0 - h0) (n' := 1 * (h0 - h0)) (by omega) (by rw [Nat.sub_self]) ?_
  clear e9 r
  unfold fX6_init
  refine bd_sub (lv' := [(0, .ref l0)]) ?_ [0] rfl
  refine bd_aload_n C 0 dX6_init_0 rfl rfl ?_
  refine bd_objInit C wd_244 wd_114 wd_115 dX6_init_1 ⟨Nat.le_of_ble_eq_true rfl, Nat.le_of_ble_eq_true rfl⟩ ?_
  exact bd_cret (mc := 0) (SB := 1) C hret rfl dX6_init_4 (Nat.le_refl _)
abbrev rmX7_init : Room := { frames := 10, cells := 3, slots := 93, locals := 300 }
abbrev qX7_init (G : Gy) (F : Fr) (h0 : Nat) (g : Bd) : Wd → State → Prop := fun r => QM G (Fto F (h0 + 3)) g 3 93 none r
set_option maxRecDepth 20000 in
set_option maxHeartbeats 4000000 in
theorem mX7_init {l : Launch} (hf9 : l.stackTraces = false) {G : Gy} {F : Fr} (N : Nat) {w : Wd} {l0 h0 : Nat} {r : Wd} (hcm : F.2.2.2.2 = true) (ol0 : okF (Fto F h0) l0 7) (e9 : fX7_init F N w l0 h0 = some r) : Met l yX7_init [.code yX7_init cX7_init 1 none] rmX7_init (PcB G (Fto F h0) w [.ref l0]) (QB G (Fto F (h0 + 3)) none r) 3 93 (AF F) := by
  refine bd_metC (F1 := Fto F h0) (F2 := Fto F (h0 + 3)) hf9 (by decide) (Nat.le_of_ble_eq_true rfl) rfl e9 (fun g C hret hini => ?_)
  refine bd_eqc (k' := h0 - h0) (n' := 31 * (h0 - h0)) (by omega) (by rw [Nat.sub_self]) ?_
  clear e9 r
  unfold fX7_init
  refine bd_sub (lv' := [(0, .ref l0)]) ?_ [0] rfl
  refine bd_aload_n C 0 dX7_init_0 rfl rfl ?_
  refine bd_objInit C wd_128 wd_114 wd_115 dX7_init_1 ⟨Nat.le_of_ble_eq_true rfl, Nat.le_of_ble_eq_true rfl⟩ ?_
  refine bd_aload_n C 0 dX7_init_4 rfl rfl ?_
  refine bd_bipush C (v := 31) dX7_init_5 (by decide) ?_
  refine bd_newA (mc := 3) (SB := 31) C hcm (kk := 11) 1 (atype := .int) (ty := .int) (N := 31) rfl (by decide) rfl wd_147 (by decide) (by decide) (Nat.le_of_ble_eq_true rfl) (fun h => h) rfl dX7_init_7 ⟨Nat.le_of_ble_eq_true rfl, Nat.le_of_ble_eq_true rfl, Nat.le_of_ble_eq_true rfl⟩ (fun c9 o2 up9 w1 => ?_)
  have C := C.to (h0 + 1)
  have ol0 := up9 _ _ ol0
  refine bd_pRF C fi700 ftX7 fu700 wd_129 rfl (hini rfl) rfl rfl rfl dX7_init_9 ol0 (fun w3 => ?_)
  refine bd_aload_n C 0 dX7_init_12 rfl rfl ?_
  refine bd_bipush C (v := 31) dX7_init_13 (by decide) ?_
  refine bd_newA (mc := 3) (SB := 31) C hcm (kk := 11) 1 (atype := .int) (ty := .int) (N := 31) rfl (by decide) rfl wd_147 (by decide) (by decide) (Nat.le_of_ble_eq_true rfl) (fun h => h) rfl dX7_init_15 ⟨Nat.le_of_ble_eq_true rfl, Nat.le_of_ble_eq_true rfl, Nat.le_of_ble_eq_true rfl⟩ (fun c9 o5 up9 w4 => ?_)
  have C := C.to (h0 + 2)
  have ol0 := up9 _ _ ol0
  refine bd_pRF C fi701 ftX7 fu701 wd_130 rfl (hini rfl) rfl rfl rfl dX7_init_17 ol0 (fun w6 => ?_)
  refine bd_aload_n C 0 dX7_init_20 rfl rfl ?_
  refine bd_bipush C (v := 31) dX7_init_21 (by decide) ?_
  refine bd_newA (mc := 3) (SB := 31) C hcm (kk := 12) 2 (atype := .long) (ty := .long) (N := 31) rfl (by decide) rfl wd_148 (by decide) (by decide) (Nat.le_of_ble_eq_true rfl) (fun h => h) rfl dX7_init_23 ⟨Nat.le_of_ble_eq_true rfl, Nat.le_of_ble_eq_true rfl, Nat.le_of_ble_eq_true rfl⟩ (fun c9 o8 up9 w7 => ?_)
  have C := C.to (h0 + 3)
  have ol0 := up9 _ _ ol0
  refine bd_pRF C fi702 ftX7 fu702 wd_131 rfl (hini rfl) rfl rfl rfl dX7_init_25 ol0 (fun w9 => ?_)
  exact bd_cret (mc := 3) (SB := 31) C hret rfl dX7_init_28 (Nat.le_refl _)
abbrev rmX3_init : Room := { frames := 10, cells := 1, slots := 100, locals := 300 }
abbrev qX3_init (G : Gy) (F : Fr) (h0 : Nat) (g : Bd) : Wd → State → Prop := fun r => QM G (Fto F (h0 + 1)) g 1 100 none r
set_option maxRecDepth 20000 in
set_option maxHeartbeats 4000000 in
theorem mX3_init {l : Launch} (hf9 : l.stackTraces = false) {G : Gy} {F : Fr} (N : Nat) {w : Wd} {l0 h0 : Nat} {r : Wd} (hcm : F.2.2.2.2 = true) (ol0 : okF (Fto F h0) l0 3) (e9 : fX3_init F N w l0 h0 = some r) : Met l yX3_init [.code yX3_init cX3_init 1 none] rmX3_init (PcB G (Fto F h0) w [.ref l0]) (QB G (Fto F (h0 + 1)) none r) 1 100 (AF F) := by
  refine bd_metC (F1 := Fto F h0) (F2 := Fto F (h0 + 1)) hf9 (by decide) (Nat.le_of_ble_eq_true rfl) rfl e9 (fun g C hret hini => ?_)
  refine bd_eqc (k' := h0 - h0) (n' := 100 * (h0 - h0)) (by omega) (by rw [Nat.sub_self]) ?_
  clear e9 r
  unfold fX3_init
  refine bd_sub (lv' := [(0, .ref l0)]) ?_ [0] rfl
  refine bd_aload_n C 0 dX3_init_0 rfl rfl ?_
  refine bd_objInit C wd_209 wd_114 wd_115 dX3_init_1 ⟨Nat.le_of_ble_eq_true rfl, Nat.le_of_ble_eq_true rfl⟩ ?_
  refine bd_aload_n C 0 dX3_init_4 rfl rfl ?_
  refine bd_bipush C (v := 100) dX3_init_5 (by decide) ?_
  refine bd_newA (mc := 1) (SB := 100) C hcm (kk := 10) 0 (atype := .char) (ty := .char) (N := 100) rfl (by decide) rfl wd_238 (by decide) (by decide) (Nat.le_of_ble_eq_true rfl) (fun h => h) rfl dX3_init_7 ⟨Nat.le_of_ble_eq_true rfl, Nat.le_of_ble_eq_true rfl, Nat.le_of_ble_eq_true rfl⟩ (fun c9 o2 up9 w1 => ?_)
  have C := C.to (h0 + 1)
  have ol0 := up9 _ _ ol0
  refine bd_pRF C fi300 ftX3 fu300 wd_210 rfl (hini rfl) rfl rfl rfl dX3_init_9 ol0 (fun w3 => ?_)
  exact bd_cret (mc := 1) (SB := 100) C hret rfl dX3_init_12 (Nat.le_refl _)
abbrev rmX4_init : Room := { frames := 10, cells := 4, slots := 240, locals := 300 }
abbrev qX4_init (G : Gy) (F : Fr) (h0 : Nat) (g : Bd) : Wd → State → Prop := fun r => QM G (Fto F (h0 + 4)) g 4 240 none r
set_option maxRecDepth 20000 in
set_option maxHeartbeats 4000000 in
theorem mX4_init {l : Launch} (hf9 : l.stackTraces = false) {G : Gy} {F : Fr} (N : Nat) {w : Wd} {l0 h0 : Nat} {r : Wd} (hcm : F.2.2.2.2 = true) (ol0 : okF (Fto F h0) l0 4) (e9 : fX4_init F N w l0 h0 = some r) : Met l yX4_init [.code yX4_init cX4_init 1 none] rmX4_init (PcB G (Fto F h0) w [.ref l0]) (QB G (Fto F (h0 + 4)) none r) 4 240 (AF F) := by
  refine bd_metC (F1 := Fto F h0) (F2 := Fto F (h0 + 4)) hf9 (by decide) (Nat.le_of_ble_eq_true rfl) rfl e9 (fun g C hret hini => ?_)
  refine bd_eqc (k' := h0 - h0) (n' := 60 * (h0 - h0)) (by omega) (by rw [Nat.sub_self]) ?_
  clear e9 r
  unfold fX4_init
  refine bd_sub (lv' := [(0, .ref l0)]) ?_ [0] rfl
  refine bd_aload_n C 0 dX4_init_0 rfl rfl ?_
  refine bd_objInit C wd_280 wd_114 wd_115 dX4_init_1 ⟨Nat.le_of_ble_eq_true rfl, Nat.le_of_ble_eq_true rfl⟩ ?_
  refine bd_aload_n C 0 dX4_init_4 rfl rfl ?_
  refine bd_bipush C (v := 60) dX4_init_5 (by decide) ?_
  refine bd_newA (mc := 4) (SB := 60) C hcm (kk := 11) 1 (atype := .int) (ty := .int) (N := 60) rfl (by decide) rfl wd_147 (by decide) (by decide) (Nat.le_of_ble_eq_true rfl) (fun h => h) rfl dX4_init_7 ⟨Nat.le_of_ble_eq_true rfl, Nat.le_of_ble_eq_true rfl, Nat.le_of_ble_eq_true rfl⟩ (fun c9 o2 up9 w1 => ?_)
  have C := C.to (h0 + 1)
  have ol0 := up9 _ _ ol0
  refine bd_pRF C fi400 ftX4 fu400 wd_281 rfl (hini rfl) rfl rfl rfl dX4_init_9 ol0 (fun w3 => ?_)
  refine bd_aload_n C 0 dX4_init_12 rfl rfl ?_
  refine bd_bipush C (v := 60) dX4_init_13 (by decide) ?_
  refine bd_newA (mc := 4) (SB := 60) C hcm (kk := 11) 1 (atype := .int) (ty := .int) (N := 60) rfl (by decide) rfl wd_147 (by decide) (by decide) (Nat.le_of_ble_eq_true rfl) (fun h => h) rfl dX4_init_15 ⟨Nat.le_of_ble_eq_true rfl, Nat.le_of_ble_eq_true rfl, Nat.le_of_ble_eq_true rfl⟩ (fun c9 o5 up9 w4 => ?_)
  have C := C.to (h0 + 2)
  have ol0 := up9 _ _ ol0
  refine bd_pRF C fi401 ftX4 fu401 wd_282 rfl (hini rfl) rfl rfl rfl dX4_init_17 ol0 (fun w6 => ?_)
  refine bd_aload_n C 0 dX4_init_20 rfl rfl ?_
  refine bd_bipush C (v := 60) dX4_init_21 (by decide) ?_
  refine bd_newA (mc := 4) (SB := 60) C hcm (kk := 11) 1 (atype := .int) (ty := .int) (N := 60) rfl (by decide) rfl wd_147 (by decide) (by decide) (Nat.le_of_ble_eq_true rfl) (fun h => h) rfl dX4_init_23 ⟨Nat.le_of_ble_eq_true rfl, Nat.le_of_ble_eq_true rfl, Nat.le_of_ble_eq_true rfl⟩ (fun c9 o8 up9 w7 => ?_)
  have C := C.to (h0 + 3)
  have ol0 := up9 _ _ ol0
  refine bd_pRF C fi402 ftX4 fu402 wd_283 rfl (hini rfl) rfl rfl rfl dX4_init_25 ol0 (fun w9 => ?_)
  refine bd_aload_n C 0 dX4_init_28 rfl rfl ?_
  refine bd_bipush C (v := 60) dX4_init_29 (by decide) ?_
  refine bd_newA (mc := 4) (SB := 60) C hcm (kk := 12) 2 (atype := .long) (ty := .long) (N := 60) rfl (by decide) rfl wd_148 (by decide) (by decide) (Nat.le_of_ble_eq_true rfl) (fun h => h) rfl dX4_init_31 ⟨Nat.le_of_ble_eq_true rfl, Nat.le_of_ble_eq_true rfl, Nat.le_of_ble_eq_true rfl⟩ (fun c9 o11 up9 w10 => ?_)
  have C := C.to (h0 + 4)
  have ol0 := up9 _ _ ol0
  refine bd_pRF C fi403 ftX4 fu403 wd_284 rfl (hini rfl) rfl rfl rfl dX4_init_33 ol0 (fun w12 => ?_)
  exact bd_cret (mc := 4) (SB := 60) C hret rfl dX4_init_36 (Nat.le_refl _)
abbrev rmX0_init : Room := { frames := 10, cells := 2, slots := 1922, locals := 300 }
abbrev qX0_init (G : Gy) (F : Fr) (h0 : Nat) (g : Bd) : Wd → State → Prop := fun r => QM G (Fto F (h0 + 2)) g 2 1922 none r
set_option maxRecDepth 20000 in
set_option maxHeartbeats 4000000 in
theorem mX0_init {l : Launch} (hf9 : l.stackTraces = false) {G : Gy} {F : Fr} (N : Nat) {w : Wd} {l0 h0 : Nat} {r : Wd} (hcm : F.2.2.2.2 = true) (ol0 : okF (Fto F h0) l0 0) (e9 : fX0_init F N w l0 h0 = some r) : Met l yX0_init [.code yX0_init cX0_init 1 none] rmX0_init (PcB G (Fto F h0) w [.ref l0]) (QB G (Fto F (h0 + 2)) none r) 2 1922 (AF F) := by
  refine bd_metC (F1 := Fto F h0) (F2 := Fto F (h0 + 2)) hf9 (by decide) (Nat.le_of_ble_eq_true rfl) rfl e9 (fun g C hret hini => ?_)
  refine bd_eqc (k' := h0 - h0) (n' := 961 * (h0 - h0)) (by omega) (by rw [Nat.sub_self]) ?_
  clear e9 r
  unfold fX0_init
  refine bd_sub (lv' := [(0, .ref l0)]) ?_ [0] rfl
  refine bd_aload_n C 0 dX0_init_0 rfl rfl ?_
  refine bd_objInit C wd_259 wd_114 wd_115 dX0_init_1 ⟨Nat.le_of_ble_eq_true rfl, Nat.le_of_ble_eq_true rfl⟩ ?_
  refine bd_aload_n C 0 dX0_init_4 rfl rfl ?_
  refine bd_sipush C (v := 961) dX0_init_5 (by decide) ?_
  refine bd_newA (mc := 2) (SB := 961) C hcm (kk := 11) 1 (atype := .int) (ty := .int) (N := 961) rfl (by decide) rfl wd_147 (by decide) (by decide) (Nat.le_of_ble_eq_true rfl) (fun h => h) rfl dX0_init_8 ⟨Nat.le_of_ble_eq_true rfl, Nat.le_of_ble_eq_true rfl, Nat.le_of_ble_eq_true rfl⟩ (fun c9 o2 up9 w1 => ?_)
  have C := C.to (h0 + 1)
  have ol0 := up9 _ _ ol0
  refine bd_pRF C fi0 ftX0 fu0 wd_260 rfl (hini rfl) rfl rfl rfl dX0_init_10 ol0 (fun w3 => ?_)
  refine bd_aload_n C 0 dX0_init_13 rfl rfl ?_
  refine bd_bipush C (v := 30) dX0_init_14 (by decide) ?_
  refine bd_newA (mc := 2) (SB := 961) C hcm (kk := 11) 1 (atype := .int) (ty := .int) (N := 30) rfl (by decide) rfl wd_147 (by decide) (by decide) (Nat.le_of_ble_eq_true rfl) (fun h => h) rfl dX0_init_16 ⟨Nat.le_of_ble_eq_true rfl, Nat.le_of_ble_eq_true rfl, Nat.le_of_ble_eq_true rfl⟩ (fun c9 o5 up9 w4 => ?_)
  have C := C.to (h0 + 2)
  have ol0 := up9 _ _ ol0
  refine bd_pRF C fi1 ftX0 fu1 wd_261 rfl (hini rfl) rfl rfl rfl dX0_init_18 ol0 (fun w6 => ?_)
  exact bd_cret (mc := 2) (SB := 961) C hret rfl dX0_init_21 (Nat.le_refl _)
