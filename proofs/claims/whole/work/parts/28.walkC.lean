abbrev rmX9_init : Room := { frames := 11, cells := 25, slots := 222800, locals := 321 }
abbrev qX9_init (G : Gy) (F : Fr) (h0 : Nat) (g : Bd) : Wd → State → Prop := fun r => QM G (Fto F (h0 + 25)) g 25 222800 none r
set_option maxRecDepth 20000 in
set_option maxHeartbeats 4000000 in
theorem mX9_init {l : Launch} (hf9 : l.stackTraces = false) {G : Gy} {F : Fr} (N : Nat) {w : Wd} {l0 h0 : Nat} {r : Wd} (hcm : F.2.2.2.2 = true) (ol0 : okF (Fto F h0) l0 9) (e9 : fX9_init F N w l0 h0 = some r) : Met l yX9_init [.code yX9_init cX9_init 1 none] rmX9_init (PcB G (Fto F h0) w [.ref l0]) (QB G (Fto F (h0 + 25)) none r) 25 222800 (AF F) := by
  refine bd_metC (F1 := Fto F h0) (F2 := Fto F (h0 + 25)) hf9 (by decide) (Nat.le_of_ble_eq_true rfl) rfl e9 (fun g C hret hini => ?_)
  refine bd_eqc (k' := h0 - h0) (n' := 8912 * (h0 - h0)) (by omega) (by rw [Nat.sub_self]) ?_
  clear e9 r
  unfold fX9_init
  refine bd_sub (lv' := [(0, .ref l0)]) ?_ [0] rfl
  refine bd_aload_n C 0 dX9_init_0 rfl rfl ?_
  refine bd_objInit C wd_1234 wd_114 wd_115 dX9_init_1 ⟨Nat.le_of_ble_eq_true rfl, Nat.le_of_ble_eq_true rfl⟩ ?_
  refine bd_aload_n C 0 dX9_init_4 rfl rfl ?_
  refine bd_sipush C (v := 1114) dX9_init_5 (by decide) ?_
  refine bd_newA (mc := 25) (SB := 8912) C hcm (kk := 12) 2 (atype := .long) (ty := .long) (N := 1114) rfl (by decide) rfl wd_148 (by decide) (by decide) (Nat.le_of_ble_eq_true rfl) (fun h => h) rfl dX9_init_8 ⟨Nat.le_of_ble_eq_true rfl, Nat.le_of_ble_eq_true rfl, Nat.le_of_ble_eq_true rfl⟩ (fun c9 o2 up9 w1 => ?_)
  have C := C.to (h0 + 1)
  have ol0 := up9 _ _ ol0
  refine bd_pRF C fi900 ftX9 fu900 wd_1241 rfl (hini rfl) rfl rfl rfl dX9_init_10 ol0 (fun w3 => ?_)
  refine bd_aload_n C 0 dX9_init_13 rfl rfl ?_
  refine bd_sipush C (v := 1114) dX9_init_14 (by decide) ?_
  refine bd_newA (mc := 25) (SB := 8912) C hcm (kk := 12) 2 (atype := .long) (ty := .long) (N := 1114) rfl (by decide) rfl wd_148 (by decide) (by decide) (Nat.le_of_ble_eq_true rfl) (fun h => h) rfl dX9_init_17 ⟨Nat.le_of_ble_eq_true rfl, Nat.le_of_ble_eq_true rfl, Nat.le_of_ble_eq_true rfl⟩ (fun c9 o5 up9 w4 => ?_)
  have C := C.to (h0 + 2)
  have ol0 := up9 _ _ ol0
  refine bd_pRF C fi901 ftX9 fu901 wd_1242 rfl (hini rfl) rfl rfl rfl dX9_init_19 ol0 (fun w6 => ?_)
  refine bd_aload_n C 0 dX9_init_22 rfl rfl ?_
  refine bd_sipush C (v := 1114) dX9_init_23 (by decide) ?_
  refine bd_newA (mc := 25) (SB := 8912) C hcm (kk := 12) 2 (atype := .long) (ty := .long) (N := 1114) rfl (by decide) rfl wd_148 (by decide) (by decide) (Nat.le_of_ble_eq_true rfl) (fun h => h) rfl dX9_init_26 ⟨Nat.le_of_ble_eq_true rfl, Nat.le_of_ble_eq_true rfl, Nat.le_of_ble_eq_true rfl⟩ (fun c9 o8 up9 w7 => ?_)
  have C := C.to (h0 + 3)
  have ol0 := up9 _ _ ol0
  refine bd_pRF C fi902 ftX9 fu902 wd_1243 rfl (hini rfl) rfl rfl rfl dX9_init_28 ol0 (fun w9 => ?_)
  refine bd_aload_n C 0 dX9_init_31 rfl rfl ?_
  refine bd_sipush C (v := 8912) dX9_init_32 (by decide) ?_
  refine bd_newA (mc := 25) (SB := 8912) C hcm (kk := 12) 2 (atype := .long) (ty := .long) (N := 8912) rfl (by decide) rfl wd_148 (by decide) (by decide) (Nat.le_of_ble_eq_true rfl) (fun h => h) rfl dX9_init_35 ⟨Nat.le_of_ble_eq_true rfl, Nat.le_of_ble_eq_true rfl, Nat.le_of_ble_eq_true rfl⟩ (fun c9 o11 up9 w10 => ?_)
  have C := C.to (h0 + 4)
  have ol0 := up9 _ _ ol0
  refine bd_pRF C fi904 ftX9 fu904 wd_1245 rfl (hini rfl) rfl rfl rfl dX9_init_37 ol0 (fun w12 => ?_)
  refine bd_aload_n C 0 dX9_init_40 rfl rfl ?_
  refine bd_bipush C (v := 100) dX9_init_41 (by decide) ?_
  refine bd_newA (mc := 25) (SB := 8912) C hcm (kk := 11) 1 (atype := .int) (ty := .int) (N := 100) rfl (by decide) rfl wd_147 (by decide) (by decide) (Nat.le_of_ble_eq_true rfl) (fun h => h) rfl dX9_init_43 ⟨Nat.le_of_ble_eq_true rfl, Nat.le_of_ble_eq_true rfl, Nat.le_of_ble_eq_true rfl⟩ (fun c9 o14 up9 w13 => ?_)
  have C := C.to (h0 + 5)
  have ol0 := up9 _ _ ol0
  refine bd_pRF C fi907 ftX9 fu907 wd_1248 rfl (hini rfl) rfl rfl rfl dX9_init_45 ol0 (fun w15 => ?_)
  refine bd_aload_n C 0 dX9_init_48 rfl rfl ?_
  refine bd_iconst C (v := (-1)) dX9_init_49 (by decide) ?_
  refine bd_pI C fi911 ftX9 fu911 wd_1252 rfl rfl rfl dX9_init_50 ol0 (fun w16 => ?_)
  refine bd_aload_n C 0 dX9_init_53 rfl rfl ?_
  refine bd_sipush C (v := 961) dX9_init_54 (by decide) ?_
  refine bd_newA (mc := 25) (SB := 8912) C hcm (kk := 11) 1 (atype := .int) (ty := .int) (N := 961) rfl (by decide) rfl wd_147 (by decide) (by decide) (Nat.le_of_ble_eq_true rfl) (fun h => h) rfl dX9_init_57 ⟨Nat.le_of_ble_eq_true rfl, Nat.le_of_ble_eq_true rfl, Nat.le_of_ble_eq_true rfl⟩ (fun c9 o18 up9 w17 => ?_)
  have C := C.to (h0 + 6)
  have ol0 := up9 _ _ ol0
  refine bd_pRF C fi914 ftX9 fu914 wd_1255 rfl (hini rfl) rfl rfl rfl dX9_init_59 ol0 (fun w19 => ?_)
  refine bd_aload_n C 0 dX9_init_62 rfl rfl ?_
  refine bd_sipush C (v := 961) dX9_init_63 (by decide) ?_
  refine bd_newA (mc := 25) (SB := 8912) C hcm (kk := 11) 1 (atype := .int) (ty := .int) (N := 961) rfl (by decide) rfl wd_147 (by decide) (by decide) (Nat.le_of_ble_eq_true rfl) (fun h => h) rfl dX9_init_66 ⟨Nat.le_of_ble_eq_true rfl, Nat.le_of_ble_eq_true rfl, Nat.le_of_ble_eq_true rfl⟩ (fun c9 o21 up9 w20 => ?_)
  have C := C.to (h0 + 7)
  have ol0 := up9 _ _ ol0
  refine bd_pRF C fi915 ftX9 fu915 wd_1256 rfl (hini rfl) rfl rfl rfl dX9_init_68 ol0 (fun w22 => ?_)
  refine bd_aload_n C 0 dX9_init_71 rfl rfl ?_
  refine bd_iconst C (v := 4) dX9_init_72 (by decide) ?_
  refine bd_newA (mc := 25) (SB := 8912) C hcm (kk := 11) 1 (atype := .int) (ty := .int) (N := 4) rfl (by decide) rfl wd_147 (by decide) (by decide) (Nat.le_of_ble_eq_true rfl) (fun h => h) rfl dX9_init_73 ⟨Nat.le_of_ble_eq_true rfl, Nat.le_of_ble_eq_true rfl, Nat.le_of_ble_eq_true rfl⟩ (fun c9 o24 up9 w23 => ?_)
  have C := C.to (h0 + 8)
  have ol0 := up9 _ _ ol0
  refine bd_pRF C fi917 ftX9 fu917 wd_1258 rfl (hini rfl) rfl rfl rfl dX9_init_75 ol0 (fun w25 => ?_)
  refine bd_aload_n C 0 dX9_init_78 rfl rfl ?_
  refine bd_iconst C (v := 4) dX9_init_79 (by decide) ?_
  refine bd_newA (mc := 25) (SB := 8912) C hcm (kk := 11) 1 (atype := .int) (ty := .int) (N := 4) rfl (by decide) rfl wd_147 (by decide) (by decide) (Nat.le_of_ble_eq_true rfl) (fun h => h) rfl dX9_init_80 ⟨Nat.le_of_ble_eq_true rfl, Nat.le_of_ble_eq_true rfl, Nat.le_of_ble_eq_true rfl⟩ (fun c9 o27 up9 w26 => ?_)
  have C := C.to (h0 + 9)
  have ol0 := up9 _ _ ol0
  refine bd_pRF C fi918 ftX9 fu918 wd_1259 rfl (hini rfl) rfl rfl rfl dX9_init_82 ol0 (fun w28 => ?_)
  refine bd_aload_n C 0 dX9_init_85 rfl rfl ?_
  refine bd_iconst C (v := 4) dX9_init_86 (by decide) ?_
  refine bd_newA (mc := 25) (SB := 8912) C hcm (kk := 12) 2 (atype := .long) (ty := .long) (N := 4) rfl (by decide) rfl wd_148 (by decide) (by decide) (Nat.le_of_ble_eq_true rfl) (fun h => h) rfl dX9_init_87 ⟨Nat.le_of_ble_eq_true rfl, Nat.le_of_ble_eq_true rfl, Nat.le_of_ble_eq_true rfl⟩ (fun c9 o30 up9 w29 => ?_)
  have C := C.to (h0 + 10)
  have ol0 := up9 _ _ ol0
  refine bd_pRF C fi919 ftX9 fu919 wd_1260 rfl (hini rfl) rfl rfl rfl dX9_init_89 ol0 (fun w31 => ?_)
  refine bd_aload_n C 0 dX9_init_92 rfl rfl ?_
  refine bd_iconst C (v := 4) dX9_init_93 (by decide) ?_
  refine bd_newA (mc := 25) (SB := 8912) C hcm (kk := 13) 3 (atype := .boolean) (ty := .boolean) (N := 4) rfl (by decide) rfl wd_337 (by decide) (by decide) (Nat.le_of_ble_eq_true rfl) (fun h => h) rfl dX9_init_94 ⟨Nat.le_of_ble_eq_true rfl, Nat.le_of_ble_eq_true rfl, Nat.le_of_ble_eq_true rfl⟩ (fun c9 o33 up9 w32 => ?_)
  have C := C.to (h0 + 11)
  have ol0 := up9 _ _ ol0
  refine bd_pRF C fi920 ftX9 fu920 wd_1261 rfl (hini rfl) rfl rfl rfl dX9_init_96 ol0 (fun w34 => ?_)
  refine bd_aload_n C 0 dX9_init_99 rfl rfl ?_
  refine bd_iconst C (v := 4) dX9_init_100 (by decide) ?_
  refine bd_newA (mc := 25) (SB := 8912) C hcm (kk := 11) 1 (atype := .int) (ty := .int) (N := 4) rfl (by decide) rfl wd_147 (by decide) (by decide) (Nat.le_of_ble_eq_true rfl) (fun h => h) rfl dX9_init_101 ⟨Nat.le_of_ble_eq_true rfl, Nat.le_of_ble_eq_true rfl, Nat.le_of_ble_eq_true rfl⟩ (fun c9 o36 up9 w35 => ?_)
  have C := C.to (h0 + 12)
  have ol0 := up9 _ _ ol0
  refine bd_pRF C fi921 ftX9 fu921 wd_1262 rfl (hini rfl) rfl rfl rfl dX9_init_103 ol0 (fun w37 => ?_)
  refine bd_aload_n C 0 dX9_init_106 rfl rfl ?_
  refine bd_iconst C (v := 4) dX9_init_107 (by decide) ?_
  refine bd_newA (mc := 25) (SB := 8912) C hcm (kk := 12) 2 (atype := .long) (ty := .long) (N := 4) rfl (by decide) rfl wd_148 (by decide) (by decide) (Nat.le_of_ble_eq_true rfl) (fun h => h) rfl dX9_init_108 ⟨Nat.le_of_ble_eq_true rfl, Nat.le_of_ble_eq_true rfl, Nat.le_of_ble_eq_true rfl⟩ (fun c9 o39 up9 w38 => ?_)
  have C := C.to (h0 + 13)
  have ol0 := up9 _ _ ol0
  refine bd_pRF C fi922 ftX9 fu922 wd_1263 rfl (hini rfl) rfl rfl rfl dX9_init_110 ol0 (fun w40 => ?_)
  refine bd_aload_n C 0 dX9_init_113 rfl rfl ?_
  refine bd_iconst C (v := 4) dX9_init_114 (by decide) ?_
  refine bd_newA (mc := 25) (SB := 8912) C hcm (kk := 13) 3 (atype := .boolean) (ty := .boolean) (N := 4) rfl (by decide) rfl wd_337 (by decide) (by decide) (Nat.le_of_ble_eq_true rfl) (fun h => h) rfl dX9_init_115 ⟨Nat.le_of_ble_eq_true rfl, Nat.le_of_ble_eq_true rfl, Nat.le_of_ble_eq_true rfl⟩ (fun c9 o42 up9 w41 => ?_)
  have C := C.to (h0 + 14)
  have ol0 := up9 _ _ ol0
  refine bd_pRF C fi923 ftX9 fu923 wd_1264 rfl (hini rfl) rfl rfl rfl dX9_init_117 ol0 (fun w43 => ?_)
  refine bd_aload_n C 0 dX9_init_120 rfl rfl ?_
  refine bd_iconst C (v := 4) dX9_init_121 (by decide) ?_
  refine bd_newA (mc := 25) (SB := 8912) C hcm (kk := 11) 1 (atype := .int) (ty := .int) (N := 4) rfl (by decide) rfl wd_147 (by decide) (by decide) (Nat.le_of_ble_eq_true rfl) (fun h => h) rfl dX9_init_122 ⟨Nat.le_of_ble_eq_true rfl, Nat.le_of_ble_eq_true rfl, Nat.le_of_ble_eq_true rfl⟩ (fun c9 o45 up9 w44 => ?_)
  have C := C.to (h0 + 15)
  have ol0 := up9 _ _ ol0
  refine bd_pRF C fi925 ftX9 fu925 wd_1266 rfl (hini rfl) rfl rfl rfl dX9_init_124 ol0 (fun w46 => ?_)
  refine bd_aload_n C 0 dX9_init_127 rfl rfl ?_
  refine bd_iconst C (v := 4) dX9_init_128 (by decide) ?_
  refine bd_newA (mc := 25) (SB := 8912) C hcm (kk := 11) 1 (atype := .int) (ty := .int) (N := 4) rfl (by decide) rfl wd_147 (by decide) (by decide) (Nat.le_of_ble_eq_true rfl) (fun h => h) rfl dX9_init_129 ⟨Nat.le_of_ble_eq_true rfl, Nat.le_of_ble_eq_true rfl, Nat.le_of_ble_eq_true rfl⟩ (fun c9 o48 up9 w47 => ?_)
  have C := C.to (h0 + 16)
  have ol0 := up9 _ _ ol0
  refine bd_pRF C fi926 ftX9 fu926 wd_1267 rfl (hini rfl) rfl rfl rfl dX9_init_131 ol0 (fun w49 => ?_)
  refine bd_aload_n C 0 dX9_init_134 rfl rfl ?_
  refine bd_bipush C (v := 60) dX9_init_135 (by decide) ?_
  refine bd_newA (mc := 25) (SB := 8912) C hcm (kk := 11) 1 (atype := .int) (ty := .int) (N := 60) rfl (by decide) rfl wd_147 (by decide) (by decide) (Nat.le_of_ble_eq_true rfl) (fun h => h) rfl dX9_init_137 ⟨Nat.le_of_ble_eq_true rfl, Nat.le_of_ble_eq_true rfl, Nat.le_of_ble_eq_true rfl⟩ (fun c9 o51 up9 w50 => ?_)
  have C := C.to (h0 + 17)
  have ol0 := up9 _ _ ol0
  refine bd_pRF C fi929 ftX9 fu929 wd_1270 rfl (hini rfl) rfl rfl rfl dX9_init_139 ol0 (fun w52 => ?_)
  refine bd_aload_n C 0 dX9_init_142 rfl rfl ?_
  refine bd_bipush C (v := 60) dX9_init_143 (by decide) ?_
  refine bd_newA (mc := 25) (SB := 8912) C hcm (kk := 11) 1 (atype := .int) (ty := .int) (N := 60) rfl (by decide) rfl wd_147 (by decide) (by decide) (Nat.le_of_ble_eq_true rfl) (fun h => h) rfl dX9_init_145 ⟨Nat.le_of_ble_eq_true rfl, Nat.le_of_ble_eq_true rfl, Nat.le_of_ble_eq_true rfl⟩ (fun c9 o54 up9 w53 => ?_)
  have C := C.to (h0 + 18)
  have ol0 := up9 _ _ ol0
  refine bd_pRF C fi930 ftX9 fu930 wd_1271 rfl (hini rfl) rfl rfl rfl dX9_init_147 ol0 (fun w55 => ?_)
  refine bd_aload_n C 0 dX9_init_150 rfl rfl ?_
  refine bd_bipush C (v := 60) dX9_init_151 (by decide) ?_
  refine bd_newA (mc := 25) (SB := 8912) C hcm (kk := 12) 2 (atype := .long) (ty := .long) (N := 60) rfl (by decide) rfl wd_148 (by decide) (by decide) (Nat.le_of_ble_eq_true rfl) (fun h => h) rfl dX9_init_153 ⟨Nat.le_of_ble_eq_true rfl, Nat.le_of_ble_eq_true rfl, Nat.le_of_ble_eq_true rfl⟩ (fun c9 o57 up9 w56 => ?_)
  have C := C.to (h0 + 19)
  have ol0 := up9 _ _ ol0
  refine bd_pRF C fi931 ftX9 fu931 wd_1272 rfl (hini rfl) rfl rfl rfl dX9_init_155 ol0 (fun w58 => ?_)
  refine bd_aload_n C 0 dX9_init_158 rfl rfl ?_
  refine bd_bipush C (v := 60) dX9_init_159 (by decide) ?_
  refine bd_newA (mc := 25) (SB := 8912) C hcm (kk := 11) 1 (atype := .int) (ty := .int) (N := 60) rfl (by decide) rfl wd_147 (by decide) (by decide) (Nat.le_of_ble_eq_true rfl) (fun h => h) rfl dX9_init_161 ⟨Nat.le_of_ble_eq_true rfl, Nat.le_of_ble_eq_true rfl, Nat.le_of_ble_eq_true rfl⟩ (fun c9 o60 up9 w59 => ?_)
  have C := C.to (h0 + 20)
  have ol0 := up9 _ _ ol0
  refine bd_pRF C fi932 ftX9 fu932 wd_1273 rfl (hini rfl) rfl rfl rfl dX9_init_163 ol0 (fun w61 => ?_)
  refine bd_aload_n C 0 dX9_init_166 rfl rfl ?_
  refine bd_sipush C (v := 2000) dX9_init_167 (by decide) ?_
  refine bd_newA (mc := 25) (SB := 8912) C hcm (kk := 12) 2 (atype := .long) (ty := .long) (N := 2000) rfl (by decide) rfl wd_148 (by decide) (by decide) (Nat.le_of_ble_eq_true rfl) (fun h => h) rfl dX9_init_170 ⟨Nat.le_of_ble_eq_true rfl, Nat.le_of_ble_eq_true rfl, Nat.le_of_ble_eq_true rfl⟩ (fun c9 o63 up9 w62 => ?_)
  have C := C.to (h0 + 21)
  have ol0 := up9 _ _ ol0
  refine bd_pRF C fi936 ftX9 fu936 wd_1277 rfl (hini rfl) rfl rfl rfl dX9_init_172 ol0 (fun w64 => ?_)
  refine bd_aload_n C 0 dX9_init_175 rfl rfl ?_
  refine bd_bipush C (v := 100) dX9_init_176 (by decide) ?_
  refine bd_newA (mc := 25) (SB := 8912) C hcm (kk := 11) 1 (atype := .int) (ty := .int) (N := 100) rfl (by decide) rfl wd_147 (by decide) (by decide) (Nat.le_of_ble_eq_true rfl) (fun h => h) rfl dX9_init_178 ⟨Nat.le_of_ble_eq_true rfl, Nat.le_of_ble_eq_true rfl, Nat.le_of_ble_eq_true rfl⟩ (fun c9 o66 up9 w65 => ?_)
  have C := C.to (h0 + 22)
  have ol0 := up9 _ _ ol0
  refine bd_pRF C fi941 ftX9 fu941 wd_1282 rfl (hini rfl) rfl rfl rfl dX9_init_180 ol0 (fun w67 => ?_)
  refine bd_aload_n C 0 dX9_init_183 rfl rfl ?_
  refine bd_bipush C (v := 100) dX9_init_184 (by decide) ?_
  refine bd_newA (mc := 25) (SB := 8912) C hcm (kk := 11) 1 (atype := .int) (ty := .int) (N := 100) rfl (by decide) rfl wd_147 (by decide) (by decide) (Nat.le_of_ble_eq_true rfl) (fun h => h) rfl dX9_init_186 ⟨Nat.le_of_ble_eq_true rfl, Nat.le_of_ble_eq_true rfl, Nat.le_of_ble_eq_true rfl⟩ (fun c9 o69 up9 w68 => ?_)
  have C := C.to (h0 + 23)
  have ol0 := up9 _ _ ol0
  refine bd_pRF C fi942 ftX9 fu942 wd_1283 rfl (hini rfl) rfl rfl rfl dX9_init_188 ol0 (fun w70 => ?_)
  refine bd_aload_n C 0 dX9_init_191 rfl rfl ?_
  refine bd_bipush C (v := 100) dX9_init_192 (by decide) ?_
  refine bd_newA (mc := 25) (SB := 8912) C hcm (kk := 11) 1 (atype := .int) (ty := .int) (N := 100) rfl (by decide) rfl wd_147 (by decide) (by decide) (Nat.le_of_ble_eq_true rfl) (fun h => h) rfl dX9_init_194 ⟨Nat.le_of_ble_eq_true rfl, Nat.le_of_ble_eq_true rfl, Nat.le_of_ble_eq_true rfl⟩ (fun c9 o72 up9 w71 => ?_)
  have C := C.to (h0 + 24)
  have ol0 := up9 _ _ ol0
  refine bd_pRF C fi943 ftX9 fu943 wd_1284 rfl (hini rfl) rfl rfl rfl dX9_init_196 ol0 (fun w73 => ?_)
  refine bd_aload_n C 0 dX9_init_199 rfl rfl ?_
  refine bd_bipush C (v := 100) dX9_init_200 (by decide) ?_
  refine bd_newA (mc := 25) (SB := 8912) C hcm (kk := 12) 2 (atype := .long) (ty := .long) (N := 100) rfl (by decide) rfl wd_148 (by decide) (by decide) (Nat.le_of_ble_eq_true rfl) (fun h => h) rfl dX9_init_202 ⟨Nat.le_of_ble_eq_true rfl, Nat.le_of_ble_eq_true rfl, Nat.le_of_ble_eq_true rfl⟩ (fun c9 o75 up9 w74 => ?_)
  have C := C.to (h0 + 25)
  have ol0 := up9 _ _ ol0
  refine bd_pRF C fi944 ftX9 fu944 wd_1285 rfl (hini rfl) rfl rfl rfl dX9_init_204 ol0 (fun w76 => ?_)
  refine bd_aload_n C 0 dX9_init_207 rfl rfl ?_
  refine bd_iconst C (v := (-1)) dX9_init_208 (by decide) ?_
  refine bd_pI C fi946 ftX9 fu946 wd_1287 rfl rfl rfl dX9_init_209 ol0 (fun w77 => ?_)
  refine bd_aload_n C 0 dX9_init_212 rfl rfl ?_
  refine bd_ckH (fun c8 c9 => ?_)
  refine bd_callV (vs := fun _ => none) (wf := fun (r : Wd) => r) (st := []) (st1 := fun p78 => []) C [] (fun r9 e9 => mX9_begin C.flag N ol0 e9) mwX9_begin miX9_begin wd_1235 ol0 (by decide) rfl rfl rfl (Nat.le_of_ble_eq_true rfl) dX9_init_213 ⟨rfl, rfl, Nat.le_of_ble_eq_true rfl, Nat.le_of_ble_eq_true rfl, by show _ - _ ≤ 25; omega, Nat.mul_le_mul_left (n := h0 + 25 - h0) (m := 25) 8912 (by omega)⟩ (fun _ => rfl) (fun p78 ep78 => ?_)
  exact bd_cret (mc := 25) (SB := 8912) C hret rfl dX9_init_216 (Nat.le_refl _)
