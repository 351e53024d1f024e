theorem wd_113 : WD (.methodLink RX8 1 objectInit) := ⟨List.mem_of_getElem? (i := 113) (by decide +kernel), by decide +kernel⟩
theorem wd_114 : WD (.instanceMethod objectInit) := ⟨List.mem_of_getElem? (i := 114) (by decide +kernel), by decide +kernel⟩
theorem wd_115 : WD (.code objectInit ⟨#[0xb1]⟩ 1 none) := ⟨List.mem_of_getElem? (i := 115) (by decide +kernel), by decide +kernel⟩
theorem wd_116 : WD (.classLink RX8 7 RX1) := ⟨List.mem_of_getElem? (i := 116) (by decide +kernel), by decide +kernel⟩
theorem wd_117 : WD (.instantiable RX1 9) := ⟨List.mem_of_getElem? (i := 117) (by decide +kernel), by decide +kernel⟩
theorem wd_118 : WD (.methodLink RX8 9 yX1_init) := ⟨List.mem_of_getElem? (i := 118) (by decide +kernel), by decide +kernel⟩
theorem wd_121 : WD (.methodLink RX1 3 objectInit) := ⟨List.mem_of_getElem? (i := 121) (by decide +kernel), by decide +kernel⟩
theorem wd_122 : WD (.classLink RX1 21 RX7) := ⟨List.mem_of_getElem? (i := 122) (by decide +kernel), by decide +kernel⟩
theorem wd_124 : WD (.instantiable RX7 4) := ⟨List.mem_of_getElem? (i := 124) (by decide +kernel), by decide +kernel⟩
theorem wd_125 : WD (.methodLinkNest RX1 27 yX7_init "LessonTiers") := ⟨List.mem_of_getElem? (i := 125) (by decide +kernel), by decide +kernel⟩
theorem wd_128 : WD (.methodLink RX7 3 objectInit) := ⟨List.mem_of_getElem? (i := 128) (by decide +kernel), by decide +kernel⟩
theorem wd_147 : WD (.arrayClass .int) := ⟨List.mem_of_getElem? (i := 147) (by decide +kernel), by decide +kernel⟩
theorem wd_148 : WD (.arrayClass .long) := ⟨List.mem_of_getElem? (i := 148) (by decide +kernel), by decide +kernel⟩
theorem wd_184 : WD (.classLink RX8 22 RX2) := ⟨List.mem_of_getElem? (i := 184) (by decide +kernel), by decide +kernel⟩
theorem wd_185 : WD (.instantiable RX2 3) := ⟨List.mem_of_getElem? (i := 185) (by decide +kernel), by decide +kernel⟩
theorem wd_186 : WD (.methodLink RX8 24 yX2_init) := ⟨List.mem_of_getElem? (i := 186) (by decide +kernel), by decide +kernel⟩
theorem wd_189 : WD (.methodLink RX2 3 objectInit) := ⟨List.mem_of_getElem? (i := 189) (by decide +kernel), by decide +kernel⟩
theorem wd_190 : WD (.classLink RX2 9 RX1) := ⟨List.mem_of_getElem? (i := 190) (by decide +kernel), by decide +kernel⟩
theorem wd_192 : WD (.methodLink RX2 17 yX1_init) := ⟨List.mem_of_getElem? (i := 192) (by decide +kernel), by decide +kernel⟩
theorem wd_204 : WD (.classLink RX8 29 RX3) := ⟨List.mem_of_getElem? (i := 204) (by decide +kernel), by decide +kernel⟩
theorem wd_205 : WD (.instantiable RX3 7) := ⟨List.mem_of_getElem? (i := 205) (by decide +kernel), by decide +kernel⟩
theorem wd_206 : WD (.methodLinkNest RX8 31 yX3_init "LessonTiers") := ⟨List.mem_of_getElem? (i := 206) (by decide +kernel), by decide +kernel⟩
theorem wd_209 : WD (.methodLink RX3 3 objectInit) := ⟨List.mem_of_getElem? (i := 209) (by decide +kernel), by decide +kernel⟩
theorem wd_238 : WD (.arrayClass .char) := ⟨List.mem_of_getElem? (i := 238) (by decide +kernel), by decide +kernel⟩
theorem wd_239 : WD (.classLink RX8 36 RX6) := ⟨List.mem_of_getElem? (i := 239) (by decide +kernel), by decide +kernel⟩
theorem wd_240 : WD (.instantiable RX6 2) := ⟨List.mem_of_getElem? (i := 240) (by decide +kernel), by decide +kernel⟩
theorem wd_241 : WD (.methodLinkNest RX8 38 yX6_init "LessonTiers") := ⟨List.mem_of_getElem? (i := 241) (by decide +kernel), by decide +kernel⟩
theorem wd_244 : WD (.methodLink RX6 1 objectInit) := ⟨List.mem_of_getElem? (i := 244) (by decide +kernel), by decide +kernel⟩
theorem wd_254 : WD (.classLink RX8 43 RX0) := ⟨List.mem_of_getElem? (i := 254) (by decide +kernel), by decide +kernel⟩
theorem wd_255 : WD (.instantiable RX0 4) := ⟨List.mem_of_getElem? (i := 255) (by decide +kernel), by decide +kernel⟩
theorem wd_256 : WD (.methodLinkNest RX8 45 yX0_init "LessonTiers") := ⟨List.mem_of_getElem? (i := 256) (by decide +kernel), by decide +kernel⟩
theorem wd_259 : WD (.methodLink RX0 3 objectInit) := ⟨List.mem_of_getElem? (i := 259) (by decide +kernel), by decide +kernel⟩
theorem wd_275 : WD (.classLink RX8 50 RX4) := ⟨List.mem_of_getElem? (i := 275) (by decide +kernel), by decide +kernel⟩
theorem wd_276 : WD (.instantiable RX4 7) := ⟨List.mem_of_getElem? (i := 276) (by decide +kernel), by decide +kernel⟩
theorem wd_277 : WD (.methodLinkNest RX8 52 yX4_init "LessonTiers") := ⟨List.mem_of_getElem? (i := 277) (by decide +kernel), by decide +kernel⟩
theorem wd_280 : WD (.methodLink RX4 3 objectInit) := ⟨List.mem_of_getElem? (i := 280) (by decide +kernel), by decide +kernel⟩
theorem wd_306 : WD (.classLink RX8 57 RX5) := ⟨List.mem_of_getElem? (i := 306) (by decide +kernel), by decide +kernel⟩
theorem wd_307 : WD (.instantiable RX5 7) := ⟨List.mem_of_getElem? (i := 307) (by decide +kernel), by decide +kernel⟩
theorem wd_308 : WD (.methodLinkNest RX8 59 yX5_init "LessonTiers") := ⟨List.mem_of_getElem? (i := 308) (by decide +kernel), by decide +kernel⟩
theorem wd_311 : WD (.methodLink RX5 3 objectInit) := ⟨List.mem_of_getElem? (i := 311) (by decide +kernel), by decide +kernel⟩
theorem wd_312 : WD (.classLink RX5 29 RX7) := ⟨List.mem_of_getElem? (i := 312) (by decide +kernel), by decide +kernel⟩
theorem wd_313 : WD (.methodLinkNest RX5 31 yX7_init "LessonTiers") := ⟨List.mem_of_getElem? (i := 313) (by decide +kernel), by decide +kernel⟩
theorem wd_337 : WD (.arrayClass .boolean) := ⟨List.mem_of_getElem? (i := 337) (by decide +kernel), by decide +kernel⟩
theorem wd_1234 : WD (.methodLink RX9 3 objectInit) := ⟨List.mem_of_getElem? (i := 1234) (by decide +kernel), by decide +kernel⟩
theorem fzX0 : ∀ j, j < 4 → defaultValue (tyX0 j) = vp_V (fieldsOf sl0 0) j := fun j hj => by match j, hj with | 0, _ => rfl | 1, _ => rfl | 2, _ => rfl | 3, _ => rfl | j + 4, h => exact absurd h (by omega)
theorem fzX1 : ∀ j, j < 9 → defaultValue (tyX1 j) = vp_V (fieldsOf sl0 1) j := fun j hj => by match j, hj with | 0, _ => rfl | 1, _ => rfl | 2, _ => rfl | 3, _ => rfl | 4, _ => rfl | 5, _ => rfl | 6, _ => rfl | 7, _ => rfl | 8, _ => rfl | j + 9, h => exact absurd h (by omega)
theorem fzX2 : ∀ j, j < 3 → defaultValue (tyX2 j) = vp_V (fieldsOf sl0 2) j := fun j hj => by match j, hj with | 0, _ => rfl | 1, _ => rfl | 2, _ => rfl | j + 3, h => exact absurd h (by omega)
theorem fzX3 : ∀ j, j < 7 → defaultValue (tyX3 j) = vp_V (fieldsOf sl0 3) j := fun j hj => by match j, hj with | 0, _ => rfl | 1, _ => rfl | 2, _ => rfl | 3, _ => rfl | 4, _ => rfl | 5, _ => rfl | 6, _ => rfl | j + 7, h => exact absurd h (by omega)
theorem fzX4 : ∀ j, j < 7 → defaultValue (tyX4 j) = vp_V (fieldsOf sl0 4) j := fun j hj => by match j, hj with | 0, _ => rfl | 1, _ => rfl | 2, _ => rfl | 3, _ => rfl | 4, _ => rfl | 5, _ => rfl | 6, _ => rfl | j + 7, h => exact absurd h (by omega)
theorem fzX5 : ∀ j, j < 7 → defaultValue (tyX5 j) = vp_V (fieldsOf sl0 5) j := fun j hj => by match j, hj with | 0, _ => rfl | 1, _ => rfl | 2, _ => rfl | 3, _ => rfl | 4, _ => rfl | 5, _ => rfl | 6, _ => rfl | j + 7, h => exact absurd h (by omega)
theorem fzX6 : ∀ j, j < 2 → defaultValue (tyX6 j) = vp_V (fieldsOf sl0 6) j := fun j hj => by match j, hj with | 0, _ => rfl | 1, _ => rfl | j + 2, h => exact absurd h (by omega)
theorem fzX7 : ∀ j, j < 4 → defaultValue (tyX7 j) = vp_V (fieldsOf sl0 7) j := fun j hj => by match j, hj with | 0, _ => rfl | 1, _ => rfl | 2, _ => rfl | 3, _ => rfl | j + 4, h => exact absurd h (by omega)
theorem fzX8 : ∀ j, j < 13 → defaultValue (tyX8 j) = vp_V (fieldsOf sl0 8) j := fun j hj => by match j, hj with | 0, _ => rfl | 1, _ => rfl | 2, _ => rfl | 3, _ => rfl | 4, _ => rfl | 5, _ => rfl | 6, _ => rfl | 7, _ => rfl | 8, _ => rfl | 9, _ => rfl | 10, _ => rfl | 11, _ => rfl | 12, _ => rfl | j + 13, h => exact absurd h (by omega)
theorem fzX9 : ∀ j, j < 47 → defaultValue (tyX9 j) = vp_V (fieldsOf sl0 9) j := fun j hj => by match j, hj with | 0, _ => rfl | 1, _ => rfl | 2, _ => rfl | 3, _ => rfl | 4, _ => rfl | 5, _ => rfl | 6, _ => rfl | 7, _ => rfl | 8, _ => rfl | 9, _ => rfl | 10, _ => rfl | 11, _ => rfl | 12, _ => rfl | 13, _ => rfl | 14, _ => rfl | 15, _ => rfl | 16, _ => rfl | 17, _ => rfl | 18, _ => rfl | 19, _ => rfl | 20, _ => rfl | 21, _ => rfl | 22, _ => rfl | 23, _ => rfl | 24, _ => rfl | 25, _ => rfl | 26, _ => rfl | 27, _ => rfl | 28, _ => rfl | 29, _ => rfl | 30, _ => rfl | 31, _ => rfl | 32, _ => rfl | 33, _ => rfl | 34, _ => rfl | 35, _ => rfl | 36, _ => rfl | 37, _ => rfl | 38, _ => rfl | 39, _ => rfl | 40, _ => rfl | 41, _ => rfl | 42, _ => rfl | 43, _ => rfl | 44, _ => rfl | 45, _ => rfl | 46, _ => rfl | j + 47, h => exact absurd h (by omega)
section BDE
variable {ρ : Type} {g : Bd} {G : Gy} {F : Fr} {nL : Nat} {Q : ρ → State → Prop} {k n : Nat} {den : Option ρ} {w : Wd} {pc : Nat} {lv : List (Nat × Value)} {st : List Value}
theorem bd_eqc {k' n' : Nat} (hk : k = k') (hn : n = n') (h : BD g G F nL Q k' n' den w pc lv st) : BD g G F nL Q k n den w pc lv st := by
  subst hk; subst hn; exact h
end BDE
def fX6_init (F : Fr) (N : Nat) (w : Wd) (l0 : Nat) (h0 : Nat) : Option (Wd) :=
  (ckE h0 (h0 + 0)).bind fun _ => some w
def fX7_init (F : Fr) (N : Nat) (w : Wd) (l0 : Nat) (h0 : Nat) : Option (Wd) :=
  (ckH h0 h0 3 1).bind fun _ =>
  (ckL F h0 11 31).bind fun _ =>
  bnd (zO w h0) fun w1 =>
  bnd (sR w1 700 l0 (some h0)) fun w3 =>
  (ckH h0 (h0 + 1) 3 1).bind fun _ =>
  (ckL F (h0 + 1) 11 31).bind fun _ =>
  bnd (zO w3 (h0 + 1)) fun w4 =>
  bnd (sR w4 701 l0 (some (h0 + 1))) fun w6 =>
  (ckH h0 (h0 + 2) 3 1).bind fun _ =>
  (ckL F (h0 + 2) 12 31).bind fun _ =>
  bnd (zO w6 (h0 + 2)) fun w7 =>
  bnd (sR w7 702 l0 (some (h0 + 2))) fun w9 =>
  (ckE (h0 + 3) (h0 + 3)).bind fun _ => some w9
def fX3_init (F : Fr) (N : Nat) (w : Wd) (l0 : Nat) (h0 : Nat) : Option (Wd) :=
  (ckH h0 h0 1 1).bind fun _ =>
  (ckL F h0 10 100).bind fun _ =>
  bnd (zO w h0) fun w1 =>
  bnd (sR w1 300 l0 (some h0)) fun w3 =>
  (ckE (h0 + 1) (h0 + 1)).bind fun _ => some w3
def fX4_init (F : Fr) (N : Nat) (w : Wd) (l0 : Nat) (h0 : Nat) : Option (Wd) :=
  (ckH h0 h0 4 1).bind fun _ =>
  (ckL F h0 11 60).bind fun _ =>
  bnd (zO w h0) fun w1 =>
  bnd (sR w1 400 l0 (some h0)) fun w3 =>
  (ckH h0 (h0 + 1) 4 1).bind fun _ =>
  (ckL F (h0 + 1) 11 60).bind fun _ =>
  bnd (zO w3 (h0 + 1)) fun w4 =>
  bnd (sR w4 401 l0 (some (h0 + 1))) fun w6 =>
  (ckH h0 (h0 + 2) 4 1).bind fun _ =>
  (ckL F (h0 + 2) 11 60).bind fun _ =>
  bnd (zO w6 (h0 + 2)) fun w7 =>
  bnd (sR w7 402 l0 (some (h0 + 2))) fun w9 =>
  (ckH h0 (h0 + 3) 4 1).bind fun _ =>
  (ckL F (h0 + 3) 12 60).bind fun _ =>
  bnd (zO w9 (h0 + 3)) fun w10 =>
  bnd (sR w10 403 l0 (some (h0 + 3))) fun w12 =>
  (ckE (h0 + 4) (h0 + 4)).bind fun _ => some w12
def fX0_init (F : Fr) (N : Nat) (w : Wd) (l0 : Nat) (h0 : Nat) : Option (Wd) :=
  (ckH h0 h0 2 1).bind fun _ =>
  (ckL F h0 11 961).bind fun _ =>
  bnd (zO w h0) fun w1 =>
  bnd (sR w1 0 l0 (some h0)) fun w3 =>
  (ckH h0 (h0 + 1) 2 1).bind fun _ =>
  (ckL F (h0 + 1) 11 30).bind fun _ =>
  bnd (zO w3 (h0 + 1)) fun w4 =>
  bnd (sR w4 1 l0 (some (h0 + 1))) fun w6 =>
  (ckE (h0 + 2) (h0 + 2)).bind fun _ => some w6
def fX1_init_62 (F : Fr) (N : Nat) (h0 : Nat) : Nat → Nat → Wd → Nat → Int32 → Option (Wd)
  | 0, _, _, _, _ => none
  | n + 1, h, w, l0, l1 =>
    (rdR (Fto F h) w 103 l0 15).bind fun r1 =>
    if (nI ((Fto F h).2.1 r1)) ≤ l1 then
    (ckE h (h0 + 56)).bind fun _ => some w
    else
    (rdR (Fto F h) w 103 l0 15).bind fun r3 =>
    (ckH h0 h 56 1).bind fun _ =>
    (ckN F h 7).bind fun _ =>
    bnd (zO w h) fun w4 =>
    (ckH h0 (h + 1) 56 3).bind fun _ =>
    (fX7_init F N w4 h (h + 1)).bind fun w6 =>
    (stR (Fto F (h + 4)) w6 r3 l1 h).bind fun w7 =>
    fX1_init_62 F N h0 n (h + 4) w7 l0 (l1 + 1)
def fX1_init (F : Fr) (N : Nat) (w : Wd) (l0 : Nat) (h0 : Nat) : Option (Wd) :=
  (ckH h0 h0 56 1).bind fun _ =>
  (ckL F h0 11 6).bind fun _ =>
  bnd (zO w h0) fun w8 =>
  bnd (sR w8 100 l0 (some h0)) fun w10 =>
  (ckH h0 (h0 + 1) 56 1).bind fun _ =>
  (ckL F (h0 + 1) 11 6).bind fun _ =>
  bnd (zO w10 (h0 + 1)) fun w11 =>
  bnd (sR w11 101 l0 (some (h0 + 1))) fun w13 =>
  (ckH h0 (h0 + 2) 56 1).bind fun _ =>
  (ckL F (h0 + 2) 11 6).bind fun _ =>
  bnd (zO w13 (h0 + 2)) fun w14 =>
  bnd (sR w14 102 l0 (some (h0 + 2))) fun w16 =>
  (ckH h0 (h0 + 3) 56 1).bind fun _ =>
  (ckL F (h0 + 3) 15 12).bind fun _ =>
  bnd (zO w16 (h0 + 3)) fun w17 =>
  bnd (sR w17 103 l0 (some (h0 + 3))) fun w19 =>
  (ckH h0 (h0 + 4) 56 1).bind fun _ =>
  (ckN F (h0 + 4) 7).bind fun _ =>
  bnd (zO w19 (h0 + 4)) fun w20 =>
  (ckH h0 (h0 + 5) 56 3).bind fun _ =>
  (fX7_init F N w20 (h0 + 4) (h0 + 5)).bind fun w22 =>
  bnd (sR w22 104 l0 (some (h0 + 4))) fun w23 =>
  bnd (sI w23 107 l0 50) fun w24 =>
  bnd (sI w24 108 l0 20) fun w25 =>
  fX1_init_62 F N h0 N (h0 + 8) w25 l0 0
def fX5_init (F : Fr) (N : Nat) (w : Wd) (l0 : Nat) (h0 : Nat) : Option (Wd) :=
  (ckH h0 h0 9 1).bind fun _ =>
  (ckL F h0 11 4).bind fun _ =>
  bnd (zO w h0) fun w1 =>
  bnd (sR w1 500 l0 (some h0)) fun w3 =>
  (ckH h0 (h0 + 1) 9 1).bind fun _ =>
  (ckL F (h0 + 1) 11 4).bind fun _ =>
  bnd (zO w3 (h0 + 1)) fun w4 =>
  bnd (sR w4 501 l0 (some (h0 + 1))) fun w6 =>
  (ckH h0 (h0 + 2) 9 1).bind fun _ =>
  (ckL F (h0 + 2) 12 4).bind fun _ =>
  bnd (zO w6 (h0 + 2)) fun w7 =>
  bnd (sR w7 502 l0 (some (h0 + 2))) fun w9 =>
  (ckH h0 (h0 + 3) 9 1).bind fun _ =>
  (ckL F (h0 + 3) 13 4).bind fun _ =>
  bnd (zO w9 (h0 + 3)) fun w10 =>
  bnd (sR w10 503 l0 (some (h0 + 3))) fun w12 =>
  (ckH h0 (h0 + 4) 9 1).bind fun _ =>
  (ckL F (h0 + 4) 11 120).bind fun _ =>
  bnd (zO w12 (h0 + 4)) fun w13 =>
  bnd (sR w13 504 l0 (some (h0 + 4))) fun w15 =>
  (ckH h0 (h0 + 5) 9 1).bind fun _ =>
  (ckN F (h0 + 5) 7).bind fun _ =>
  bnd (zO w15 (h0 + 5)) fun w16 =>
  (ckH h0 (h0 + 6) 9 3).bind fun _ =>
  (fX7_init F N w16 (h0 + 5) (h0 + 6)).bind fun w18 =>
  bnd (sR w18 505 l0 (some (h0 + 5))) fun w19 =>
  (ckE (h0 + 9) (h0 + 9)).bind fun _ => some w19
def fX2_init_15 (F : Fr) (N : Nat) (h0 : Nat) : Nat → Nat → Wd → Nat → Int32 → Option (Wd)
  | 0, _, _, _, _ => none
  | n + 1, h, w, l0, l1 =>
    (rdR (Fto F h) w 200 l0 14).bind fun r1 =>
    if (nI ((Fto F h).2.1 r1)) ≤ l1 then
    (ckE h (h0 + 457)).bind fun _ => some w
    else
    (rdR (Fto F h) w 200 l0 14).bind fun r3 =>
    (ckH h0 h 457 1).bind fun _ =>
    (ckN F h 1).bind fun _ =>
    bnd (zO w h) fun w4 =>
    (ckH h0 (h + 1) 457 56).bind fun _ =>
    (fX1_init F N w4 h (h + 1)).bind fun w6 =>
    (stR (Fto F (h + 57)) w6 r3 l1 h).bind fun w7 =>
    fX2_init_15 F N h0 n (h + 57) w7 l0 (l1 + 1)
def fX2_init (F : Fr) (N : Nat) (w : Wd) (l0 : Nat) (h0 : Nat) : Option (Wd) :=
  (ckH h0 h0 457 1).bind fun _ =>
  (ckL F h0 14 8).bind fun _ =>
  bnd (zO w h0) fun w8 =>
  bnd (sR w8 200 l0 (some h0)) fun w10 =>
  fX2_init_15 F N h0 N (h0 + 1) w10 l0 0
def fX8_init (F : Fr) (N : Nat) (w : Wd) (l0 : Nat) (h0 : Nat) : Option (Wd) :=
  (ckH h0 h0 660 1).bind fun _ =>
  (ckN F h0 1).bind fun _ =>
  bnd (zO w h0) fun w1 =>
  (ckH h0 (h0 + 1) 660 56).bind fun _ =>
  (fX1_init F N w1 h0 (h0 + 1)).bind fun w3 =>
  bnd (sR w3 800 l0 (some h0)) fun w4 =>
  (ckH h0 (h0 + 57) 660 1).bind fun _ =>
  (ckN F (h0 + 57) 1).bind fun _ =>
  bnd (zO w4 (h0 + 57)) fun w5 =>
  (ckH h0 (h0 + 58) 660 56).bind fun _ =>
  (fX1_init F N w5 (h0 + 57) (h0 + 58)).bind fun w7 =>
  bnd (sR w7 801 l0 (some (h0 + 57))) fun w8 =>
  (ckH h0 (h0 + 114) 660 1).bind fun _ =>
  (ckN F (h0 + 114) 1).bind fun _ =>
  bnd (zO w8 (h0 + 114)) fun w9 =>
  (ckH h0 (h0 + 115) 660 56).bind fun _ =>
  (fX1_init F N w9 (h0 + 114) (h0 + 115)).bind fun w11 =>
  bnd (sR w11 802 l0 (some (h0 + 114))) fun w12 =>
  (ckH h0 (h0 + 171) 660 1).bind fun _ =>
  (ckN F (h0 + 171) 2).bind fun _ =>
  bnd (zO w12 (h0 + 171)) fun w13 =>
  (ckH h0 (h0 + 172) 660 457).bind fun _ =>
  (fX2_init F N w13 (h0 + 171) (h0 + 172)).bind fun w15 =>
  bnd (sR w15 803 l0 (some (h0 + 171))) fun w16 =>
  (ckH h0 (h0 + 629) 660 1).bind fun _ =>
  (ckN F (h0 + 629) 3).bind fun _ =>
  bnd (zO w16 (h0 + 629)) fun w17 =>
  (ckH h0 (h0 + 630) 660 1).bind fun _ =>
  (fX3_init F N w17 (h0 + 629) (h0 + 630)).bind fun w19 =>
  bnd (sR w19 804 l0 (some (h0 + 629))) fun w20 =>
  (ckH h0 (h0 + 631) 660 1).bind fun _ =>
  (ckN F (h0 + 631) 6).bind fun _ =>
  bnd (zO w20 (h0 + 631)) fun w21 =>
  (ckH h0 (h0 + 632) 660 0).bind fun _ =>
  (fX6_init F N w21 (h0 + 631) (h0 + 632)).bind fun w23 =>
  bnd (sR w23 805 l0 (some (h0 + 631))) fun w24 =>
  (ckH h0 (h0 + 632) 660 1).bind fun _ =>
  (ckN F (h0 + 632) 0).bind fun _ =>
  bnd (zO w24 (h0 + 632)) fun w25 =>
  (ckH h0 (h0 + 633) 660 2).bind fun _ =>
  (fX0_init F N w25 (h0 + 632) (h0 + 633)).bind fun w27 =>
  bnd (sR w27 806 l0 (some (h0 + 632))) fun w28 =>
  (ckH h0 (h0 + 635) 660 1).bind fun _ =>
  (ckN F (h0 + 635) 4).bind fun _ =>
  bnd (zO w28 (h0 + 635)) fun w29 =>
  (ckH h0 (h0 + 636) 660 4).bind fun _ =>
  (fX4_init F N w29 (h0 + 635) (h0 + 636)).bind fun w31 =>
  bnd (sR w31 807 l0 (some (h0 + 635))) fun w32 =>
  (ckH h0 (h0 + 640) 660 1).bind fun _ =>
  (ckN F (h0 + 640) 5).bind fun _ =>
  bnd (zO w32 (h0 + 640)) fun w33 =>
  (ckH h0 (h0 + 641) 660 9).bind fun _ =>
  (fX5_init F N w33 (h0 + 640) (h0 + 641)).bind fun w35 =>
  bnd (sR w35 808 l0 (some (h0 + 640))) fun w36 =>
  (ckH h0 (h0 + 650) 660 1).bind fun _ =>
  (ckN F (h0 + 650) 5).bind fun _ =>
  bnd (zO w36 (h0 + 650)) fun w37 =>
  (ckH h0 (h0 + 651) 660 9).bind fun _ =>
  (fX5_init F N w37 (h0 + 650) (h0 + 651)).bind fun w39 =>
  bnd (sR w39 809 l0 (some (h0 + 650))) fun w40 =>
  bnd (sI w40 811 l0 (-1)) fun w41 =>
  bnd (sI w41 812 l0 (-1)) fun w42 =>
  (ckE (h0 + 660) (h0 + 660)).bind fun _ => some w42
def fX9_init (F : Fr) (N : Nat) (w : Wd) (l0 : Nat) (h0 : Nat) : Option (Wd) :=
  (ckH h0 h0 25 1).bind fun _ =>
  (ckL F h0 12 1114).bind fun _ =>
  bnd (zO w h0) fun w1 =>
  bnd (sR w1 900 l0 (some h0)) fun w3 =>
  (ckH h0 (h0 + 1) 25 1).bind fun _ =>
  (ckL F (h0 + 1) 12 1114).bind fun _ =>
  bnd (zO w3 (h0 + 1)) fun w4 =>
  bnd (sR w4 901 l0 (some (h0 + 1))) fun w6 =>
  (ckH h0 (h0 + 2) 25 1).bind fun _ =>
  (ckL F (h0 + 2) 12 1114).bind fun _ =>
  bnd (zO w6 (h0 + 2)) fun w7 =>
  bnd (sR w7 902 l0 (some (h0 + 2))) fun w9 =>
  (ckH h0 (h0 + 3) 25 1).bind fun _ =>
  (ckL F (h0 + 3) 12 8912).bind fun _ =>
  bnd (zO w9 (h0 + 3)) fun w10 =>
  bnd (sR w10 904 l0 (some (h0 + 3))) fun w12 =>
  (ckH h0 (h0 + 4) 25 1).bind fun _ =>
  (ckL F (h0 + 4) 11 100).bind fun _ =>
  bnd (zO w12 (h0 + 4)) fun w13 =>
  bnd (sR w13 907 l0 (some (h0 + 4))) fun w15 =>
  bnd (sI w15 911 l0 (-1)) fun w16 =>
  (ckH h0 (h0 + 5) 25 1).bind fun _ =>
  (ckL F (h0 + 5) 11 961).bind fun _ =>
  bnd (zO w16 (h0 + 5)) fun w17 =>
  bnd (sR w17 914 l0 (some (h0 + 5))) fun w19 =>
  (ckH h0 (h0 + 6) 25 1).bind fun _ =>
  (ckL F (h0 + 6) 11 961).bind fun _ =>
  bnd (zO w19 (h0 + 6)) fun w20 =>
  bnd (sR w20 915 l0 (some (h0 + 6))) fun w22 =>
  (ckH h0 (h0 + 7) 25 1).bind fun _ =>
  (ckL F (h0 + 7) 11 4).bind fun _ =>
  bnd (zO w22 (h0 + 7)) fun w23 =>
  bnd (sR w23 917 l0 (some (h0 + 7))) fun w25 =>
  (ckH h0 (h0 + 8) 25 1).bind fun _ =>
  (ckL F (h0 + 8) 11 4).bind fun _ =>
  bnd (zO w25 (h0 + 8)) fun w26 =>
  bnd (sR w26 918 l0 (some (h0 + 8))) fun w28 =>
  (ckH h0 (h0 + 9) 25 1).bind fun _ =>
  (ckL F (h0 + 9) 12 4).bind fun _ =>
  bnd (zO w28 (h0 + 9)) fun w29 =>
  bnd (sR w29 919 l0 (some (h0 + 9))) fun w31 =>
  (ckH h0 (h0 + 10) 25 1).bind fun _ =>
  (ckL F (h0 + 10) 13 4).bind fun _ =>
  bnd (zO w31 (h0 + 10)) fun w32 =>
  bnd (sR w32 920 l0 (some (h0 + 10))) fun w34 =>
  (ckH h0 (h0 + 11) 25 1).bind fun _ =>
  (ckL F (h0 + 11) 11 4).bind fun _ =>
  bnd (zO w34 (h0 + 11)) fun w35 =>
  bnd (sR w35 921 l0 (some (h0 + 11))) fun w37 =>
  (ckH h0 (h0 + 12) 25 1).bind fun _ =>
  (ckL F (h0 + 12) 12 4).bind fun _ =>
  bnd (zO w37 (h0 + 12)) fun w38 =>
  bnd (sR w38 922 l0 (some (h0 + 12))) fun w40 =>
  (ckH h0 (h0 + 13) 25 1).bind fun _ =>
  (ckL F (h0 + 13) 13 4).bind fun _ =>
  bnd (zO w40 (h0 + 13)) fun w41 =>
  bnd (sR w41 923 l0 (some (h0 + 13))) fun w43 =>
  (ckH h0 (h0 + 14) 25 1).bind fun _ =>
  (ckL F (h0 + 14) 11 4).bind fun _ =>
  bnd (zO w43 (h0 + 14)) fun w44 =>
  bnd (sR w44 925 l0 (some (h0 + 14))) fun w46 =>
  (ckH h0 (h0 + 15) 25 1).bind fun _ =>
  (ckL F (h0 + 15) 11 4).bind fun _ =>
  bnd (zO w46 (h0 + 15)) fun w47 =>
  bnd (sR w47 926 l0 (some (h0 + 15))) fun w49 =>
  (ckH h0 (h0 + 16) 25 1).bind fun _ =>
  (ckL F (h0 + 16) 11 60).bind fun _ =>
  bnd (zO w49 (h0 + 16)) fun w50 =>
  bnd (sR w50 929 l0 (some (h0 + 16))) fun w52 =>
  (ckH h0 (h0 + 17) 25 1).bind fun _ =>
  (ckL F (h0 + 17) 11 60).bind fun _ =>
  bnd (zO w52 (h0 + 17)) fun w53 =>
  bnd (sR w53 930 l0 (some (h0 + 17))) fun w55 =>
  (ckH h0 (h0 + 18) 25 1).bind fun _ =>
  (ckL F (h0 + 18) 12 60).bind fun _ =>
  bnd (zO w55 (h0 + 18)) fun w56 =>
  bnd (sR w56 931 l0 (some (h0 + 18))) fun w58 =>
  (ckH h0 (h0 + 19) 25 1).bind fun _ =>
  (ckL F (h0 + 19) 11 60).bind fun _ =>
  bnd (zO w58 (h0 + 19)) fun w59 =>
  bnd (sR w59 932 l0 (some (h0 + 19))) fun w61 =>
  (ckH h0 (h0 + 20) 25 1).bind fun _ =>
  (ckL F (h0 + 20) 12 2000).bind fun _ =>
  bnd (zO w61 (h0 + 20)) fun w62 =>
  bnd (sR w62 936 l0 (some (h0 + 20))) fun w64 =>
  (ckH h0 (h0 + 21) 25 1).bind fun _ =>
  (ckL F (h0 + 21) 11 100).bind fun _ =>
  bnd (zO w64 (h0 + 21)) fun w65 =>
  bnd (sR w65 941 l0 (some (h0 + 21))) fun w67 =>
  (ckH h0 (h0 + 22) 25 1).bind fun _ =>
  (ckL F (h0 + 22) 11 100).bind fun _ =>
  bnd (zO w67 (h0 + 22)) fun w68 =>
  bnd (sR w68 942 l0 (some (h0 + 22))) fun w70 =>
  (ckH h0 (h0 + 23) 25 1).bind fun _ =>
  (ckL F (h0 + 23) 11 100).bind fun _ =>
  bnd (zO w70 (h0 + 23)) fun w71 =>
  bnd (sR w71 943 l0 (some (h0 + 23))) fun w73 =>
  (ckH h0 (h0 + 24) 25 1).bind fun _ =>
  (ckL F (h0 + 24) 12 100).bind fun _ =>
  bnd (zO w73 (h0 + 24)) fun w74 =>
  bnd (sR w74 944 l0 (some (h0 + 24))) fun w76 =>
  bnd (sI w76 946 l0 (-1)) fun w77 =>
  (ckH h0 (h0 + 25) 25 0).bind fun _ =>
  (fX9_begin (Fto F (h0 + 25)) N w77 l0).bind fun p78 =>
  (ckE (h0 + 25) (h0 + 25)).bind fun _ => some p78
