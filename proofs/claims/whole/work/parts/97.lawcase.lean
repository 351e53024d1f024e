/-! the law, case by case (written by gen97.py) -/
theorem st_spTier (s : St) {a1 a2 : Int} : (spTier s a1 a2).2.2 = s := by
  unfold spTier
  repeat' (first | rfl | split)
theorem st_spBook (s : St) {a1 : Int} : (spBook s a1).2.2 = s := by
  unfold spBook
  repeat' (first | rfl | split)
theorem st_spSpan (s : St) {a1 a2 a3 : Int} : (spSpan s a1 a2 a3).2.2 = s := by
  unfold spSpan
  repeat' (first | rfl | split)
theorem st_spLetter (s : St) {a1 a2 a3 : Int} : (spLetter s a1 a2 a3).2.2 = s := by
  unfold spLetter
  repeat' (first | rfl | split)
theorem st_spSpanAt (s : St) {a1 a2 : Int} : (spSpanAt s a1 a2).2.2 = s := by
  unfold spSpanAt
  repeat' (first | rfl | split)
theorem st_spAligned (s : St) {a1 a2 a3 : Int} : (spAligned s a1 a2 a3).2.2 = s := by
  unfold spAligned
  repeat' (first | rfl | split)
theorem st_spMatch (s : St) {a1 a2 : Int} : (spMatch s a1 a2).2.2 = s := by
  unfold spMatch
  repeat' (first | rfl | split)
theorem st_spMerge (s : St) {a1 a2 : Int} : (spMerge s a1 a2).2.2 = s := by
  unfold spMerge
  repeat' (first | rfl | split)
theorem st_spMerged (s : St) {a1 a2 a3 : Int} : (spMerged s a1 a2 a3).2.2 = s := by
  unfold spMerged
  repeat' (first | rfl | split)
theorem st_spFrames (s : St) {a1 a2 : Int} : (spFrames s a1 a2).2.2 = s := by
  unfold spFrames
  repeat' (first | rfl | split)
theorem st_spErr (s : St) : (spErr s).2.2 = s := by
  unfold spErr
  repeat' (first | rfl | split)
theorem st_spItem (s : St) : (spItem s).2.2 = s := by
  unfold spItem
  repeat' (first | rfl | split)
theorem st_spRefusal (s : St) {b : Bool} : (spRefusal s b).2.2 = s := by
  unfold spRefusal
  repeat' (first | rfl | split)
theorem st_spAlignment (s : St) {t o : Int} {b : Bool} : (spAlignment s t o b).2.2 = s := by
  unfold spAlignment
  repeat' (first | rfl | split)
theorem wr_addTier (F : Fr) (N : Nat) (w : Wd) (l0 : Nat) (l1 : Int32) (l2 : Int32) (l3 : Int32) (l4 : Nat) : fL_addTier F N w l0 l1 l2 l3 l4 = wrp F l4 [0, 1, 2] (fX8_addTier F N w l0 l1 l2 l3) := rfl
theorem wr_select (F : Fr) (N : Nat) (w : Wd) (l0 : Nat) (l1 : Int32) (l2 : Nat) : fL_select F N w l0 l1 l2 = wrp F l2 [0] (fX8_select F N w l0 l1) := rfl
theorem wr_setSetting (F : Fr) (N : Nat) (w : Wd) (l0 : Nat) (l1 : Int32) (l2 : Int32) (l3 : Nat) : fL_setSetting F N w l0 l1 l2 l3 = wrp F l3 [1, 0] (fX8_setSetting F N w l0 l1 l2) := rfl
theorem wr_tier (F : Fr) (N : Nat) (w : Wd) (l0 : Nat) (l1 : Int32) (l2 : Int32) (l3 : Nat) : fL_tier F N w l0 l1 l2 l3 = wrp F l3 [1, 0] (fX8_tier F N w l0 l1 l2) := rfl
theorem wr_book (F : Fr) (N : Nat) (w : Wd) (l0 : Nat) (l1 : Int32) (l2 : Nat) : fL_book F N w l0 l1 l2 = wrp F l2 [0] (fX8_book F N w l0 l1) := rfl
theorem wr_append (F : Fr) (N : Nat) (w : Wd) (l0 : Nat) (l1 : Int32) (l2 : Nat) : fL_append F N w l0 l1 l2 = wrp F l2 [0, 2] (fX8_append F N w l0 l1) := rfl
theorem wr_addSpan (F : Fr) (N : Nat) (w : Wd) (l0 : Nat) (l1 : Int32) (l2 : Int32) (l3 : Int32) (l4 : Nat) : fL_addSpan F N w l0 l1 l2 l3 l4 = wrp F l4 [1, 0, 3] (fX8_addSpan F N w l0 l1 l2 l3) := rfl
theorem wr_removeSpan (F : Fr) (N : Nat) (w : Wd) (l0 : Nat) (l1 : Int32) (l2 : Int32) (l3 : Nat) : fL_removeSpan F N w l0 l1 l2 l3 = wrp F l3 [1] (fX8_removeSpan F N w l0 l1 l2) := rfl
theorem wr_moveSpan (F : Fr) (N : Nat) (w : Wd) (l0 : Nat) (l1 : Int32) (l2 : Int32) (l3 : Int32) (l4 : Int32) (l5 : Nat) : fL_moveSpan F N w l0 l1 l2 l3 l4 l5 = wrp F l5 [1, 3] (fX8_moveSpan F N w l0 l1 l2 l3 l4) := rfl
theorem wr_rename (F : Fr) (N : Nat) (w : Wd) (l0 : Nat) (l1 : Int32) (l2 : Int32) (l3 : Nat) : fL_rename F N w l0 l1 l2 l3 = wrp F l3 [1, 0] (fX8_rename F N w l0 l1 l2) := rfl
theorem wr_split (F : Fr) (N : Nat) (w : Wd) (l0 : Nat) (l1 : Int32) (l2 : Int32) (l3 : Int32) (l4 : Nat) : fL_split F N w l0 l1 l2 l3 l4 = wrp F l4 [1, 3] (fX8_split F N w l0 l1 l2 l3) := rfl
theorem wr_join (F : Fr) (N : Nat) (w : Wd) (l0 : Nat) (l1 : Int32) (l2 : Int32) (l3 : Nat) : fL_join F N w l0 l1 l2 l3 = wrp F l3 [1, 3] (fX8_join F N w l0 l1 l2) := rfl
theorem wr_span (F : Fr) (N : Nat) (w : Wd) (l0 : Nat) (l1 : Int32) (l2 : Int32) (l3 : Int32) (l4 : Nat) : fL_span F N w l0 l1 l2 l3 l4 = wrp F l4 [1, 0] (fX8_span F N w l0 l1 l2 l3) := rfl
theorem wr_letter (F : Fr) (N : Nat) (w : Wd) (l0 : Nat) (l1 : Int32) (l2 : Int32) (l3 : Int32) (l4 : Nat) : fL_letter F N w l0 l1 l2 l3 l4 = wrp F l4 [1, 4] (fX8_letter F N w l0 l1 l2 l3) := rfl
theorem wr_spanAt (F : Fr) (N : Nat) (w : Wd) (l0 : Nat) (l1 : Int32) (l2 : Int32) (l3 : Nat) : fL_spanAt F N w l0 l1 l2 l3 = wrp F l3 [1] (fX8_spanAt F N w l0 l1 l2) := rfl
theorem wr_aligned (F : Fr) (N : Nat) (w : Wd) (l0 : Nat) (l1 : Int32) (l2 : Int32) (l3 : Int32) (l4 : Nat) : fL_aligned F N w l0 l1 l2 l3 l4 = wrp F l4 [1] (fX8_aligned F N w l0 l1 l2 l3) := rfl
theorem wr_search (F : Fr) (N : Nat) (w : Wd) (l0 : Nat) (l1 : Nat) : fL_search F N w l0 l1 = wrp F l1 [0] (fX8_search F N w l0) := rfl
theorem wr_match (F : Fr) (N : Nat) (w : Wd) (l0 : Nat) (l1 : Int32) (l2 : Int32) (l3 : Nat) : fL_match F N w l0 l1 l2 l3 = wrp F l3 [2, 4] (fX8_match F N w l0 l1 l2) := rfl
theorem wr_merge (F : Fr) (N : Nat) (w : Wd) (l0 : Nat) (l1 : Int32) (l2 : Int32) (l3 : Nat) : fL_merge F N w l0 l1 l2 l3 = wrp F l3 [1, 0] (fX8_merge F N w l0 l1 l2) := rfl
theorem wr_merged (F : Fr) (N : Nat) (w : Wd) (l0 : Nat) (l1 : Int32) (l2 : Int32) (l3 : Int32) (l4 : Nat) : fL_merged F N w l0 l1 l2 l3 l4 = wrp F l4 [1, 4, 0] (fX8_merged F N w l0 l1 l2 l3) := rfl
theorem wr_frames (F : Fr) (N : Nat) (w : Wd) (l0 : Nat) (l1 : Int32) (l2 : Int32) (l3 : Nat) : fL_frames F N w l0 l1 l2 l3 = wrp F l3 [1, 0] (fX8_frames F N w l0 l1 l2) := rfl
theorem wr_read (F : Fr) (N : Nat) (w : Wd) (l0 : Nat) (l1 : Nat) : fL_read F N w l0 l1 = wrp F l1 [0, 3] (fX8_read F N w l0) := rfl
theorem wr_errorPosition (F : Fr) (N : Nat) (w : Wd) (l0 : Nat) (l1 : Nat) : fL_errorPosition F N w l0 l1 = wrp F l1 [4] (fX8_errorPosition F N w l0) := rfl
theorem wr_refusedItem (F : Fr) (N : Nat) (w : Wd) (l0 : Nat) (l1 : Nat) : fL_refusedItem F N w l0 l1 = wrp F l1 [4] (fX8_refusedItem F N w l0) := rfl
theorem wr_undo (F : Fr) (N : Nat) (w : Wd) (l0 : Nat) (l1 : Nat) : fL_undo F N w l0 l1 = wrp F l1 [2] (fX8_undo F N w l0) := rfl
theorem wr_restore (F : Fr) (N : Nat) (w : Wd) (l0 : Nat) (l1 : Nat) : fL_restore F N w l0 l1 = wrp F l1 [2] (fX8_restore F N w l0) := rfl
theorem wr_refusal (F : Fr) (N : Nat) (w : Wd) (l0 : Nat) (l1 : Int32) (l2 : Nat) : fL_refusal F N w l0 l1 l2 = wrp F l2 [4] (fX8_refusal F N w l0 l1) := rfl
theorem wr_alignment (F : Fr) (N : Nat) (w : Wd) (l0 : Nat) (l1 : Int32) (l2 : Int32) (l3 : Int32) (l4 : Nat) : fL_alignment F N w l0 l1 l2 l3 l4 = wrp F l4 [1] (fX8_alignment F N w l0 l1 l2 l3) := rfl
section LAWS
variable {F : Fr} {N L : Nat} {xs : Nat → Int32} {w : Wd} {h i j : Nat} {s : St} {k28 : Nat → Wd → Nat → Nat → Nat → Nat → Int32 → Option Unit}
-- case 1
theorem law_205 (A : LF F h) (I : Inv F w h s) (hN : 2100 ≤ N) (hL : L ≤ 2560) (hi : i + 5 ≤ L) (hk : ∀ w' s', Inv F w' h s' → k28 (j + 1) w' h (h + 661) (h + 687) (h + 688) (zI i + 5) = some ()) : fL_law_205 F N L xs k28 j w h (h + 661) (h + 687) (h + 688) (zI i) = some () := by
  obtain ⟨a1, i1, e1⟩ := ldS_1 (xs := xs) hi hL
  obtain ⟨a2, i2, e2⟩ := ldS_2 (xs := xs) hi hL
  obtain ⟨a3, i3, e3⟩ := ldS_3 (xs := xs) hi hL
  have V := I.1
  obtain ⟨zp, zn, C⟩ := I.2.1
  unfold fL_law_205
  rw [e1, e2, e3]
  simp only [Option.bind_some]
  rw [wr_addTier]
  exact stp (r := spAddTier s a1 a2 a3) A I (by decide) (by decide) (vs_addTier V) (c8_addTier C V (by omega) i1 i2 i3) (m9 := fun w1 => fX9_addTier F N w1 (h + 661) (zI a1) (zI a2) (zI a3)) (fun w1 M => m_addTier M V i1 i2 i3) (k28 := fun w' => k28 (j + 1) w' h (h + 661) (h + 687) (h + 688) (zI i + 5)) (fun w' I' => hk w' _ I')
-- case 2
theorem law_285 (A : LF F h) (I : Inv F w h s) (hN : 2100 ≤ N) (hL : L ≤ 2560) (hi : i + 5 ≤ L) (hk : ∀ w' s', Inv F w' h s' → k28 (j + 1) w' h (h + 661) (h + 687) (h + 688) (zI i + 5) = some ()) : fL_law_285 F N L xs k28 j w h (h + 661) (h + 687) (h + 688) (zI i) = some () := by
  obtain ⟨a1, i1, e1⟩ := ldS_1 (xs := xs) hi hL
  have V := I.1
  obtain ⟨zp, zn, C⟩ := I.2.1
  unfold fL_law_285
  rw [e1]
  simp only [Option.bind_some]
  rw [wr_select]
  exact stp (r := spSelect s a1) A I (by decide) (by decide) (vs_select V) (c8_select C (by omega) i1) (m9 := fun w1 => fX9_select F N w1 (h + 661) (zI a1)) (fun w1 M => m_select M V i1) (k28 := fun w' => k28 (j + 1) w' h (h + 661) (h + 687) (h + 688) (zI i + 5)) (fun w' I' => hk w' _ I')
-- case 3
theorem law_341 (A : LF F h) (I : Inv F w h s) (hN : 2100 ≤ N) (hL : L ≤ 2560) (hi : i + 5 ≤ L) (hk : ∀ w' s', Inv F w' h s' → k28 (j + 1) w' h (h + 661) (h + 687) (h + 688) (zI i + 5) = some ()) : fL_law_341 F N L xs k28 j w h (h + 661) (h + 687) (h + 688) (zI i) = some () := by
  obtain ⟨a1, i1, e1⟩ := ldS_1 (xs := xs) hi hL
  obtain ⟨a2, i2, e2⟩ := ldS_2 (xs := xs) hi hL
  have V := I.1
  obtain ⟨zp, zn, C⟩ := I.2.1
  unfold fL_law_341
  rw [e1, e2]
  simp only [Option.bind_some]
  rw [wr_setSetting]
  exact stp (r := spSetting s a1 a2) A I (by decide) (by decide) (vs_setting V) (c8_setSetting C (by omega) i1 i2) (m9 := fun w1 => fX9_setSetting F N w1 (h + 661) (zI a1) (zI a2)) (fun w1 M => m_setSetting M V i1 i2) (k28 := fun w' => k28 (j + 1) w' h (h + 661) (h + 687) (h + 688) (zI i + 5)) (fun w' I' => hk w' _ I')
-- case 4
theorem law_409 (A : LF F h) (I : Inv F w h s) (hN : 2100 ≤ N) (hL : L ≤ 2560) (hi : i + 5 ≤ L) (hk : ∀ w' s', Inv F w' h s' → k28 (j + 1) w' h (h + 661) (h + 687) (h + 688) (zI i + 5) = some ()) : fL_law_409 F N L xs k28 j w h (h + 661) (h + 687) (h + 688) (zI i) = some () := by
  obtain ⟨a1, i1, e1⟩ := ldS_1 (xs := xs) hi hL
  obtain ⟨a2, i2, e2⟩ := ldS_2 (xs := xs) hi hL
  have V := I.1
  obtain ⟨zp, zn, C⟩ := I.2.1
  unfold fL_law_409
  rw [e1, e2]
  simp only [Option.bind_some]
  rw [wr_tier]
  exact stp (r := spTier s a1 a2) A I (by decide) (by decide) (by rw [st_spTier]; exact V) (c8_tier C V (by omega) i1 i2) (m9 := fun w1 => fX9_tier F N w1 (h + 661) (zI a1) (zI a2)) (fun w1 M => m_tier M V (by omega) i1 i2) (k28 := fun w' => k28 (j + 1) w' h (h + 661) (h + 687) (h + 688) (zI i + 5)) (fun w' I' => hk w' _ I')
-- case 5
theorem law_477 (A : LF F h) (I : Inv F w h s) (hN : 2100 ≤ N) (hL : L ≤ 2560) (hi : i + 5 ≤ L) (hk : ∀ w' s', Inv F w' h s' → k28 (j + 1) w' h (h + 661) (h + 687) (h + 688) (zI i + 5) = some ()) : fL_law_477 F N L xs k28 j w h (h + 661) (h + 687) (h + 688) (zI i) = some () := by
  obtain ⟨a1, i1, e1⟩ := ldS_1 (xs := xs) hi hL
  have V := I.1
  obtain ⟨zp, zn, C⟩ := I.2.1
  unfold fL_law_477
  rw [e1]
  simp only [Option.bind_some]
  rw [wr_book]
  exact stp (r := spBook s a1) A I (by decide) (by decide) (by rw [st_spBook]; exact V) (c8_book C (by omega) i1) (m9 := fun w1 => fX9_book F N w1 (h + 661) (zI a1)) (fun w1 M => m_book M V (by omega) i1) (k28 := fun w' => k28 (j + 1) w' h (h + 661) (h + 687) (h + 688) (zI i + 5)) (fun w' I' => hk w' _ I')
-- case 6
theorem law_533 (A : LF F h) (I : Inv F w h s) (hN : 2100 ≤ N) (hL : L ≤ 2560) (hi : i + 5 ≤ L) (hk : ∀ w' s', Inv F w' h s' → k28 (j + 1) w' h (h + 661) (h + 687) (h + 688) (zI i + 5) = some ()) : fL_law_533 F N L xs k28 j w h (h + 661) (h + 687) (h + 688) (zI i) = some () := by
  obtain ⟨a1, i1, e1⟩ := ldS_1 (xs := xs) hi hL
  have V := I.1
  obtain ⟨zp, zn, C⟩ := I.2.1
  unfold fL_law_533
  rw [e1]
  simp only [Option.bind_some]
  rw [wr_append]
  exact stp (r := spAppend s (zI a1)) A I (by decide) (by decide) (vs_append V) (c8_append C V (by omega)) (m9 := fun w1 => fX9_append F N w1 (h + 661) (zI a1)) (fun w1 M => m_append M V (by omega)) (k28 := fun w' => k28 (j + 1) w' h (h + 661) (h + 687) (h + 688) (zI i + 5)) (fun w' I' => hk w' _ I')
-- case 7
theorem law_589 (A : LF F h) (I : Inv F w h s) (hN : 2100 ≤ N) (hL : L ≤ 2560) (hi : i + 5 ≤ L) (hk : ∀ w' s', Inv F w' h s' → k28 (j + 1) w' h (h + 661) (h + 687) (h + 688) (zI i + 5) = some ()) : fL_law_589 F N L xs k28 j w h (h + 661) (h + 687) (h + 688) (zI i) = some () := by
  obtain ⟨a1, i1, e1⟩ := ldS_1 (xs := xs) hi hL
  obtain ⟨a2, i2, e2⟩ := ldS_2 (xs := xs) hi hL
  obtain ⟨a3, i3, e3⟩ := ldS_3 (xs := xs) hi hL
  have V := I.1
  obtain ⟨zp, zn, C⟩ := I.2.1
  unfold fL_law_589
  rw [e1, e2, e3]
  simp only [Option.bind_some]
  rw [wr_addSpan]
  exact stp (r := spAddSpan s a1 a2 a3) A I (by decide) (by decide) (vs_addSpan V) (c8_addSpan C V (by omega) i1 i2 i3) (m9 := fun w1 => fX9_addSpan F N w1 (h + 661) (zI a1) (zI a2) (zI a3)) (fun w1 M => m_addSpan M V (by omega) i1 i2 i3) (k28 := fun w' => k28 (j + 1) w' h (h + 661) (h + 687) (h + 688) (zI i + 5)) (fun w' I' => hk w' _ I')
-- case 8
theorem law_669 (A : LF F h) (I : Inv F w h s) (hN : 2100 ≤ N) (hL : L ≤ 2560) (hi : i + 5 ≤ L) (hk : ∀ w' s', Inv F w' h s' → k28 (j + 1) w' h (h + 661) (h + 687) (h + 688) (zI i + 5) = some ()) : fL_law_669 F N L xs k28 j w h (h + 661) (h + 687) (h + 688) (zI i) = some () := by
  obtain ⟨a1, i1, e1⟩ := ldS_1 (xs := xs) hi hL
  obtain ⟨a2, i2, e2⟩ := ldS_2 (xs := xs) hi hL
  have V := I.1
  obtain ⟨zp, zn, C⟩ := I.2.1
  unfold fL_law_669
  rw [e1, e2]
  simp only [Option.bind_some]
  rw [wr_removeSpan]
  exact stp (r := spRemove s a1 a2) A I (by decide) (by decide) (vs_remove V) (c8_removeSpan C V (by omega) i1 i2) (m9 := fun w1 => fX9_removeSpan F N w1 (h + 661) (zI a1) (zI a2)) (fun w1 M => m_remove M V (by omega) i1 i2) (k28 := fun w' => k28 (j + 1) w' h (h + 661) (h + 687) (h + 688) (zI i + 5)) (fun w' I' => hk w' _ I')
-- case 9
theorem law_737 (A : LF F h) (I : Inv F w h s) (hN : 2100 ≤ N) (hL : L ≤ 2560) (hi : i + 5 ≤ L) (hk : ∀ w' s', Inv F w' h s' → k28 (j + 1) w' h (h + 661) (h + 687) (h + 688) (zI i + 5) = some ()) : fL_law_737 F N L xs k28 j w h (h + 661) (h + 687) (h + 688) (zI i) = some () := by
  obtain ⟨a1, i1, e1⟩ := ldS_1 (xs := xs) hi hL
  obtain ⟨a2, i2, e2⟩ := ldS_2 (xs := xs) hi hL
  obtain ⟨a3, i3, e3⟩ := ldS_3 (xs := xs) hi hL
  obtain ⟨a4, i4, e4⟩ := ldS_4 (xs := xs) hi hL
  have V := I.1
  obtain ⟨zp, zn, C⟩ := I.2.1
  unfold fL_law_737
  rw [e1, e2, e3, e4]
  simp only [Option.bind_some]
  rw [wr_moveSpan]
  exact stp (r := spMove s a1 a2 a3 a4) A I (by decide) (by decide) (vs_move V) (c8_moveSpan C V (by omega) i1 i2 i3 i4) (m9 := fun w1 => fX9_moveSpan F N w1 (h + 661) (zI a1) (zI a2) (zI a3) (zI a4)) (fun w1 M => m_move M V (by omega) i1 i2 i3 i4) (k28 := fun w' => k28 (j + 1) w' h (h + 661) (h + 687) (h + 688) (zI i + 5)) (fun w' I' => hk w' _ I')
-- case 10
theorem law_829 (A : LF F h) (I : Inv F w h s) (hN : 2100 ≤ N) (hL : L ≤ 2560) (hi : i + 5 ≤ L) (hk : ∀ w' s', Inv F w' h s' → k28 (j + 1) w' h (h + 661) (h + 687) (h + 688) (zI i + 5) = some ()) : fL_law_829 F N L xs k28 j w h (h + 661) (h + 687) (h + 688) (zI i) = some () := by
  obtain ⟨a1, i1, e1⟩ := ldS_1 (xs := xs) hi hL
  obtain ⟨a2, i2, e2⟩ := ldS_2 (xs := xs) hi hL
  have V := I.1
  obtain ⟨zp, zn, C⟩ := I.2.1
  unfold fL_law_829
  rw [e1, e2]
  simp only [Option.bind_some]
  rw [wr_rename]
  exact stp (r := spRename s a1 a2) A I (by decide) (by decide) (vs_rename V) (c8_rename C V (by omega) i1 i2) (m9 := fun w1 => fX9_rename F N w1 (h + 661) (zI a1) (zI a2)) (fun w1 M => m_rename M V (by omega) i1 i2) (k28 := fun w' => k28 (j + 1) w' h (h + 661) (h + 687) (h + 688) (zI i + 5)) (fun w' I' => hk w' _ I')
-- case 11
theorem law_897 (A : LF F h) (I : Inv F w h s) (hN : 2100 ≤ N) (hL : L ≤ 2560) (hi : i + 5 ≤ L) (hk : ∀ w' s', Inv F w' h s' → k28 (j + 1) w' h (h + 661) (h + 687) (h + 688) (zI i + 5) = some ()) : fL_law_897 F N L xs k28 j w h (h + 661) (h + 687) (h + 688) (zI i) = some () := by
  obtain ⟨a1, i1, e1⟩ := ldS_1 (xs := xs) hi hL
  obtain ⟨a2, i2, e2⟩ := ldS_2 (xs := xs) hi hL
  obtain ⟨a3, i3, e3⟩ := ldS_3 (xs := xs) hi hL
  have V := I.1
  obtain ⟨zp, zn, C⟩ := I.2.1
  unfold fL_law_897
  rw [e1, e2, e3]
  simp only [Option.bind_some]
  rw [wr_split]
  exact stp (r := spSplit s a1 a2 a3) A I (by decide) (by decide) (vs_split V) (c8_split C V (by omega) i1 i2 i3) (m9 := fun w1 => fX9_split F N w1 (h + 661) (zI a1) (zI a2) (zI a3)) (fun w1 M => m_split M V (by omega) i1 i2 i3) (k28 := fun w' => k28 (j + 1) w' h (h + 661) (h + 687) (h + 688) (zI i + 5)) (fun w' I' => hk w' _ I')
-- case 12
theorem law_977 (A : LF F h) (I : Inv F w h s) (hN : 2100 ≤ N) (hL : L ≤ 2560) (hi : i + 5 ≤ L) (hk : ∀ w' s', Inv F w' h s' → k28 (j + 1) w' h (h + 661) (h + 687) (h + 688) (zI i + 5) = some ()) : fL_law_977 F N L xs k28 j w h (h + 661) (h + 687) (h + 688) (zI i) = some () := by
  obtain ⟨a1, i1, e1⟩ := ldS_1 (xs := xs) hi hL
  obtain ⟨a2, i2, e2⟩ := ldS_2 (xs := xs) hi hL
  have V := I.1
  obtain ⟨zp, zn, C⟩ := I.2.1
  unfold fL_law_977
  rw [e1, e2]
  simp only [Option.bind_some]
  rw [wr_join]
  exact stp (r := spJoin s a1 a2) A I (by decide) (by decide) (vs_join V) (c8_join C V (by omega) i1 i2) (m9 := fun w1 => fX9_join F N w1 (h + 661) (zI a1) (zI a2)) (fun w1 M => m_join M V (by omega) i1 i2) (k28 := fun w' => k28 (j + 1) w' h (h + 661) (h + 687) (h + 688) (zI i + 5)) (fun w' I' => hk w' _ I')
-- case 13
theorem law_1045 (A : LF F h) (I : Inv F w h s) (hN : 2100 ≤ N) (hL : L ≤ 2560) (hi : i + 5 ≤ L) (hk : ∀ w' s', Inv F w' h s' → k28 (j + 1) w' h (h + 661) (h + 687) (h + 688) (zI i + 5) = some ()) : fL_law_1045 F N L xs k28 j w h (h + 661) (h + 687) (h + 688) (zI i) = some () := by
  obtain ⟨a1, i1, e1⟩ := ldS_1 (xs := xs) hi hL
  obtain ⟨a2, i2, e2⟩ := ldS_2 (xs := xs) hi hL
  obtain ⟨a3, i3, e3⟩ := ldS_3 (xs := xs) hi hL
  have V := I.1
  obtain ⟨zp, zn, C⟩ := I.2.1
  unfold fL_law_1045
  rw [e1, e2, e3]
  simp only [Option.bind_some]
  rw [wr_span]
  exact stp (r := spSpan s a1 a2 a3) A I (by decide) (by decide) (by rw [st_spSpan]; exact V) (c8_span C V (by omega) i1 i2 i3) (m9 := fun w1 => fX9_span F N w1 (h + 661) (zI a1) (zI a2) (zI a3)) (fun w1 M => m_span M V (by omega) i1 i2 i3) (k28 := fun w' => k28 (j + 1) w' h (h + 661) (h + 687) (h + 688) (zI i + 5)) (fun w' I' => hk w' _ I')
-- case 14
theorem law_1125 (A : LF F h) (I : Inv F w h s) (hN : 2100 ≤ N) (hL : L ≤ 2560) (hi : i + 5 ≤ L) (hk : ∀ w' s', Inv F w' h s' → k28 (j + 1) w' h (h + 661) (h + 687) (h + 688) (zI i + 5) = some ()) : fL_law_1125 F N L xs k28 j w h (h + 661) (h + 687) (h + 688) (zI i) = some () := by
  obtain ⟨a1, i1, e1⟩ := ldS_1 (xs := xs) hi hL
  obtain ⟨a2, i2, e2⟩ := ldS_2 (xs := xs) hi hL
  obtain ⟨a3, i3, e3⟩ := ldS_3 (xs := xs) hi hL
  have V := I.1
  obtain ⟨zp, zn, C⟩ := I.2.1
  unfold fL_law_1125
  rw [e1, e2, e3]
  simp only [Option.bind_some]
  rw [wr_letter]
  exact stp (r := spLetter s a1 a2 a3) A I (by decide) (by decide) (by rw [st_spLetter]; exact V) (c8_letter C V (by omega) i1 i2 i3) (m9 := fun w1 => fX9_letter F N w1 (h + 661) (zI a1) (zI a2) (zI a3)) (fun w1 M => m_letterC M V (by omega) i1 i2 i3) (k28 := fun w' => k28 (j + 1) w' h (h + 661) (h + 687) (h + 688) (zI i + 5)) (fun w' I' => hk w' _ I')
-- case 15
theorem law_1205 (A : LF F h) (I : Inv F w h s) (hN : 2100 ≤ N) (hL : L ≤ 2560) (hi : i + 5 ≤ L) (hk : ∀ w' s', Inv F w' h s' → k28 (j + 1) w' h (h + 661) (h + 687) (h + 688) (zI i + 5) = some ()) : fL_law_1205 F N L xs k28 j w h (h + 661) (h + 687) (h + 688) (zI i) = some () := by
  obtain ⟨a1, i1, e1⟩ := ldS_1 (xs := xs) hi hL
  obtain ⟨a2, i2, e2⟩ := ldS_2 (xs := xs) hi hL
  have V := I.1
  obtain ⟨zp, zn, C⟩ := I.2.1
  unfold fL_law_1205
  rw [e1, e2]
  simp only [Option.bind_some]
  rw [wr_spanAt]
  exact stp (r := spSpanAt s a1 a2) A I (by decide) (by decide) (by rw [st_spSpanAt]; exact V) (c8_spanAt C V (by omega) i1 i2) (m9 := fun w1 => fX9_spanAt F N w1 (h + 661) (zI a1) (zI a2)) (fun w1 M => m_spanAt M V (by omega) i1 i2) (k28 := fun w' => k28 (j + 1) w' h (h + 661) (h + 687) (h + 688) (zI i + 5)) (fun w' I' => hk w' _ I')
-- case 17
theorem law_1345 (A : LF F h) (I : Inv F w h s) (hN : 2100 ≤ N) (hL : L ≤ 2560) (hi : i + 5 ≤ L) (hk : ∀ w' s', Inv F w' h s' → k28 (j + 1) w' h (h + 661) (h + 687) (h + 688) (zI i + 5) = some ()) : fL_law_1345 F N L xs k28 j w h (h + 661) (h + 687) (h + 688) (zI i) = some () := by
  obtain ⟨a1, i1, e1⟩ := ldS_1 (xs := xs) hi hL
  obtain ⟨a2, i2, e2⟩ := ldS_2 (xs := xs) hi hL
  obtain ⟨a3, i3, e3⟩ := ldS_3 (xs := xs) hi hL
  have V := I.1
  obtain ⟨zp, zn, C⟩ := I.2.1
  unfold fL_law_1345
  rw [e1, e2, e3]
  simp only [Option.bind_some]
  rw [wr_aligned]
  exact stp (r := spAligned s a1 a2 a3) A I (by decide) (by decide) (by rw [st_spAligned]; exact V) (c8_aligned C V (by omega) i1 i2 i3) (m9 := fun w1 => fX9_aligned F N w1 (h + 661) (zI a1) (zI a2) (zI a3)) (fun w1 M => m_aligned M V (by omega) i1 i2 i3) (k28 := fun w' => k28 (j + 1) w' h (h + 661) (h + 687) (h + 688) (zI i + 5)) (fun w' I' => hk w' _ I')
-- case 19
theorem law_1521 (A : LF F h) (I : Inv F w h s) (hN : 2100 ≤ N) (hL : L ≤ 2560) (hi : i + 5 ≤ L) (hk : ∀ w' s', Inv F w' h s' → k28 (j + 1) w' h (h + 661) (h + 687) (h + 688) (zI i + 5) = some ()) : fL_law_1521 F N L xs k28 j w h (h + 661) (h + 687) (h + 688) (zI i) = some () := by
  have V := I.1
  obtain ⟨zp, zn, C⟩ := I.2.1
  unfold fL_law_1521
  rw [wr_search]
  exact stp (r := spSearch s) A I (by decide) (by decide) (vs_search V) (c8_search C V (by omega)) (m9 := fun w1 => fX9_search F N w1 (h + 661)) (fun w1 M => m_search M V (by omega)) (k28 := fun w' => k28 (j + 1) w' h (h + 661) (h + 687) (h + 688) (zI i + 5)) (fun w' I' => hk w' _ I')
-- case 20
theorem law_1565 (A : LF F h) (I : Inv F w h s) (hN : 2100 ≤ N) (hL : L ≤ 2560) (hi : i + 5 ≤ L) (hk : ∀ w' s', Inv F w' h s' → k28 (j + 1) w' h (h + 661) (h + 687) (h + 688) (zI i + 5) = some ()) : fL_law_1565 F N L xs k28 j w h (h + 661) (h + 687) (h + 688) (zI i) = some () := by
  obtain ⟨a1, i1, e1⟩ := ldS_1 (xs := xs) hi hL
  obtain ⟨a2, i2, e2⟩ := ldS_2 (xs := xs) hi hL
  have V := I.1
  obtain ⟨zp, zn, C⟩ := I.2.1
  unfold fL_law_1565
  rw [e1, e2]
  simp only [Option.bind_some]
  rw [wr_match]
  exact stp (r := spMatch s a1 a2) A I (by decide) (by decide) (by rw [st_spMatch]; exact V) (c8_match C V (by omega) i1 i2) (m9 := fun w1 => fX9_match_ F N w1 (h + 661) (zI a1) (zI a2)) (fun w1 M => m_matchC M V (by omega) i1 i2) (k28 := fun w' => k28 (j + 1) w' h (h + 661) (h + 687) (h + 688) (zI i + 5)) (fun w' I' => hk w' _ I')
-- case 21
theorem law_1633 (A : LF F h) (I : Inv F w h s) (hN : 2100 ≤ N) (hL : L ≤ 2560) (hi : i + 5 ≤ L) (hk : ∀ w' s', Inv F w' h s' → k28 (j + 1) w' h (h + 661) (h + 687) (h + 688) (zI i + 5) = some ()) : fL_law_1633 F N L xs k28 j w h (h + 661) (h + 687) (h + 688) (zI i) = some () := by
  obtain ⟨a1, i1, e1⟩ := ldS_1 (xs := xs) hi hL
  obtain ⟨a2, i2, e2⟩ := ldS_2 (xs := xs) hi hL
  have V := I.1
  obtain ⟨zp, zn, C⟩ := I.2.1
  unfold fL_law_1633
  rw [e1, e2]
  simp only [Option.bind_some]
  rw [wr_merge]
  exact stp (r := spMerge s a1 a2) A I (by decide) (by decide) (by rw [st_spMerge]; exact V) (c8_merge C V (by omega) i1 i2) (m9 := fun w1 => fX9_merge F N w1 (h + 661) (zI a1) (zI a2)) (fun w1 M => m_merge M V (by omega) i1 i2) (k28 := fun w' => k28 (j + 1) w' h (h + 661) (h + 687) (h + 688) (zI i + 5)) (fun w' I' => hk w' _ I')
-- case 22
theorem law_1701 (A : LF F h) (I : Inv F w h s) (hN : 2100 ≤ N) (hL : L ≤ 2560) (hi : i + 5 ≤ L) (hk : ∀ w' s', Inv F w' h s' → k28 (j + 1) w' h (h + 661) (h + 687) (h + 688) (zI i + 5) = some ()) : fL_law_1701 F N L xs k28 j w h (h + 661) (h + 687) (h + 688) (zI i) = some () := by
  obtain ⟨a1, i1, e1⟩ := ldS_1 (xs := xs) hi hL
  obtain ⟨a2, i2, e2⟩ := ldS_2 (xs := xs) hi hL
  obtain ⟨a3, i3, e3⟩ := ldS_3 (xs := xs) hi hL
  have V := I.1
  obtain ⟨zp, zn, C⟩ := I.2.1
  unfold fL_law_1701
  rw [e1, e2, e3]
  simp only [Option.bind_some]
  rw [wr_merged]
  exact stp (r := spMerged s a1 a2 a3) A I (by decide) (by decide) (by rw [st_spMerged]; exact V) (c8_merged C V (by omega) i1 i2 i3) (m9 := fun w1 => fX9_merged F N w1 (h + 661) (zI a1) (zI a2) (zI a3)) (fun w1 M => m_merged M V (by omega) i1 i2 i3) (k28 := fun w' => k28 (j + 1) w' h (h + 661) (h + 687) (h + 688) (zI i + 5)) (fun w' I' => hk w' _ I')
-- case 23
theorem law_1781 (A : LF F h) (I : Inv F w h s) (hN : 2100 ≤ N) (hL : L ≤ 2560) (hi : i + 5 ≤ L) (hk : ∀ w' s', Inv F w' h s' → k28 (j + 1) w' h (h + 661) (h + 687) (h + 688) (zI i + 5) = some ()) : fL_law_1781 F N L xs k28 j w h (h + 661) (h + 687) (h + 688) (zI i) = some () := by
  obtain ⟨a1, i1, e1⟩ := ldS_1 (xs := xs) hi hL
  obtain ⟨a2, i2, e2⟩ := ldS_2 (xs := xs) hi hL
  have V := I.1
  obtain ⟨zp, zn, C⟩ := I.2.1
  unfold fL_law_1781
  rw [e1, e2]
  simp only [Option.bind_some]
  rw [wr_frames]
  exact stp (r := spFrames s a1 a2) A I (by decide) (by decide) (by rw [st_spFrames]; exact V) (c8_frames C (by omega) i1 i2) (m9 := fun w1 => fX9_frames F N w1 (h + 661) (zI a1) (zI a2)) (fun w1 M => m_frames M V (by omega) i1 i2) (k28 := fun w' => k28 (j + 1) w' h (h + 661) (h + 687) (h + 688) (zI i + 5)) (fun w' I' => hk w' _ I')
-- case 27
theorem law_2017 (A : LF F h) (I : Inv F w h s) (hN : 2100 ≤ N) (hL : L ≤ 2560) (hi : i + 5 ≤ L) (hk : ∀ w' s', Inv F w' h s' → k28 (j + 1) w' h (h + 661) (h + 687) (h + 688) (zI i + 5) = some ()) : fL_law_2017 F N L xs k28 j w h (h + 661) (h + 687) (h + 688) (zI i) = some () := by
  have V := I.1
  obtain ⟨zp, zn, C⟩ := I.2.1
  unfold fL_law_2017
  rw [wr_read]
  exact stp (r := spRead s) A I (by decide) (by decide) (vs_read V) (c8_read C V (by omega)) (m9 := fun w1 => fX9_read F N w1 (h + 661)) (fun w1 M => m_read M V (by omega)) (k28 := fun w' => k28 (j + 1) w' h (h + 661) (h + 687) (h + 688) (zI i + 5)) (fun w' I' => hk w' _ I')
-- case 28
theorem law_2061 (A : LF F h) (I : Inv F w h s) (hN : 2100 ≤ N) (hL : L ≤ 2560) (hi : i + 5 ≤ L) (hk : ∀ w' s', Inv F w' h s' → k28 (j + 1) w' h (h + 661) (h + 687) (h + 688) (zI i + 5) = some ()) : fL_law_2061 F N L xs k28 j w h (h + 661) (h + 687) (h + 688) (zI i) = some () := by
  have V := I.1
  obtain ⟨zp, zn, C⟩ := I.2.1
  unfold fL_law_2061
  rw [wr_errorPosition]
  exact stp (r := spErr s) A I (by decide) (by decide) (by rw [st_spErr]; exact V) (c8_errorPosition C V) (m9 := fun w1 => fX9_errorPosition F N w1 (h + 661)) (fun w1 M => m_errorPosition M V) (k28 := fun w' => k28 (j + 1) w' h (h + 661) (h + 687) (h + 688) (zI i + 5)) (fun w' I' => hk w' _ I')
-- case 29
theorem law_2105 (A : LF F h) (I : Inv F w h s) (hN : 2100 ≤ N) (hL : L ≤ 2560) (hi : i + 5 ≤ L) (hk : ∀ w' s', Inv F w' h s' → k28 (j + 1) w' h (h + 661) (h + 687) (h + 688) (zI i + 5) = some ()) : fL_law_2105 F N L xs k28 j w h (h + 661) (h + 687) (h + 688) (zI i) = some () := by
  have V := I.1
  obtain ⟨zp, zn, C⟩ := I.2.1
  unfold fL_law_2105
  rw [wr_refusedItem]
  exact stp (r := spItem s) A I (by decide) (by decide) (by rw [st_spItem]; exact V) (c8_refusedItem C V) (m9 := fun w1 => fX9_refusedItem F N w1 (h + 661)) (fun w1 M => m_refusedItem M V) (k28 := fun w' => k28 (j + 1) w' h (h + 661) (h + 687) (h + 688) (zI i + 5)) (fun w' I' => hk w' _ I')
-- case 30
theorem law_2149 (A : LF F h) (I : Inv F w h s) (hN : 2100 ≤ N) (hL : L ≤ 2560) (hi : i + 5 ≤ L) (hk : ∀ w' s', Inv F w' h s' → k28 (j + 1) w' h (h + 661) (h + 687) (h + 688) (zI i + 5) = some ()) : fL_law_2149 F N L xs k28 j w h (h + 661) (h + 687) (h + 688) (zI i) = some () := by
  have V := I.1
  obtain ⟨zp, zn, C⟩ := I.2.1
  unfold fL_law_2149
  rw [wr_undo]
  exact stp (r := spUndo s) A I (by decide) (by decide) (vs_undo V) (c8_undo C (by omega)) (m9 := fun w1 => fX9_undo F N w1 (h + 661)) (fun w1 M => m_undo M V) (k28 := fun w' => k28 (j + 1) w' h (h + 661) (h + 687) (h + 688) (zI i + 5)) (fun w' I' => hk w' _ I')
-- case 32
theorem law_2206 (A : LF F h) (I : Inv F w h s) (hN : 2100 ≤ N) (hL : L ≤ 2560) (hi : i + 5 ≤ L) (hk : ∀ w' s', Inv F w' h s' → k28 (j + 1) w' h (h + 661) (h + 687) (h + 688) (zI i + 5) = some ()) : fL_law_2206 F N L xs k28 j w h (h + 661) (h + 687) (h + 688) (zI i) = some () := by
  have V := I.1
  obtain ⟨zp, zn, C⟩ := I.2.1
  unfold fL_law_2206
  rw [wr_restore]
  exact stp (r := spRestore s) A I (by decide) (by decide) (vs_restore V) (c8_restore C (by omega)) (m9 := fun w1 => fX9_restore F N w1 (h + 661)) (fun w1 M => m_restore M V) (k28 := fun w' => k28 (j + 1) w' h (h + 661) (h + 687) (h + 688) (zI i + 5)) (fun w' I' => hk w' _ I')
theorem law_1273 (A : LF F h) (I : Inv F w h s) (hN : 2100 ≤ N) (hL : L ≤ 2560) (hi : i + 5 ≤ L) (hk : ∀ w' s', Inv F w' h s' → k28 (j + 1) w' h (h + 661) (h + 687) (h + 688) (zI i + 5) = some ()) : fL_law_1273 F N L xs k28 j w h (h + 661) (h + 687) (h + 688) (zI i) = some () := by
  obtain ⟨a1, i1, e1⟩ := ldS_1 (xs := xs) hi hL
  have V := I.1
  obtain ⟨zp, zn, C⟩ := I.2.1
  unfold fL_law_1273
  rw [e1]
  simp only [Option.bind_some]
  by_cases e : zI a1 = 0
  · rw [if_pos e]
    unfold fL_law_1288
    rw [e1]
    simp only [Option.bind_some]
    rw [wr_refusal]
    simp only [if_pos e]
    exact stp (r := spRefusal s false) A I (by decide) (by decide) (by rw [st_spRefusal]; exact V) (c8_refusal (b := false) C V) (m9 := fun w1 => fX9_refusal F N w1 (h + 661) 0) (fun w1 M => m_refusal M V false) (k28 := fun w' => k28 (j + 1) w' h (h + 661) (h + 687) (h + 688) (zI i + 5)) (fun w' I' => hk w' _ I')
  · rw [if_neg e]
    unfold fL_law_1288
    rw [e1]
    simp only [Option.bind_some]
    rw [wr_refusal]
    simp only [if_neg e]
    exact stp (r := spRefusal s true) A I (by decide) (by decide) (by rw [st_spRefusal]; exact V) (c8_refusal (b := true) C V) (m9 := fun w1 => fX9_refusal F N w1 (h + 661) 1) (fun w1 M => m_refusal M V true) (k28 := fun w' => k28 (j + 1) w' h (h + 661) (h + 687) (h + 688) (zI i + 5)) (fun w' I' => hk w' _ I')
theorem law_1425 (A : LF F h) (I : Inv F w h s) (hN : 2100 ≤ N) (hL : L ≤ 2560) (hi : i + 5 ≤ L) (hk : ∀ w' s', Inv F w' h s' → k28 (j + 1) w' h (h + 661) (h + 687) (h + 688) (zI i + 5) = some ()) : fL_law_1425 F N L xs k28 j w h (h + 661) (h + 687) (h + 688) (zI i) = some () := by
  obtain ⟨a1, i1, e1⟩ := ldS_1 (xs := xs) hi hL
  obtain ⟨a2, i2, e2⟩ := ldS_2 (xs := xs) hi hL
  obtain ⟨a3, i3, e3⟩ := ldS_3 (xs := xs) hi hL
  have V := I.1
  obtain ⟨zp, zn, C⟩ := I.2.1
  unfold fL_law_1425
  rw [e1, e2, e3]
  simp only [Option.bind_some]
  by_cases e : zI a3 = 0
  · rw [if_pos e]
    unfold fL_law_1452
    rw [e1, e2, e3]
    simp only [Option.bind_some]
    rw [wr_alignment]
    simp only [if_pos e]
    exact stp (r := spAlignment s a1 a2 false) A I (by decide) (by decide) (by rw [st_spAlignment]; exact V) (c8_alignment C V (by omega) i1 i2 false) (m9 := fun w1 => fX9_alignment F N w1 (h + 661) (zI a1) (zI a2) 0) (fun w1 M => m_alignment M V (by omega) i1 i2 false) (k28 := fun w' => k28 (j + 1) w' h (h + 661) (h + 687) (h + 688) (zI i + 5)) (fun w' I' => hk w' _ I')
  · rw [if_neg e]
    unfold fL_law_1452
    rw [e1, e2, e3]
    simp only [Option.bind_some]
    rw [wr_alignment]
    simp only [if_neg e]
    exact stp (r := spAlignment s a1 a2 true) A I (by decide) (by decide) (by rw [st_spAlignment]; exact V) (c8_alignment C V (by omega) i1 i2 true) (m9 := fun w1 => fX9_alignment F N w1 (h + 661) (zI a1) (zI a2) 1) (fun w1 M => m_alignment M V (by omega) i1 i2 true) (k28 := fun w' => k28 (j + 1) w' h (h + 661) (h + 687) (h + 688) (zI i + 5)) (fun w' I' => hk w' _ I')
theorem law_192 (A : LF F h) (I : Inv F w h s) (hN : 2100 ≤ N) (hL : L ≤ 2560) (hi : i + 5 ≤ L) (hk : ∀ w' s', Inv F w' h s' → k28 (j + 1) w' h (h + 661) (h + 687) (h + 688) (zI i + 5) = some ()) : fL_law_192 F N L xs k28 j w h (h + 661) (h + 687) (h + 688) (zI i) = some () := by
  have V := I.1
  obtain ⟨zp, zn, C⟩ := I.2.1
  unfold fL_law_192
  exact stp0 I (u := (spClear s).2.1) (s' := (spClear s).2.2) (vs_clear V) (c8_clear C) (m9 := fun w1 => fX9_clear F N w1 (h + 661)) (fun w1 M => m_clear M V (by omega)) (k28 := fun w' => k28 (j + 1) w' h (h + 661) (h + 687) (h + 688) (zI i + 5)) (fun w' I' => hk w' _ I')
theorem law_2193 (A : LF F h) (I : Inv F w h s) (hN : 2100 ≤ N) (hL : L ≤ 2560) (hi : i + 5 ≤ L) (hk : ∀ w' s', Inv F w' h s' → k28 (j + 1) w' h (h + 661) (h + 687) (h + 688) (zI i + 5) = some ()) : fL_law_2193 F N L xs k28 j w h (h + 661) (h + 687) (h + 688) (zI i) = some () := by
  have V := I.1
  obtain ⟨zp, zn, C⟩ := I.2.1
  unfold fL_law_2193
  exact stp0 I (u := (spSnap s).2.1) (s' := (spSnap s).2.2) (vs_snap V) (c8_snapshot C (by omega)) (m9 := fun w1 => fX9_snapshot F N w1 (h + 661)) (fun w1 M => m_snapshot M V) (k28 := fun w' => k28 (j + 1) w' h (h + 661) (h + 687) (h + 688) (zI i + 5)) (fun w' I' => hk w' _ I')
theorem law_2004 (A : LF F h) (I : Inv F w h s) (hN : 2100 ≤ N) (hL : L ≤ 2560) (hi : i + 5 ≤ L) (hk : ∀ w' s', Inv F w' h s' → k28 (j + 1) w' h (h + 661) (h + 687) (h + 688) (zI i + 5) = some ()) : fL_law_2004 F N L xs k28 j w h (h + 661) (h + 687) (h + 688) (zI i) = some () := by
  have V := I.1
  obtain ⟨zp, zn, C⟩ := I.2.1
  unfold fL_law_2004
  rw [c8_isConsistent C V (by omega), Option.bind_some]
  obtain ⟨q, hq, q1, q2, q3, q4⟩ := m_isConsistent (F := F) (N := N) I.2.2
  rw [hq, Option.bind_some, if_pos (q2 rfl).symm]
  exact hk _ _ ⟨V, I.2.1.off q4 (fun x hx => by unfold Rg at hx; omega), q3⟩
end LAWS
