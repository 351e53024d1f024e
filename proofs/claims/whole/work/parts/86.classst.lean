/-! how the class holds a state -/
def CPtr (w : Wd) (h zp zn : Nat) : Prop := (gR w 800 h = some (h + 1) ∧ gR w 801 h = some (h + 58) ∧ gR w 802 h = some (h + 115) ∧ gR w 803 h = some (h + 172) ∧ gR w 804 h = some (h + 630)) ∧ gR w 805 h = some (h + 632) ∧ gR w 806 h = some (h + 633) ∧ gR w 807 h = some (h + 636) ∧ gR w 808 h = some zp ∧ gR w 809 h = some zn
theorem CPtr.keep {S : Nat → Prop} {w w' : Wd} {h zp zn : Nat} (c : CPtr w h zp zn) (k : Kp S w w') (n : ¬ S h) : CPtr w' h zp zn := by
  unfold CPtr
  rw [k.gR n, k.gR n, k.gR n, k.gR n, k.gR n, k.gR n, k.gR n, k.gR n, k.gR n, k.gR n]
  exact c
def ZZ (h zp zn : Nat) : Prop := (zp = h + 641 ∧ zn = h + 651) ∨ (zp = h + 651 ∧ zn = h + 641)
def CStP (F : Fr) (w : Wd) (h zp zn : Nat) (s : St) : Prop := ZZ h zp zn ∧ (CPtr w h zp zn ∧ (gI w 810 h = (if (ssv s).isSome = true then 1 else 0) ∧ gI w 811 h = zI (sbd s) ∧ gI w 812 h = zI (sri s))) ∧ (CBook F w (h + 1) (snw s)) ∧ (LBook F (h + 58) ∧ WBook w (h + 58)) ∧ (LBook F (h + 115) ∧ WBook w (h + 115) ∧ ∀ b, ssv s = some b → CBook F w (h + 115) b) ∧ (CHist F w (h + 172) (sps s)) ∧ (CIn0 F w (h + 630) (stx s)) ∧ (okF F (h + 632) 6 ∧ gI w 600 (h + 632) = zI (srf s).1 ∧ gI w 601 (h + 632) = zI (srf s).2) ∧ (CAlg F w (h + 633)) ∧ (CMrg F w (h + 636)) ∧ (CPat F w zp ∧ DPat w zp (spt s)) ∧ (CPat F w zn)
def CSt (F : Fr) (w : Wd) (h : Nat) (s : St) : Prop := ∃ zp zn, CStP F w h zp zn s
def EqX (s s' : St) (a b c d e f g i : Prop) : Prop := (a → snw s' = snw s) ∧ (b → ssv s' = ssv s) ∧ (c → sps s' = sps s) ∧ (d → stx s' = stx s) ∧ (e → spt s' = spt s) ∧ (f → srf s' = srf s) ∧ (g → sbd s' = sbd s) ∧ (i → sri s' = sri s)
theorem EqX.snw {s s' : St} {b c d e f g i : Prop} (h : EqX s s' True b c d e f g i) : Jvm.Pilot.CLessonTiersLaw_law_r6582_a11baa.snw s' = Jvm.Pilot.CLessonTiersLaw_law_r6582_a11baa.snw s := h.1 trivial
theorem EqX.ssv {s s' : St} {a c d e f g i : Prop} (h : EqX s s' a True c d e f g i) : Jvm.Pilot.CLessonTiersLaw_law_r6582_a11baa.ssv s' = Jvm.Pilot.CLessonTiersLaw_law_r6582_a11baa.ssv s := h.2.1 trivial
theorem EqX.sps {s s' : St} {a b d e f g i : Prop} (h : EqX s s' a b True d e f g i) : Jvm.Pilot.CLessonTiersLaw_law_r6582_a11baa.sps s' = Jvm.Pilot.CLessonTiersLaw_law_r6582_a11baa.sps s := h.2.2.1 trivial
theorem EqX.stx {s s' : St} {a b c e f g i : Prop} (h : EqX s s' a b c True e f g i) : Jvm.Pilot.CLessonTiersLaw_law_r6582_a11baa.stx s' = Jvm.Pilot.CLessonTiersLaw_law_r6582_a11baa.stx s := h.2.2.2.1 trivial
theorem EqX.spt {s s' : St} {a b c d f g i : Prop} (h : EqX s s' a b c d True f g i) : Jvm.Pilot.CLessonTiersLaw_law_r6582_a11baa.spt s' = Jvm.Pilot.CLessonTiersLaw_law_r6582_a11baa.spt s := h.2.2.2.2.1 trivial
theorem EqX.srf {s s' : St} {a b c d e g i : Prop} (h : EqX s s' a b c d e True g i) : Jvm.Pilot.CLessonTiersLaw_law_r6582_a11baa.srf s' = Jvm.Pilot.CLessonTiersLaw_law_r6582_a11baa.srf s := h.2.2.2.2.2.1 trivial
theorem EqX.sbd {s s' : St} {a b c d e f i : Prop} (h : EqX s s' a b c d e f True i) : Jvm.Pilot.CLessonTiersLaw_law_r6582_a11baa.sbd s' = Jvm.Pilot.CLessonTiersLaw_law_r6582_a11baa.sbd s := h.2.2.2.2.2.2.1 trivial
theorem EqX.sri {s s' : St} {a b c d e f g : Prop} (h : EqX s s' a b c d e f g True) : Jvm.Pilot.CLessonTiersLaw_law_r6582_a11baa.sri s' = Jvm.Pilot.CLessonTiersLaw_law_r6582_a11baa.sri s := h.2.2.2.2.2.2.2 trivial
section CST
variable {F : Fr} {N : Nat} {w w' : Wd} {h zp zn : Nat} {s s' : St} {k : Bk}
theorem CStP.upN {S : Nat → Prop} (C : CStP F w h zp zn s) (k : Kp S w w') (hS : ∀ a, S a → h + 1 ≤ a ∧ a < h + 58) (nc : CBook F w' (h + 1) (snw s')) (es : EqX s s' False True True True True True True True) : CStP F w' h zp zn s' := by
  obtain ⟨hz, cX, cN, cD, cV, cH, cI, cR, cA, cM, cP, cQ⟩ := C
  refine ⟨hz, ?_, nc, ?_, ?_, ?_, ?_, ?_, ?_, ?_, ?_, ?_⟩
  · rw [es.ssv]
    rw [es.sbd]
    rw [es.sri]
    exact ⟨cX.1.keep k (by intro q; have := hS _ q; unfold ZZ at hz; omega), by rw [k.gI (by intro q; have := hS _ q; unfold ZZ at hz; omega)]; exact cX.2.1, by rw [k.gI (by intro q; have := hS _ q; unfold ZZ at hz; omega)]; exact cX.2.2.1, by rw [k.gI (by intro q; have := hS _ q; unfold ZZ at hz; omega)]; exact cX.2.2.2⟩
  · exact ⟨cD.1, cD.2.keep k fun y y1 y2 => by intro q; have := hS _ q; unfold ZZ at hz; omega⟩
  · rw [es.ssv]
    exact ⟨cV.1, cV.2.1.keep k (fun y y1 y2 => by intro q; have := hS _ q; unfold ZZ at hz; omega), fun b hb => (cV.2.2 b hb).keep k fun y y1 y2 => by intro q; have := hS _ q; unfold ZZ at hz; omega⟩
  · rw [es.sps]
    exact cH.keep k fun y y1 y2 => by intro q; have := hS _ q; unfold ZZ at hz; omega
  · rw [es.stx]
    exact cI.keep k (by intro q; have := hS _ q; unfold ZZ at hz; omega) (by intro q; have := hS _ q; unfold ZZ at hz; omega)
  · rw [es.srf]
    exact ⟨cR.1, by rw [k.gI (by intro q; have := hS _ q; unfold ZZ at hz; omega)]; exact cR.2.1, by rw [k.gI (by intro q; have := hS _ q; unfold ZZ at hz; omega)]; exact cR.2.2⟩
  · exact cA.keep k (by intro q; have := hS _ q; unfold ZZ at hz; omega)
  · exact cM.keep k (by intro q; have := hS _ q; unfold ZZ at hz; omega)
  · rw [es.spt]
    exact ⟨cP.1.keep k (by intro q; have := hS _ q; unfold ZZ at hz; omega) (fun y y1 y2 => by intro q; have := hS _ q; unfold ZZ at hz; omega), cP.2.keep k (by intro q; have := hS _ q; unfold ZZ at hz; omega) (by intro q; have := hS _ q; unfold ZZ at hz; omega) (by intro q; have := hS _ q; unfold ZZ at hz; omega) (by intro q; have := hS _ q; unfold ZZ at hz; omega) (by intro q; have := hS _ q; unfold ZZ at hz; omega)⟩
  · exact cQ.keep k (by intro q; have := hS _ q; unfold ZZ at hz; omega) (fun y y1 y2 => by intro q; have := hS _ q; unfold ZZ at hz; omega)
theorem CStP.upD {S : Nat → Prop} (C : CStP F w h zp zn s) (k : Kp S w w') (hS : ∀ a, S a → h + 58 ≤ a ∧ a < h + 115) (nc : LBook F (h + 58) ∧ WBook w' (h + 58)) (es : EqX s s' True True True True True True True True) : CStP F w' h zp zn s' := by
  obtain ⟨hz, cX, cN, cD, cV, cH, cI, cR, cA, cM, cP, cQ⟩ := C
  refine ⟨hz, ?_, ?_, nc, ?_, ?_, ?_, ?_, ?_, ?_, ?_, ?_⟩
  · rw [es.ssv]
    rw [es.sbd]
    rw [es.sri]
    exact ⟨cX.1.keep k (by intro q; have := hS _ q; unfold ZZ at hz; omega), by rw [k.gI (by intro q; have := hS _ q; unfold ZZ at hz; omega)]; exact cX.2.1, by rw [k.gI (by intro q; have := hS _ q; unfold ZZ at hz; omega)]; exact cX.2.2.1, by rw [k.gI (by intro q; have := hS _ q; unfold ZZ at hz; omega)]; exact cX.2.2.2⟩
  · rw [es.snw]
    exact cN.keep k fun y y1 y2 => by intro q; have := hS _ q; unfold ZZ at hz; omega
  · rw [es.ssv]
    exact ⟨cV.1, cV.2.1.keep k (fun y y1 y2 => by intro q; have := hS _ q; unfold ZZ at hz; omega), fun b hb => (cV.2.2 b hb).keep k fun y y1 y2 => by intro q; have := hS _ q; unfold ZZ at hz; omega⟩
  · rw [es.sps]
    exact cH.keep k fun y y1 y2 => by intro q; have := hS _ q; unfold ZZ at hz; omega
  · rw [es.stx]
    exact cI.keep k (by intro q; have := hS _ q; unfold ZZ at hz; omega) (by intro q; have := hS _ q; unfold ZZ at hz; omega)
  · rw [es.srf]
    exact ⟨cR.1, by rw [k.gI (by intro q; have := hS _ q; unfold ZZ at hz; omega)]; exact cR.2.1, by rw [k.gI (by intro q; have := hS _ q; unfold ZZ at hz; omega)]; exact cR.2.2⟩
  · exact cA.keep k (by intro q; have := hS _ q; unfold ZZ at hz; omega)
  · exact cM.keep k (by intro q; have := hS _ q; unfold ZZ at hz; omega)
  · rw [es.spt]
    exact ⟨cP.1.keep k (by intro q; have := hS _ q; unfold ZZ at hz; omega) (fun y y1 y2 => by intro q; have := hS _ q; unfold ZZ at hz; omega), cP.2.keep k (by intro q; have := hS _ q; unfold ZZ at hz; omega) (by intro q; have := hS _ q; unfold ZZ at hz; omega) (by intro q; have := hS _ q; unfold ZZ at hz; omega) (by intro q; have := hS _ q; unfold ZZ at hz; omega) (by intro q; have := hS _ q; unfold ZZ at hz; omega)⟩
  · exact cQ.keep k (by intro q; have := hS _ q; unfold ZZ at hz; omega) (fun y y1 y2 => by intro q; have := hS _ q; unfold ZZ at hz; omega)
theorem CStP.upV {S : Nat → Prop} (C : CStP F w h zp zn s) (k : Kp S w w') (hS : ∀ a, S a → h + 115 ≤ a ∧ a < h + 172) (nc : LBook F (h + 115) ∧ WBook w' (h + 115) ∧ ∀ b, ssv s' = some b → CBook F w' (h + 115) b) (es : EqX s s' True True True True True True True True) : CStP F w' h zp zn s' := by
  obtain ⟨hz, cX, cN, cD, cV, cH, cI, cR, cA, cM, cP, cQ⟩ := C
  refine ⟨hz, ?_, ?_, ?_, nc, ?_, ?_, ?_, ?_, ?_, ?_, ?_⟩
  · rw [es.ssv]
    rw [es.sbd]
    rw [es.sri]
    exact ⟨cX.1.keep k (by intro q; have := hS _ q; unfold ZZ at hz; omega), by rw [k.gI (by intro q; have := hS _ q; unfold ZZ at hz; omega)]; exact cX.2.1, by rw [k.gI (by intro q; have := hS _ q; unfold ZZ at hz; omega)]; exact cX.2.2.1, by rw [k.gI (by intro q; have := hS _ q; unfold ZZ at hz; omega)]; exact cX.2.2.2⟩
  · rw [es.snw]
    exact cN.keep k fun y y1 y2 => by intro q; have := hS _ q; unfold ZZ at hz; omega
  · exact ⟨cD.1, cD.2.keep k fun y y1 y2 => by intro q; have := hS _ q; unfold ZZ at hz; omega⟩
  · rw [es.sps]
    exact cH.keep k fun y y1 y2 => by intro q; have := hS _ q; unfold ZZ at hz; omega
  · rw [es.stx]
    exact cI.keep k (by intro q; have := hS _ q; unfold ZZ at hz; omega) (by intro q; have := hS _ q; unfold ZZ at hz; omega)
  · rw [es.srf]
    exact ⟨cR.1, by rw [k.gI (by intro q; have := hS _ q; unfold ZZ at hz; omega)]; exact cR.2.1, by rw [k.gI (by intro q; have := hS _ q; unfold ZZ at hz; omega)]; exact cR.2.2⟩
  · exact cA.keep k (by intro q; have := hS _ q; unfold ZZ at hz; omega)
  · exact cM.keep k (by intro q; have := hS _ q; unfold ZZ at hz; omega)
  · rw [es.spt]
    exact ⟨cP.1.keep k (by intro q; have := hS _ q; unfold ZZ at hz; omega) (fun y y1 y2 => by intro q; have := hS _ q; unfold ZZ at hz; omega), cP.2.keep k (by intro q; have := hS _ q; unfold ZZ at hz; omega) (by intro q; have := hS _ q; unfold ZZ at hz; omega) (by intro q; have := hS _ q; unfold ZZ at hz; omega) (by intro q; have := hS _ q; unfold ZZ at hz; omega) (by intro q; have := hS _ q; unfold ZZ at hz; omega)⟩
  · exact cQ.keep k (by intro q; have := hS _ q; unfold ZZ at hz; omega) (fun y y1 y2 => by intro q; have := hS _ q; unfold ZZ at hz; omega)
theorem CStP.upH {S : Nat → Prop} (C : CStP F w h zp zn s) (k : Kp S w w') (hS : ∀ a, S a → h + 172 ≤ a ∧ a < h + 630) (nc : CHist F w' (h + 172) (sps s')) (es : EqX s s' True True False True True True True True) : CStP F w' h zp zn s' := by
  obtain ⟨hz, cX, cN, cD, cV, cH, cI, cR, cA, cM, cP, cQ⟩ := C
  refine ⟨hz, ?_, ?_, ?_, ?_, nc, ?_, ?_, ?_, ?_, ?_, ?_⟩
  · rw [es.ssv]
    rw [es.sbd]
    rw [es.sri]
    exact ⟨cX.1.keep k (by intro q; have := hS _ q; unfold ZZ at hz; omega), by rw [k.gI (by intro q; have := hS _ q; unfold ZZ at hz; omega)]; exact cX.2.1, by rw [k.gI (by intro q; have := hS _ q; unfold ZZ at hz; omega)]; exact cX.2.2.1, by rw [k.gI (by intro q; have := hS _ q; unfold ZZ at hz; omega)]; exact cX.2.2.2⟩
  · rw [es.snw]
    exact cN.keep k fun y y1 y2 => by intro q; have := hS _ q; unfold ZZ at hz; omega
  · exact ⟨cD.1, cD.2.keep k fun y y1 y2 => by intro q; have := hS _ q; unfold ZZ at hz; omega⟩
  · rw [es.ssv]
    exact ⟨cV.1, cV.2.1.keep k (fun y y1 y2 => by intro q; have := hS _ q; unfold ZZ at hz; omega), fun b hb => (cV.2.2 b hb).keep k fun y y1 y2 => by intro q; have := hS _ q; unfold ZZ at hz; omega⟩
  · rw [es.stx]
    exact cI.keep k (by intro q; have := hS _ q; unfold ZZ at hz; omega) (by intro q; have := hS _ q; unfold ZZ at hz; omega)
  · rw [es.srf]
    exact ⟨cR.1, by rw [k.gI (by intro q; have := hS _ q; unfold ZZ at hz; omega)]; exact cR.2.1, by rw [k.gI (by intro q; have := hS _ q; unfold ZZ at hz; omega)]; exact cR.2.2⟩
  · exact cA.keep k (by intro q; have := hS _ q; unfold ZZ at hz; omega)
  · exact cM.keep k (by intro q; have := hS _ q; unfold ZZ at hz; omega)
  · rw [es.spt]
    exact ⟨cP.1.keep k (by intro q; have := hS _ q; unfold ZZ at hz; omega) (fun y y1 y2 => by intro q; have := hS _ q; unfold ZZ at hz; omega), cP.2.keep k (by intro q; have := hS _ q; unfold ZZ at hz; omega) (by intro q; have := hS _ q; unfold ZZ at hz; omega) (by intro q; have := hS _ q; unfold ZZ at hz; omega) (by intro q; have := hS _ q; unfold ZZ at hz; omega) (by intro q; have := hS _ q; unfold ZZ at hz; omega)⟩
  · exact cQ.keep k (by intro q; have := hS _ q; unfold ZZ at hz; omega) (fun y y1 y2 => by intro q; have := hS _ q; unfold ZZ at hz; omega)
theorem CStP.upI {S : Nat → Prop} (C : CStP F w h zp zn s) (k : Kp S w w') (hS : ∀ a, S a → h + 630 ≤ a ∧ a < h + 632) (nc : CIn0 F w' (h + 630) (stx s')) (es : EqX s s' True True True False True True True True) : CStP F w' h zp zn s' := by
  obtain ⟨hz, cX, cN, cD, cV, cH, cI, cR, cA, cM, cP, cQ⟩ := C
  refine ⟨hz, ?_, ?_, ?_, ?_, ?_, nc, ?_, ?_, ?_, ?_, ?_⟩
  · rw [es.ssv]
    rw [es.sbd]
    rw [es.sri]
    exact ⟨cX.1.keep k (by intro q; have := hS _ q; unfold ZZ at hz; omega), by rw [k.gI (by intro q; have := hS _ q; unfold ZZ at hz; omega)]; exact cX.2.1, by rw [k.gI (by intro q; have := hS _ q; unfold ZZ at hz; omega)]; exact cX.2.2.1, by rw [k.gI (by intro q; have := hS _ q; unfold ZZ at hz; omega)]; exact cX.2.2.2⟩
  · rw [es.snw]
    exact cN.keep k fun y y1 y2 => by intro q; have := hS _ q; unfold ZZ at hz; omega
  · exact ⟨cD.1, cD.2.keep k fun y y1 y2 => by intro q; have := hS _ q; unfold ZZ at hz; omega⟩
  · rw [es.ssv]
    exact ⟨cV.1, cV.2.1.keep k (fun y y1 y2 => by intro q; have := hS _ q; unfold ZZ at hz; omega), fun b hb => (cV.2.2 b hb).keep k fun y y1 y2 => by intro q; have := hS _ q; unfold ZZ at hz; omega⟩
  · rw [es.sps]
    exact cH.keep k fun y y1 y2 => by intro q; have := hS _ q; unfold ZZ at hz; omega
  · rw [es.srf]
    exact ⟨cR.1, by rw [k.gI (by intro q; have := hS _ q; unfold ZZ at hz; omega)]; exact cR.2.1, by rw [k.gI (by intro q; have := hS _ q; unfold ZZ at hz; omega)]; exact cR.2.2⟩
  · exact cA.keep k (by intro q; have := hS _ q; unfold ZZ at hz; omega)
  · exact cM.keep k (by intro q; have := hS _ q; unfold ZZ at hz; omega)
  · rw [es.spt]
    exact ⟨cP.1.keep k (by intro q; have := hS _ q; unfold ZZ at hz; omega) (fun y y1 y2 => by intro q; have := hS _ q; unfold ZZ at hz; omega), cP.2.keep k (by intro q; have := hS _ q; unfold ZZ at hz; omega) (by intro q; have := hS _ q; unfold ZZ at hz; omega) (by intro q; have := hS _ q; unfold ZZ at hz; omega) (by intro q; have := hS _ q; unfold ZZ at hz; omega) (by intro q; have := hS _ q; unfold ZZ at hz; omega)⟩
  · exact cQ.keep k (by intro q; have := hS _ q; unfold ZZ at hz; omega) (fun y y1 y2 => by intro q; have := hS _ q; unfold ZZ at hz; omega)
theorem CStP.upR {S : Nat → Prop} (C : CStP F w h zp zn s) (k : Kp S w w') (hS : ∀ a, S a → h + 632 ≤ a ∧ a < h + 633) (nc : okF F (h + 632) 6 ∧ gI w' 600 (h + 632) = zI (srf s').1 ∧ gI w' 601 (h + 632) = zI (srf s').2) (es : EqX s s' True True True True True False True True) : CStP F w' h zp zn s' := by
  obtain ⟨hz, cX, cN, cD, cV, cH, cI, cR, cA, cM, cP, cQ⟩ := C
  refine ⟨hz, ?_, ?_, ?_, ?_, ?_, ?_, nc, ?_, ?_, ?_, ?_⟩
  · rw [es.ssv]
    rw [es.sbd]
    rw [es.sri]
    exact ⟨cX.1.keep k (by intro q; have := hS _ q; unfold ZZ at hz; omega), by rw [k.gI (by intro q; have := hS _ q; unfold ZZ at hz; omega)]; exact cX.2.1, by rw [k.gI (by intro q; have := hS _ q; unfold ZZ at hz; omega)]; exact cX.2.2.1, by rw [k.gI (by intro q; have := hS _ q; unfold ZZ at hz; omega)]; exact cX.2.2.2⟩
  · rw [es.snw]
    exact cN.keep k fun y y1 y2 => by intro q; have := hS _ q; unfold ZZ at hz; omega
  · exact ⟨cD.1, cD.2.keep k fun y y1 y2 => by intro q; have := hS _ q; unfold ZZ at hz; omega⟩
  · rw [es.ssv]
    exact ⟨cV.1, cV.2.1.keep k (fun y y1 y2 => by intro q; have := hS _ q; unfold ZZ at hz; omega), fun b hb => (cV.2.2 b hb).keep k fun y y1 y2 => by intro q; have := hS _ q; unfold ZZ at hz; omega⟩
  · rw [es.sps]
    exact cH.keep k fun y y1 y2 => by intro q; have := hS _ q; unfold ZZ at hz; omega
  · rw [es.stx]
    exact cI.keep k (by intro q; have := hS _ q; unfold ZZ at hz; omega) (by intro q; have := hS _ q; unfold ZZ at hz; omega)
  · exact cA.keep k (by intro q; have := hS _ q; unfold ZZ at hz; omega)
  · exact cM.keep k (by intro q; have := hS _ q; unfold ZZ at hz; omega)
  · rw [es.spt]
    exact ⟨cP.1.keep k (by intro q; have := hS _ q; unfold ZZ at hz; omega) (fun y y1 y2 => by intro q; have := hS _ q; unfold ZZ at hz; omega), cP.2.keep k (by intro q; have := hS _ q; unfold ZZ at hz; omega) (by intro q; have := hS _ q; unfold ZZ at hz; omega) (by intro q; have := hS _ q; unfold ZZ at hz; omega) (by intro q; have := hS _ q; unfold ZZ at hz; omega) (by intro q; have := hS _ q; unfold ZZ at hz; omega)⟩
  · exact cQ.keep k (by intro q; have := hS _ q; unfold ZZ at hz; omega) (fun y y1 y2 => by intro q; have := hS _ q; unfold ZZ at hz; omega)
theorem CStP.upA {S : Nat → Prop} (C : CStP F w h zp zn s) (k : Kp S w w') (hS : ∀ a, S a → h + 633 ≤ a ∧ a < h + 636) (nc : CAlg F w' (h + 633)) (es : EqX s s' True True True True True True True True) : CStP F w' h zp zn s' := by
  obtain ⟨hz, cX, cN, cD, cV, cH, cI, cR, cA, cM, cP, cQ⟩ := C
  refine ⟨hz, ?_, ?_, ?_, ?_, ?_, ?_, ?_, nc, ?_, ?_, ?_⟩
  · rw [es.ssv]
    rw [es.sbd]
    rw [es.sri]
    exact ⟨cX.1.keep k (by intro q; have := hS _ q; unfold ZZ at hz; omega), by rw [k.gI (by intro q; have := hS _ q; unfold ZZ at hz; omega)]; exact cX.2.1, by rw [k.gI (by intro q; have := hS _ q; unfold ZZ at hz; omega)]; exact cX.2.2.1, by rw [k.gI (by intro q; have := hS _ q; unfold ZZ at hz; omega)]; exact cX.2.2.2⟩
  · rw [es.snw]
    exact cN.keep k fun y y1 y2 => by intro q; have := hS _ q; unfold ZZ at hz; omega
  · exact ⟨cD.1, cD.2.keep k fun y y1 y2 => by intro q; have := hS _ q; unfold ZZ at hz; omega⟩
  · rw [es.ssv]
    exact ⟨cV.1, cV.2.1.keep k (fun y y1 y2 => by intro q; have := hS _ q; unfold ZZ at hz; omega), fun b hb => (cV.2.2 b hb).keep k fun y y1 y2 => by intro q; have := hS _ q; unfold ZZ at hz; omega⟩
  · rw [es.sps]
    exact cH.keep k fun y y1 y2 => by intro q; have := hS _ q; unfold ZZ at hz; omega
  · rw [es.stx]
    exact cI.keep k (by intro q; have := hS _ q; unfold ZZ at hz; omega) (by intro q; have := hS _ q; unfold ZZ at hz; omega)
  · rw [es.srf]
    exact ⟨cR.1, by rw [k.gI (by intro q; have := hS _ q; unfold ZZ at hz; omega)]; exact cR.2.1, by rw [k.gI (by intro q; have := hS _ q; unfold ZZ at hz; omega)]; exact cR.2.2⟩
  · exact cM.keep k (by intro q; have := hS _ q; unfold ZZ at hz; omega)
  · rw [es.spt]
    exact ⟨cP.1.keep k (by intro q; have := hS _ q; unfold ZZ at hz; omega) (fun y y1 y2 => by intro q; have := hS _ q; unfold ZZ at hz; omega), cP.2.keep k (by intro q; have := hS _ q; unfold ZZ at hz; omega) (by intro q; have := hS _ q; unfold ZZ at hz; omega) (by intro q; have := hS _ q; unfold ZZ at hz; omega) (by intro q; have := hS _ q; unfold ZZ at hz; omega) (by intro q; have := hS _ q; unfold ZZ at hz; omega)⟩
  · exact cQ.keep k (by intro q; have := hS _ q; unfold ZZ at hz; omega) (fun y y1 y2 => by intro q; have := hS _ q; unfold ZZ at hz; omega)
theorem CStP.upM {S : Nat → Prop} (C : CStP F w h zp zn s) (k : Kp S w w') (hS : ∀ a, S a → h + 636 ≤ a ∧ a < h + 641) (nc : CMrg F w' (h + 636)) (es : EqX s s' True True True True True True True True) : CStP F w' h zp zn s' := by
  obtain ⟨hz, cX, cN, cD, cV, cH, cI, cR, cA, cM, cP, cQ⟩ := C
  refine ⟨hz, ?_, ?_, ?_, ?_, ?_, ?_, ?_, ?_, nc, ?_, ?_⟩
  · rw [es.ssv]
    rw [es.sbd]
    rw [es.sri]
    exact ⟨cX.1.keep k (by intro q; have := hS _ q; unfold ZZ at hz; omega), by rw [k.gI (by intro q; have := hS _ q; unfold ZZ at hz; omega)]; exact cX.2.1, by rw [k.gI (by intro q; have := hS _ q; unfold ZZ at hz; omega)]; exact cX.2.2.1, by rw [k.gI (by intro q; have := hS _ q; unfold ZZ at hz; omega)]; exact cX.2.2.2⟩
  · rw [es.snw]
    exact cN.keep k fun y y1 y2 => by intro q; have := hS _ q; unfold ZZ at hz; omega
  · exact ⟨cD.1, cD.2.keep k fun y y1 y2 => by intro q; have := hS _ q; unfold ZZ at hz; omega⟩
  · rw [es.ssv]
    exact ⟨cV.1, cV.2.1.keep k (fun y y1 y2 => by intro q; have := hS _ q; unfold ZZ at hz; omega), fun b hb => (cV.2.2 b hb).keep k fun y y1 y2 => by intro q; have := hS _ q; unfold ZZ at hz; omega⟩
  · rw [es.sps]
    exact cH.keep k fun y y1 y2 => by intro q; have := hS _ q; unfold ZZ at hz; omega
  · rw [es.stx]
    exact cI.keep k (by intro q; have := hS _ q; unfold ZZ at hz; omega) (by intro q; have := hS _ q; unfold ZZ at hz; omega)
  · rw [es.srf]
    exact ⟨cR.1, by rw [k.gI (by intro q; have := hS _ q; unfold ZZ at hz; omega)]; exact cR.2.1, by rw [k.gI (by intro q; have := hS _ q; unfold ZZ at hz; omega)]; exact cR.2.2⟩
  · exact cA.keep k (by intro q; have := hS _ q; unfold ZZ at hz; omega)
  · rw [es.spt]
    exact ⟨cP.1.keep k (by intro q; have := hS _ q; unfold ZZ at hz; omega) (fun y y1 y2 => by intro q; have := hS _ q; unfold ZZ at hz; omega), cP.2.keep k (by intro q; have := hS _ q; unfold ZZ at hz; omega) (by intro q; have := hS _ q; unfold ZZ at hz; omega) (by intro q; have := hS _ q; unfold ZZ at hz; omega) (by intro q; have := hS _ q; unfold ZZ at hz; omega) (by intro q; have := hS _ q; unfold ZZ at hz; omega)⟩
  · exact cQ.keep k (by intro q; have := hS _ q; unfold ZZ at hz; omega) (fun y y1 y2 => by intro q; have := hS _ q; unfold ZZ at hz; omega)
theorem CStP.upX {S : Nat → Prop} (C : CStP F w h zp zn s) (k : Kp S w w') (hS : ∀ a, S a → h + 0 ≤ a ∧ a < h + 1) (nc : CPtr w' h zp zn ∧ (gI w' 810 h = (if (ssv s').isSome = true then 1 else 0) ∧ gI w' 811 h = zI (sbd s') ∧ gI w' 812 h = zI (sri s'))) (es : EqX s s' True True True True True True False False) : CStP F w' h zp zn s' := by
  obtain ⟨hz, cX, cN, cD, cV, cH, cI, cR, cA, cM, cP, cQ⟩ := C
  refine ⟨hz, nc, ?_, ?_, ?_, ?_, ?_, ?_, ?_, ?_, ?_, ?_⟩
  · rw [es.snw]
    exact cN.keep k fun y y1 y2 => by intro q; have := hS _ q; unfold ZZ at hz; omega
  · exact ⟨cD.1, cD.2.keep k fun y y1 y2 => by intro q; have := hS _ q; unfold ZZ at hz; omega⟩
  · rw [es.ssv]
    exact ⟨cV.1, cV.2.1.keep k (fun y y1 y2 => by intro q; have := hS _ q; unfold ZZ at hz; omega), fun b hb => (cV.2.2 b hb).keep k fun y y1 y2 => by intro q; have := hS _ q; unfold ZZ at hz; omega⟩
  · rw [es.sps]
    exact cH.keep k fun y y1 y2 => by intro q; have := hS _ q; unfold ZZ at hz; omega
  · rw [es.stx]
    exact cI.keep k (by intro q; have := hS _ q; unfold ZZ at hz; omega) (by intro q; have := hS _ q; unfold ZZ at hz; omega)
  · rw [es.srf]
    exact ⟨cR.1, by rw [k.gI (by intro q; have := hS _ q; unfold ZZ at hz; omega)]; exact cR.2.1, by rw [k.gI (by intro q; have := hS _ q; unfold ZZ at hz; omega)]; exact cR.2.2⟩
  · exact cA.keep k (by intro q; have := hS _ q; unfold ZZ at hz; omega)
  · exact cM.keep k (by intro q; have := hS _ q; unfold ZZ at hz; omega)
  · rw [es.spt]
    exact ⟨cP.1.keep k (by intro q; have := hS _ q; unfold ZZ at hz; omega) (fun y y1 y2 => by intro q; have := hS _ q; unfold ZZ at hz; omega), cP.2.keep k (by intro q; have := hS _ q; unfold ZZ at hz; omega) (by intro q; have := hS _ q; unfold ZZ at hz; omega) (by intro q; have := hS _ q; unfold ZZ at hz; omega) (by intro q; have := hS _ q; unfold ZZ at hz; omega) (by intro q; have := hS _ q; unfold ZZ at hz; omega)⟩
  · exact cQ.keep k (by intro q; have := hS _ q; unfold ZZ at hz; omega) (fun y y1 y2 => by intro q; have := hS _ q; unfold ZZ at hz; omega)
theorem CStP.upO {S : Nat → Prop} (C : CStP F w h zp zn s) (k : Kp S w w') (hS : ∀ a, S a → h + 661 ≤ a ∧ a < h + 1000000) (es : EqX s s' True True True True True True True True) : CStP F w' h zp zn s' := by
  obtain ⟨hz, cX, cN, cD, cV, cH, cI, cR, cA, cM, cP, cQ⟩ := C
  refine ⟨hz, ?_, ?_, ?_, ?_, ?_, ?_, ?_, ?_, ?_, ?_, ?_⟩
  · rw [es.ssv]
    rw [es.sbd]
    rw [es.sri]
    exact ⟨cX.1.keep k (by intro q; have := hS _ q; unfold ZZ at hz; omega), by rw [k.gI (by intro q; have := hS _ q; unfold ZZ at hz; omega)]; exact cX.2.1, by rw [k.gI (by intro q; have := hS _ q; unfold ZZ at hz; omega)]; exact cX.2.2.1, by rw [k.gI (by intro q; have := hS _ q; unfold ZZ at hz; omega)]; exact cX.2.2.2⟩
  · rw [es.snw]
    exact cN.keep k fun y y1 y2 => by intro q; have := hS _ q; unfold ZZ at hz; omega
  · exact ⟨cD.1, cD.2.keep k fun y y1 y2 => by intro q; have := hS _ q; unfold ZZ at hz; omega⟩
  · rw [es.ssv]
    exact ⟨cV.1, cV.2.1.keep k (fun y y1 y2 => by intro q; have := hS _ q; unfold ZZ at hz; omega), fun b hb => (cV.2.2 b hb).keep k fun y y1 y2 => by intro q; have := hS _ q; unfold ZZ at hz; omega⟩
  · rw [es.sps]
    exact cH.keep k fun y y1 y2 => by intro q; have := hS _ q; unfold ZZ at hz; omega
  · rw [es.stx]
    exact cI.keep k (by intro q; have := hS _ q; unfold ZZ at hz; omega) (by intro q; have := hS _ q; unfold ZZ at hz; omega)
  · rw [es.srf]
    exact ⟨cR.1, by rw [k.gI (by intro q; have := hS _ q; unfold ZZ at hz; omega)]; exact cR.2.1, by rw [k.gI (by intro q; have := hS _ q; unfold ZZ at hz; omega)]; exact cR.2.2⟩
  · exact cA.keep k (by intro q; have := hS _ q; unfold ZZ at hz; omega)
  · exact cM.keep k (by intro q; have := hS _ q; unfold ZZ at hz; omega)
  · rw [es.spt]
    exact ⟨cP.1.keep k (by intro q; have := hS _ q; unfold ZZ at hz; omega) (fun y y1 y2 => by intro q; have := hS _ q; unfold ZZ at hz; omega), cP.2.keep k (by intro q; have := hS _ q; unfold ZZ at hz; omega) (by intro q; have := hS _ q; unfold ZZ at hz; omega) (by intro q; have := hS _ q; unfold ZZ at hz; omega) (by intro q; have := hS _ q; unfold ZZ at hz; omega) (by intro q; have := hS _ q; unfold ZZ at hz; omega)⟩
  · exact cQ.keep k (by intro q; have := hS _ q; unfold ZZ at hz; omega) (fun y y1 y2 => by intro q; have := hS _ q; unfold ZZ at hz; omega)
end CST
theorem CStP.upS {F : Fr} {w w' : Wd} {h zp zn : Nat} {s s' : St} {S : Nat → Prop} (C : CStP F w h zp zn s) (k : Kp S w w') (hS : ∀ a, S a → a = h ∨ h + 115 ≤ a ∧ a < h + 172) (nx : CPtr w' h zp zn ∧ (gI w' 810 h = (if (ssv s').isSome = true then 1 else 0) ∧ gI w' 811 h = zI (sbd s') ∧ gI w' 812 h = zI (sri s'))) (nv : LBook F (h + 115) ∧ WBook w' (h + 115) ∧ ∀ b, ssv s' = some b → CBook F w' (h + 115) b) (es : EqX s s' True False True True True True True True) : CStP F w' h zp zn s' := by
  obtain ⟨hz, cX, cN, cD, cV, cH, cI, cR, cA, cM, cP, cQ⟩ := C
  refine ⟨hz, nx, ?_, ?_, nv, ?_, ?_, ?_, ?_, ?_, ?_, ?_⟩
  · rw [es.snw]
    exact cN.keep k fun y y1 y2 => by intro q; have := hS _ q; unfold ZZ at hz; omega
  · exact ⟨cD.1, cD.2.keep k fun y y1 y2 => by intro q; have := hS _ q; unfold ZZ at hz; omega⟩
  · rw [es.sps]
    exact cH.keep k fun y y1 y2 => by intro q; have := hS _ q; unfold ZZ at hz; omega
  · rw [es.stx]
    exact cI.keep k (by intro q; have := hS _ q; unfold ZZ at hz; omega) (by intro q; have := hS _ q; unfold ZZ at hz; omega)
  · rw [es.srf]
    exact ⟨cR.1, by rw [k.gI (by intro q; have := hS _ q; unfold ZZ at hz; omega)]; exact cR.2.1, by rw [k.gI (by intro q; have := hS _ q; unfold ZZ at hz; omega)]; exact cR.2.2⟩
  · exact cA.keep k (by intro q; have := hS _ q; unfold ZZ at hz; omega)
  · exact cM.keep k (by intro q; have := hS _ q; unfold ZZ at hz; omega)
  · rw [es.spt]
    exact ⟨cP.1.keep k (by intro q; have := hS _ q; unfold ZZ at hz; omega) (fun y y1 y2 => by intro q; have := hS _ q; unfold ZZ at hz; omega), cP.2.keep k (by intro q; have := hS _ q; unfold ZZ at hz; omega) (by intro q; have := hS _ q; unfold ZZ at hz; omega) (by intro q; have := hS _ q; unfold ZZ at hz; omega) (by intro q; have := hS _ q; unfold ZZ at hz; omega) (by intro q; have := hS _ q; unfold ZZ at hz; omega)⟩
  · exact cQ.keep k (by intro q; have := hS _ q; unfold ZZ at hz; omega) (fun y y1 y2 => by intro q; have := hS _ q; unfold ZZ at hz; omega)
