/-! more changes of the class's state -/
theorem EqX.rf {s : St} {a b c d e f g i : Prop} : EqX s s a b c d e f g i := ⟨fun _ => rfl, fun _ => rfl, fun _ => rfl, fun _ => rfl, fun _ => rfl, fun _ => rfl, fun _ => rfl, fun _ => rfl⟩
section CST2
variable {F : Fr} {N : Nat} {w w' : Wd} {h zp zn : Nat} {s s' : St} {k : Bk}
theorem CStP.upP {S : Nat → Prop} (C : CStP F w h zp zn s) (k : Kp S w w') (hS : ∀ a, S a → zp ≤ a ∧ a < zp + 10) (ncP : CPat F w' zp ∧ DPat w' zp (spt s')) (es : EqX s s' True True True True False True True True) : CStP F w' h zp zn s' := by
  obtain ⟨hz, cX, cN, cD, cV, cH, cI, cR, cA, cM, cP, cQ⟩ := C
  refine ⟨hz, ?_, ?_, ?_, ?_, ?_, ?_, ?_, ?_, ?_, ncP, ?_⟩
  · rw [es.ssv]
    rw [es.sbd]
    rw [es.sri]
    exact ⟨cX.1.keep k (by intro q; have := hS _ q; unfold ZZ at hz; omega), by rw [k.gI (by intro q; have := hS _ q; unfold ZZ at hz; omega)]; exact cX.2.1, by rw [k.gI (by intro q; have := hS _ q; unfold ZZ at hz; omega)]; exact cX.2.2.1, by rw [k.gI (by intro q; have := hS _ q; unfold ZZ at hz; omega)]; exact cX.2.2.2⟩
  · rw [es.snw]
    exact cN.keep k fun y y1 y2 => by intro q; have := hS _ q; unfold ZZ at hz; omega
  · exact ⟨cD.1, cD.2.keep k fun y y1 y2 => by intro q; have := hS _ q; unfold ZZ at hz; omega⟩
  · rw [es.ssv]
    exact ⟨cV.1, cV.2.1.keep k (fun y y1 y2 => by intro q; have := hS _ q; unfold ZZ at hz; omega), fun b hb => (cV.2.2 b hb).keep k fun y y1 y2 => by intro q; have := hS _ q; unfold ZZ at hz; omega⟩
  · rw [es.sps]
    exact cH.keep k fun y y1 y2 => by intro q; have := hS _ q; unfold ZZ at hz; omega
  · rw [es.stx]
    exact cI.keep k (by intro q; have := hS _ q; unfold ZZ at hz; omega) (by intro q; have := hS _ q; unfold ZZ at hz; omega)
  · rw [es.srf]
    exact ⟨cR.1, by rw [k.gI (by intro q; have := hS _ q; unfold ZZ at hz; omega)]; exact cR.2.1, by rw [k.gI (by intro q; have := hS _ q; unfold ZZ at hz; omega)]; exact cR.2.2⟩
  · exact cA.keep k (by intro q; have := hS _ q; unfold ZZ at hz; omega)
  · exact cM.keep k (by intro q; have := hS _ q; unfold ZZ at hz; omega)
  · exact cQ.keep k (by intro q; have := hS _ q; unfold ZZ at hz; omega) (fun y y1 y2 => by intro q; have := hS _ q; unfold ZZ at hz; omega)
theorem CStP.upIQ {S : Nat → Prop} (C : CStP F w h zp zn s) (k : Kp S w w') (hS : ∀ a, S a → a = h + 630 ∨ zn ≤ a ∧ a < zn + 10) (ncI : CIn0 F w' (h + 630) (stx s')) (ncQ : CPat F w' zn) (es : EqX s s' True True True False True True True True) : CStP F w' h zp zn s' := by
  obtain ⟨hz, cX, cN, cD, cV, cH, cI, cR, cA, cM, cP, cQ⟩ := C
  refine ⟨hz, ?_, ?_, ?_, ?_, ?_, ncI, ?_, ?_, ?_, ?_, ncQ⟩
  · rw [es.ssv]
    rw [es.sbd]
    rw [es.sri]
    exact ⟨cX.1.keep k (by intro q; have := hS _ q; unfold ZZ at hz; omega), by rw [k.gI (by intro q; have := hS _ q; unfold ZZ at hz; omega)]; exact cX.2.1, by rw [k.gI (by intro q; have := hS _ q; unfold ZZ at hz; omega)]; exact cX.2.2.1, by rw [k.gI (by intro q; have := hS _ q; unfold ZZ at hz; omega)]; exact cX.2.2.2⟩
  · rw [es.snw]
    exact cN.keep k fun y y1 y2 => by intro q; have := hS _ q; unfold ZZ at hz; omega
  · exact ⟨cD.1, cD.2.keep k fun y y1 y2 => by intro q; have := hS _ q; unfold ZZ at hz; omega⟩
  · rw [es.ssv]
    exact ⟨cV.1, cV.2.1.keep k (fun y y1 y2 => by intro q; have := hS _ q; unfold ZZ at hz; omega), fun b hb => (cV.2.2 b hb).keep k fun y y1 y2 => by intro q; have := hS _ q; unfold ZZ at hz; omega⟩
  · rw [es.sps]
    exact cH.keep k fun y y1 y2 => by intro q; have := hS _ q; unfold ZZ at hz; omega
  · rw [es.srf]
    exact ⟨cR.1, by rw [k.gI (by intro q; have := hS _ q; unfold ZZ at hz; omega)]; exact cR.2.1, by rw [k.gI (by intro q; have := hS _ q; unfold ZZ at hz; omega)]; exact cR.2.2⟩
  · exact cA.keep k (by intro q; have := hS _ q; unfold ZZ at hz; omega)
  · exact cM.keep k (by intro q; have := hS _ q; unfold ZZ at hz; omega)
  · rw [es.spt]
    exact ⟨cP.1.keep k (by intro q; have := hS _ q; unfold ZZ at hz; omega) (fun y y1 y2 => by intro q; have := hS _ q; unfold ZZ at hz; omega), cP.2.keep k (by intro q; have := hS _ q; unfold ZZ at hz; omega) (by intro q; have := hS _ q; unfold ZZ at hz; omega) (by intro q; have := hS _ q; unfold ZZ at hz; omega) (by intro q; have := hS _ q; unfold ZZ at hz; omega) (by intro q; have := hS _ q; unfold ZZ at hz; omega)⟩
theorem CStP.upNH {S : Nat → Prop} (C : CStP F w h zp zn s) (k : Kp S w w') (hS : ∀ a, S a → h + 1 ≤ a ∧ a < h + 58 ∨ h + 172 ≤ a ∧ a < h + 630) (ncN : CBook F w' (h + 1) (snw s')) (ncH : CHist F w' (h + 172) (sps s')) (es : EqX s s' False True False True True True True True) : CStP F w' h zp zn s' := by
  obtain ⟨hz, cX, cN, cD, cV, cH, cI, cR, cA, cM, cP, cQ⟩ := C
  refine ⟨hz, ?_, ncN, ?_, ?_, ncH, ?_, ?_, ?_, ?_, ?_, ?_⟩
  · rw [es.ssv]
    rw [es.sbd]
    rw [es.sri]
    exact ⟨cX.1.keep k (by intro q; have := hS _ q; unfold ZZ at hz; omega), by rw [k.gI (by intro q; have := hS _ q; unfold ZZ at hz; omega)]; exact cX.2.1, by rw [k.gI (by intro q; have := hS _ q; unfold ZZ at hz; omega)]; exact cX.2.2.1, by rw [k.gI (by intro q; have := hS _ q; unfold ZZ at hz; omega)]; exact cX.2.2.2⟩
  · exact ⟨cD.1, cD.2.keep k fun y y1 y2 => by intro q; have := hS _ q; unfold ZZ at hz; omega⟩
  · rw [es.ssv]
    exact ⟨cV.1, cV.2.1.keep k (fun y y1 y2 => by intro q; have := hS _ q; unfold ZZ at hz; omega), fun b hb => (cV.2.2 b hb).keep k fun y y1 y2 => by intro q; have := hS _ q; unfold ZZ at hz; omega⟩
  · rw [es.stx]
    exact cI.keep k (by intro q; have := hS _ q; unfold ZZ at hz; omega) (by intro q; have := hS _ q; unfold ZZ at hz; omega)
  · rw [es.srf]
    exact ⟨cR.1, by rw [k.gI (by intro q; have := hS _ q; unfold ZZ at hz; omega)]; exact cR.2.1, by rw [k.gI (by intro q; have := hS _ q; unfold ZZ at hz; omega)]; exact cR.2.2⟩
  · exact cA.keep k (by intro q; have := hS _ q; unfold ZZ at hz; omega)
  · exact cM.keep k (by intro q; have := hS _ q; unfold ZZ at hz; omega)
  · rw [es.spt]
    exact ⟨cP.1.keep k (by intro q; have := hS _ q; unfold ZZ at hz; omega) (fun y y1 y2 => by intro q; have := hS _ q; unfold ZZ at hz; omega), cP.2.keep k (by intro q; have := hS _ q; unfold ZZ at hz; omega) (by intro q; have := hS _ q; unfold ZZ at hz; omega) (by intro q; have := hS _ q; unfold ZZ at hz; omega) (by intro q; have := hS _ q; unfold ZZ at hz; omega) (by intro q; have := hS _ q; unfold ZZ at hz; omega)⟩
  · exact cQ.keep k (by intro q; have := hS _ q; unfold ZZ at hz; omega) (fun y y1 y2 => by intro q; have := hS _ q; unfold ZZ at hz; omega)
theorem CStP.upSw {S : Nat → Prop} (C : CStP F w h zp zn s) (k : Kp S w w') (hS : ∀ a, S a → a = h) (ncX : CPtr w' h zn zp ∧ (gI w' 810 h = (if (ssv s').isSome = true then 1 else 0) ∧ gI w' 811 h = zI (sbd s') ∧ gI w' 812 h = zI (sri s'))) (ncP : CPat F w' zn ∧ DPat w' zn (spt s')) (ncQ : CPat F w' zp) (es : EqX s s' True True True True False True False False) : CStP F w' h zn zp s' := by
  obtain ⟨hz, cX, cN, cD, cV, cH, cI, cR, cA, cM, cP, cQ⟩ := C
  refine ⟨by unfold ZZ at hz ⊢; omega, ncX, ?_, ?_, ?_, ?_, ?_, ?_, ?_, ?_, ncP, ncQ⟩
  · rw [es.snw]
    exact cN.keep k fun y y1 y2 => by intro q; have := hS _ q; unfold ZZ at hz; omega
  · exact ⟨cD.1, cD.2.keep k fun y y1 y2 => by intro q; have := hS _ q; unfold ZZ at hz; omega⟩
  · rw [es.ssv]
    exact ⟨cV.1, cV.2.1.keep k (fun y y1 y2 => by intro q; have := hS _ q; unfold ZZ at hz; omega), fun b hb => (cV.2.2 b hb).keep k fun y y1 y2 => by intro q; have := hS _ q; unfold ZZ at hz; omega⟩
  · rw [es.sps]
    exact cH.keep k fun y y1 y2 => by intro q; have := hS _ q; unfold ZZ at hz; omega
  · rw [es.stx]
    exact cI.keep k (by intro q; have := hS _ q; unfold ZZ at hz; omega) (by intro q; have := hS _ q; unfold ZZ at hz; omega)
  · rw [es.srf]
    exact ⟨cR.1, by rw [k.gI (by intro q; have := hS _ q; unfold ZZ at hz; omega)]; exact cR.2.1, by rw [k.gI (by intro q; have := hS _ q; unfold ZZ at hz; omega)]; exact cR.2.2⟩
  · exact cA.keep k (by intro q; have := hS _ q; unfold ZZ at hz; omega)
  · exact cM.keep k (by intro q; have := hS _ q; unfold ZZ at hz; omega)
end CST2
