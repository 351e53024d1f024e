theorem tbl_outL (lo m : Nat) (x : Int32) (h : ∀ j : Nat, j < m → ¬ x = Int32.ofNat (lo + j)) (hm : lo + m < 100) : x.toInt < lo ∨ (lo : Int) + m - 1 < x.toInt := by
  by_cases h0 : x.toInt < lo
  · exact Or.inl h0
  · refine Or.inr ?_
    by_cases h1 : (lo : Int) + m - 1 < x.toInt
    · exact h1
    · exfalso
      refine h (x.toInt.toNat - lo) (by omega) ?_
      apply Int32.toInt_inj.mp
      rw [Int32.toInt_ofNat_of_lt (by omega)]
      omega
section BD19
variable {ρ : Type} {g : Bd} {G : Gy} {F : Fr} {cc : ByteArray} {own : String} {nL : Nat} {R : Room} {Q : ρ → State → Prop} {k n : Nat} {den : Option ρ} {w : Wd} {pc : Nat} {lv : List (Nat × Value)} {st : List Value}
theorem bd_dstore_n (C : Cx g G F cc own nL R) {j : Fin 4} {i : Nat} {x : UInt64} (lv' : List (Nat × Value)) (hd : decode cc pc = .ok (.dstore_n j, 1)) (hi : (j : Nat) = i) (hn : i + 1 < nL) (e : (i, Value.double x) :: lv.filter (fun q => !(q.1 == i) && (!(q.1 == i + 1) && !(q.1 + 1 == i && q.2.category == 2))) = lv') (h : BD g G F nL Q k n den w (pc + 1) lv' st) : BD g G F nL Q k n den w pc lv (.double x :: st) :=
  fun r hr H locs ls hP hS hl => lv_dstore_n C.exec C.code hd hi hl hn e (fun ls' hl' => h r hr H locs ls' hP hS hl')
theorem bd_dload_n (C : Cx g G F cc own nL R) {j : Fin 4} {i : Nat} {x : UInt64} (q : Nat) (hd : decode cc pc = .ok (.dload_n j, 1)) (hi : (j : Nat) = i) (hq : lv[q]? = some (i, .double x)) (h : BD g G F nL Q k n den w (pc + 1) lv (.double x :: st)) : BD g G F nL Q k n den w pc lv st :=
  fun r hr H locs ls hP hS hl => lv_dload_n C.exec C.code hd hi (lv_at hl q hq) (h r hr H locs ls hP hS hl)
theorem bd_fstore (C : Cx g G F cc own nL R) {i : Nat} {x : UInt32} (lv' : List (Nat × Value)) (hd : decode cc pc = .ok (.fstore i, 2)) (hn : i < nL) (e : (i, Value.float x) :: lv.filter (fun q => !(q.1 == i) && !(q.1 + 1 == i && q.2.category == 2)) = lv') (h : BD g G F nL Q k n den w (pc + 2) lv' st) : BD g G F nL Q k n den w pc lv (.float x :: st) :=
  fun r hr H locs ls hP hS hl => lv_fstore C.exec C.code hd hl hn e (fun ls' hl' => h r hr H locs ls' hP hS hl')
theorem bd_fload (C : Cx g G F cc own nL R) {i : Nat} {x : UInt32} (q : Nat) (hd : decode cc pc = .ok (.fload i, 2)) (hq : lv[q]? = some (i, .float x)) (h : BD g G F nL Q k n den w (pc + 2) lv (.float x :: st)) : BD g G F nL Q k n den w pc lv st :=
  fun r hr H locs ls hP hS hl => lv_fload C.exec C.code hd (lv_at hl q hq) (h r hr H locs ls hP hS hl)
theorem bd_fcmp (C : Cx g G F cc own nL R) {x y : UInt32} {op : CmpOp} (hd : decode cc pc = .ok (.fcmp op, 1)) (h : BD g G F nL Q k n den w (pc + 1) lv (.int (Op.cmpValue (FP.fcmp x y) op) :: st)) : BD g G F nL Q k n den w pc lv (.float y :: .float x :: st) :=
  fun r hr H locs ls hP hS hl => lv_fcmp C.exec C.code hd (h r hr H locs ls hP hS hl)
end BD19
