def fX7_first (F : Fr) (N : Nat) (w : Wd) (l0 : Nat) (l1 : Int32) : Option (Int32) :=
  if l1 < 0 then
  some 0
  else
  if 31 ≤ l1 then
  some 0
  else
  (rdR F w 700 l0 11).bind fun r3 =>
  (ldI F w r3 l1).bind fun x4 =>
  some x4
def fX7_end (F : Fr) (N : Nat) (w : Wd) (l0 : Nat) (l1 : Int32) : Option (Int32) :=
  if l1 < 0 then
  some 0
  else
  if 31 ≤ l1 then
  some 0
  else
  (rdR F w 701 l0 11).bind fun r3 =>
  (ldI F w r3 l1).bind fun x4 =>
  some x4
def fX0_distance (F : Fr) (N : Nat) (w : Wd) (l0 : Nat) (l1 : Int32) (l2 : Nat) (l3 : Int32) : Option (Int32) :=
  (fX7_first F N w l0 l1).bind fun x1 =>
  (fX7_first F N w l2 l3).bind fun x2 =>
  (fX7_end F N w l0 l1).bind fun x3 =>
  (fX7_end F N w l2 l3).bind fun x4 =>
  some ((iabs (x1 - x2)) + (iabs (x3 - x4)))
def fX0_worth (F : Fr) (N : Nat) (w : Wd) (l0 : Nat) (l1 : Int32) (l2 : Nat) (l3 : Int32) (l4 : Int32) : Option (Int32) :=
  (fX0_distance F N w l0 l1 l2 l3).bind fun x1 =>
  if l4 < x1 then
  some 0
  else
  some (10000 - x1)
def fX0_bestFrom (F : Fr) (N : Nat) (w : Wd) (l0 : Nat) (l1 : Int32) (l2 : Int32) : Option (Int32) :=
  bnd ((l1 * 31) + l2) fun v1 =>
  if v1 < 0 then
  some 0
  else
  (rdR F w 0 l0 11).bind fun r3 =>
  if (nI (F.2.1 r3)) ≤ v1 then
  some 0
  else
  (rdR F w 0 l0 11).bind fun r5 =>
  (ldI F w r5 v1).bind fun x6 =>
  some x6
def fX0_fillBest_156 (F : Fr) (N : Nat) (k11 : Wd → Nat → Nat → Nat → Int32 → Int32 → Option (Wd)) (k27 : Wd → Nat → Nat → Nat → Int32 → Int32 → Int32 → Option (Wd)) (w : Wd) (l0 : Nat) (l1 : Nat) (l2 : Nat) (l3 : Int32) (l4 : Int32) (l5 : Int32) : Option (Wd) :=
  k27 w l0 l1 l2 l3 l4 (l5 + (-1))
def fX0_fillBest_122 (F : Fr) (N : Nat) (k11 : Wd → Nat → Nat → Nat → Int32 → Int32 → Option (Wd)) (k27 : Wd → Nat → Nat → Nat → Int32 → Int32 → Int32 → Option (Wd)) (w : Wd) (l0 : Nat) (l1 : Nat) (l2 : Nat) (l3 : Int32) (l4 : Int32) (l5 : Int32) (l6 : Int32) : Option (Wd) :=
  bnd ((l4 * 31) + l5) fun v12 =>
  if v12 < 0 then
  fX0_fillBest_156 F N k11 k27 w l0 l1 l2 l3 l4 l5
  else
  (rdR F w 0 l0 11).bind fun r14 =>
  if (nI (F.2.1 r14)) ≤ v12 then
  fX0_fillBest_156 F N k11 k27 w l0 l1 l2 l3 l4 l5
  else
  (rdR F w 0 l0 11).bind fun r16 =>
  (stI F w r16 v12 l6).bind fun w17 =>
  fX0_fillBest_156 F N k11 k27 w17 l0 l1 l2 l3 l4 l5
def fX0_fillBest_120 (F : Fr) (N : Nat) (k11 : Wd → Nat → Nat → Nat → Int32 → Int32 → Option (Wd)) (k27 : Wd → Nat → Nat → Nat → Int32 → Int32 → Int32 → Option (Wd)) (w : Wd) (l0 : Nat) (l1 : Nat) (l2 : Nat) (l3 : Int32) (l4 : Int32) (l5 : Int32) (s0 : Int32) : Option (Wd) :=
  fX0_fillBest_122 F N k11 k27 w l0 l1 l2 l3 l4 l5 s0
def fX0_fillBest_27 (F : Fr) (N : Nat) (k11 : Wd → Nat → Nat → Nat → Int32 → Int32 → Option (Wd)) : Nat → Wd → Nat → Nat → Nat → Int32 → Int32 → Int32 → Option (Wd)
  | 0, _, _, _, _, _, _, _ => none
  | n + 1, w, l0, l1, l2, l3, l4, l5 =>
    if l5 < 0 then
    k11 w l0 l1 l2 l3 (l4 + (-1))
    else
    if (gI w 703 l1) ≤ l4 then
    fX0_fillBest_122 F N k11 (fX0_fillBest_27 F N k11 n) w l0 l1 l2 l3 l4 l5 0
    else
    if (gI w 703 l2) ≤ l5 then
    fX0_fillBest_122 F N k11 (fX0_fillBest_27 F N k11 n) w l0 l1 l2 l3 l4 l5 0
    else
    (fX0_worth F N w l1 l4 l2 l5 l3).bind fun x6 =>
    (fX0_bestFrom F N w l0 (l4 + 1) l5).bind fun x7 =>
    (fX0_bestFrom F N w l0 l4 (l5 + 1)).bind fun x8 =>
    bnd (imax x7 x8) fun v9 =>
    if x6 ≤ 0 then
    fX0_fillBest_120 F N k11 (fX0_fillBest_27 F N k11 n) w l0 l1 l2 l3 l4 l5 v9
    else
    (fX0_bestFrom F N w l0 (l4 + 1) (l5 + 1)).bind fun x11 =>
    fX0_fillBest_120 F N k11 (fX0_fillBest_27 F N k11 n) w l0 l1 l2 l3 l4 l5 (imax v9 (x6 + x11))
def fX0_fillBest_11 (F : Fr) (N : Nat) : Nat → Wd → Nat → Nat → Nat → Int32 → Int32 → Option (Wd)
  | 0, _, _, _, _, _, _ => none
  | n + 1, w, l0, l1, l2, l3, l4 =>
    if l4 < 0 then
    some w
    else
    bnd (imin (gI w 703 l2) 30) fun v2 =>
    fX0_fillBest_27 F N (fX0_fillBest_11 F N n) N w l0 l1 l2 l3 l4 v2
def fX0_fillBest (F : Fr) (N : Nat) (w : Wd) (l0 : Nat) (l1 : Nat) (l2 : Nat) (l3 : Int32) : Option (Wd) :=
  bnd (imin (gI w 703 l1) 30) fun v18 =>
  fX0_fillBest_11 F N N w l0 l1 l2 l3 v18
def fX0_choose_61 (F : Fr) (N : Nat) (w : Wd) (k13 : Nat → Nat → Int32 → Nat → Int32 → Int32 → Int32 → Option (Int32)) (l0 : Nat) (l1 : Nat) (l2 : Int32) (l3 : Nat) (l5 : Int32) (l6 : Int32) (l7 : Int32) : Option (Int32) :=
  k13 l0 l1 l2 l3 l5 l6 (l7 + 1)
def fX0_choose_13 (F : Fr) (N : Nat) (w : Wd) : Nat → Nat → Nat → Int32 → Nat → Int32 → Int32 → Int32 → Option (Int32)
  | 0, _, _, _, _, _, _, _ => none
  | n + 1, l0, l1, l2, l3, l5, l6, l7 =>
    if (gI w 703 l3) ≤ l7 then
    some (-1)
    else
    (fX0_worth F N w l1 l2 l3 l7 l5).bind fun x2 =>
    if x2 ≤ 0 then
    fX0_choose_61 F N w (fX0_choose_13 F N w n) l0 l1 l2 l3 l5 l6 l7
    else
    (fX0_bestFrom F N w l0 (l2 + 1) (l7 + 1)).bind fun x4 =>
    if (x2 + x4) = l6 then
    some l7
    else
    fX0_choose_61 F N w (fX0_choose_13 F N w n) l0 l1 l2 l3 l5 l6 l7
def fX0_choose (F : Fr) (N : Nat) (w : Wd) (l0 : Nat) (l1 : Nat) (l2 : Int32) (l3 : Nat) (l4 : Int32) (l5 : Int32) : Option (Int32) :=
  (fX0_bestFrom F N w l0 l2 l4).bind fun x6 =>
  fX0_choose_13 F N w N l0 l1 l2 l3 l5 x6 l4
def fX0_run_100 (F : Fr) (N : Nat) (k23 : Wd → Nat → Nat → Nat → Int32 → Int32 → Int32 → Option (Wd)) (w : Wd) (l0 : Nat) (l1 : Nat) (l2 : Nat) (l3 : Int32) (l4 : Int32) (l5 : Int32) : Option (Wd) :=
  k23 w l0 l1 l2 l3 l4 (l5 + 1)
def fX0_run_23 (F : Fr) (N : Nat) : Nat → Wd → Nat → Nat → Nat → Int32 → Int32 → Int32 → Option (Wd)
  | 0, _, _, _, _, _, _, _ => none
  | n + 1, w, l0, l1, l2, l3, l4, l5 =>
    if (gI w 703 l1) ≤ l5 then
    some w
    else
    if 30 ≤ l5 then
    some w
    else
    (fX0_choose F N w l0 l1 l5 l2 l4 l3).bind fun x3 =>
    (rdR F w 1 l0 11).bind fun r4 =>
    (stI F w r4 l5 x3).bind fun w5 =>
    if x3 < 0 then
    fX0_run_100 F N (fX0_run_23 F N n) w5 l0 l1 l2 l3 l4 l5
    else
    bnd (sI w5 2 l0 ((gI w5 2 l0) + 1)) fun w7 =>
    (fX0_distance F N w7 l1 l5 l2 x3).bind fun x8 =>
    bnd (sI w7 3 l0 ((gI w7 3 l0) + x8)) fun w9 =>
    bnd (x3 + 1) fun v10 =>
    fX0_run_100 F N (fX0_run_23 F N n) w9 l0 l1 l2 l3 v10 l5
def fX0_run (F : Fr) (N : Nat) (w : Wd) (l0 : Nat) (l1 : Nat) (l2 : Nat) (l3 : Int32) : Option (Wd) :=
  (fX0_fillBest F N w l0 l1 l2 l3).bind fun p11 =>
  bnd (sI p11 2 l0 0) fun w12 =>
  bnd (sI w12 3 l0 0) fun w13 =>
  fX0_run_23 F N N w13 l0 l1 l2 l3 0 0
def fX0_partnerOf (F : Fr) (N : Nat) (w : Wd) (l0 : Nat) (l1 : Int32) : Option (Int32) :=
  if l1 < 0 then
  some (-1)
  else
  if 30 ≤ l1 then
  some (-1)
  else
  (rdR F w 1 l0 11).bind fun r3 =>
  (ldI F w r3 l1).bind fun x4 =>
  some x4
def fX1_reset (F : Fr) (N : Nat) (w : Wd) (l0 : Nat) : Option (Wd) :=
  bnd (sI w 105 l0 0) fun w1 =>
  bnd (sI w1 106 l0 0) fun w2 =>
  bnd (sI w2 107 l0 50) fun w3 =>
  bnd (sI w3 108 l0 20) fun w4 =>
  some w4
def fX1_kindOf (F : Fr) (N : Nat) (w : Wd) (l0 : Nat) (l1 : Int32) : Option (Int32) :=
  if l1 < 0 then
  some 0
  else
  if 6 ≤ l1 then
  some 0
  else
  (rdR F w 100 l0 11).bind fun r3 =>
  (ldI F w r3 l1).bind fun x4 =>
  some x4
def fX1_ruleOf (F : Fr) (N : Nat) (w : Wd) (l0 : Nat) (l1 : Int32) : Option (Int32) :=
  if l1 < 0 then
  some 0
  else
  if 6 ≤ l1 then
  some 0
  else
  (rdR F w 101 l0 11).bind fun r3 =>
  (ldI F w r3 l1).bind fun x4 =>
  some x4
def fX1_parentOf (F : Fr) (N : Nat) (w : Wd) (l0 : Nat) (l1 : Int32) : Option (Int32) :=
  if l1 < 0 then
  some (-1)
  else
  if 6 ≤ l1 then
  some (-1)
  else
  (rdR F w 102 l0 11).bind fun r3 =>
  (ldI F w r3 l1).bind fun x4 =>
  some x4
def fX1_setTier (F : Fr) (N : Nat) (w : Wd) (l0 : Nat) (l1 : Int32) (l2 : Int32) (l3 : Int32) (l4 : Int32) : Option (Wd) :=
  if l1 < 0 then
  some w
  else
  if 6 ≤ l1 then
  some w
  else
  (rdR F w 100 l0 11).bind fun r3 =>
  (stI F w r3 l1 l2).bind fun w4 =>
  (rdR F w4 101 l0 11).bind fun r5 =>
  (stI F w4 r5 l1 l3).bind fun w6 =>
  (rdR F w6 102 l0 11).bind fun r7 =>
  (stI F w6 r7 l1 l4).bind fun w8 =>
  some w8
def fX1_row_30 (F : Fr) (N : Nat) (w : Wd) (l0 : Nat) (s0 : Option Nat) : Option (Nat) :=
  s0.elim
  ((rdR F w 104 l0 7).bind fun r2 =>
  some r2)
  (fun z1 => some z1)
def fX1_row_29 (F : Fr) (N : Nat) (w : Wd) (l0 : Nat) : Option (Nat) :=
  fX1_row_30 F N w l0 none
def fX1_row (F : Fr) (N : Nat) (w : Wd) (l0 : Nat) (l1 : Int32) (l2 : Int32) : Option (Nat) :=
  bnd ((l1 * 6) + l2) fun v3 =>
  if v3 < 0 then
  fX1_row_29 F N w l0
  else
  (rdR F w 103 l0 15).bind fun r5 =>
  if (nI (F.2.1 r5)) ≤ v3 then
  fX1_row_29 F N w l0
  else
  (rdR F w 103 l0 15).bind fun r7 =>
  (ldR F w r7 v3 7).bind fun q8 =>
  fX1_row_30 F N w l0 q8
def fX7_copyFrom (F : Fr) (N : Nat) (w : Wd) (l0 : Nat) (l1 : Nat) : Option (Wd) :=
  bnd (gI w 703 l1) fun v1 =>
  if v1 < 0 then
  some w
  else
  if 31 < v1 then
  some w
  else
  (rdR F w 700 l1 11).bind fun r4 =>
  (rdR F w 700 l0 11).bind fun r5 =>
  (cpI F w r4 0 r5 0 v1).bind fun w6 =>
  (rdR F w6 701 l1 11).bind fun r7 =>
  (rdR F w6 701 l0 11).bind fun r8 =>
  (cpI F w6 r7 0 r8 0 v1).bind fun w9 =>
  (rdR F w9 702 l1 12).bind fun r10 =>
  (rdR F w9 702 l0 12).bind fun r11 =>
  (cpJ F w9 r10 0 r11 0 v1).bind fun w12 =>
  bnd (sI w12 703 l0 v1) fun w13 =>
  some w13
def fX1_copyFrom_34 (F : Fr) (N : Nat) : Nat → Wd → Nat → Nat → Int32 → Option (Wd)
  | 0, _, _, _, _ => none
  | n + 1, w, l0, l1, l2 =>
    if (gI w 105 l0) ≤ l2 then
    some w
    else
    (fX1_kindOf F N w l1 l2).bind fun x2 =>
    (fX1_ruleOf F N w l1 l2).bind fun x3 =>
    (fX1_parentOf F N w l1 l2).bind fun x4 =>
    (fX1_setTier F N w l0 l2 x2 x3 x4).bind fun p5 =>
    (fX1_row F N p5 l0 0 l2).bind fun x6 =>
    (ckF F x6 7).bind fun _ =>
    (fX1_row F N p5 l1 0 l2).bind fun x8 =>
    (ckF F x8 7).bind fun _ =>
    (fX7_copyFrom F N p5 x6 x8).bind fun p10 =>
    (fX1_row F N p10 l0 1 l2).bind fun x11 =>
    (ckF F x11 7).bind fun _ =>
    (fX1_row F N p10 l1 1 l2).bind fun x13 =>
    (ckF F x13 7).bind fun _ =>
    (fX7_copyFrom F N p10 x11 x13).bind fun p15 =>
    fX1_copyFrom_34 F N n p15 l0 l1 (l2 + 1)
def fX1_copyFrom (F : Fr) (N : Nat) (w : Wd) (l0 : Nat) (l1 : Nat) : Option (Wd) :=
  bnd (sI w 105 l0 (gI w 105 l1)) fun w16 =>
  bnd (sI w16 106 l0 (gI w16 106 l1)) fun w17 =>
  bnd (sI w17 107 l0 (gI w17 107 l1)) fun w18 =>
  bnd (sI w18 108 l0 (gI w18 108 l1)) fun w19 =>
  fX1_copyFrom_34 F N N w19 l0 l1 0
def fX1_hasTier (F : Fr) (N : Nat) (w : Wd) (l0 : Nat) (l1 : Int32) : Option (Int32) :=
  if l1 < 0 then
  some 0
  else
  if (gI w 105 l0) ≤ l1 then
  some 0
  else
  some 1
def fX1_present (F : Fr) (N : Nat) (w : Wd) (l0 : Nat) (l1 : Int32) : Option (Nat) :=
  (fX1_row F N w l0 (gI w 106 l0) l1).bind fun x1 =>
  (ckF F x1 7).bind fun _ =>
  some x1
def fX1_hasSpan (F : Fr) (N : Nat) (w : Wd) (l0 : Nat) (l1 : Int32) (l2 : Int32) : Option (Int32) :=
  (fX1_hasTier F N w l0 l1).bind fun x1 =>
  if x1 = 0 then
  some 0
  else
  if l2 < 0 then
  some 0
  else
  (fX1_present F N w l0 l1).bind fun x4 =>
  (ckF F x4 7).bind fun _ =>
  if (gI w 703 x4) ≤ l2 then
  some 0
  else
  some 1
def fX1_putTier_20 (F : Fr) (N : Nat) (w : Wd) (l0 : Nat) (l4 : Int32) (s0 : Nat) (s1 : Int32) (s2 : Int32) (s3 : Int32) (s4 : Int32) : Option (Int32 × Wd) :=
  (fX1_setTier F N w s0 s1 s2 s3 s4).bind fun p1 =>
  (fX1_row F N p1 l0 0 l4).bind fun x2 =>
  (ckF F x2 7).bind fun _ =>
  bnd (sI p1 703 x2 0) fun w4 =>
  (fX1_row F N w4 l0 1 l4).bind fun x5 =>
  (ckF F x5 7).bind fun _ =>
  bnd (sI w4 703 x5 0) fun w7 =>
  bnd (sI w7 105 l0 ((gI w7 105 l0) + 1)) fun w8 =>
  some (l4, w8)
def fX1_putTier (F : Fr) (N : Nat) (w : Wd) (l0 : Nat) (l1 : Int32) (l2 : Int32) (l3 : Int32) : Option (Int32 × Wd) :=
  bnd (gI w 105 l0) fun v9 =>
  if l2 = 0 then
  fX1_putTier_20 F N w l0 v9 l0 v9 l1 l2 (-1)
  else
  fX1_putTier_20 F N w l0 v9 l0 v9 l1 l2 l3
def fX1_childMask_31 (F : Fr) (N : Nat) (w : Wd) (k6 : Nat → Int32 → Int32 → Int32 → Option (Int32)) (l0 : Nat) (l1 : Int32) (l3 : Int32) (s0 : Int32) (s1 : Int32) : Option (Int32) :=
  bnd (s0 ||| s1) fun v4 =>
  k6 l0 l1 v4 (l3 + 1)
def fX1_childMask_6 (F : Fr) (N : Nat) (w : Wd) : Nat → Nat → Int32 → Int32 → Int32 → Option (Int32)
  | 0, _, _, _, _ => none
  | n + 1, l0, l1, l2, l3 =>
    if (gI w 105 l0) ≤ l3 then
    some l2
    else
    (fX1_parentOf F N w l0 l3).bind fun x2 =>
    if x2 = l1 then
    fX1_childMask_31 F N w (fX1_childMask_6 F N w n) l0 l1 l3 l2 (1 <<< (l3 &&& 31))
    else
    fX1_childMask_31 F N w (fX1_childMask_6 F N w n) l0 l1 l3 l2 0
def fX1_childMask (F : Fr) (N : Nat) (w : Wd) (l0 : Nat) (l1 : Int32) : Option (Int32) :=
  bnd (l1 + 1) fun v5 =>
  fX1_childMask_6 F N w N l0 l1 0 v5
def fX1_spanCount_4 (F : Fr) (N : Nat) (w : Wd) : Nat → Nat → Int32 → Int32 → Option (Int32)
  | 0, _, _, _ => none
  | n + 1, l0, l1, l2 =>
    if (gI w 105 l0) ≤ l2 then
    some l1
    else
    (fX1_row F N w l0 0 l2).bind fun x2 =>
    (ckF F x2 7).bind fun _ =>
    (fX1_row F N w l0 1 l2).bind fun x4 =>
    (ckF F x4 7).bind fun _ =>
    bnd (l1 + ((gI w 703 x2) + (gI w 703 x4))) fun v6 =>
    fX1_spanCount_4 F N w n l0 v6 (l2 + 1)
def fX1_spanCount (F : Fr) (N : Nat) (w : Wd) (l0 : Nat) : Option (Int32) :=
  fX1_spanCount_4 F N w N l0 0 0
def fX7_host_110 (F : Fr) (N : Nat) (w : Wd) (k3 : Nat → Int32 → Int32 → Int32 → Int32 → Option (Int32)) (l0 : Nat) (l1 : Int32) (l2 : Int32) (l3 : Int32) (l4 : Int32) : Option (Int32) :=
  k3 l0 l1 l2 l3 (l4 + 1)
def fX7_host_97 (F : Fr) (N : Nat) (w : Wd) (k3 : Nat → Int32 → Int32 → Int32 → Int32 → Option (Int32)) (l0 : Nat) (l1 : Int32) (l2 : Int32) (l3 : Int32) (l4 : Int32) (l5 : Int32) : Option (Int32) :=
  if l1 = 3 then
  if l5 = 0 then
  fX7_host_110 F N w k3 l0 l1 l2 l3 l4
  else
  some l4
  else
  fX7_host_110 F N w k3 l0 l1 l2 l3 l4
def fX7_host_82 (F : Fr) (N : Nat) (w : Wd) (k3 : Nat → Int32 → Int32 → Int32 → Int32 → Option (Int32)) (l0 : Nat) (l1 : Int32) (l2 : Int32) (l3 : Int32) (l4 : Int32) (l5 : Int32) (l6 : Int32) : Option (Int32) :=
  if l1 = 2 then
  if l5 = 0 then
  fX7_host_97 F N w k3 l0 l1 l2 l3 l4 l5
  else
  if l6 = 0 then
  fX7_host_97 F N w k3 l0 l1 l2 l3 l4 l5
  else
  some l4
  else
  fX7_host_97 F N w k3 l0 l1 l2 l3 l4 l5
def fX7_host_53 (F : Fr) (N : Nat) (w : Wd) (k3 : Nat → Int32 → Int32 → Int32 → Int32 → Option (Int32)) (l0 : Nat) (l1 : Int32) (l2 : Int32) (l3 : Int32) (l4 : Int32) (l5 : Int32) (s0 : Int32) : Option (Int32) :=
  if l1 = 1 then
  (rdR F w 700 l0 11).bind fun r10 =>
  (ldI F w r10 l4).bind fun x11 =>
  if l2 < x11 then
  fX7_host_82 F N w k3 l0 l1 l2 l3 l4 l5 s0
  else
  (rdR F w 701 l0 11).bind fun r13 =>
  (ldI F w r13 l4).bind fun x14 =>
  if l3 ≤ x14 then
  some l4
  else
  fX7_host_82 F N w k3 l0 l1 l2 l3 l4 l5 s0
  else
  fX7_host_82 F N w k3 l0 l1 l2 l3 l4 l5 s0
def fX7_host_35 (F : Fr) (N : Nat) (w : Wd) (k3 : Nat → Int32 → Int32 → Int32 → Int32 → Option (Int32)) (l0 : Nat) (l1 : Int32) (l2 : Int32) (l3 : Int32) (l4 : Int32) (s0 : Int32) : Option (Int32) :=
  (rdR F w 701 l0 11).bind fun r6 =>
  (ldI F w r6 l4).bind fun x7 =>
  if x7 = l3 then
  fX7_host_53 F N w k3 l0 l1 l2 l3 l4 s0 1
  else
  fX7_host_53 F N w k3 l0 l1 l2 l3 l4 s0 0
def fX7_host_3 (F : Fr) (N : Nat) (w : Wd) : Nat → Nat → Int32 → Int32 → Int32 → Int32 → Option (Int32)
  | 0, _, _, _, _, _ => none
  | n + 1, l0, l1, l2, l3, l4 =>
    if (gI w 703 l0) ≤ l4 then
    some (-1)
    else
    if 31 ≤ l4 then
    some (-1)
    else
    (rdR F w 700 l0 11).bind fun r3 =>
    (ldI F w r3 l4).bind fun x4 =>
    if x4 = l2 then
    fX7_host_35 F N w (fX7_host_3 F N w n) l0 l1 l2 l3 l4 1
    else
    fX7_host_35 F N w (fX7_host_3 F N w n) l0 l1 l2 l3 l4 0
def fX7_host (F : Fr) (N : Nat) (w : Wd) (l0 : Nat) (l1 : Int32) (l2 : Int32) (l3 : Int32) : Option (Int32) :=
  fX7_host_3 F N w N l0 l1 l2 l3 0
def fX1_hostOf (F : Fr) (N : Nat) (w : Wd) (l0 : Nat) (l1 : Int32) (l2 : Int32) (l3 : Int32) (l4 : Int32) : Option (Int32) :=
  (fX1_ruleOf F N w l0 l2).bind fun x1 =>
  if x1 = 0 then
  some (-1)
  else
  (fX1_parentOf F N w l0 l2).bind fun x3 =>
  (fX1_row F N w l0 l1 x3).bind fun x4 =>
  (ckF F x4 7).bind fun _ =>
  (fX1_ruleOf F N w l0 l2).bind fun x6 =>
  (fX7_host F N w x4 x6 l3 l4).bind fun x7 =>
  some x7
def fX1_lacksHost (F : Fr) (N : Nat) (w : Wd) (l0 : Nat) (l1 : Int32) (l2 : Int32) (l3 : Int32) (l4 : Int32) : Option (Int32) :=
  (fX1_ruleOf F N w l0 l2).bind fun x1 =>
  if x1 = 0 then
  some 0
  else
  (fX1_hostOf F N w l0 l1 l2 l3 l4).bind fun x3 =>
  if 0 ≤ x3 then
  some 0
  else
  some 1
def fX1_guestCount_81 (F : Fr) (N : Nat) (w : Wd) (k7 : Nat → Int32 → Int32 → Int32 → Int32 → Option (Int32)) (k27 : Nat → Int32 → Int32 → Int32 → Int32 → Nat → Int32 → Option (Int32)) (l0 : Nat) (l1 : Int32) (l2 : Int32) (l4 : Int32) (l5 : Nat) (l6 : Int32) (s0 : Int32) (s1 : Int32) : Option (Int32) :=
  bnd (s0 + s1) fun v11 =>
  k27 l0 l1 l2 v11 l4 l5 (l6 + 1)
def fX1_guestCount_89 (F : Fr) (N : Nat) (w : Wd) (k7 : Nat → Int32 → Int32 → Int32 → Int32 → Option (Int32)) (l0 : Nat) (l1 : Int32) (l2 : Int32) (l3 : Int32) (l4 : Int32) : Option (Int32) :=
  k7 l0 l1 l2 l3 (l4 + 1)
def fX1_guestCount_27 (F : Fr) (N : Nat) (w : Wd) (k7 : Nat → Int32 → Int32 → Int32 → Int32 → Option (Int32)) : Nat → Nat → Int32 → Int32 → Int32 → Int32 → Nat → Int32 → Option (Int32)
  | 0, _, _, _, _, _, _, _ => none
  | n + 1, l0, l1, l2, l3, l4, l5, l6 =>
    if (gI w 703 l5) ≤ l6 then
    fX1_guestCount_89 F N w k7 l0 l1 l2 l3 l4
    else
    (fX1_parentOf F N w l0 l4).bind fun x5 =>
    if x5 = l1 then
    (fX7_first F N w l5 l6).bind fun x7 =>
    (fX7_end F N w l5 l6).bind fun x8 =>
    (fX1_hostOf F N w l0 (gI w 106 l0) l4 x7 x8).bind fun x9 =>
    if x9 = l2 then
    fX1_guestCount_81 F N w k7 (fX1_guestCount_27 F N w k7 n) l0 l1 l2 l4 l5 l6 l3 1
    else
    fX1_guestCount_81 F N w k7 (fX1_guestCount_27 F N w k7 n) l0 l1 l2 l4 l5 l6 l3 0
    else
    fX1_guestCount_89 F N w k7 l0 l1 l2 l3 l4
def fX1_guestCount_7 (F : Fr) (N : Nat) (w : Wd) : Nat → Nat → Int32 → Int32 → Int32 → Int32 → Option (Int32)
  | 0, _, _, _, _, _ => none
  | n + 1, l0, l1, l2, l3, l4 =>
    if (gI w 105 l0) ≤ l4 then
    some l3
    else
    (fX1_present F N w l0 l4).bind fun x2 =>
    (ckF F x2 7).bind fun _ =>
    fX1_guestCount_27 F N w (fX1_guestCount_7 F N w n) N l0 l1 l2 l3 l4 x2 0
def fX1_guestCount (F : Fr) (N : Nat) (w : Wd) (l0 : Nat) (l1 : Int32) (l2 : Int32) : Option (Int32) :=
  bnd (l1 + 1) fun v12 =>
  fX1_guestCount_7 F N w N l0 l1 l2 0 v12
def fX1_hasOrphan_10 (F : Fr) (N : Nat) (w : Wd) : Nat → Nat → Int32 → Int32 → Nat → Int32 → Option (Int32)
  | 0, _, _, _, _, _ => none
  | n + 1, l0, l1, l2, l3, l4 =>
    if (gI w 703 l3) ≤ l4 then
    some 0
    else
    (fX7_first F N w l3 l4).bind fun x2 =>
    (fX7_end F N w l3 l4).bind fun x3 =>
    (fX1_lacksHost F N w l0 l1 l2 x2 x3).bind fun x4 =>
    if x4 = 0 then
    fX1_hasOrphan_10 F N w n l0 l1 l2 l3 (l4 + 1)
    else
    some 1
def fX1_hasOrphan (F : Fr) (N : Nat) (w : Wd) (l0 : Nat) (l1 : Int32) (l2 : Int32) : Option (Int32) :=
  (fX1_row F N w l0 l1 l2).bind fun x6 =>
  (ckF F x6 7).bind fun _ =>
  fX1_hasOrphan_10 F N w N l0 l1 l2 x6 0
def fX1_lowestBereft_35 (F : Fr) (N : Nat) (w : Wd) (k4 : Nat → Int32 → Int32 → Option (Int32)) (l0 : Nat) (l1 : Int32) (l2 : Int32) : Option (Int32) :=
  k4 l0 l1 (l2 + 1)
def fX1_lowestBereft_4 (F : Fr) (N : Nat) (w : Wd) : Nat → Nat → Int32 → Int32 → Option (Int32)
  | 0, _, _, _ => none
  | n + 1, l0, l1, l2 =>
    if (gI w 105 l0) ≤ l2 then
    some (-1)
    else
    (fX1_parentOf F N w l0 l2).bind fun x2 =>
    if x2 = l1 then
    (fX1_hasOrphan F N w l0 (gI w 106 l0) l2).bind fun x4 =>
    if x4 = 0 then
    fX1_lowestBereft_35 F N w (fX1_lowestBereft_4 F N w n) l0 l1 l2
    else
    some l2
    else
    fX1_lowestBereft_35 F N w (fX1_lowestBereft_4 F N w n) l0 l1 l2
def fX1_lowestBereft (F : Fr) (N : Nat) (w : Wd) (l0 : Nat) (l1 : Int32) : Option (Int32) :=
  bnd (l1 + 1) fun v6 =>
  fX1_lowestBereft_4 F N w N l0 l1 v6
def fX6_refuse (F : Fr) (N : Nat) (w : Wd) (l0 : Nat) (l1 : Int32) (l2 : Int32) : Option (Int32 × Wd) :=
  bnd (sI w 600 l0 l1) fun w1 =>
  bnd (sI w1 601 l0 l2) fun w2 =>
  some ((-1), w2)
def fX7_meeting_41 (F : Fr) (N : Nat) (w : Wd) (k3 : Nat → Int32 → Int32 → Int32 → Int32 → Option (Int32)) (l0 : Nat) (l1 : Int32) (l2 : Int32) (l3 : Int32) (l4 : Int32) : Option (Int32) :=
  k3 l0 l1 l2 l3 (l4 + 1)
def fX7_meeting_3 (F : Fr) (N : Nat) (w : Wd) : Nat → Nat → Int32 → Int32 → Int32 → Int32 → Option (Int32)
  | 0, _, _, _, _, _ => none
  | n + 1, l0, l1, l2, l3, l4 =>
    if (gI w 703 l0) ≤ l4 then
    some (-1)
    else
    if l4 = l3 then
    fX7_meeting_41 F N w (fX7_meeting_3 F N w n) l0 l1 l2 l3 l4
    else
    (fX7_first F N w l0 l4).bind fun x3 =>
    if l2 ≤ x3 then
    fX7_meeting_41 F N w (fX7_meeting_3 F N w n) l0 l1 l2 l3 l4
    else
    (fX7_end F N w l0 l4).bind fun x5 =>
    if x5 ≤ l1 then
    fX7_meeting_41 F N w (fX7_meeting_3 F N w n) l0 l1 l2 l3 l4
    else
    some l4
def fX7_meeting (F : Fr) (N : Nat) (w : Wd) (l0 : Nat) (l1 : Int32) (l2 : Int32) (l3 : Int32) : Option (Int32) :=
  fX7_meeting_3 F N w N l0 l1 l2 l3 0
def fX1_tryFrames_18 (F : Fr) (N : Nat) (w : Wd) (l5 : Nat) : Option (Int32 × Wd) :=
  (fX6_refuse F N w l5 1 0).bind fun p1 =>
  some (p1.1, p1.2)
def fX1_tryFrames (F : Fr) (N : Nat) (w : Wd) (l0 : Nat) (l1 : Int32) (l2 : Int32) (l3 : Int32) (l4 : Int32) (l5 : Nat) : Option (Int32 × Wd) :=
  if l3 < 0 then
  fX1_tryFrames_18 F N w l5
  else
  if 1000 < l4 then
  fX1_tryFrames_18 F N w l5
  else
  if l3 < l4 then
  (fX1_present F N w l0 l1).bind fun x5 =>
  (ckF F x5 7).bind fun _ =>
  (fX7_meeting F N w x5 l3 l4 l2).bind fun x7 =>
  if x7 < 0 then
  (fX1_lacksHost F N w l0 (gI w 106 l0) l1 l3 l4).bind fun x9 =>
  if x9 = 0 then
  some (0, w)
  else
  (fX6_refuse F N w l5 3 0).bind fun p11 =>
  some (p11.1, p11.2)
  else
  (fX6_refuse F N w l5 2 x7).bind fun p12 =>
  some (p12.1, p12.2)
  else
  fX1_tryFrames_18 F N w l5
def fX7_setFrames (F : Fr) (N : Nat) (w : Wd) (l0 : Nat) (l1 : Int32) (l2 : Int32) (l3 : Int32) : Option (Wd) :=
  if l1 < 0 then
  some w
  else
  if 31 ≤ l1 then
  some w
  else
  (rdR F w 700 l0 11).bind fun r3 =>
  (stI F w r3 l1 l2).bind fun w4 =>
  (rdR F w4 701 l0 11).bind fun r5 =>
  (stI F w4 r5 l1 l3).bind fun w6 =>
  some w6
def fX7_label (F : Fr) (N : Nat) (w : Wd) (l0 : Nat) (l1 : Int32) : Option (Int64) :=
  if l1 < 0 then
  some 0
  else
  if 31 ≤ l1 then
  some 0
  else
  (rdR F w 702 l0 12).bind fun r3 =>
  (ldJ F w r3 l1).bind fun x4 =>
  some x4
def fX7_setLabel (F : Fr) (N : Nat) (w : Wd) (l0 : Nat) (l1 : Int32) (l2 : Int64) : Option (Wd) :=
  if l1 < 0 then
  some w
  else
  if 31 ≤ l1 then
  some w
  else
  (rdR F w 702 l0 12).bind fun r3 =>
  (stJ F w r3 l1 l2).bind fun w4 =>
  some w4
def fX7_shift (F : Fr) (N : Nat) (w : Wd) (l0 : Nat) (l1 : Int32) (l2 : Int32) : Option (Wd) :=
  (fX7_first F N w l0 l1).bind fun x1 =>
  (fX7_end F N w l0 l1).bind fun x2 =>
  (fX7_setFrames F N w l0 l2 x1 x2).bind fun p3 =>
  (fX7_label F N p3 l0 l1).bind fun x4 =>
  (fX7_setLabel F N p3 l0 l2 x4).bind fun p5 =>
  some p5
def fX7_insert_50 (F : Fr) (N : Nat) (w : Wd) (l0 : Nat) (l1 : Int32) (l2 : Int32) (l3 : Int64) (l5 : Int32) : Option (Int32 × Wd) :=
  (fX7_setFrames F N w l0 l5 l1 l2).bind fun p5 =>
  (fX7_setLabel F N p5 l0 l5 l3).bind fun p6 =>
  bnd (sI p6 703 l0 ((gI p6 703 l0) + 1)) fun w7 =>
  some (l5, w7)
def fX7_insert_17 (F : Fr) (N : Nat) : Nat → Wd → Nat → Int32 → Int32 → Int64 → Int32 → Option (Int32 × Wd)
  | 0, _, _, _, _, _, _ => none
  | n + 1, w, l0, l1, l2, l3, l5 =>
    if l5 ≤ 0 then
    fX7_insert_50 F N w l0 l1 l2 l3 l5
    else
    (fX7_first F N w l0 (l5 - 1)).bind fun x2 =>
    if x2 ≤ l1 then
    fX7_insert_50 F N w l0 l1 l2 l3 l5
    else
    (fX7_shift F N w l0 (l5 - 1) l5).bind fun p4 =>
    fX7_insert_17 F N n p4 l0 l1 l2 l3 (l5 + (-1))
def fX7_insert (F : Fr) (N : Nat) (w : Wd) (l0 : Nat) (l1 : Int32) (l2 : Int32) (l3 : Int64) : Option (Int32 × Wd) :=
  if (gI w 703 l0) < 31 then
  bnd (gI w 703 l0) fun v9 =>
  fX7_insert_17 F N N w l0 l1 l2 l3 v9
  else
  some ((-1), w)
def fX1_insertSpan (F : Fr) (N : Nat) (w : Wd) (l0 : Nat) (l1 : Int32) (l2 : Int32) (l3 : Int32) (l4 : Int64) (l6 : Nat) : Option (Int32 × Wd) :=
  (fX1_tryFrames F N w l0 l1 (-1) l2 l3 l6).bind fun p1 =>
  if 0 ≤ p1.1 then
  (fX1_present F N p1.2 l0 l1).bind fun x3 =>
  (ckF F x3 7).bind fun _ =>
  if (gI p1.2 703 x3) < 30 then
  (fX7_insert F N p1.2 x3 l2 l3 l4).bind fun p6 =>
  some (p6.1, p6.2)
  else
  (fX6_refuse F N p1.2 l6 5 0).bind fun p7 =>
  some (p7.1, p7.2)
  else
  some ((-1), p1.2)
def fX7_delete_15 (F : Fr) (N : Nat) : Nat → Wd → Nat → Int32 → Option (Wd)
  | 0, _, _, _ => none
  | n + 1, w, l0, l2 =>
    if ((gI w 703 l0) - 1) ≤ l2 then
    bnd (sI w 703 l0 ((gI w 703 l0) - 1)) fun w2 =>
    some w2
    else
    (fX7_shift F N w l0 (l2 + 1) l2).bind fun p3 =>
    fX7_delete_15 F N n p3 l0 (l2 + 1)
def fX7_delete (F : Fr) (N : Nat) (w : Wd) (l0 : Nat) (l1 : Int32) : Option (Wd) :=
  if l1 < 0 then
  some w
  else
  if l1 < (gI w 703 l0) then
  fX7_delete_15 F N N w l0 l1
  else
  some w
def fX1_shiftSpan (F : Fr) (N : Nat) (w : Wd) (l0 : Nat) (l1 : Int32) (l2 : Int32) (l3 : Int32) (l4 : Int32) (l5 : Nat) : Option (Int32 × Wd) :=
  (fX1_tryFrames F N w l0 l1 l2 l3 l4 l5).bind fun p1 =>
  if 0 ≤ p1.1 then
  (fX1_present F N p1.2 l0 l1).bind fun x3 =>
  (ckF F x3 7).bind fun _ =>
  (fX7_label F N p1.2 x3 l2).bind fun x5 =>
  (fX7_delete F N p1.2 x3 l2).bind fun p6 =>
  (fX7_insert F N p6 x3 l3 l4 x5).bind fun p7 =>
  (fX1_lowestBereft F N p7.2 l0 l1).bind fun x8 =>
  if x8 < 0 then
  some (p7.1, p7.2)
  else
  (fX6_refuse F N p7.2 l5 4 x8).bind fun p10 =>
  some (p10.1, p10.2)
  else
  some ((-1), p1.2)
def fX1_cutSpan_73 (F : Fr) (N : Nat) (w : Wd) (l4 : Nat) : Option (Int32 × Wd) :=
  (fX6_refuse F N w l4 3 0).bind fun p2 =>
  some (p2.1, p2.2)
def fX1_cutSpan_35 (F : Fr) (N : Nat) (w : Wd) (l4 : Nat) : Option (Int32 × Wd) :=
  (fX6_refuse F N w l4 1 0).bind fun p1 =>
  some (p1.1, p1.2)
def fX1_cutSpan (F : Fr) (N : Nat) (w : Wd) (l0 : Nat) (l1 : Int32) (l2 : Int32) (l3 : Int32) (l4 : Nat) : Option (Int32 × Wd) :=
  (fX1_present F N w l0 l1).bind fun x3 =>
  (ckF F x3 7).bind fun _ =>
  (fX7_first F N w x3 l2).bind fun x5 =>
  (fX7_end F N w x3 l2).bind fun x6 =>
  if l3 ≤ x5 then
  fX1_cutSpan_35 F N w l4
  else
  if l3 < x6 then
  (fX1_lacksHost F N w l0 (gI w 106 l0) l1 x5 l3).bind fun x9 =>
  if x9 = 0 then
  (fX1_lacksHost F N w l0 (gI w 106 l0) l1 l3 x6).bind fun x11 =>
  if x11 = 0 then
  (fX7_setFrames F N w x3 l2 x5 l3).bind fun p13 =>
  (fX7_label F N p13 x3 l2).bind fun x14 =>
  (fX7_insert F N p13 x3 l3 x6 x14).bind fun p15 =>
  (fX1_lowestBereft F N p15.2 l0 l1).bind fun x16 =>
  if x16 < 0 then
  if (gI p15.2 703 x3) ≤ 30 then
  some (gI p15.2 703 x3, p15.2)
  else
  (fX6_refuse F N p15.2 l4 5 0).bind fun p19 =>
  some (p19.1, p19.2)
  else
  (fX6_refuse F N p15.2 l4 4 x16).bind fun p20 =>
  some (p20.1, p20.2)
  else
  fX1_cutSpan_73 F N w l4
  else
  fX1_cutSpan_73 F N w l4
  else
  fX1_cutSpan_35 F N w l4
def fX1_uniteSpan (F : Fr) (N : Nat) (w : Wd) (l0 : Nat) (l1 : Int32) (l2 : Int32) (l3 : Nat) : Option (Int32 × Wd) :=
  (fX1_present F N w l0 l1).bind fun x1 =>
  (ckF F x1 7).bind fun _ =>
  if (l2 + 1) < (gI w 703 x1) then
  (fX7_first F N w x1 l2).bind fun x4 =>
  (fX7_end F N w x1 (l2 + 1)).bind fun x5 =>
  (fX1_lacksHost F N w l0 (gI w 106 l0) l1 x4 x5).bind fun x6 =>
  if x6 = 0 then
  (fX7_setFrames F N w x1 l2 x4 x5).bind fun p8 =>
  (fX7_delete F N p8 x1 (l2 + 1)).bind fun p9 =>
  (fX1_lowestBereft F N p9 l0 l1).bind fun x10 =>
  if x10 < 0 then
  some (gI p9 703 x1, p9)
  else
  (fX6_refuse F N p9 l3 4 x10).bind fun p12 =>
  some (p12.1, p12.2)
  else
  (fX6_refuse F N w l3 3 0).bind fun p13 =>
  some (p13.1, p13.2)
  else
  (fX6_refuse F N w l3 1 0).bind fun p14 =>
  some (p14.1, p14.2)
def fX1_dropOrphans_54 (F : Fr) (N : Nat) (k16 : Wd → Nat → Int32 → Nat → Int32 → Int32 → Option (Int32 × Wd)) (w : Wd) (l0 : Nat) (l1 : Int32) (l2 : Nat) (l3 : Int32) (l4 : Int32) : Option (Int32 × Wd) :=
  k16 w l0 l1 l2 l3 (l4 + (-1))
def fX1_dropOrphans_16 (F : Fr) (N : Nat) : Nat → Wd → Nat → Int32 → Nat → Int32 → Int32 → Option (Int32 × Wd)
  | 0, _, _, _, _, _, _ => none
  | n + 1, w, l0, l1, l2, l3, l4 =>
    if l4 < 0 then
    some (l3, w)
    else
    (fX7_first F N w l2 l4).bind fun x2 =>
    (fX7_end F N w l2 l4).bind fun x3 =>
    (fX1_lacksHost F N w l0 (gI w 106 l0) l1 x2 x3).bind fun x4 =>
    if x4 = 0 then
    fX1_dropOrphans_54 F N (fX1_dropOrphans_16 F N n) w l0 l1 l2 l3 l4
    else
    (fX7_delete F N w l2 l4).bind fun p6 =>
    fX1_dropOrphans_54 F N (fX1_dropOrphans_16 F N n) p6 l0 l1 l2 (l3 + 1) l4
def fX1_dropOrphans (F : Fr) (N : Nat) (w : Wd) (l0 : Nat) (l1 : Int32) : Option (Int32 × Wd) :=
  (fX1_present F N w l0 l1).bind fun x7 =>
  (ckF F x7 7).bind fun _ =>
  bnd ((gI w 703 x7) - 1) fun v9 =>
  fX1_dropOrphans_16 F N N w l0 l1 x7 0 v9
def fX1_dropSpan_16 (F : Fr) (N : Nat) : Nat → Wd → Nat → Int32 → Int32 → Option (Int32 × Wd)
  | 0, _, _, _, _ => none
  | n + 1, w, l0, l3, l4 =>
    if (gI w 105 l0) ≤ l4 then
    some (l3, w)
    else
    (fX1_dropOrphans F N w l0 l4).bind fun p2 =>
    bnd (l3 + p2.1) fun v3 =>
    fX1_dropSpan_16 F N n p2.2 l0 v3 (l4 + 1)
def fX1_dropSpan (F : Fr) (N : Nat) (w : Wd) (l0 : Nat) (l1 : Int32) (l2 : Int32) : Option (Int32 × Wd) :=
  (fX1_present F N w l0 l1).bind fun x4 =>
  (ckF F x4 7).bind fun _ =>
  (fX7_delete F N w x4 l2).bind fun p6 =>
  bnd (l1 + 1) fun v7 =>
  fX1_dropSpan_16 F N N p6 l0 1 v7
def fX2_push_62 (F : Fr) (N : Nat) (w : Wd) (l0 : Nat) (s0 : Nat) (s1 : Int32) : Option (Wd) :=
  bnd (sI w 201 s0 s1) fun w4 =>
  bnd (sI w4 202 l0 (imin ((gI w4 202 l0) + 1) 8)) fun w5 =>
  some w5
def fX2_push_42 (F : Fr) (N : Nat) (w : Wd) (l0 : Nat) : Option (Wd) :=
  if 7 ≤ (gI w 201 l0) then
  fX2_push_62 F N w l0 l0 0
  else
  fX2_push_62 F N w l0 l0 ((gI w 201 l0) + 1)
def fX2_push_32 (F : Fr) (N : Nat) (w : Wd) (l0 : Nat) (l1 : Nat) (s0 : Option Nat) : Option (Wd) :=
  s0.elim
  (fX2_push_42 F N w l0)
  (fun z1 => (fX1_copyFrom F N w z1 l1).bind fun p2 =>
  fX2_push_42 F N p2 l0)
def fX2_push_31 (F : Fr) (N : Nat) (w : Wd) (l0 : Nat) (l1 : Nat) : Option (Wd) :=
  fX2_push_32 F N w l0 l1 none
def fX2_push (F : Fr) (N : Nat) (w : Wd) (l0 : Nat) (l1 : Nat) : Option (Wd) :=
  if (gI w 201 l0) < 0 then
  fX2_push_31 F N w l0 l1
  else
  (rdR F w 200 l0 14).bind fun r7 =>
  if (nI (F.2.1 r7)) ≤ (gI w 201 l0) then
  fX2_push_31 F N w l0 l1
  else
  (rdR F w 200 l0 14).bind fun r9 =>
  (ldR F w r9 (gI w 201 l0) 1).bind fun q10 =>
  fX2_push_32 F N w l0 l1 q10
def fX2_pop_64 (F : Fr) (N : Nat) (w : Wd) (l1 : Nat) (s0 : Option Nat) : Option (Wd) :=
  s0.elim
  (some w)
  (fun z8 => (fX1_copyFrom F N w l1 z8).bind fun p9 =>
  some p9)
def fX2_pop_63 (F : Fr) (N : Nat) (w : Wd) (l1 : Nat) : Option (Wd) :=
  fX2_pop_64 F N w l1 none
def fX2_pop_19 (F : Fr) (N : Nat) (w : Wd) (l0 : Nat) (l1 : Nat) (s0 : Nat) (s1 : Int32) : Option (Wd) :=
  bnd (sI w 201 s0 s1) fun w1 =>
  bnd (sI w1 202 l0 ((gI w1 202 l0) - 1)) fun w2 =>
  if (gI w2 201 l0) < 0 then
  fX2_pop_63 F N w2 l1
  else
  (rdR F w2 200 l0 14).bind fun r4 =>
  if (nI (F.2.1 r4)) ≤ (gI w2 201 l0) then
  fX2_pop_63 F N w2 l1
  else
  (rdR F w2 200 l0 14).bind fun r6 =>
  (ldR F w2 r6 (gI w2 201 l0) 1).bind fun q7 =>
  fX2_pop_64 F N w2 l1 q7
def fX2_pop (F : Fr) (N : Nat) (w : Wd) (l0 : Nat) (l1 : Nat) : Option (Wd) :=
  if (gI w 201 l0) ≤ 0 then
  fX2_pop_19 F N w l0 l1 l0 7
  else
  fX2_pop_19 F N w l0 l1 l0 ((gI w 201 l0) - 1)
def fX2_forget (F : Fr) (N : Nat) (w : Wd) (l0 : Nat) : Option (Wd) :=
  bnd (sI w 202 l0 0) fun w1 =>
  some w1
def fX3_put (F : Fr) (N : Nat) (w : Wd) (l0 : Nat) (l1 : Int32) : Option (Wd) :=
  if l1 = 0 then
  some w
  else
  if (gI w 301 l0) < 0 then
  some w
  else
  if 100 ≤ (gI w 301 l0) then
  some w
  else
  (rdR F w 300 l0 10).bind fun r4 =>
  (stI F w r4 (gI w 301 l0) (vp_nar .char ((l1.toUInt32 % 65536).toInt32))).bind fun w5 =>
  bnd (sI w5 301 l0 ((gI w5 301 l0) + 1)) fun w6 =>
  some w6
def fX3_empty (F : Fr) (N : Nat) (w : Wd) (l0 : Nat) : Option (Wd) :=
  bnd (sI w 301 l0 0) fun w1 =>
  some w1
def fX3_restart (F : Fr) (N : Nat) (w : Wd) (l0 : Nat) : Option (Wd) :=
  bnd (sI w 302 l0 0) fun w1 =>
  some w1
def fX3_isAtEnd (F : Fr) (N : Nat) (w : Wd) (l0 : Nat) : Option (Int32) :=
  if (gI w 302 l0) < (gI w 301 l0) then
  some 0
  else
  some 1
def fX3_peek (F : Fr) (N : Nat) (w : Wd) (l0 : Nat) : Option (Int32) :=
  if (gI w 302 l0) < 0 then
  some 0
  else
  if (gI w 301 l0) ≤ (gI w 302 l0) then
  some 0
  else
  if 100 ≤ (gI w 302 l0) then
  some 0
  else
  (rdR F w 300 l0 10).bind fun r4 =>
  (ldI F w r4 (gI w 302 l0)).bind fun x5 =>
  (ckC x5).bind fun _ =>
  some x5
def fX3_take (F : Fr) (N : Nat) (w : Wd) (l0 : Nat) (l1 : Int32) : Option (Int32 × Wd) :=
  (fX3_peek F N w l0).bind fun x1 =>
  if x1 = l1 then
  bnd (sI w 302 l0 ((gI w 302 l0) + 1)) fun w3 =>
  some (1, w3)
  else
  some (0, w)
def fX3_isDigit (F : Fr) (N : Nat) (w : Wd) (l0 : Nat) : Option (Int32) :=
  (fX3_peek F N w l0).bind fun x1 =>
  if x1 < 48 then
  some 0
  else
  (fX3_peek F N w l0).bind fun x3 =>
  if 57 < x3 then
  some 0
  else
  some 1
def fX3_readTier (F : Fr) (N : Nat) (w : Wd) (l0 : Nat) (l1 : Int32) : Option (Int32 × Wd) :=
  (fX3_peek F N w l0).bind fun x1 =>
  bnd (x1 - 48) fun v2 =>
  if v2 < 0 then
  some ((-1), w)
  else
  if v2 < l1 then
  bnd (sI w 302 l0 ((gI w 302 l0) + 1)) fun w5 =>
  some (v2, w5)
  else
  some ((-1), w)
def fX3_readNumber_24 (F : Fr) (N : Nat) : Nat → Wd → Nat → Int32 → Int32 → Option (Int32 × Wd)
  | 0, _, _, _, _ => none
  | n + 1, w, l0, l1, l2 =>
    if 4 ≤ l2 then
    some (l1, w)
    else
    (fX3_isDigit F N w l0).bind fun x2 =>
    if x2 = 0 then
    some (l1, w)
    else
    (fX3_peek F N w l0).bind fun x4 =>
    bnd (((l1 * 10) + x4) - 48) fun v5 =>
    bnd (sI w 302 l0 ((gI w 302 l0) + 1)) fun w6 =>
    fX3_readNumber_24 F N n w6 l0 v5 (l2 + 1)
def fX3_readNumber (F : Fr) (N : Nat) (w : Wd) (l0 : Nat) : Option (Int32 × Wd) :=
  (fX3_isDigit F N w l0).bind fun x7 =>
  if x7 = 0 then
  some ((-1), w)
  else
  (fX3_take F N w l0 48).bind fun p9 =>
  if p9.1 = 0 then
  fX3_readNumber_24 F N N p9.2 l0 0 0
  else
  some (0, p9.2)
def fX3_isLetterOf_50 (F : Fr) (N : Nat) (w : Wd) : Option (Int32) :=
  some 1
def fX3_isLetterOf (F : Fr) (N : Nat) (w : Wd) (l0 : Nat) (l1 : Int32) : Option (Int32) :=
  (fX3_peek F N w l0).bind fun x1 =>
  if l1 = 1 then
  if x1 = 108 then
  fX3_isLetterOf_50 F N w
  else
  if x1 = 114 then
  fX3_isLetterOf_50 F N w
  else
  if x1 = 98 then
  fX3_isLetterOf_50 F N w
  else
  some 0
  else
  if l1 = 2 then
  (fX3_isDigit F N w l0).bind fun x7 =>
  (ckZ x7).bind fun _ =>
  some x7
  else
  if x1 < 97 then
  some 0
  else
  if 122 < x1 then
  some 0
  else
  some 1
def fX8_withLetter (F : Fr) (N : Nat) (w : Wd) (l0 : Int64) (l2 : Int32) (l3 : Int32) : Option (Int64) :=
  some (l0 ||| (l3.toInt64 <<< (Int32.toInt64 (8 * l2) &&& 63)))
def fX3_readLabel_21 (F : Fr) (N : Nat) : Nat → Wd → Nat → Int32 → Int32 → Int64 → Int32 → Option (Int64 × Wd)
  | 0, _, _, _, _, _, _ => none
  | n + 1, w, l0, l1, l2, l3, l5 =>
    if l2 ≤ l5 then
    some (l3, w)
    else
    (fX3_isLetterOf F N w l0 l1).bind fun x2 =>
    if x2 = 0 then
    some (l3, w)
    else
    (fX3_peek F N w l0).bind fun x4 =>
    (fX8_withLetter F N w l3 l5 x4).bind fun x5 =>
    bnd (sI w 302 l0 ((gI w 302 l0) + 1)) fun w6 =>
    fX3_readLabel_21 F N n w6 l0 l1 l2 x5 (l5 + 1)
def fX3_readLabel_15 (F : Fr) (N : Nat) (w : Wd) (l0 : Nat) (l1 : Int32) (s0 : Int32) : Option (Int64 × Wd) :=
  fX3_readLabel_21 F N N w l0 l1 s0 0 0
def fX3_readLabel_9 (F : Fr) (N : Nat) (w : Wd) (l0 : Nat) (l1 : Int32) : Option (Int64 × Wd) :=
  fX3_readLabel_15 F N w l0 l1 8
def fX3_readLabel (F : Fr) (N : Nat) (w : Wd) (l0 : Nat) (l1 : Int32) : Option (Int64 × Wd) :=
  if l1 = 0 then
  fX3_readLabel_9 F N w l0 l1
  else
  if l1 = 3 then
  fX3_readLabel_9 F N w l0 l1
  else
  fX3_readLabel_15 F N w l0 l1 1
def fX3_readItem (F : Fr) (N : Nat) (w : Wd) (l0 : Nat) (l1 : Nat) : Option (Int32 × Wd) :=
  (fX3_readTier F N w l0 (gI w 105 l1)).bind fun p1 =>
  bnd (sI p1.2 303 l0 p1.1) fun w2 =>
  if (gI w2 303 l0) < 0 then
  some (0, w2)
  else
  (fX3_take F N w2 l0 58).bind fun p4 =>
  if p4.1 = 0 then
  some (0, p4.2)
  else
  (fX3_readNumber F N p4.2 l0).bind fun p6 =>
  bnd (sI p6.2 304 l0 p6.1) fun w7 =>
  if (gI w7 304 l0) < 0 then
  some (0, w7)
  else
  (fX3_take F N w7 l0 45).bind fun p9 =>
  if p9.1 = 0 then
  some (0, p9.2)
  else
  (fX3_readNumber F N p9.2 l0).bind fun p11 =>
  bnd (sI p11.2 305 l0 p11.1) fun w12 =>
  if (gI w12 305 l0) < 0 then
  some (0, w12)
  else
  (fX3_take F N w12 l0 61).bind fun p14 =>
  if p14.1 = 0 then
  some (0, p14.2)
  else
  (fX1_kindOf F N p14.2 l1 (gI p14.2 303 l0)).bind fun x16 =>
  (fX3_readLabel F N p14.2 l0 x16).bind fun p17 =>
  bnd (sJ p17.2 306 l0 p17.1) fun w18 =>
  if (lg_cmp (gJ w18 306 l0) 0) = 0 then
  some (0, w18)
  else
  some (1, w18)
def fX3_countItems_6 (F : Fr) (N : Nat) : Nat → Wd → Nat → Nat → Int32 → Option (Int32 × Wd)
  | 0, _, _, _, _ => none
  | n + 1, w, l0, l1, l2 =>
    if 100 < l2 then
    some (0, w)
    else
    (fX3_readItem F N w l0 l1).bind fun p2 =>
    if p2.1 = 0 then
    some (0, p2.2)
    else
    (fX3_isAtEnd F N p2.2 l0).bind fun x4 =>
    if x4 = 0 then
    (fX3_take F N p2.2 l0 59).bind fun p6 =>
    if p6.1 = 0 then
    some (0, p6.2)
    else
    fX3_countItems_6 F N n p6.2 l0 l1 (l2 + 1)
    else
    some (l2, p2.2)
def fX3_countItems (F : Fr) (N : Nat) (w : Wd) (l0 : Nat) (l1 : Nat) : Option (Int32 × Wd) :=
  (fX3_restart F N w l0).bind fun p8 =>
  fX3_countItems_6 F N N p8 l0 l1 1
def fX4_has (F : Fr) (N : Nat) (w : Wd) (l0 : Nat) (l1 : Int32) : Option (Int32) :=
  if l1 < 0 then
  some 0
  else
  if (gI w 404 l0) ≤ l1 then
  some 0
  else
  if 60 ≤ l1 then
  some 0
  else
  some 1
def fX4_first (F : Fr) (N : Nat) (w : Wd) (l0 : Nat) (l1 : Int32) : Option (Int32) :=
  (fX4_has F N w l0 l1).bind fun x1 =>
  if x1 = 0 then
  some 0
  else
  (rdR F w 400 l0 11).bind fun r3 =>
  (ldI F w r3 l1).bind fun x4 =>
  some x4
def fX4_end (F : Fr) (N : Nat) (w : Wd) (l0 : Nat) (l1 : Int32) : Option (Int32) :=
  (fX4_has F N w l0 l1).bind fun x1 =>
  if x1 = 0 then
  some 0
  else
  (rdR F w 401 l0 11).bind fun r3 =>
  (ldI F w r3 l1).bind fun x4 =>
  some x4
def fX4_source (F : Fr) (N : Nat) (w : Wd) (l0 : Nat) (l1 : Int32) : Option (Int32) :=
  (fX4_has F N w l0 l1).bind fun x1 =>
  if x1 = 0 then
  some 0
  else
  (rdR F w 402 l0 11).bind fun r3 =>
  (ldI F w r3 l1).bind fun x4 =>
  some x4
def fX4_label (F : Fr) (N : Nat) (w : Wd) (l0 : Nat) (l1 : Int32) : Option (Int64) :=
  (fX4_has F N w l0 l1).bind fun x1 =>
  if x1 = 0 then
  some 0
  else
  (rdR F w 403 l0 12).bind fun r3 =>
  (ldJ F w r3 l1).bind fun x4 =>
  some x4
def fX4_isBefore_16 (F : Fr) (N : Nat) (w : Wd) (l0 : Nat) (l1 : Int32) : Option (Int32) :=
  if (gI w 703 l0) ≤ l1 then
  some 0
  else
  some 1
def fX4_isBefore (F : Fr) (N : Nat) (w : Wd) (l0 : Nat) (l1 : Int32) (l2 : Nat) (l3 : Int32) : Option (Int32) :=
  if (gI w 703 l0) ≤ l1 then
  fX4_isBefore_16 F N w l0 l1
  else
  if l3 < (gI w 703 l2) then
  (fX7_first F N w l0 l1).bind fun x4 =>
  (fX7_first F N w l2 l3).bind fun x5 =>
  if x4 = x5 then
  (fX7_end F N w l0 l1).bind fun x7 =>
  (fX7_end F N w l2 l3).bind fun x8 =>
  if x8 < x7 then
  some 0
  else
  some 1
  else
  (fX7_first F N w l0 l1).bind fun x10 =>
  (fX7_first F N w l2 l3).bind fun x11 =>
  if x11 ≤ x10 then
  some 0
  else
  some 1
  else
  fX4_isBefore_16 F N w l0 l1
def fX4_put_133 (F : Fr) (N : Nat) (w : Wd) (l0 : Nat) (l1 : Nat) (l2 : Int32) (l3 : Int32) (s0 : Int32) : Option (Wd) :=
  (fX7_end F N w l1 l2).bind fun x17 =>
  if s0 < x17 then
  if (gI w 404 l0) < 0 then
  some w
  else
  if 60 ≤ (gI w 404 l0) then
  some w
  else
  (rdR F w 400 l0 11).bind fun r21 =>
  (stI F w r21 (gI w 404 l0) s0).bind fun w22 =>
  (rdR F w22 401 l0 11).bind fun r23 =>
  (fX7_end F N w22 l1 l2).bind fun x24 =>
  (stI F w22 r23 (gI w22 404 l0) x24).bind fun w25 =>
  (rdR F w25 402 l0 11).bind fun r26 =>
  (stI F w25 r26 (gI w25 404 l0) l3).bind fun w27 =>
  (rdR F w27 403 l0 12).bind fun r28 =>
  (fX7_label F N w27 l1 l2).bind fun x29 =>
  (stJ F w27 r28 (gI w27 404 l0) x29).bind fun w30 =>
  bnd (sI w30 404 l0 ((gI w30 404 l0) + 1)) fun w31 =>
  some w31
  else
  bnd (sI w 406 l0 ((gI w 406 l0) + 1)) fun w32 =>
  some w32
def fX4_put_110 (F : Fr) (N : Nat) (w : Wd) (l0 : Nat) (l1 : Nat) (l2 : Int32) (l3 : Int32) (l4 : Int32) (l5 : Int32) (s0 : Nat) (s1 : Int32) (s2 : Int32) : Option (Wd) :=
  bnd (sI w 405 s0 (s1 + s2)) fun w13 =>
  if l5 = 0 then
  (fX7_first F N w13 l1 l2).bind fun x15 =>
  fX4_put_133 F N w13 l0 l1 l2 l3 x15
  else
  (fX4_end F N w13 l0 l4).bind fun x16 =>
  fX4_put_133 F N w13 l0 l1 l2 l3 x16
def fX4_put_95 (F : Fr) (N : Nat) (w : Wd) (l0 : Nat) (l1 : Nat) (l2 : Int32) (l3 : Int32) (l4 : Int32) (l5 : Int32) : Option (Wd) :=
  if l5 = 0 then
  fX4_put_110 F N w l0 l1 l2 l3 l4 l5 l0 (gI w 405 l0) 0
  else
  fX4_put_110 F N w l0 l1 l2 l3 l4 l5 l0 (gI w 405 l0) 1
def fX4_put_36 (F : Fr) (N : Nat) (w : Wd) (l0 : Nat) (l1 : Nat) (l2 : Int32) (l3 : Int32) (l4 : Int32) (s0 : Int32) : Option (Wd) :=
  if s0 = 0 then
  fX4_put_95 F N w l0 l1 l2 l3 l4 s0
  else
  (fX4_label F N w l0 l4).bind fun x2 =>
  (fX7_label F N w l1 l2).bind fun x3 =>
  if (lg_cmp x2 x3) = 0 then
  (rdR F w 401 l0 11).bind fun r5 =>
  (fX4_end F N w l0 l4).bind fun x6 =>
  (fX7_end F N w l1 l2).bind fun x7 =>
  (stI F w r5 l4 (imax x6 x7)).bind fun w8 =>
  (rdR F w8 402 l0 11).bind fun r9 =>
  (fX4_source F N w8 l0 l4).bind fun x10 =>
  (stI F w8 r9 l4 (x10 ||| l3)).bind fun w11 =>
  some w11
  else
  fX4_put_95 F N w l0 l1 l2 l3 l4 s0
def fX4_put_35 (F : Fr) (N : Nat) (w : Wd) (l0 : Nat) (l1 : Nat) (l2 : Int32) (l3 : Int32) (l4 : Int32) : Option (Wd) :=
  fX4_put_36 F N w l0 l1 l2 l3 l4 0
def fX4_put (F : Fr) (N : Nat) (w : Wd) (l0 : Nat) (l1 : Nat) (l2 : Int32) (l3 : Int32) : Option (Wd) :=
  bnd ((gI w 404 l0) - 1) fun v33 =>
  (fX4_has F N w l0 v33).bind fun x34 =>
  if x34 = 0 then
  fX4_put_35 F N w l0 l1 l2 l3 v33
  else
  (fX7_first F N w l1 l2).bind fun x36 =>
  (fX4_end F N w l0 v33).bind fun x37 =>
  if x37 ≤ x36 then
  fX4_put_35 F N w l0 l1 l2 l3 v33
  else
  fX4_put_36 F N w l0 l1 l2 l3 v33 1
def fX4_run_78 (F : Fr) (N : Nat) (k31 : Wd → Nat → Nat → Nat → Int32 → Int32 → Int32 → Option (Wd)) (w : Wd) (l0 : Nat) (l1 : Nat) (l2 : Nat) (l3 : Int32) (l4 : Int32) (l5 : Int32) : Option (Wd) :=
  k31 w l0 l1 l2 l3 l4 (l5 + 1)
def fX4_run_31 (F : Fr) (N : Nat) : Nat → Wd → Nat → Nat → Nat → Int32 → Int32 → Int32 → Option (Wd)
  | 0, _, _, _, _, _, _, _ => none
  | n + 1, w, l0, l1, l2, l3, l4, l5 =>
    if l3 ≤ l5 then
    some w
    else
    bnd (l5 - l4) fun v2 =>
    (fX4_isBefore F N w l1 l4 l2 v2).bind fun x3 =>
    if x3 = 0 then
    (fX4_put F N w l0 l2 v2 2).bind fun p5 =>
    fX4_run_78 F N (fX4_run_31 F N n) p5 l0 l1 l2 l3 l4 l5
    else
    (fX4_put F N w l0 l1 l4 1).bind fun p6 =>
    fX4_run_78 F N (fX4_run_31 F N n) p6 l0 l1 l2 l3 (l4 + 1) l5
def fX4_run (F : Fr) (N : Nat) (w : Wd) (l0 : Nat) (l1 : Nat) (l2 : Nat) : Option (Wd) :=
  bnd (sI w 404 l0 0) fun w7 =>
  bnd (sI w7 405 l0 0) fun w8 =>
  bnd (sI w8 406 l0 0) fun w9 =>
  bnd ((gI w9 703 l1) + (gI w9 703 l2)) fun v10 =>
  fX4_run_31 F N N w9 l0 l1 l2 v10 0 0
def fX4_sharedCount_27 (F : Fr) (N : Nat) (w : Wd) (k4 : Nat → Int32 → Int32 → Option (Int32)) (l0 : Nat) (l2 : Int32) (s0 : Int32) (s1 : Int32) : Option (Int32) :=
  bnd (s0 + s1) fun v4 =>
  k4 l0 v4 (l2 + 1)
def fX4_sharedCount_4 (F : Fr) (N : Nat) (w : Wd) : Nat → Nat → Int32 → Int32 → Option (Int32)
  | 0, _, _, _ => none
  | n + 1, l0, l1, l2 =>
    if (gI w 404 l0) ≤ l2 then
    some l1
    else
    (fX4_source F N w l0 l2).bind fun x2 =>
    if x2 = 3 then
    fX4_sharedCount_27 F N w (fX4_sharedCount_4 F N w n) l0 l2 l1 1
    else
    fX4_sharedCount_27 F N w (fX4_sharedCount_4 F N w n) l0 l2 l1 0
def fX4_sharedCount (F : Fr) (N : Nat) (w : Wd) (l0 : Nat) : Option (Int32) :=
  fX4_sharedCount_4 F N w N l0 0 0
def fX4_frameSum_4 (F : Fr) (N : Nat) (w : Wd) : Nat → Nat → Int32 → Int32 → Option (Int32)
  | 0, _, _, _ => none
  | n + 1, l0, l1, l2 =>
    if (gI w 404 l0) ≤ l2 then
    some l1
    else
    (fX4_end F N w l0 l2).bind fun x2 =>
    (fX4_first F N w l0 l2).bind fun x3 =>
    bnd (l1 + (x2 - x3)) fun v4 =>
    fX4_frameSum_4 F N w n l0 v4 (l2 + 1)
def fX4_frameSum (F : Fr) (N : Nat) (w : Wd) (l0 : Nat) : Option (Int32) :=
  fX4_frameSum_4 F N w N l0 0 0
def fX5_readPart_104 (F : Fr) (N : Nat) (w : Wd) : Option (Int32 × Wd) :=
  some (1, w)
def fX5_readPart_92 (F : Fr) (N : Nat) (w : Wd) (l5 : Int32) (l6 : Int64) : Option (Int32 × Wd) :=
  if l5 = 0 then
  if (lg_cmp l6 0) = 0 then
  some (0, w)
  else
  fX5_readPart_104 F N w
  else
  fX5_readPart_104 F N w
def fX5_readPart_53 (F : Fr) (N : Nat) (w : Wd) (l0 : Nat) (l2 : Nat) (l3 : Int32) (l4 : Int32) (l5 : Int32) (s0 : Int64) : Option (Int32 × Wd) :=
  if l3 < 0 then
  fX5_readPart_92 F N w l5 s0
  else
  if 4 ≤ l3 then
  fX5_readPart_92 F N w l5 s0
  else
  (rdR F w 500 l0 11).bind fun r3 =>
  (stI F w r3 l3 l4).bind fun w4 =>
  (rdR F w4 501 l0 11).bind fun r5 =>
  (fX1_kindOf F N w4 l2 l4).bind fun x6 =>
  (stI F w4 r5 l3 x6).bind fun w7 =>
  (rdR F w7 502 l0 12).bind fun r8 =>
  (stJ F w7 r8 l3 s0).bind fun w9 =>
  fX5_readPart_92 F N w9 l5 s0
def fX5_readPart (F : Fr) (N : Nat) (w : Wd) (l0 : Nat) (l1 : Nat) (l2 : Nat) (l3 : Int32) : Option (Int32 × Wd) :=
  (fX3_readTier F N w l1 (gI w 105 l2)).bind fun p12 =>
  if p12.1 < 0 then
  some (0, p12.2)
  else
  (fX3_take F N p12.2 l1 61).bind fun p14 =>
  if p14.1 = 0 then
  some (0, p14.2)
  else
  (fX3_take F N p14.2 l1 42).bind fun p16 =>
  if p16.1 = 0 then
  (fX1_kindOf F N p16.2 l2 p12.1).bind fun x18 =>
  (fX3_readLabel F N p16.2 l1 x18).bind fun p19 =>
  fX5_readPart_53 F N p19.2 l0 l2 l3 p12.1 p16.1 p19.1
  else
  fX5_readPart_53 F N p16.2 l0 l2 l3 p12.1 p16.1 0
def fX5_readLink_41 (F : Fr) (N : Nat) (w : Wd) : Option (Int32 × Wd) :=
  some (1, w)
def fX5_readLink (F : Fr) (N : Nat) (w : Wd) (l0 : Nat) (l1 : Nat) (l2 : Int32) : Option (Int32 × Wd) :=
  if l2 < 0 then
  some (0, w)
  else
  if l2 < 4 then
  (rdR F w 503 l0 13).bind fun r3 =>
  (fX3_take F N w l1 38).bind fun p4 =>
  (stI F p4.2 r3 l2 (vp_nar .boolean p4.1)).bind fun w5 =>
  (rdR F w5 503 l0 13).bind fun r6 =>
  (ldI F w5 r6 l2).bind fun x7 =>
  if x7 = 0 then
  (fX3_take F N w5 l1 44).bind fun p9 =>
  if p9.1 = 0 then
  some (0, p9.2)
  else
  fX5_readLink_41 F N p9.2
  else
  fX5_readLink_41 F N w5
  else
  some (0, w)
def fX5_readFrom_11 (F : Fr) (N : Nat) : Nat → Wd → Nat → Nat → Nat → Int32 → Option (Int32 × Wd)
  | 0, _, _, _, _, _ => none
  | n + 1, w, l0, l1, l2, l3 =>
    if 4 ≤ l3 then
    some (0, w)
    else
    (fX5_readPart F N w l0 l1 l2 l3).bind fun p2 =>
    if p2.1 = 0 then
    some (0, p2.2)
    else
    bnd (sI p2.2 506 l0 (l3 + 1)) fun w4 =>
    (fX3_isAtEnd F N w4 l1).bind fun x5 =>
    if x5 = 0 then
    (fX5_readLink F N w4 l0 l1 (l3 + 1)).bind fun p7 =>
    if p7.1 = 0 then
    some (0, p7.2)
    else
    fX5_readFrom_11 F N n p7.2 l0 l1 l2 (l3 + 1)
    else
    some (1, w4)
def fX5_readFrom (F : Fr) (N : Nat) (w : Wd) (l0 : Nat) (l1 : Nat) (l2 : Nat) : Option (Int32 × Wd) :=
  (fX3_restart F N w l1).bind fun p9 =>
  bnd (sI p9 506 l0 0) fun w10 =>
  fX5_readFrom_11 F N N w10 l0 l1 l2 0
def fX5_rowOf_9 (F : Fr) (N : Nat) (w : Wd) (l0 : Nat) : Option (Nat) :=
  (rdR F w 505 l0 7).bind fun r1 =>
  some r1
def fX5_rowOf_51 (F : Fr) (N : Nat) (w : Wd) (l0 : Nat) : Option (Nat) :=
  (rdR F w 505 l0 7).bind fun r2 =>
  some r2
def fX5_rowOf (F : Fr) (N : Nat) (w : Wd) (l0 : Nat) (l1 : Nat) (l2 : Int32) : Option (Nat) :=
  if l2 < 0 then
  fX5_rowOf_9 F N w l0
  else
  if l2 < 4 then
  (rdR F w 500 l0 11).bind fun r5 =>
  (ldI F w r5 l2).bind fun x6 =>
  (fX1_hasTier F N w l1 x6).bind fun x7 =>
  if x7 = 0 then
  fX5_rowOf_51 F N w l0
  else
  (fX1_kindOf F N w l1 x6).bind fun x9 =>
  (rdR F w 501 l0 11).bind fun r10 =>
  (ldI F w r10 l2).bind fun x11 =>
  if x9 = x11 then
  (fX1_present F N w l1 x6).bind fun x13 =>
  (ckF F x13 7).bind fun _ =>
  some x13
  else
  fX5_rowOf_51 F N w l0
  else
  fX5_rowOf_9 F N w l0
def fX5_fits_71 (F : Fr) (N : Nat) (w : Wd) : Option (Int32) :=
  some 1
def fX5_fits_38 (F : Fr) (N : Nat) (w : Wd) (l0 : Nat) (l1 : Nat) (l2 : Int32) (l3 : Int32) (s0 : Int32) : Option (Int32) :=
  (rdR F w 502 l0 12).bind fun r1 =>
  (ldJ F w r1 l3).bind fun x2 =>
  if (lg_cmp x2 0) = 0 then
  fX5_fits_71 F N w
  else
  (rdR F w 502 l0 12).bind fun r4 =>
  (ldJ F w r4 l3).bind fun x5 =>
  (fX7_label F N w l1 l2).bind fun x6 =>
  if (lg_cmp x5 x6) = 0 then
  fX5_fits_71 F N w
  else
  if s0 = 0 then
  some 0
  else
  fX5_fits_71 F N w
def fX5_fits_37 (F : Fr) (N : Nat) (w : Wd) (l0 : Nat) (l1 : Nat) (l2 : Int32) (l3 : Int32) : Option (Int32) :=
  fX5_fits_38 F N w l0 l1 l2 l3 0
def fX5_fits (F : Fr) (N : Nat) (w : Wd) (l0 : Nat) (l1 : Nat) (l2 : Int32) (l3 : Int32) : Option (Int32) :=
  if l3 < 0 then
  some 0
  else
  if l3 < 4 then
  (rdR F w 501 l0 11).bind fun r11 =>
  (ldI F w r11 l3).bind fun x12 =>
  if x12 = 1 then
  (fX7_label F N w l1 l2).bind fun x14 =>
  if (lg_cmp x14 98) = 0 then
  fX5_fits_38 F N w l0 l1 l2 l3 1
  else
  fX5_fits_37 F N w l0 l1 l2 l3
  else
  fX5_fits_37 F N w l0 l1 l2 l3
  else
  some 0
def fX5_isLinked_55 (F : Fr) (N : Nat) (w : Wd) (l1 : Nat) (l2 : Int32) (l3 : Nat) (l4 : Int32) (l6 : Int32) : Option (Int32) :=
  (fX7_first F N w l3 l4).bind fun x1 =>
  (fX7_end F N w l1 l2).bind fun x2 =>
  bnd (x1 - x2) fun v3 =>
  if v3 < 0 then
  some 0
  else
  if l6 < v3 then
  some 0
  else
  some 1
def fX5_isLinked (F : Fr) (N : Nat) (w : Wd) (l0 : Nat) (l1 : Nat) (l2 : Int32) (l3 : Nat) (l4 : Int32) (l5 : Int32) (l6 : Int32) : Option (Int32) :=
  if l5 < 0 then
  fX5_isLinked_55 F N w l1 l2 l3 l4 l6
  else
  if 4 ≤ l5 then
  fX5_isLinked_55 F N w l1 l2 l3 l4 l6
  else
  (rdR F w 503 l0 13).bind fun r8 =>
  (ldI F w r8 l5).bind fun x9 =>
  if x9 = 0 then
  fX5_isLinked_55 F N w l1 l2 l3 l4 l6
  else
  (fX7_first F N w l1 l2).bind fun x11 =>
  (fX7_end F N w l3 l4).bind fun x12 =>
  if x12 ≤ x11 then
  some 0
  else
  (fX7_first F N w l3 l4).bind fun x14 =>
  (fX7_end F N w l1 l2).bind fun x15 =>
  if x15 ≤ x14 then
  some 0
  else
  some 1
def fX5_waysFrom (F : Fr) (N : Nat) (w : Wd) (l0 : Nat) (l1 : Int32) (l2 : Int32) : Option (Int32) :=
  bnd ((l1 * 30) + l2) fun v1 =>
  if l2 < 0 then
  some 0
  else
  if 30 ≤ l2 then
  some 0
  else
  if v1 < 0 then
  some 0
  else
  (rdR F w 504 l0 11).bind fun r5 =>
  if (nI (F.2.1 r5)) ≤ v1 then
  some 0
  else
  (rdR F w 504 l0 11).bind fun r7 =>
  (ldI F w r7 v1).bind fun x8 =>
  some x8
def fX5_countOn_74 (F : Fr) (N : Nat) (w : Wd) (k28 : Nat → Nat → Int32 → Nat → Int32 → Nat → Int32 → Int32 → Option (Int32)) (l0 : Nat) (l1 : Nat) (l2 : Int32) (l3 : Nat) (l4 : Int32) (l5 : Nat) (l7 : Int32) (s0 : Int32) (s1 : Int32) : Option (Int32) :=
  bnd (s0 + s1) fun v5 =>
  k28 l0 l1 l2 l3 l4 l5 v5 (l7 + 1)
def fX5_countOn_28 (F : Fr) (N : Nat) (w : Wd) : Nat → Nat → Nat → Int32 → Nat → Int32 → Nat → Int32 → Int32 → Option (Int32)
  | 0, _, _, _, _, _, _, _, _ => none
  | n + 1, l0, l1, l2, l3, l4, l5, l6, l7 =>
    if (gI w 703 l5) ≤ l7 then
    some (imin l6 1000)
    else
    (fX5_isLinked F N w l0 l3 l4 l5 l7 (l2 + 1) (gI w 108 l1)).bind fun x2 =>
    if x2 = 0 then
    fX5_countOn_74 F N w (fX5_countOn_28 F N w n) l0 l1 l2 l3 l4 l5 l7 l6 0
    else
    (fX5_waysFrom F N w l0 (l2 + 1) l7).bind fun x4 =>
    fX5_countOn_74 F N w (fX5_countOn_28 F N w n) l0 l1 l2 l3 l4 l5 l7 l6 x4
def fX5_countOn (F : Fr) (N : Nat) (w : Wd) (l0 : Nat) (l1 : Nat) (l2 : Int32) (l3 : Nat) (l4 : Int32) : Option (Int32) :=
  if l2 = ((gI w 506 l0) - 1) then
  some 1
  else
  (fX5_rowOf F N w l0 l1 (l2 + 1)).bind fun x7 =>
  (ckF F x7 7).bind fun _ =>
  fX5_countOn_28 F N w N l0 l1 l2 l3 l4 x7 0 0
def fX5_countMatches_115 (F : Fr) (N : Nat) (k9 : Wd → Nat → Nat → Int32 → Int32 → Option (Int32 × Wd)) (w : Wd) (l0 : Nat) (l1 : Nat) (l2 : Int32) (l3 : Int32) : Option (Int32 × Wd) :=
  k9 w l0 l1 l2 (l3 + (-1))
def fX5_countMatches_104 (F : Fr) (N : Nat) (k9 : Wd → Nat → Nat → Int32 → Int32 → Option (Int32 × Wd)) (k26 : Wd → Nat → Nat → Int32 → Int32 → Nat → Int32 → Option (Int32 × Wd)) (w : Wd) (l0 : Nat) (l1 : Nat) (l2 : Int32) (l3 : Int32) (l4 : Nat) (l5 : Int32) (l6 : Int32) : Option (Int32 × Wd) :=
  bnd (l2 + l6) fun v15 =>
  k26 w l0 l1 v15 l3 l4 (l5 + 1)
def fX5_countMatches_69 (F : Fr) (N : Nat) (k9 : Wd → Nat → Nat → Int32 → Int32 → Option (Int32 × Wd)) (k26 : Wd → Nat → Nat → Int32 → Int32 → Nat → Int32 → Option (Int32 × Wd)) (w : Wd) (l0 : Nat) (l1 : Nat) (l2 : Int32) (l3 : Int32) (l4 : Nat) (l5 : Int32) (s0 : Int32) : Option (Int32 × Wd) :=
  bnd ((l3 * 30) + l5) fun v9 =>
  if v9 < 0 then
  fX5_countMatches_104 F N k9 k26 w l0 l1 l2 l3 l4 l5 s0
  else
  (rdR F w 504 l0 11).bind fun r11 =>
  if (nI (F.2.1 r11)) ≤ v9 then
  fX5_countMatches_104 F N k9 k26 w l0 l1 l2 l3 l4 l5 s0
  else
  (rdR F w 504 l0 11).bind fun r13 =>
  (stI F w r13 v9 s0).bind fun w14 =>
  fX5_countMatches_104 F N k9 k26 w14 l0 l1 l2 l3 l4 l5 s0
def fX5_countMatches_26 (F : Fr) (N : Nat) (k9 : Wd → Nat → Nat → Int32 → Int32 → Option (Int32 × Wd)) : Nat → Wd → Nat → Nat → Int32 → Int32 → Nat → Int32 → Option (Int32 × Wd)
  | 0, _, _, _, _, _, _, _ => none
  | n + 1, w, l0, l1, l2, l3, l4, l5 =>
    if (gI w 703 l4) ≤ l5 then
    fX5_countMatches_115 F N k9 w l0 l1 l2 l3
    else
    if 30 ≤ l5 then
    fX5_countMatches_115 F N k9 w l0 l1 l2 l3
    else
    (fX5_fits F N w l0 l4 l5 l3).bind fun x6 =>
    if x6 = 0 then
    fX5_countMatches_69 F N k9 (fX5_countMatches_26 F N k9 n) w l0 l1 l2 l3 l4 l5 0
    else
    (fX5_countOn F N w l0 l1 l3 l4 l5).bind fun x8 =>
    fX5_countMatches_69 F N k9 (fX5_countMatches_26 F N k9 n) w l0 l1 l2 l3 l4 l5 x8
def fX5_countMatches_9 (F : Fr) (N : Nat) : Nat → Wd → Nat → Nat → Int32 → Int32 → Option (Int32 × Wd)
  | 0, _, _, _, _, _ => none
  | n + 1, w, l0, l1, l2, l3 =>
    if l3 < 0 then
    some (imin l2 1000, w)
    else
    (fX5_rowOf F N w l0 l1 l3).bind fun x2 =>
    (ckF F x2 7).bind fun _ =>
    fX5_countMatches_26 F N (fX5_countMatches_9 F N n) N w l0 l1 0 l3 x2 0
def fX5_countMatches (F : Fr) (N : Nat) (w : Wd) (l0 : Nat) (l1 : Nat) : Option (Int32 × Wd) :=
  bnd ((gI w 506 l0) - 1) fun v16 =>
  fX5_countMatches_9 F N N w l0 l1 0 v16
def fX5_spanOf_136 (F : Fr) (N : Nat) (w : Wd) (k15 : Nat → Nat → Int32 → Int32 → Nat → Int32 → Int32 → Option (Int32)) (l0 : Nat) (l1 : Nat) (l3 : Int32) (l4 : Int32) (l7 : Int32) (l8 : Nat) (l9 : Int32) : Option (Int32) :=
  k15 l0 l1 l3 l4 l8 l9 (l7 + 1)
def fX5_spanOf_130 (F : Fr) (N : Nat) (w : Wd) (k15 : Nat → Nat → Int32 → Int32 → Nat → Int32 → Int32 → Option (Int32)) (k42 : Nat → Nat → Int32 → Int32 → Nat → Int32 → Int32 → Nat → Int32 → Int32 → Option (Int32)) (l0 : Nat) (l1 : Nat) (l3 : Int32) (l4 : Int32) (l5 : Nat) (l6 : Int32) (l7 : Int32) (l8 : Nat) (l9 : Int32) (l10 : Int32) : Option (Int32) :=
  k42 l0 l1 l3 l4 l5 l6 l7 l8 l9 (l10 + 1)
def fX5_spanOf_107 (F : Fr) (N : Nat) (w : Wd) (k15 : Nat → Nat → Int32 → Int32 → Nat → Int32 → Int32 → Option (Int32)) (k42 : Nat → Nat → Int32 → Int32 → Nat → Int32 → Int32 → Nat → Int32 → Int32 → Option (Int32)) (l0 : Nat) (l1 : Nat) (l3 : Int32) (l4 : Int32) (l5 : Nat) (l6 : Int32) (l7 : Int32) (l8 : Nat) (l9 : Int32) (l10 : Int32) (s0 : Int32) : Option (Int32) :=
  if s0 ≤ l4 then
  bnd (l4 - s0) fun v13 =>
  fX5_spanOf_130 F N w k15 k42 l0 l1 l3 v13 l5 l6 l7 l8 l9 l10
  else
  fX5_spanOf_130 F N w k15 k42 l0 l1 l3 l4 l5 l6 l7 l8 l10 l10
def fX5_spanOf_88 (F : Fr) (N : Nat) (w : Wd) (k15 : Nat → Nat → Int32 → Int32 → Nat → Int32 → Int32 → Option (Int32)) (k42 : Nat → Nat → Int32 → Int32 → Nat → Int32 → Int32 → Nat → Int32 → Int32 → Option (Int32)) (l0 : Nat) (l1 : Nat) (l3 : Int32) (l4 : Int32) (l5 : Nat) (l6 : Int32) (l7 : Int32) (l8 : Nat) (l9 : Int32) (l10 : Int32) (s0 : Int32) : Option (Int32) :=
  if s0 = 0 then
  fX5_spanOf_107 F N w k15 k42 l0 l1 l3 l4 l5 l6 l7 l8 l9 l10 0
  else
  (fX5_waysFrom F N w l0 l7 l10).bind fun x11 =>
  fX5_spanOf_107 F N w k15 k42 l0 l1 l3 l4 l5 l6 l7 l8 l9 l10 x11
def fX5_spanOf_83 (F : Fr) (N : Nat) (w : Wd) (k15 : Nat → Nat → Int32 → Int32 → Nat → Int32 → Int32 → Option (Int32)) (k42 : Nat → Nat → Int32 → Int32 → Nat → Int32 → Int32 → Nat → Int32 → Int32 → Option (Int32)) (l0 : Nat) (l1 : Nat) (l3 : Int32) (l4 : Int32) (l5 : Nat) (l6 : Int32) (l7 : Int32) (l8 : Nat) (l9 : Int32) (l10 : Int32) : Option (Int32) :=
  fX5_spanOf_88 F N w k15 k42 l0 l1 l3 l4 l5 l6 l7 l8 l9 l10 1
def fX5_spanOf_42 (F : Fr) (N : Nat) (w : Wd) (k15 : Nat → Nat → Int32 → Int32 → Nat → Int32 → Int32 → Option (Int32)) : Nat → Nat → Nat → Int32 → Int32 → Nat → Int32 → Int32 → Nat → Int32 → Int32 → Option (Int32)
  | 0, _, _, _, _, _, _, _, _, _, _ => none
  | n + 1, l0, l1, l3, l4, l5, l6, l7, l8, l9, l10 =>
    if (gI w 703 l8) ≤ l10 then
    fX5_spanOf_136 F N w k15 l0 l1 l3 l4 l7 l8 l9
    else
    if 0 ≤ l9 then
    fX5_spanOf_136 F N w k15 l0 l1 l3 l4 l7 l8 l9
    else
    if l7 = 0 then
    fX5_spanOf_83 F N w k15 (fX5_spanOf_42 F N w k15 n) l0 l1 l3 l4 l5 l6 l7 l8 l9 l10
    else
    (fX5_isLinked F N w l0 l5 l6 l8 l10 l7 (gI w 108 l1)).bind fun x8 =>
    if x8 = 0 then
    fX5_spanOf_88 F N w k15 (fX5_spanOf_42 F N w k15 n) l0 l1 l3 l4 l5 l6 l7 l8 l9 l10 0
    else
    fX5_spanOf_83 F N w k15 (fX5_spanOf_42 F N w k15 n) l0 l1 l3 l4 l5 l6 l7 l8 l9 l10
def fX5_spanOf_15 (F : Fr) (N : Nat) (w : Wd) : Nat → Nat → Nat → Int32 → Int32 → Nat → Int32 → Int32 → Option (Int32)
  | 0, _, _, _, _, _, _, _ => none
  | n + 1, l0, l1, l3, l4, l5, l6, l7 =>
    if l3 < l7 then
    some l6
    else
    if 4 ≤ l7 then
    some l6
    else
    (fX5_rowOf F N w l0 l1 l7).bind fun x3 =>
    (ckF F x3 7).bind fun _ =>
    fX5_spanOf_42 F N w (fX5_spanOf_15 F N w n) N l0 l1 l3 l4 l5 l6 l7 x3 (-1) 0
def fX5_spanOf (F : Fr) (N : Nat) (w : Wd) (l0 : Nat) (l1 : Nat) (l2 : Int32) (l3 : Int32) : Option (Int32) :=
  (rdR F w 505 l0 7).bind fun r14 =>
  fX5_spanOf_15 F N w N l0 l1 l3 l2 r14 (-1) 0
def fX7_length (F : Fr) (N : Nat) (w : Wd) (l0 : Nat) (l1 : Int32) : Option (Int32) :=
  (fX7_end F N w l0 l1).bind fun x1 =>
  (fX7_first F N w l0 l1).bind fun x2 =>
  some (x1 - x2)
def fX7_spanWith_30 (F : Fr) (N : Nat) (w : Wd) (k2 : Nat → Int32 → Int32 → Option (Int32)) (l0 : Nat) (l1 : Int32) (l2 : Int32) : Option (Int32) :=
  k2 l0 l1 (l2 + 1)
def fX7_spanWith_2 (F : Fr) (N : Nat) (w : Wd) : Nat → Nat → Int32 → Int32 → Option (Int32)
  | 0, _, _, _ => none
  | n + 1, l0, l1, l2 =>
    if (gI w 703 l0) ≤ l2 then
    some (-1)
    else
    (fX7_first F N w l0 l2).bind fun x2 =>
    if l1 < x2 then
    fX7_spanWith_30 F N w (fX7_spanWith_2 F N w n) l0 l1 l2
    else
    (fX7_end F N w l0 l2).bind fun x4 =>
    if x4 ≤ l1 then
    fX7_spanWith_30 F N w (fX7_spanWith_2 F N w n) l0 l1 l2
    else
    some l2
def fX7_spanWith (F : Fr) (N : Nat) (w : Wd) (l0 : Nat) (l1 : Int32) : Option (Int32) :=
  fX7_spanWith_2 F N w N l0 l1 0
def fX7_frameSum_4 (F : Fr) (N : Nat) (w : Wd) : Nat → Nat → Int32 → Int32 → Option (Int32)
  | 0, _, _, _ => none
  | n + 1, l0, l1, l2 =>
    if (gI w 703 l0) ≤ l2 then
    some l1
    else
    (fX7_length F N w l0 l2).bind fun x2 =>
    bnd (l1 + x2) fun v3 =>
    fX7_frameSum_4 F N w n l0 v3 (l2 + 1)
def fX7_frameSum (F : Fr) (N : Nat) (w : Wd) (l0 : Nat) : Option (Int32) :=
  fX7_frameSum_4 F N w N l0 0 0
def fX7_isLabelNew_2 (F : Fr) (N : Nat) (w : Wd) : Nat → Nat → Int32 → Int32 → Option (Int32)
  | 0, _, _, _ => none
  | n + 1, l0, l1, l2 =>
    if l1 ≤ l2 then
    some 1
    else
    (fX7_label F N w l0 l2).bind fun x2 =>
    (fX7_label F N w l0 l1).bind fun x3 =>
    if (lg_cmp x2 x3) = 0 then
    some 0
    else
    fX7_isLabelNew_2 F N w n l0 l1 (l2 + 1)
def fX7_isLabelNew (F : Fr) (N : Nat) (w : Wd) (l0 : Nat) (l1 : Int32) : Option (Int32) :=
  fX7_isLabelNew_2 F N w N l0 l1 0
def fX7_labelCount_26 (F : Fr) (N : Nat) (w : Wd) (k4 : Nat → Int32 → Int32 → Option (Int32)) (l0 : Nat) (l2 : Int32) (s0 : Int32) (s1 : Int32) : Option (Int32) :=
  bnd (s0 + s1) fun v4 =>
  k4 l0 v4 (l2 + 1)
def fX7_labelCount_4 (F : Fr) (N : Nat) (w : Wd) : Nat → Nat → Int32 → Int32 → Option (Int32)
  | 0, _, _, _ => none
  | n + 1, l0, l1, l2 =>
    if (gI w 703 l0) ≤ l2 then
    some l1
    else
    (fX7_isLabelNew F N w l0 l2).bind fun x2 =>
    if x2 = 0 then
    fX7_labelCount_26 F N w (fX7_labelCount_4 F N w n) l0 l2 l1 0
    else
    fX7_labelCount_26 F N w (fX7_labelCount_4 F N w n) l0 l2 l1 1
def fX7_labelCount (F : Fr) (N : Nat) (w : Wd) (l0 : Nat) : Option (Int32) :=
  fX7_labelCount_4 F N w N l0 0 0
def fX7_isInOrder_4 (F : Fr) (N : Nat) (w : Wd) : Nat → Nat → Int32 → Int32 → Option (Int32)
  | 0, _, _, _ => none
  | n + 1, l0, l1, l2 =>
    if (gI w 703 l0) ≤ l2 then
    some 1
    else
    (fX7_first F N w l0 l2).bind fun x2 =>
    if x2 < l1 then
    some 0
    else
    (fX7_end F N w l0 l2).bind fun x4 =>
    (fX7_first F N w l0 l2).bind fun x5 =>
    if x4 ≤ x5 then
    some 0
    else
    (fX7_end F N w l0 l2).bind fun x7 =>
    if x7 ≤ 1000 then
    (fX7_end F N w l0 l2).bind fun x9 =>
    fX7_isInOrder_4 F N w n l0 x9 (l2 + 1)
    else
    some 0
def fX7_isInOrder (F : Fr) (N : Nat) (w : Wd) (l0 : Nat) : Option (Int32) :=
  fX7_isInOrder_4 F N w N l0 0 0
def fX7_coveredFrames_6 (F : Fr) (N : Nat) (w : Wd) : Nat → Nat → Int32 → Int32 → Int32 → Option (Int32)
  | 0, _, _, _, _ => none
  | n + 1, l0, l1, l2, l3 =>
    if (gI w 703 l0) ≤ l3 then
    some l1
    else
    (fX7_end F N w l0 l3).bind fun x2 =>
    (fX7_first F N w l0 l3).bind fun x3 =>
    bnd (l1 + (imax 0 (x2 - (imax x3 l2)))) fun v4 =>
    (fX7_end F N w l0 l3).bind fun x5 =>
    bnd (imax l2 x5) fun v6 =>
    fX7_coveredFrames_6 F N w n l0 v4 v6 (l3 + 1)
def fX7_coveredFrames (F : Fr) (N : Nat) (w : Wd) (l0 : Nat) : Option (Int32) :=
  fX7_coveredFrames_6 F N w N l0 0 0 0
def fX7_commonFrames_88 (F : Fr) (N : Nat) (w : Wd) (k5 : Nat → Nat → Int32 → Int32 → Int32 → Option (Int32)) (k17 : Nat → Nat → Int32 → Int32 → Int32 → Int32 → Option (Int32)) (l0 : Nat) (l1 : Nat) (l2 : Int32) (l3 : Int32) (l4 : Int32) (l5 : Int32) : Option (Int32) :=
  k17 l0 l1 l2 l3 l4 (l5 + 1)
def fX7_commonFrames_46 (F : Fr) (N : Nat) (w : Wd) (k5 : Nat → Nat → Int32 → Int32 → Int32 → Option (Int32)) (k17 : Nat → Nat → Int32 → Int32 → Int32 → Int32 → Option (Int32)) (l0 : Nat) (l1 : Nat) (l2 : Int32) (l3 : Int32) (l4 : Int32) (l5 : Int32) : Option (Int32) :=
  (fX7_first F N w l0 l4).bind fun x7 =>
  (fX7_first F N w l1 l5).bind fun x8 =>
  bnd (imax x7 x8) fun v9 =>
  (fX7_end F N w l0 l4).bind fun x10 =>
  (fX7_end F N w l1 l5).bind fun x11 =>
  bnd (l3 + (imax 0 ((imin x10 x11) - v9))) fun v12 =>
  fX7_commonFrames_88 F N w k5 k17 l0 l1 l2 v12 l4 l5
def fX7_commonFrames_17 (F : Fr) (N : Nat) (w : Wd) (k5 : Nat → Nat → Int32 → Int32 → Int32 → Option (Int32)) : Nat → Nat → Nat → Int32 → Int32 → Int32 → Int32 → Option (Int32)
  | 0, _, _, _, _, _, _ => none
  | n + 1, l0, l1, l2, l3, l4, l5 =>
    if (gI w 703 l1) ≤ l5 then
    k5 l0 l1 l2 l3 (l4 + 1)
    else
    if l2 = 0 then
    fX7_commonFrames_46 F N w k5 (fX7_commonFrames_17 F N w k5 n) l0 l1 l2 l3 l4 l5
    else
    (fX7_label F N w l0 l4).bind fun x4 =>
    (fX7_label F N w l1 l5).bind fun x5 =>
    if (lg_cmp x4 x5) = 0 then
    fX7_commonFrames_46 F N w k5 (fX7_commonFrames_17 F N w k5 n) l0 l1 l2 l3 l4 l5
    else
    fX7_commonFrames_88 F N w k5 (fX7_commonFrames_17 F N w k5 n) l0 l1 l2 l3 l4 l5
def fX7_commonFrames_5 (F : Fr) (N : Nat) (w : Wd) : Nat → Nat → Nat → Int32 → Int32 → Int32 → Option (Int32)
  | 0, _, _, _, _, _ => none
  | n + 1, l0, l1, l2, l3, l4 =>
    if (gI w 703 l0) ≤ l4 then
    some l3
    else
    fX7_commonFrames_17 F N w (fX7_commonFrames_5 F N w n) N l0 l1 l2 l3 l4 0
def fX7_commonFrames (F : Fr) (N : Nat) (w : Wd) (l0 : Nat) (l1 : Nat) (l2 : Int32) : Option (Int32) :=
  fX7_commonFrames_5 F N w N l0 l1 l2 0 0
def fX7_framesWith (F : Fr) (N : Nat) (w : Wd) (l0 : Nat) (l1 : Nat) : Option (Int32) :=
  (fX7_frameSum F N w l0).bind fun x1 =>
  (fX7_frameSum F N w l1).bind fun x2 =>
  (fX7_commonFrames F N w l0 l1 0).bind fun x3 =>
  some ((x1 + x2) - x3)
def fX7_labelProducts_56 (F : Fr) (N : Nat) (w : Wd) (k4 : Nat → Nat → Int32 → Int32 → Option (Int32)) (k15 : Nat → Nat → Int32 → Int32 → Int32 → Option (Int32)) (l0 : Nat) (l1 : Nat) (l3 : Int32) (l4 : Int32) (s0 : Int32) (s1 : Int32) : Option (Int32) :=
  bnd (s0 + s1) fun v8 =>
  k15 l0 l1 v8 l3 (l4 + 1)
def fX7_labelProducts_15 (F : Fr) (N : Nat) (w : Wd) (k4 : Nat → Nat → Int32 → Int32 → Option (Int32)) : Nat → Nat → Nat → Int32 → Int32 → Int32 → Option (Int32)
  | 0, _, _, _, _, _ => none
  | n + 1, l0, l1, l2, l3, l4 =>
    if (gI w 703 l1) ≤ l4 then
    k4 l0 l1 l2 (l3 + 1)
    else
    (fX7_label F N w l0 l3).bind fun x3 =>
    (fX7_label F N w l1 l4).bind fun x4 =>
    if (lg_cmp x3 x4) = 0 then
    (fX7_length F N w l0 l3).bind fun x6 =>
    (fX7_length F N w l1 l4).bind fun x7 =>
    fX7_labelProducts_56 F N w k4 (fX7_labelProducts_15 F N w k4 n) l0 l1 l3 l4 l2 (x6 * x7)
    else
    fX7_labelProducts_56 F N w k4 (fX7_labelProducts_15 F N w k4 n) l0 l1 l3 l4 l2 0
def fX7_labelProducts_4 (F : Fr) (N : Nat) (w : Wd) : Nat → Nat → Nat → Int32 → Int32 → Option (Int32)
  | 0, _, _, _, _ => none
  | n + 1, l0, l1, l2, l3 =>
    if (gI w 703 l0) ≤ l3 then
    some l2
    else
    fX7_labelProducts_15 F N w (fX7_labelProducts_4 F N w n) N l0 l1 l2 l3 0
def fX7_labelProducts (F : Fr) (N : Nat) (w : Wd) (l0 : Nat) (l1 : Nat) : Option (Int32) :=
  fX7_labelProducts_4 F N w N l0 l1 0 0
def fX8_clear (F : Fr) (N : Nat) (w : Wd) (l0 : Nat) : Option (Int32 × Wd) :=
  (rdR F w 800 l0 1).bind fun r1 =>
  bnd (gI w 105 r1) fun v2 =>
  (rdR F w 800 l0 1).bind fun r3 =>
  (fX1_reset F N w r3).bind fun p4 =>
  (rdR F p4 803 l0 2).bind fun r5 =>
  (fX2_forget F N p4 r5).bind fun p6 =>
  (rdR F p6 808 l0 5).bind fun r7 =>
  bnd (sI p6 506 r7 0) fun w8 =>
  some (v2, w8)
def fX8_addTier_49 (F : Fr) (N : Nat) (w : Wd) (l0 : Nat) (l1 : Int32) (l2 : Int32) (l3 : Int32) : Option ((Int32 × Wd) ⊕ (Nat × Wd)) :=
  (rdR F w 800 l0 1).bind fun r1 =>
  if (gI w 105 r1) < 6 then
  (rdR F w 803 l0 2).bind fun r3 =>
  (rdR F w 800 l0 1).bind fun r4 =>
  (fX2_push F N w r3 r4).bind fun p5 =>
  (rdR F p5 800 l0 1).bind fun r6 =>
  (fX1_putTier F N p5 r6 l1 l2 l3).bind fun p7 =>
  some (.inl (p7.1, p7.2))
  else
  some (.inr (2, w))
def fX8_addTier_18 (F : Fr) (N : Nat) (w : Wd) : Option ((Int32 × Wd) ⊕ (Nat × Wd)) :=
  some (.inr (0, w))
def fX8_addTier (F : Fr) (N : Nat) (w : Wd) (l0 : Nat) (l1 : Int32) (l2 : Int32) (l3 : Int32) : Option ((Int32 × Wd) ⊕ (Nat × Wd)) :=
  if l1 < 0 then
  fX8_addTier_18 F N w
  else
  if 3 < l1 then
  fX8_addTier_18 F N w
  else
  if l2 < 0 then
  fX8_addTier_18 F N w
  else
  if l2 ≤ 3 then
  if l2 = 0 then
  fX8_addTier_49 F N w l0 l1 l2 l3
  else
  (rdR F w 800 l0 1).bind fun r13 =>
  (fX1_hasTier F N w r13 l3).bind fun x14 =>
  if x14 = 0 then
  some (.inr (1, w))
  else
  fX8_addTier_49 F N w l0 l1 l2 l3
  else
  fX8_addTier_18 F N w
def fX8_select_9 (F : Fr) (N : Nat) (w : Wd) : Option ((Int32 × Wd) ⊕ (Nat × Wd)) :=
  some (.inr (0, w))
def fX8_select (F : Fr) (N : Nat) (w : Wd) (l0 : Nat) (l1 : Int32) : Option ((Int32 × Wd) ⊕ (Nat × Wd)) :=
  if l1 < 0 then
  fX8_select_9 F N w
  else
  if l1 < 2 then
  (rdR F w 803 l0 2).bind fun r3 =>
  (rdR F w 800 l0 1).bind fun r4 =>
  (fX2_push F N w r3 r4).bind fun p5 =>
  (rdR F p5 800 l0 1).bind fun r6 =>
  bnd (gI p5 106 r6) fun v7 =>
  (rdR F p5 800 l0 1).bind fun r8 =>
  bnd (sI p5 106 r8 l1) fun w9 =>
  some (.inl (v7, w9))
  else
  fX8_select_9 F N w
def fX8_setSetting_9 (F : Fr) (N : Nat) (w : Wd) : Option ((Int32 × Wd) ⊕ (Nat × Wd)) :=
  some (.inr (1, w))
def fX8_setSetting_28 (F : Fr) (N : Nat) (w : Wd) : Option ((Int32 × Wd) ⊕ (Nat × Wd)) :=
  some (.inr (0, w))
def fX8_setSetting_68 (F : Fr) (N : Nat) (w : Wd) (l0 : Nat) (l1 : Int32) (l2 : Int32) (s0 : Int32) : Option ((Int32 × Wd) ⊕ (Nat × Wd)) :=
  if l1 = 0 then
  (rdR F w 800 l0 1).bind fun r4 =>
  bnd (sI w 107 r4 l2) fun w5 =>
  some (.inl (s0, w5))
  else
  (rdR F w 800 l0 1).bind fun r2 =>
  bnd (sI w 108 r2 l2) fun w3 =>
  some (.inl (s0, w3))
def fX8_setSetting (F : Fr) (N : Nat) (w : Wd) (l0 : Nat) (l1 : Int32) (l2 : Int32) : Option ((Int32 × Wd) ⊕ (Nat × Wd)) :=
  if l1 < 0 then
  fX8_setSetting_9 F N w
  else
  if l1 ≤ 1 then
  if l2 < 0 then
  fX8_setSetting_28 F N w
  else
  if l2 ≤ 200 then
  (rdR F w 803 l0 2).bind fun r10 =>
  (rdR F w 800 l0 1).bind fun r11 =>
  (fX2_push F N w r10 r11).bind fun p12 =>
  if l1 = 0 then
  (rdR F p12 800 l0 1).bind fun r15 =>
  fX8_setSetting_68 F N p12 l0 l1 l2 (gI p12 107 r15)
  else
  (rdR F p12 800 l0 1).bind fun r14 =>
  fX8_setSetting_68 F N p12 l0 l1 l2 (gI p12 108 r14)
  else
  fX8_setSetting_28 F N w
  else
  fX8_setSetting_9 F N w
def fX8_tier (F : Fr) (N : Nat) (w : Wd) (l0 : Nat) (l1 : Int32) (l2 : Int32) : Option ((Int32 × Wd) ⊕ (Nat × Wd)) :=
  (rdR F w 800 l0 1).bind fun r1 =>
  (fX1_hasTier F N w r1 l1).bind fun x2 =>
  if x2 = 0 then
  some (.inr (1, w))
  else
  if l2 = 0 then
  (rdR F w 800 l0 1).bind fun r5 =>
  (fX1_kindOf F N w r5 l1).bind fun x6 =>
  some (.inl (x6, w))
  else
  if l2 = 1 then
  (rdR F w 800 l0 1).bind fun r8 =>
  (fX1_ruleOf F N w r8 l1).bind fun x9 =>
  some (.inl (x9, w))
  else
  if l2 = 2 then
  (rdR F w 800 l0 1).bind fun r11 =>
  (fX1_parentOf F N w r11 l1).bind fun x12 =>
  some (.inl (x12, w))
  else
  if l2 = 3 then
  (rdR F w 800 l0 1).bind fun r14 =>
  (fX1_present F N w r14 l1).bind fun x15 =>
  (ckF F x15 7).bind fun _ =>
  some (.inl (gI w 703 x15, w))
  else
  if l2 = 4 then
  (rdR F w 800 l0 1).bind fun r18 =>
  (fX1_present F N w r18 l1).bind fun x19 =>
  (ckF F x19 7).bind fun _ =>
  (fX7_frameSum F N w x19).bind fun x21 =>
  some (.inl (x21, w))
  else
  if l2 = 5 then
  (rdR F w 800 l0 1).bind fun r23 =>
  (rdR F w 800 l0 1).bind fun r24 =>
  (fX1_row F N w r23 (1 - (gI w 106 r24)) l1).bind fun x25 =>
  (ckF F x25 7).bind fun _ =>
  some (.inl (gI w 703 x25, w))
  else
  if l2 = 6 then
  (rdR F w 800 l0 1).bind fun r28 =>
  (fX1_childMask F N w r28 l1).bind fun x29 =>
  some (.inl (x29, w))
  else
  if l2 = 7 then
  (rdR F w 800 l0 1).bind fun r31 =>
  (fX1_present F N w r31 l1).bind fun x32 =>
  (ckF F x32 7).bind fun _ =>
  (fX7_labelCount F N w x32).bind fun x34 =>
  some (.inl (x34, w))
  else
  some (.inr (0, w))
def fX8_book (F : Fr) (N : Nat) (w : Wd) (l0 : Nat) (l1 : Int32) : Option ((Int32 × Wd) ⊕ (Nat × Wd)) :=
  if l1 = 0 then
  (rdR F w 800 l0 1).bind fun r2 =>
  some (.inl (gI w 105 r2, w))
  else
  if l1 = 1 then
  (rdR F w 800 l0 1).bind fun r4 =>
  some (.inl (gI w 106 r4, w))
  else
  if l1 = 2 then
  (rdR F w 800 l0 1).bind fun r6 =>
  some (.inl (gI w 107 r6, w))
  else
  if l1 = 3 then
  (rdR F w 800 l0 1).bind fun r8 =>
  some (.inl (gI w 108 r8, w))
  else
  if l1 = 4 then
  (rdR F w 800 l0 1).bind fun r10 =>
  (fX1_spanCount F N w r10).bind fun x11 =>
  some (.inl (x11, w))
  else
  if l1 = 5 then
  (rdR F w 804 l0 3).bind fun r13 =>
  some (.inl (gI w 301 r13, w))
  else
  if l1 = 6 then
  (rdR F w 803 l0 2).bind fun r15 =>
  some (.inl (gI w 202 r15, w))
  else
  if l1 = 7 then
  (rdR F w 808 l0 5).bind fun r17 =>
  some (.inl (gI w 506 r17, w))
  else
  some (.inr (0, w))
def fX8_append_89 (F : Fr) (N : Nat) : Nat → Wd → Nat → Int32 → Int32 → Option ((Int32 × Wd) ⊕ (Nat × Wd))
  | 0, _, _, _, _ => none
  | n + 1, w, l0, l1, l3 =>
    if l3 < 0 then
    (rdR F w 804 l0 3).bind fun r11 =>
    some (.inl (gI w 301 r11, w))
    else
    (rdR F w 804 l0 3).bind fun r12 =>
    (fX3_put F N w r12 (((l1.toUInt32 >>> (Int32.toUInt32 l3 &&& Int32.toUInt32 31)).toInt32) &&& 255)).bind fun p13 =>
    fX8_append_89 F N n p13 l0 l1 (l3 + (-8))
def fX8_append_37 (F : Fr) (N : Nat) (w : Wd) : Option ((Int32 × Wd) ⊕ (Nat × Wd)) :=
  some (.inr (0, w))
def fX8_append_56 (F : Fr) (N : Nat) (k5 : Wd → Nat → Int32 → Int32 → Int32 → Option ((Int32 × Wd) ⊕ (Nat × Wd))) (w : Wd) (l0 : Nat) (l1 : Int32) (l3 : Int32) (s0 : Int32) (s1 : Int32) : Option ((Int32 × Wd) ⊕ (Nat × Wd)) :=
  bnd (s0 + s1) fun v9 =>
  k5 w l0 l1 v9 (l3 + (-8))
def fX8_append_45 (F : Fr) (N : Nat) (k5 : Wd → Nat → Int32 → Int32 → Int32 → Option ((Int32 × Wd) ⊕ (Nat × Wd))) (w : Wd) (l0 : Nat) (l1 : Int32) (l2 : Int32) (l3 : Int32) (l4 : Int32) : Option ((Int32 × Wd) ⊕ (Nat × Wd)) :=
  if l4 = 0 then
  fX8_append_56 F N k5 w l0 l1 l3 l2 0
  else
  fX8_append_56 F N k5 w l0 l1 l3 l2 1
def fX8_append_5 (F : Fr) (N : Nat) : Nat → Wd → Nat → Int32 → Int32 → Int32 → Option ((Int32 × Wd) ⊕ (Nat × Wd))
  | 0, _, _, _, _, _ => none
  | n + 1, w, l0, l1, l2, l3 =>
    if l3 < 0 then
    (rdR F w 804 l0 3).bind fun r2 =>
    if ((gI w 301 r2) + l2) ≤ 100 then
    fX8_append_89 F N N w l0 l1 24
    else
    some (.inr (2, w))
    else
    bnd (((l1.toUInt32 >>> (Int32.toUInt32 l3 &&& Int32.toUInt32 31)).toInt32) &&& 255) fun v4 =>
    if v4 = 0 then
    fX8_append_45 F N (fX8_append_5 F N n) w l0 l1 l2 l3 v4
    else
    if v4 < 32 then
    fX8_append_37 F N w
    else
    if v4 ≤ 126 then
    fX8_append_45 F N (fX8_append_5 F N n) w l0 l1 l2 l3 v4
    else
    fX8_append_37 F N w
def fX8_append (F : Fr) (N : Nat) (w : Wd) (l0 : Nat) (l1 : Int32) : Option ((Int32 × Wd) ⊕ (Nat × Wd)) :=
  fX8_append_5 F N N w l0 l1 0 24
def fX8_takeLabel_55 (F : Fr) (N : Nat) (w : Wd) (l0 : Nat) (l2 : Int64) (l4 : Int32) : Option (Int64 × Wd) :=
  (rdR F w 804 l0 3).bind fun r4 =>
  (fX3_empty F N w r4).bind fun p5 =>
  if l4 = 0 then
  some (0, p5)
  else
  some (l2, p5)
def fX8_takeLabel_37 (F : Fr) (N : Nat) (w : Wd) (l0 : Nat) (l2 : Int64) (s0 : Int32) : Option (Int64 × Wd) :=
  if s0 = 0 then
  (rdR F w 804 l0 3).bind fun r2 =>
  bnd (sI w 811 l0 (gI w 302 r2)) fun w3 =>
  fX8_takeLabel_55 F N w3 l0 l2 s0
  else
  fX8_takeLabel_55 F N w l0 l2 s0
def fX8_takeLabel_36 (F : Fr) (N : Nat) (w : Wd) (l0 : Nat) (l2 : Int64) : Option (Int64 × Wd) :=
  fX8_takeLabel_37 F N w l0 l2 0
def fX8_takeLabel (F : Fr) (N : Nat) (w : Wd) (l0 : Nat) (l1 : Int32) : Option (Int64 × Wd) :=
  (rdR F w 804 l0 3).bind fun r7 =>
  (fX3_restart F N w r7).bind fun p8 =>
  (rdR F p8 804 l0 3).bind fun r9 =>
  (fX3_readLabel F N p8 r9 l1).bind fun p10 =>
  if (lg_cmp p10.1 0) = 0 then
  fX8_takeLabel_36 F N p10.2 l0 p10.1
  else
  (rdR F p10.2 804 l0 3).bind fun r12 =>
  (fX3_isAtEnd F N p10.2 r12).bind fun x13 =>
  if x13 = 0 then
  fX8_takeLabel_36 F N p10.2 l0 p10.1
  else
  fX8_takeLabel_37 F N p10.2 l0 p10.1 1
def fX8_keepDraft (F : Fr) (N : Nat) (w : Wd) (l0 : Nat) : Option (Wd) :=
  (rdR F w 803 l0 2).bind fun r1 =>
  (rdR F w 800 l0 1).bind fun r2 =>
  (fX2_push F N w r1 r2).bind fun p3 =>
  (rdR F p3 800 l0 1).bind fun r4 =>
  (rdR F p3 801 l0 1).bind fun r5 =>
  (fX1_copyFrom F N p3 r4 r5).bind fun p6 =>
  some p6
def fX8_addSpan (F : Fr) (N : Nat) (w : Wd) (l0 : Nat) (l1 : Int32) (l2 : Int32) (l3 : Int32) : Option ((Int32 × Wd) ⊕ (Nat × Wd)) :=
  (rdR F w 800 l0 1).bind fun r1 =>
  (fX1_hasTier F N w r1 l1).bind fun x2 =>
  if x2 = 0 then
  some (.inr (1, w))
  else
  (rdR F w 800 l0 1).bind fun r4 =>
  (fX1_kindOf F N w r4 l1).bind fun x5 =>
  (fX8_takeLabel F N w l0 x5).bind fun p6 =>
  if (lg_cmp p6.1 0) = 0 then
  some (.inr (0, p6.2))
  else
  (rdR F p6.2 801 l0 1).bind fun r8 =>
  (rdR F p6.2 800 l0 1).bind fun r9 =>
  (fX1_copyFrom F N p6.2 r8 r9).bind fun p10 =>
  (rdR F p10 801 l0 1).bind fun r11 =>
  (rdR F p10 805 l0 6).bind fun r12 =>
  (fX1_insertSpan F N p10 r11 l1 l2 l3 p6.1 r12).bind fun p13 =>
  if 0 ≤ p13.1 then
  (fX8_keepDraft F N p13.2 l0).bind fun p15 =>
  some (.inl (p13.1, p15))
  else
  some (.inr (3, p13.2))
def fX8_removeSpan (F : Fr) (N : Nat) (w : Wd) (l0 : Nat) (l1 : Int32) (l2 : Int32) : Option ((Int32 × Wd) ⊕ (Nat × Wd)) :=
  (rdR F w 800 l0 1).bind fun r1 =>
  (fX1_hasSpan F N w r1 l1 l2).bind fun x2 =>
  if x2 = 0 then
  some (.inr (1, w))
  else
  (rdR F w 803 l0 2).bind fun r4 =>
  (rdR F w 800 l0 1).bind fun r5 =>
  (fX2_push F N w r4 r5).bind fun p6 =>
  (rdR F p6 800 l0 1).bind fun r7 =>
  (fX1_dropSpan F N p6 r7 l1 l2).bind fun p8 =>
  some (.inl (p8.1, p8.2))
def fX8_moveSpan (F : Fr) (N : Nat) (w : Wd) (l0 : Nat) (l1 : Int32) (l2 : Int32) (l3 : Int32) (l4 : Int32) : Option ((Int32 × Wd) ⊕ (Nat × Wd)) :=
  (rdR F w 800 l0 1).bind fun r1 =>
  (fX1_hasSpan F N w r1 l1 l2).bind fun x2 =>
  if x2 = 0 then
  some (.inr (1, w))
  else
  (rdR F w 801 l0 1).bind fun r4 =>
  (rdR F w 800 l0 1).bind fun r5 =>
  (fX1_copyFrom F N w r4 r5).bind fun p6 =>
  (rdR F p6 801 l0 1).bind fun r7 =>
  (rdR F p6 805 l0 6).bind fun r8 =>
  (fX1_shiftSpan F N p6 r7 l1 l2 l3 l4 r8).bind fun p9 =>
  if 0 ≤ p9.1 then
  (fX8_keepDraft F N p9.2 l0).bind fun p11 =>
  some (.inl (p9.1, p11))
  else
  some (.inr (3, p9.2))
def fX8_rename_84 (F : Fr) (N : Nat) (w : Wd) (l2 : Int32) (l3 : Int64) (l5 : Nat) (s0 : Int32) : Option ((Int32 × Wd) ⊕ (Nat × Wd)) :=
  (fX7_setLabel F N w l5 l2 l3).bind fun p1 =>
  some (.inl (s0, p1))
def fX8_rename (F : Fr) (N : Nat) (w : Wd) (l0 : Nat) (l1 : Int32) (l2 : Int32) : Option ((Int32 × Wd) ⊕ (Nat × Wd)) :=
  (rdR F w 800 l0 1).bind fun r2 =>
  (fX1_hasSpan F N w r2 l1 l2).bind fun x3 =>
  if x3 = 0 then
  some (.inr (1, w))
  else
  (rdR F w 800 l0 1).bind fun r5 =>
  (fX1_kindOf F N w r5 l1).bind fun x6 =>
  (fX8_takeLabel F N w l0 x6).bind fun p7 =>
  if (lg_cmp p7.1 0) = 0 then
  some (.inr (0, p7.2))
  else
  (rdR F p7.2 803 l0 2).bind fun r9 =>
  (rdR F p7.2 800 l0 1).bind fun r10 =>
  (fX2_push F N p7.2 r9 r10).bind fun p11 =>
  (rdR F p11 800 l0 1).bind fun r12 =>
  (fX1_present F N p11 r12 l1).bind fun x13 =>
  (ckF F x13 7).bind fun _ =>
  (fX7_label F N p11 x13 l2).bind fun x15 =>
  if (lg_cmp x15 p7.1) = 0 then
  fX8_rename_84 F N p11 l2 p7.1 x13 0
  else
  fX8_rename_84 F N p11 l2 p7.1 x13 1
def fX8_split (F : Fr) (N : Nat) (w : Wd) (l0 : Nat) (l1 : Int32) (l2 : Int32) (l3 : Int32) : Option ((Int32 × Wd) ⊕ (Nat × Wd)) :=
  (rdR F w 800 l0 1).bind fun r1 =>
  (fX1_hasSpan F N w r1 l1 l2).bind fun x2 =>
  if x2 = 0 then
  some (.inr (1, w))
  else
  (rdR F w 801 l0 1).bind fun r4 =>
  (rdR F w 800 l0 1).bind fun r5 =>
  (fX1_copyFrom F N w r4 r5).bind fun p6 =>
  (rdR F p6 801 l0 1).bind fun r7 =>
  (rdR F p6 805 l0 6).bind fun r8 =>
  (fX1_cutSpan F N p6 r7 l1 l2 l3 r8).bind fun p9 =>
  if 0 ≤ p9.1 then
  (fX8_keepDraft F N p9.2 l0).bind fun p11 =>
  some (.inl (p9.1, p11))
  else
  some (.inr (3, p9.2))
def fX8_join (F : Fr) (N : Nat) (w : Wd) (l0 : Nat) (l1 : Int32) (l2 : Int32) : Option ((Int32 × Wd) ⊕ (Nat × Wd)) :=
  (rdR F w 800 l0 1).bind fun r1 =>
  (fX1_hasSpan F N w r1 l1 l2).bind fun x2 =>
  if x2 = 0 then
  some (.inr (1, w))
  else
  (rdR F w 801 l0 1).bind fun r4 =>
  (rdR F w 800 l0 1).bind fun r5 =>
  (fX1_copyFrom F N w r4 r5).bind fun p6 =>
  (rdR F p6 801 l0 1).bind fun r7 =>
  (rdR F p6 805 l0 6).bind fun r8 =>
  (fX1_uniteSpan F N p6 r7 l1 l2 r8).bind fun p9 =>
  if 0 ≤ p9.1 then
  (fX8_keepDraft F N p9.2 l0).bind fun p11 =>
  some (.inl (p9.1, p11))
  else
  some (.inr (3, p9.2))
def fX8_labelLetter (F : Fr) (N : Nat) (w : Wd) (l0 : Int64) (l2 : Int32) : Option (Int32) :=
  (ckC ((((((l0.toUInt64 >>> ((Int32.toInt64 (8 * l2)).toUInt64 &&& Int64.toUInt64 63)).toInt64) &&& 255).toInt32).toUInt32 % 65536).toInt32)).bind fun _ =>
  some ((((((l0.toUInt64 >>> ((Int32.toInt64 (8 * l2)).toUInt64 &&& Int64.toUInt64 63)).toInt64) &&& 255).toInt32).toUInt32 % 65536).toInt32)
def fX8_labelLength_24 (F : Fr) (N : Nat) (w : Wd) (k4 : Int64 → Int32 → Int32 → Option (Int32)) (l0 : Int64) (l3 : Int32) (s0 : Int32) (s1 : Int32) : Option (Int32) :=
  bnd (s0 + s1) fun v4 =>
  k4 l0 v4 (l3 + 1)
def fX8_labelLength_4 (F : Fr) (N : Nat) (w : Wd) : Nat → Int64 → Int32 → Int32 → Option (Int32)
  | 0, _, _, _ => none
  | n + 1, l0, l2, l3 =>
    if 8 ≤ l3 then
    some l2
    else
    (fX8_labelLetter F N w l0 l3).bind fun x2 =>
    if x2 = 0 then
    fX8_labelLength_24 F N w (fX8_labelLength_4 F N w n) l0 l3 l2 0
    else
    fX8_labelLength_24 F N w (fX8_labelLength_4 F N w n) l0 l3 l2 1
def fX8_labelLength (F : Fr) (N : Nat) (w : Wd) (l0 : Int64) : Option (Int32) :=
  fX8_labelLength_4 F N w N l0 0 0
def fX8_span (F : Fr) (N : Nat) (w : Wd) (l0 : Nat) (l1 : Int32) (l2 : Int32) (l3 : Int32) : Option ((Int32 × Wd) ⊕ (Nat × Wd)) :=
  (rdR F w 800 l0 1).bind fun r1 =>
  (fX1_hasSpan F N w r1 l1 l2).bind fun x2 =>
  if x2 = 0 then
  some (.inr (1, w))
  else
  (rdR F w 800 l0 1).bind fun r4 =>
  (fX1_present F N w r4 l1).bind fun x5 =>
  (ckF F x5 7).bind fun _ =>
  if l3 = 0 then
  (fX7_first F N w x5 l2).bind fun x8 =>
  some (.inl (x8, w))
  else
  if l3 = 1 then
  (fX7_end F N w x5 l2).bind fun x10 =>
  some (.inl (x10, w))
  else
  if l3 = 2 then
  (fX7_label F N w x5 l2).bind fun x12 =>
  (fX8_labelLength F N w x12).bind fun x13 =>
  some (.inl (x13, w))
  else
  if l3 = 3 then
  (rdR F w 800 l0 1).bind fun r15 =>
  (rdR F w 800 l0 1).bind fun r16 =>
  (fX7_first F N w x5 l2).bind fun x17 =>
  (fX7_end F N w x5 l2).bind fun x18 =>
  (fX1_hostOf F N w r15 (gI w 106 r16) l1 x17 x18).bind fun x19 =>
  some (.inl (x19, w))
  else
  if l3 = 4 then
  (rdR F w 800 l0 1).bind fun r21 =>
  (fX1_guestCount F N w r21 l1 l2).bind fun x22 =>
  some (.inl (x22, w))
  else
  some (.inr (0, w))
def fX8_letter_47 (F : Fr) (N : Nat) (w : Wd) : Option ((Int32 × Wd) ⊕ (Nat × Wd)) :=
  some (.inr (4, w))
def fX8_letter (F : Fr) (N : Nat) (w : Wd) (l0 : Nat) (l1 : Int32) (l2 : Int32) (l3 : Int32) : Option ((Int32 × Wd) ⊕ (Nat × Wd)) :=
  (rdR F w 800 l0 1).bind fun r1 =>
  (fX1_hasSpan F N w r1 l1 l2).bind fun x2 =>
  if x2 = 0 then
  some (.inr (1, w))
  else
  (rdR F w 800 l0 1).bind fun r4 =>
  (fX1_present F N w r4 l1).bind fun x5 =>
  (ckF F x5 7).bind fun _ =>
  (fX7_label F N w x5 l2).bind fun x7 =>
  if l3 < 0 then
  fX8_letter_47 F N w
  else
  (fX8_labelLength F N w x7).bind fun x9 =>
  if l3 < x9 then
  (fX8_labelLetter F N w x7 l3).bind fun x11 =>
  (ckC x11).bind fun _ =>
  some (.inl (x11, w))
  else
  fX8_letter_47 F N w
def fX8_spanAt (F : Fr) (N : Nat) (w : Wd) (l0 : Nat) (l1 : Int32) (l2 : Int32) : Option ((Int32 × Wd) ⊕ (Nat × Wd)) :=
  (rdR F w 800 l0 1).bind fun r1 =>
  (fX1_hasTier F N w r1 l1).bind fun x2 =>
  if x2 = 0 then
  some (.inr (1, w))
  else
  (rdR F w 800 l0 1).bind fun r4 =>
  (fX1_present F N w r4 l1).bind fun x5 =>
  (ckF F x5 7).bind fun _ =>
  (fX7_spanWith F N w x5 l2).bind fun x7 =>
  some (.inl (x7, w))
def fX8_refusal (F : Fr) (N : Nat) (w : Wd) (l0 : Nat) (l1 : Int32) : Option ((Int32 × Wd) ⊕ (Nat × Wd)) :=
  (rdR F w 805 l0 6).bind fun r1 =>
  if (gI w 600 r1) = 0 then
  some (.inr (4, w))
  else
  if l1 = 0 then
  (rdR F w 805 l0 6).bind fun r4 =>
  some (.inl (gI w 601 r4, w))
  else
  (rdR F w 805 l0 6).bind fun r5 =>
  some (.inl (gI w 600 r5, w))
def fX8_aligned_23 (F : Fr) (N : Nat) (w : Wd) : Option ((Int32 × Wd) ⊕ (Nat × Wd)) :=
  some (.inr (1, w))
def fX8_aligned (F : Fr) (N : Nat) (w : Wd) (l0 : Nat) (l1 : Int32) (l2 : Int32) (l3 : Int32) : Option ((Int32 × Wd) ⊕ (Nat × Wd)) :=
  (rdR F w 800 l0 1).bind fun r1 =>
  (fX1_hasTier F N w r1 l2).bind fun x2 =>
  if x2 = 0 then
  fX8_aligned_23 F N w
  else
  (rdR F w 800 l0 1).bind fun r4 =>
  (fX1_hasSpan F N w r4 l1 l3).bind fun x5 =>
  if x5 = 0 then
  fX8_aligned_23 F N w
  else
  (rdR F w 806 l0 0).bind fun r7 =>
  (rdR F w 800 l0 1).bind fun r8 =>
  (fX1_present F N w r8 l1).bind fun x9 =>
  (ckF F x9 7).bind fun _ =>
  (rdR F w 800 l0 1).bind fun r11 =>
  (fX1_present F N w r11 l2).bind fun x12 =>
  (ckF F x12 7).bind fun _ =>
  (rdR F w 800 l0 1).bind fun r14 =>
  (fX0_run F N w r7 x9 x12 (gI w 107 r14)).bind fun p15 =>
  (rdR F p15 806 l0 0).bind fun r16 =>
  (fX0_partnerOf F N p15 r16 l3).bind fun x17 =>
  some (.inl (x17, p15))
def fX8_alignment_22 (F : Fr) (N : Nat) (w : Wd) : Option ((Int32 × Wd) ⊕ (Nat × Wd)) :=
  some (.inr (1, w))
def fX8_alignment (F : Fr) (N : Nat) (w : Wd) (l0 : Nat) (l1 : Int32) (l2 : Int32) (l3 : Int32) : Option ((Int32 × Wd) ⊕ (Nat × Wd)) :=
  (rdR F w 800 l0 1).bind fun r1 =>
  (fX1_hasTier F N w r1 l1).bind fun x2 =>
  if x2 = 0 then
  fX8_alignment_22 F N w
  else
  (rdR F w 800 l0 1).bind fun r4 =>
  (fX1_hasTier F N w r4 l2).bind fun x5 =>
  if x5 = 0 then
  fX8_alignment_22 F N w
  else
  (rdR F w 806 l0 0).bind fun r7 =>
  (rdR F w 800 l0 1).bind fun r8 =>
  (fX1_present F N w r8 l1).bind fun x9 =>
  (ckF F x9 7).bind fun _ =>
  (rdR F w 800 l0 1).bind fun r11 =>
  (fX1_present F N w r11 l2).bind fun x12 =>
  (ckF F x12 7).bind fun _ =>
  (rdR F w 800 l0 1).bind fun r14 =>
  (fX0_run F N w r7 x9 x12 (gI w 107 r14)).bind fun p15 =>
  if l3 = 0 then
  (rdR F p15 806 l0 0).bind fun r17 =>
  some (.inl (gI p15 3 r17, p15))
  else
  (rdR F p15 806 l0 0).bind fun r18 =>
  some (.inl (gI p15 2 r18, p15))
def fX8_search_31 (F : Fr) (N : Nat) (w : Wd) (l0 : Nat) (l1 : Int32) : Option ((Int32 × Wd) ⊕ (Nat × Wd)) :=
  (rdR F w 804 l0 3).bind fun r1 =>
  (fX3_empty F N w r1).bind fun p2 =>
  if l1 = 0 then
  some (.inr (0, p2))
  else
  (rdR F p2 808 l0 5).bind fun r4 =>
  (rdR F p2 809 l0 5).bind fun r5 =>
  bnd (sR p2 808 l0 (some r5)) fun w6 =>
  bnd (sR w6 809 l0 (some r4)) fun w7 =>
  (rdR F w7 808 l0 5).bind fun r8 =>
  (rdR F w7 800 l0 1).bind fun r9 =>
  (fX5_countMatches F N w7 r8 r9).bind fun p10 =>
  some (.inl (p10.1, p10.2))
def fX8_search (F : Fr) (N : Nat) (w : Wd) (l0 : Nat) : Option ((Int32 × Wd) ⊕ (Nat × Wd)) :=
  (rdR F w 809 l0 5).bind fun r11 =>
  (rdR F w 804 l0 3).bind fun r12 =>
  (rdR F w 800 l0 1).bind fun r13 =>
  (fX5_readFrom F N w r11 r12 r13).bind fun p14 =>
  if p14.1 = 0 then
  (rdR F p14.2 804 l0 3).bind fun r16 =>
  bnd (sI p14.2 811 l0 (gI p14.2 302 r16)) fun w17 =>
  fX8_search_31 F N w17 l0 p14.1
  else
  fX8_search_31 F N p14.2 l0 p14.1
def fX8_match_52 (F : Fr) (N : Nat) (w : Wd) : Option ((Int32 × Wd) ⊕ (Nat × Wd)) :=
  some (.inr (4, w))
def fX8_match (F : Fr) (N : Nat) (w : Wd) (l0 : Nat) (l1 : Int32) (l2 : Int32) : Option ((Int32 × Wd) ⊕ (Nat × Wd)) :=
  (rdR F w 808 l0 5).bind fun r1 =>
  if (gI w 506 r1) = 0 then
  some (.inr (2, w))
  else
  if l2 < 0 then
  fX8_match_52 F N w
  else
  (rdR F w 808 l0 5).bind fun r4 =>
  if (gI w 506 r4) ≤ l2 then
  fX8_match_52 F N w
  else
  if l1 < 0 then
  fX8_match_52 F N w
  else
  (rdR F w 808 l0 5).bind fun r7 =>
  (rdR F w 800 l0 1).bind fun r8 =>
  (fX5_countMatches F N w r7 r8).bind fun p9 =>
  if l1 < p9.1 then
  (rdR F p9.2 808 l0 5).bind fun r11 =>
  (rdR F p9.2 800 l0 1).bind fun r12 =>
  (fX5_spanOf F N p9.2 r11 r12 l1 l2).bind fun x13 =>
  some (.inl (x13, p9.2))
  else
  fX8_match_52 F N p9.2
def fX8_merge (F : Fr) (N : Nat) (w : Wd) (l0 : Nat) (l1 : Int32) (l2 : Int32) : Option ((Int32 × Wd) ⊕ (Nat × Wd)) :=
  (rdR F w 800 l0 1).bind fun r1 =>
  (fX1_hasTier F N w r1 l1).bind fun x2 =>
  if x2 = 0 then
  some (.inr (1, w))
  else
  (rdR F w 807 l0 4).bind fun r4 =>
  (rdR F w 800 l0 1).bind fun r5 =>
  (fX1_row F N w r5 0 l1).bind fun x6 =>
  (ckF F x6 7).bind fun _ =>
  (rdR F w 800 l0 1).bind fun r8 =>
  (fX1_row F N w r8 1 l1).bind fun x9 =>
  (ckF F x9 7).bind fun _ =>
  (fX4_run F N w r4 x6 x9).bind fun p11 =>
  if l2 = 0 then
  (rdR F p11 807 l0 4).bind fun r13 =>
  some (.inl (gI p11 404 r13, p11))
  else
  if l2 = 1 then
  (rdR F p11 807 l0 4).bind fun r15 =>
  some (.inl (gI p11 405 r15, p11))
  else
  if l2 = 2 then
  (rdR F p11 807 l0 4).bind fun r17 =>
  some (.inl (gI p11 406 r17, p11))
  else
  if l2 = 3 then
  (rdR F p11 807 l0 4).bind fun r19 =>
  (fX4_sharedCount F N p11 r19).bind fun x20 =>
  some (.inl (x20, p11))
  else
  if l2 = 4 then
  (rdR F p11 807 l0 4).bind fun r22 =>
  (fX4_frameSum F N p11 r22).bind fun x23 =>
  some (.inl (x23, p11))
  else
  some (.inr (0, p11))
def fX8_merged (F : Fr) (N : Nat) (w : Wd) (l0 : Nat) (l1 : Int32) (l2 : Int32) (l3 : Int32) : Option ((Int32 × Wd) ⊕ (Nat × Wd)) :=
  (rdR F w 800 l0 1).bind fun r1 =>
  (fX1_hasTier F N w r1 l1).bind fun x2 =>
  if x2 = 0 then
  some (.inr (1, w))
  else
  (rdR F w 807 l0 4).bind fun r4 =>
  (rdR F w 800 l0 1).bind fun r5 =>
  (fX1_row F N w r5 0 l1).bind fun x6 =>
  (ckF F x6 7).bind fun _ =>
  (rdR F w 800 l0 1).bind fun r8 =>
  (fX1_row F N w r8 1 l1).bind fun x9 =>
  (ckF F x9 7).bind fun _ =>
  (fX4_run F N w r4 x6 x9).bind fun p11 =>
  (rdR F p11 807 l0 4).bind fun r12 =>
  (fX4_has F N p11 r12 l2).bind fun x13 =>
  if x13 = 0 then
  some (.inr (4, p11))
  else
  if l3 = 0 then
  (rdR F p11 807 l0 4).bind fun r16 =>
  (fX4_first F N p11 r16 l2).bind fun x17 =>
  some (.inl (x17, p11))
  else
  if l3 = 1 then
  (rdR F p11 807 l0 4).bind fun r19 =>
  (fX4_end F N p11 r19 l2).bind fun x20 =>
  some (.inl (x20, p11))
  else
  if l3 = 2 then
  (rdR F p11 807 l0 4).bind fun r22 =>
  (fX4_source F N p11 r22 l2).bind fun x23 =>
  some (.inl (x23, p11))
  else
  if l3 = 3 then
  (rdR F p11 807 l0 4).bind fun r25 =>
  (fX4_label F N p11 r25 l2).bind fun x26 =>
  (fX8_labelLength F N p11 x26).bind fun x27 =>
  some (.inl (x27, p11))
  else
  some (.inr (0, p11))
def fX8_frames (F : Fr) (N : Nat) (w : Wd) (l0 : Nat) (l1 : Int32) (l2 : Int32) : Option ((Int32 × Wd) ⊕ (Nat × Wd)) :=
  (rdR F w 800 l0 1).bind fun r1 =>
  (fX1_hasTier F N w r1 l1).bind fun x2 =>
  if x2 = 0 then
  some (.inr (1, w))
  else
  (rdR F w 800 l0 1).bind fun r4 =>
  (fX1_row F N w r4 0 l1).bind fun x5 =>
  (ckF F x5 7).bind fun _ =>
  (rdR F w 800 l0 1).bind fun r7 =>
  (fX1_row F N w r7 1 l1).bind fun x8 =>
  (ckF F x8 7).bind fun _ =>
  if l2 = 0 then
  (fX7_frameSum F N w x5).bind fun x11 =>
  some (.inl (x11, w))
  else
  if l2 = 1 then
  (fX7_frameSum F N w x8).bind fun x13 =>
  some (.inl (x13, w))
  else
  if l2 = 2 then
  (fX7_commonFrames F N w x5 x8 1).bind fun x15 =>
  some (.inl (x15, w))
  else
  if l2 = 3 then
  (fX7_commonFrames F N w x5 x8 0).bind fun x17 =>
  some (.inl (x17, w))
  else
  if l2 = 4 then
  (fX7_framesWith F N w x5 x8).bind fun x19 =>
  some (.inl (x19, w))
  else
  some (.inr (0, w))
def fX8_agreement (F : Fr) (N : Nat) (w : Wd) (l0 : Nat) (l1 : Int32) : Option ((UInt32 × Wd) ⊕ (Nat × Wd)) :=
  (rdR F w 800 l0 1).bind fun r1 =>
  (fX1_hasTier F N w r1 l1).bind fun x2 =>
  if x2 = 0 then
  some (.inr (1, w))
  else
  (rdR F w 800 l0 1).bind fun r4 =>
  (fX1_row F N w r4 0 l1).bind fun x5 =>
  (ckF F x5 7).bind fun _ =>
  (rdR F w 800 l0 1).bind fun r7 =>
  (fX1_row F N w r7 1 l1).bind fun x8 =>
  (ckF F x8 7).bind fun _ =>
  (fX7_framesWith F N w x5 x8).bind fun x10 =>
  if x10 = 0 then
  some (.inr (5, w))
  else
  (fX7_commonFrames F N w x5 x8 1).bind fun x12 =>
  (nnF (FP.fdiv (FP.i2f x12) (FP.i2f x10))).bind fun v13 =>
  some (.inl (v13, w))
def fX8_kappa (F : Fr) (N : Nat) (w : Wd) (l0 : Nat) (l1 : Int32) : Option ((UInt64 × Wd) ⊕ (Nat × Wd)) :=
  (rdR F w 800 l0 1).bind fun r1 =>
  (fX1_hasTier F N w r1 l1).bind fun x2 =>
  if x2 = 0 then
  some (.inr (1, w))
  else
  (rdR F w 800 l0 1).bind fun r4 =>
  (fX1_row F N w r4 0 l1).bind fun x5 =>
  (ckF F x5 7).bind fun _ =>
  (rdR F w 800 l0 1).bind fun r7 =>
  (fX1_row F N w r7 1 l1).bind fun x8 =>
  (ckF F x8 7).bind fun _ =>
  (fX7_commonFrames F N w x5 x8 1).bind fun x10 =>
  (fX7_framesWith F N w x5 x8).bind fun x11 =>
  bnd ((x10 + 1000) - x11) fun v12 =>
  (fX7_labelProducts F N w x5 x8).bind fun x13 =>
  (fX7_frameSum F N w x5).bind fun x14 =>
  (fX7_frameSum F N w x8).bind fun x15 =>
  bnd (x13 + ((1000 - x14) * (1000 - x15))) fun v16 =>
  (nnD (FP.ddiv (FP.i2d v12) 4652007308841189376)).bind fun v17 =>
  (nnD (FP.ddiv (FP.i2d v16) 4696837146684686336)).bind fun v18 =>
  if (Op.cmpValue (FP.dcmp v18 FP.dconst1) .l) = 0 then
  some (.inr (5, w))
  else
  (nnD (FP.dsub v17 v18)).bind fun v20 =>
  (nnD (FP.dsub FP.dconst1 v18)).bind fun v21 =>
  (nnD (FP.ddiv v20 v21)).bind fun v22 =>
  some (.inl (v22, w))
def fX8_isConsistent_9 (F : Fr) (N : Nat) (w : Wd) (k2 : Nat → Int32 → Option (Int32)) : Nat → Nat → Int32 → Int32 → Option (Int32)
  | 0, _, _, _ => none
  | n + 1, l0, l1, l2 =>
    (rdR F w 800 l0 1).bind fun r2 =>
    if (gI w 105 r2) ≤ l2 then
    k2 l0 (l1 + 1)
    else
    (rdR F w 800 l0 1).bind fun r4 =>
    (fX1_row F N w r4 l1 l2).bind fun x5 =>
    (ckF F x5 7).bind fun _ =>
    (fX7_isInOrder F N w x5).bind fun x7 =>
    if x7 = 0 then
    some 0
    else
    (fX7_coveredFrames F N w x5).bind fun x9 =>
    (fX7_frameSum F N w x5).bind fun x10 =>
    if x9 = x10 then
    (rdR F w 800 l0 1).bind fun r12 =>
    (fX1_hasOrphan F N w r12 l1 l2).bind fun x13 =>
    if x13 = 0 then
    fX8_isConsistent_9 F N w k2 n l0 l1 (l2 + 1)
    else
    some 0
    else
    some 0
def fX8_isConsistent_2 (F : Fr) (N : Nat) (w : Wd) : Nat → Nat → Int32 → Option (Int32)
  | 0, _, _ => none
  | n + 1, l0, l1 =>
    if 2 ≤ l1 then
    some 1
    else
    fX8_isConsistent_9 F N w (fX8_isConsistent_2 F N w n) N l0 l1 0
def fX8_isConsistent (F : Fr) (N : Nat) (w : Wd) (l0 : Nat) : Option (Int32) :=
  fX8_isConsistent_2 F N w N l0 0
def fX8_addItems_9 (F : Fr) (N : Nat) : Nat → Wd → Nat → Int32 → Int32 → Option (Int32 × Wd)
  | 0, _, _, _, _ => none
  | n + 1, w, l0, l1, l2 =>
    if l1 ≤ l2 then
    some (l1, w)
    else
    (rdR F w 804 l0 3).bind fun r2 =>
    (rdR F w 801 l0 1).bind fun r3 =>
    (fX3_readItem F N w r2 r3).bind fun p4 =>
    (rdR F p4.2 801 l0 1).bind fun r5 =>
    (rdR F p4.2 804 l0 3).bind fun r6 =>
    (rdR F p4.2 804 l0 3).bind fun r7 =>
    (rdR F p4.2 804 l0 3).bind fun r8 =>
    (rdR F p4.2 804 l0 3).bind fun r9 =>
    (rdR F p4.2 805 l0 6).bind fun r10 =>
    (fX1_insertSpan F N p4.2 r5 (gI p4.2 303 r6) (gI p4.2 304 r7) (gI p4.2 305 r8) (gJ p4.2 306 r9) r10).bind fun p11 =>
    if 0 ≤ p11.1 then
    (rdR F p11.2 804 l0 3).bind fun r13 =>
    (fX3_take F N p11.2 r13 59).bind fun p14 =>
    fX8_addItems_9 F N n p14.2 l0 l1 (l2 + 1)
    else
    some (l2, p11.2)
def fX8_addItems (F : Fr) (N : Nat) (w : Wd) (l0 : Nat) (l1 : Int32) : Option (Int32 × Wd) :=
  (rdR F w 804 l0 3).bind fun r15 =>
  (fX3_restart F N w r15).bind fun p16 =>
  fX8_addItems_9 F N N p16 l0 l1 0
def fX8_read (F : Fr) (N : Nat) (w : Wd) (l0 : Nat) : Option ((Int32 × Wd) ⊕ (Nat × Wd)) :=
  (rdR F w 804 l0 3).bind fun r1 =>
  (rdR F w 800 l0 1).bind fun r2 =>
  (fX3_countItems F N w r1 r2).bind fun p3 =>
  if p3.1 = 0 then
  (rdR F p3.2 804 l0 3).bind fun r14 =>
  bnd (sI p3.2 811 l0 (gI p3.2 302 r14)) fun w15 =>
  (rdR F w15 804 l0 3).bind fun r16 =>
  (fX3_empty F N w15 r16).bind fun p17 =>
  some (.inr (0, p17))
  else
  (rdR F p3.2 801 l0 1).bind fun r5 =>
  (rdR F p3.2 800 l0 1).bind fun r6 =>
  (fX1_copyFrom F N p3.2 r5 r6).bind fun p7 =>
  (fX8_addItems F N p7 l0 p3.1).bind fun p8 =>
  (rdR F p8.2 804 l0 3).bind fun r9 =>
  (fX3_empty F N p8.2 r9).bind fun p10 =>
  if p3.1 ≤ p8.1 then
  (fX8_keepDraft F N p10 l0).bind fun p12 =>
  some (.inl (p3.1, p12))
  else
  bnd (sI p10 812 l0 p8.1) fun w13 =>
  some (.inr (3, w13))
def fX8_errorPosition (F : Fr) (N : Nat) (w : Wd) (l0 : Nat) : Option ((Int32 × Wd) ⊕ (Nat × Wd)) :=
  if 0 ≤ (gI w 811 l0) then
  some (.inl (gI w 811 l0, w))
  else
  some (.inr (4, w))
def fX8_refusedItem (F : Fr) (N : Nat) (w : Wd) (l0 : Nat) : Option ((Int32 × Wd) ⊕ (Nat × Wd)) :=
  if 0 ≤ (gI w 812 l0) then
  some (.inl (gI w 812 l0, w))
  else
  some (.inr (4, w))
def fX8_undo (F : Fr) (N : Nat) (w : Wd) (l0 : Nat) : Option ((Int32 × Wd) ⊕ (Nat × Wd)) :=
  (rdR F w 803 l0 2).bind fun r1 =>
  if (gI w 202 r1) = 0 then
  some (.inr (2, w))
  else
  (rdR F w 803 l0 2).bind fun r3 =>
  (rdR F w 800 l0 1).bind fun r4 =>
  (fX2_pop F N w r3 r4).bind fun p5 =>
  (rdR F p5 803 l0 2).bind fun r6 =>
  some (.inl (gI p5 202 r6, p5))
def fX8_snapshot (F : Fr) (N : Nat) (w : Wd) (l0 : Nat) : Option (Int32 × Wd) :=
  (rdR F w 802 l0 1).bind fun r1 =>
  (rdR F w 800 l0 1).bind fun r2 =>
  (fX1_copyFrom F N w r1 r2).bind fun p3 =>
  bnd (sI p3 810 l0 1) fun w4 =>
  (rdR F w4 800 l0 1).bind fun r5 =>
  some (gI w4 105 r5, w4)
def fX8_restore (F : Fr) (N : Nat) (w : Wd) (l0 : Nat) : Option ((Int32 × Wd) ⊕ (Nat × Wd)) :=
  if (gI w 810 l0) = 0 then
  some (.inr (2, w))
  else
  (rdR F w 800 l0 1).bind fun r2 =>
  (rdR F w 802 l0 1).bind fun r3 =>
  (fX1_copyFrom F N w r2 r3).bind fun p4 =>
  (rdR F p4 803 l0 2).bind fun r5 =>
  (fX2_forget F N p4 r5).bind fun p6 =>
  (rdR F p6 800 l0 1).bind fun r7 =>
  some (.inl (gI p6 105 r7, p6))
