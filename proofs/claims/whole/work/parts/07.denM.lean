def fX9_thrown (F : Fr) (N : Nat) (w : Wd) (l0 : Nat) : Option (Int32) :=
  some (gI w 906 l0)
def fX9_in (F : Fr) (N : Nat) (w : Wd) (l0 : Int32) (l1 : Int32) (l2 : Int32) : Option (Int32) :=
  if l0 < l1 then
  some 0
  else
  if l2 < l0 then
  some 0
  else
  some 1
def fX9_begin_2 (F : Fr) (N : Nat) : Nat → Wd → Nat → Int32 → Option (Wd)
  | 0, _, _, _ => none
  | n + 1, w, l0, l1 =>
    if 1114 ≤ l1 then
    (rdR F w 900 l0 12).bind fun r2 =>
    (stJ F w r2 2 50).bind fun w3 =>
    (rdR F w3 900 l0 12).bind fun r4 =>
    (stJ F w3 r4 3 20).bind fun w5 =>
    bnd (sI w5 905 l0 0) fun w6 =>
    bnd (sI w6 916 l0 0) fun w7 =>
    some w7
    else
    (rdR F w 900 l0 12).bind fun r8 =>
    (stJ F w r8 l1 0).bind fun w9 =>
    fX9_begin_2 F N n w9 l0 (l1 + 1)
def fX9_begin (F : Fr) (N : Nat) (w : Wd) (l0 : Nat) : Option (Wd) :=
  fX9_begin_2 F N N w l0 0
def fX9_keepState (F : Fr) (N : Nat) (w : Wd) (l0 : Nat) : Option (Wd) :=
  (rdR F w 900 l0 12).bind fun r1 =>
  (rdR F w 901 l0 12).bind fun r2 =>
  (cpJ F w r1 0 r2 0 1114).bind fun w3 =>
  some w3
def fX9_putBack (F : Fr) (N : Nat) (w : Wd) (l0 : Nat) : Option (Wd) :=
  (rdR F w 901 l0 12).bind fun r1 =>
  (rdR F w 900 l0 12).bind fun r2 =>
  (cpJ F w r1 0 r2 0 1114).bind fun w3 =>
  some w3
def fX9_change_37 (F : Fr) (N : Nat) (w : Wd) (l0 : Nat) : Option (Wd) :=
  (rdR F w 901 l0 12).bind fun r1 =>
  (rdR F w 904 l0 12).bind fun r2 =>
  (cpJ F w r1 0 r2 (1114 * (gI w 905 l0)) 1114).bind fun w3 =>
  bnd (sI w3 905 l0 ((gI w3 905 l0) + 1)) fun w4 =>
  some w4
def fX9_change (F : Fr) (N : Nat) (w : Wd) (l0 : Nat) : Option (Wd) :=
  if (gI w 905 l0) = 8 then
  (rdR F w 904 l0 12).bind fun r6 =>
  (rdR F w 904 l0 12).bind fun r7 =>
  (cpJ F w r6 1114 r7 0 7798).bind fun w8 =>
  bnd (sI w8 905 l0 ((gI w8 905 l0) - 1)) fun w9 =>
  fX9_change_37 F N w9 l0
  else
  fX9_change_37 F N w l0
def fX9_changes (F : Fr) (N : Nat) (w : Wd) (l0 : Nat) : Option (Wd) :=
  (fX9_keepState F N w l0).bind fun p1 =>
  (fX9_change F N p1 l0).bind fun p2 =>
  some p2
def fX9_tiers (F : Fr) (N : Nat) (w : Wd) (l0 : Nat) : Option (Int32) :=
  (rdR F w 900 l0 12).bind fun r1 =>
  (ldJ F w r1 0).bind fun x2 =>
  some x2.toInt32
def fX9_clear (F : Fr) (N : Nat) (w : Wd) (l0 : Nat) : Option (Int32 × Wd) :=
  bnd (sI w 906 l0 0) fun w1 =>
  (fX9_tiers F N w1 l0).bind fun x2 =>
  (fX9_begin F N w1 l0).bind fun p3 =>
  some (x2, p3)
def fX9_annotator (F : Fr) (N : Nat) (w : Wd) (l0 : Nat) : Option (Int32) :=
  (rdR F w 900 l0 12).bind fun r1 =>
  (ldJ F w r1 1).bind fun x2 =>
  some x2.toInt32
def fX9_isTier (F : Fr) (N : Nat) (w : Wd) (l0 : Nat) (l1 : Int32) : Option (Int32) :=
  (fX9_tiers F N w l0).bind fun x1 =>
  (fX9_in F N w l1 0 (x1 - 1)).bind fun x2 =>
  (ckZ x2).bind fun _ =>
  some x2
def fX9_kind (F : Fr) (N : Nat) (w : Wd) (l0 : Nat) (l1 : Int32) : Option (Int32) :=
  (rdR F w 900 l0 12).bind fun r1 =>
  (ldJ F w r1 (4 + (3 * l1))).bind fun x2 =>
  some x2.toInt32
def fX9_rule (F : Fr) (N : Nat) (w : Wd) (l0 : Nat) (l1 : Int32) : Option (Int32) :=
  (rdR F w 900 l0 12).bind fun r1 =>
  (ldJ F w r1 ((4 + (3 * l1)) + 1)).bind fun x2 =>
  some x2.toInt32
def fX9_parent (F : Fr) (N : Nat) (w : Wd) (l0 : Nat) (l1 : Int32) : Option (Int32) :=
  (rdR F w 900 l0 12).bind fun r1 =>
  (ldJ F w r1 ((4 + (3 * l1)) + 2)).bind fun x2 =>
  some x2.toInt32
def fX9_addTier_127 (F : Fr) (N : Nat) (w : Wd) (l0 : Nat) (l4 : Int32) (s0 : Nat) (s1 : Int32) (s2 : Int64) : Option (Int32 × Wd) :=
  (stJ F w s0 s1 s2).bind fun w13 =>
  (rdR F w13 900 l0 12).bind fun r14 =>
  (ldJ F w13 r14 0).bind fun x15 =>
  (stJ F w13 r14 0 (x15 + 1)).bind fun w16 =>
  some (l4, w16)
def fX9_addTier_53 (F : Fr) (N : Nat) (w : Wd) (l0 : Nat) (l1 : Int32) (l2 : Int32) (l3 : Int32) (s0 : Nat) (s1 : Int32) : Option (Int32 × Wd) :=
  bnd (sI w 906 s0 s1) fun w3 =>
  if (gI w3 906 l0) ≤ 0 then
  (fX9_changes F N w3 l0).bind fun p5 =>
  (fX9_tiers F N p5 l0).bind fun x6 =>
  (rdR F p5 900 l0 12).bind fun r7 =>
  (stJ F p5 r7 (4 + (3 * x6)) l1.toInt64).bind fun w8 =>
  (rdR F w8 900 l0 12).bind fun r9 =>
  (stJ F w8 r9 ((4 + (3 * x6)) + 1) l2.toInt64).bind fun w10 =>
  (rdR F w10 900 l0 12).bind fun r11 =>
  if l2 = 0 then
  fX9_addTier_127 F N w10 l0 x6 r11 ((4 + (3 * x6)) + 2) (-1)
  else
  fX9_addTier_127 F N w10 l0 x6 r11 ((4 + (3 * x6)) + 2) l3.toInt64
  else
  some (0, w3)
def fX9_addTier_19 (F : Fr) (N : Nat) (w : Wd) (l0 : Nat) (l1 : Int32) (l2 : Int32) (l3 : Int32) (s0 : Nat) : Option (Int32 × Wd) :=
  fX9_addTier_53 F N w l0 l1 l2 l3 s0 1
def fX9_addTier_39 (F : Fr) (N : Nat) (w : Wd) (l0 : Nat) (l1 : Int32) (l2 : Int32) (l3 : Int32) (s0 : Nat) : Option (Int32 × Wd) :=
  (fX9_tiers F N w l0).bind fun x1 =>
  if x1 = 6 then
  fX9_addTier_53 F N w l0 l1 l2 l3 s0 3
  else
  fX9_addTier_53 F N w l0 l1 l2 l3 s0 0
def fX9_addTier (F : Fr) (N : Nat) (w : Wd) (l0 : Nat) (l1 : Int32) (l2 : Int32) (l3 : Int32) : Option (Int32 × Wd) :=
  (fX9_in F N w l1 0 3).bind fun x17 =>
  if x17 = 0 then
  fX9_addTier_19 F N w l0 l1 l2 l3 l0
  else
  (fX9_in F N w l2 0 3).bind fun x19 =>
  if x19 = 0 then
  fX9_addTier_19 F N w l0 l1 l2 l3 l0
  else
  if l2 ≤ 0 then
  fX9_addTier_39 F N w l0 l1 l2 l3 l0
  else
  (fX9_isTier F N w l0 l3).bind fun x22 =>
  if x22 = 0 then
  fX9_addTier_53 F N w l0 l1 l2 l3 l0 2
  else
  fX9_addTier_39 F N w l0 l1 l2 l3 l0
def fX9_select_15 (F : Fr) (N : Nat) (w : Wd) (l0 : Nat) (l1 : Int32) (s0 : Nat) (s1 : Int32) : Option (Int32 × Wd) :=
  bnd (sI w 906 s0 s1) fun w1 =>
  if (gI w1 906 l0) ≤ 0 then
  (fX9_changes F N w1 l0).bind fun p3 =>
  (fX9_annotator F N p3 l0).bind fun x4 =>
  (rdR F p3 900 l0 12).bind fun r5 =>
  (stJ F p3 r5 1 l1.toInt64).bind fun w6 =>
  some (x4, w6)
  else
  some (0, w1)
def fX9_select (F : Fr) (N : Nat) (w : Wd) (l0 : Nat) (l1 : Int32) : Option (Int32 × Wd) :=
  (fX9_in F N w l1 0 1).bind fun x7 =>
  if x7 = 0 then
  fX9_select_15 F N w l0 l1 l0 1
  else
  fX9_select_15 F N w l0 l1 l0 0
def fX9_setSetting_30 (F : Fr) (N : Nat) (w : Wd) (l0 : Nat) (l1 : Int32) (l2 : Int32) (s0 : Nat) (s1 : Int32) : Option (Int32 × Wd) :=
  bnd (sI w 906 s0 s1) fun w1 =>
  if (gI w1 906 l0) ≤ 0 then
  (fX9_changes F N w1 l0).bind fun p3 =>
  (rdR F p3 900 l0 12).bind fun r4 =>
  (ldJ F p3 r4 (2 + l1)).bind fun x5 =>
  (rdR F p3 900 l0 12).bind fun r6 =>
  (stJ F p3 r6 (2 + l1) l2.toInt64).bind fun w7 =>
  some (x5.toInt32, w7)
  else
  some (0, w1)
def fX9_setSetting (F : Fr) (N : Nat) (w : Wd) (l0 : Nat) (l1 : Int32) (l2 : Int32) : Option (Int32 × Wd) :=
  (fX9_in F N w l1 0 1).bind fun x8 =>
  if x8 = 0 then
  fX9_setSetting_30 F N w l0 l1 l2 l0 1
  else
  (fX9_in F N w l2 0 200).bind fun x10 =>
  if x10 = 0 then
  fX9_setSetting_30 F N w l0 l1 l2 l0 2
  else
  fX9_setSetting_30 F N w l0 l1 l2 l0 0
def fX9_row (F : Fr) (N : Nat) (w : Wd) (l0 : Int32) (l1 : Int32) : Option (Int32) :=
  some (22 + (91 * ((6 * l0) + l1)))
def fX9_row_ (F : Fr) (N : Nat) (w : Wd) (l0 : Nat) (l1 : Int32) : Option (Int32) :=
  (fX9_annotator F N w l0).bind fun x1 =>
  (fX9_row F N w x1 l1).bind fun x2 =>
  some x2
def fX9_many (F : Fr) (N : Nat) (w : Wd) (l0 : Nat) (l1 : Int32) : Option (Int32) :=
  (rdR F w 900 l0 12).bind fun r1 =>
  (fX9_row_ F N w l0 l1).bind fun x2 =>
  (ldJ F w r1 x2).bind fun x3 =>
  some x3.toInt32
def fX9_isSpan (F : Fr) (N : Nat) (w : Wd) (l0 : Nat) (l1 : Int32) (l2 : Int32) : Option (Int32) :=
  (fX9_isTier F N w l0 l1).bind fun x1 =>
  if x1 = 0 then
  some 0
  else
  (fX9_many F N w l0 l1).bind fun x3 =>
  (fX9_in F N w l2 0 (x3 - 1)).bind fun x4 =>
  if x4 = 0 then
  some 0
  else
  some 1
def fX9_at (F : Fr) (N : Nat) (w : Wd) (l0 : Nat) (l1 : Int32) (l2 : Int32) : Option (Int32) :=
  (fX9_row_ F N w l0 l1).bind fun x1 =>
  some ((x1 + 1) + (3 * l2))
def fX9_first (F : Fr) (N : Nat) (w : Wd) (l0 : Nat) (l1 : Int32) (l2 : Int32) : Option (Int32) :=
  (rdR F w 900 l0 12).bind fun r1 =>
  (fX9_at F N w l0 l1 l2).bind fun x2 =>
  (ldJ F w r1 x2).bind fun x3 =>
  some x3.toInt32
def fX9_end (F : Fr) (N : Nat) (w : Wd) (l0 : Nat) (l1 : Int32) (l2 : Int32) : Option (Int32) :=
  (rdR F w 900 l0 12).bind fun r1 =>
  (fX9_at F N w l0 l1 l2).bind fun x2 =>
  (ldJ F w r1 (x2 + 1)).bind fun x3 =>
  some x3.toInt32
def fX9_label (F : Fr) (N : Nat) (w : Wd) (l0 : Nat) (l1 : Int32) (l2 : Int32) : Option (Int64) :=
  (rdR F w 900 l0 12).bind fun r1 =>
  (fX9_at F N w l0 l1 l2).bind fun x2 =>
  (ldJ F w r1 (x2 + 2)).bind fun x3 =>
  some x3
def fX9_takeOut (F : Fr) (N : Nat) (w : Wd) (l0 : Nat) (l1 : Int32) (l2 : Int32) : Option (Wd) :=
  (rdR F w 900 l0 12).bind fun r1 =>
  (fX9_row_ F N w l0 l1).bind fun x2 =>
  (ldJ F w r1 x2).bind fun x3 =>
  (stJ F w r1 x2 (x3 - 1)).bind fun w4 =>
  (rdR F w4 900 l0 12).bind fun r5 =>
  (fX9_at F N w4 l0 l1 (l2 + 1)).bind fun x6 =>
  (rdR F w4 900 l0 12).bind fun r7 =>
  (fX9_at F N w4 l0 l1 l2).bind fun x8 =>
  (fX9_many F N w4 l0 l1).bind fun x9 =>
  (cpJ F w4 r5 x6 r7 x8 (3 * (x9 - l2))).bind fun w10 =>
  some w10
def fX9_putIn_30 (F : Fr) (N : Nat) (w : Wd) (l0 : Nat) (l1 : Int32) (l2 : Int32) (l3 : Int32) (l4 : Int64) (l6 : Int32) : Option (Int32 × Wd) :=
  (rdR F w 900 l0 12).bind fun r5 =>
  (fX9_at F N w l0 l1 l6).bind fun x6 =>
  (rdR F w 900 l0 12).bind fun r7 =>
  (fX9_at F N w l0 l1 (l6 + 1)).bind fun x8 =>
  (fX9_many F N w l0 l1).bind fun x9 =>
  (cpJ F w r5 x6 r7 x8 (3 * (x9 - l6))).bind fun w10 =>
  (rdR F w10 900 l0 12).bind fun r11 =>
  (fX9_at F N w10 l0 l1 l6).bind fun x12 =>
  (stJ F w10 r11 x12 l2.toInt64).bind fun w13 =>
  (rdR F w13 900 l0 12).bind fun r14 =>
  (fX9_at F N w13 l0 l1 l6).bind fun x15 =>
  (stJ F w13 r14 (x15 + 1) l3.toInt64).bind fun w16 =>
  (rdR F w16 900 l0 12).bind fun r17 =>
  (fX9_at F N w16 l0 l1 l6).bind fun x18 =>
  (stJ F w16 r17 (x18 + 2) l4).bind fun w19 =>
  (rdR F w19 900 l0 12).bind fun r20 =>
  (fX9_row_ F N w19 l0 l1).bind fun x21 =>
  (ldJ F w19 r20 x21).bind fun x22 =>
  (stJ F w19 r20 x21 (x22 + 1)).bind fun w23 =>
  some (l6, w23)
def fX9_putIn_3 (F : Fr) (N : Nat) : Nat → Wd → Nat → Int32 → Int32 → Int32 → Int64 → Int32 → Option (Int32 × Wd)
  | 0, _, _, _, _, _, _, _ => none
  | n + 1, w, l0, l1, l2, l3, l4, l6 =>
    (fX9_many F N w l0 l1).bind fun x1 =>
    if x1 ≤ l6 then
    fX9_putIn_30 F N w l0 l1 l2 l3 l4 l6
    else
    (fX9_first F N w l0 l1 l6).bind fun x3 =>
    if l2 ≤ x3 then
    fX9_putIn_30 F N w l0 l1 l2 l3 l4 l6
    else
    fX9_putIn_3 F N n w l0 l1 l2 l3 l4 (l6 + 1)
def fX9_putIn (F : Fr) (N : Nat) (w : Wd) (l0 : Nat) (l1 : Int32) (l2 : Int32) (l3 : Int32) (l4 : Int64) : Option (Int32 × Wd) :=
  fX9_putIn_3 F N N w l0 l1 l2 l3 l4 0
def fX9_hostOf_102 (F : Fr) (N : Nat) (w : Wd) (k17 : Nat → Int32 → Int32 → Int32 → Int32 → Int32 → Option (Int32)) (l0 : Nat) (l2 : Int32) (l3 : Int32) (l4 : Int32) (l5 : Int32) (l6 : Int32) (s0 : Int32) : Option (Int32) :=
  if s0 = 0 then
  k17 l0 l2 l3 l4 l5 (l6 + 1)
  else
  some l6
def fX9_hostOf_97 (F : Fr) (N : Nat) (w : Wd) (k17 : Nat → Int32 → Int32 → Int32 → Int32 → Int32 → Option (Int32)) (l0 : Nat) (l2 : Int32) (l3 : Int32) (l4 : Int32) (l5 : Int32) (l6 : Int32) : Option (Int32) :=
  fX9_hostOf_102 F N w k17 l0 l2 l3 l4 l5 l6 1
def fX9_hostOf_75 (F : Fr) (N : Nat) (w : Wd) (k17 : Nat → Int32 → Int32 → Int32 → Int32 → Int32 → Option (Int32)) (l0 : Nat) (l2 : Int32) (l3 : Int32) (l4 : Int32) (l5 : Int32) (l6 : Int32) : Option (Int32) :=
  fX9_hostOf_102 F N w k17 l0 l2 l3 l4 l5 l6 0
def fX9_hostOf_101 (F : Fr) (N : Nat) (w : Wd) (k17 : Nat → Int32 → Int32 → Int32 → Int32 → Int32 → Option (Int32)) (l0 : Nat) (l2 : Int32) (l3 : Int32) (l4 : Int32) (l5 : Int32) (l6 : Int32) : Option (Int32) :=
  fX9_hostOf_102 F N w k17 l0 l2 l3 l4 l5 l6 0
def fX9_hostOf_17 (F : Fr) (N : Nat) (w : Wd) : Nat → Nat → Int32 → Int32 → Int32 → Int32 → Int32 → Option (Int32)
  | 0, _, _, _, _, _, _ => none
  | n + 1, l0, l2, l3, l4, l5, l6 =>
    if l4 ≤ 0 then
    some (-1)
    else
    (fX9_many F N w l0 l5).bind fun x2 =>
    if x2 ≤ l6 then
    some (-1)
    else
    (fX9_first F N w l0 l5 l6).bind fun x4 =>
    (fX9_end F N w l0 l5 l6).bind fun x5 =>
    if l4 = 1 then
    if l2 < x4 then
    fX9_hostOf_75 F N w (fX9_hostOf_17 F N w n) l0 l2 l3 l4 l5 l6
    else
    if x5 < l3 then
    fX9_hostOf_75 F N w (fX9_hostOf_17 F N w n) l0 l2 l3 l4 l5 l6
    else
    fX9_hostOf_102 F N w (fX9_hostOf_17 F N w n) l0 l2 l3 l4 l5 l6 1
    else
    if x4 = l2 then
    if l4 = 3 then
    fX9_hostOf_97 F N w (fX9_hostOf_17 F N w n) l0 l2 l3 l4 l5 l6
    else
    if x5 = l3 then
    fX9_hostOf_97 F N w (fX9_hostOf_17 F N w n) l0 l2 l3 l4 l5 l6
    else
    fX9_hostOf_101 F N w (fX9_hostOf_17 F N w n) l0 l2 l3 l4 l5 l6
    else
    fX9_hostOf_101 F N w (fX9_hostOf_17 F N w n) l0 l2 l3 l4 l5 l6
def fX9_hostOf (F : Fr) (N : Nat) (w : Wd) (l0 : Nat) (l1 : Int32) (l2 : Int32) (l3 : Int32) : Option (Int32) :=
  (fX9_rule F N w l0 l1).bind fun x13 =>
  (fX9_parent F N w l0 l1).bind fun x14 =>
  fX9_hostOf_17 F N w N l0 l2 l3 x13 x14 0
def fX9_lacksHost (F : Fr) (N : Nat) (w : Wd) (l0 : Nat) (l1 : Int32) (l2 : Int32) (l3 : Int32) : Option (Int32) :=
  (fX9_rule F N w l0 l1).bind fun x1 =>
  if x1 ≤ 0 then
  some 0
  else
  (fX9_hostOf F N w l0 l1 l2 l3).bind fun x3 =>
  if 0 ≤ x3 then
  some 0
  else
  some 1
def fX9_hostless_37 (F : Fr) (N : Nat) (w : Wd) (l0 : Nat) (l1 : Int32) (l2 : Int32) : Option (Int32) :=
  (fX9_many F N w l0 l1).bind fun x7 =>
  if x7 ≤ l2 then
  some (-1)
  else
  some l2
def fX9_hostless_2 (F : Fr) (N : Nat) (w : Wd) : Nat → Nat → Int32 → Int32 → Option (Int32)
  | 0, _, _, _ => none
  | n + 1, l0, l1, l2 =>
    (fX9_many F N w l0 l1).bind fun x1 =>
    if x1 ≤ l2 then
    fX9_hostless_37 F N w l0 l1 l2
    else
    (fX9_first F N w l0 l1 l2).bind fun x3 =>
    (fX9_end F N w l0 l1 l2).bind fun x4 =>
    (fX9_lacksHost F N w l0 l1 x3 x4).bind fun x5 =>
    if x5 = 0 then
    fX9_hostless_2 F N w n l0 l1 (l2 + 1)
    else
    fX9_hostless_37 F N w l0 l1 l2
def fX9_hostless (F : Fr) (N : Nat) (w : Wd) (l0 : Nat) (l1 : Int32) : Option (Int32) :=
  fX9_hostless_2 F N w N l0 l1 0
def fX9_hostlessTier_24 (F : Fr) (N : Nat) (w : Wd) (l0 : Nat) (l1 : Int32) : Option (Int32) :=
  (fX9_tiers F N w l0).bind fun x5 =>
  if x5 ≤ l1 then
  some (-1)
  else
  some l1
def fX9_hostlessTier_2 (F : Fr) (N : Nat) (w : Wd) : Nat → Nat → Int32 → Option (Int32)
  | 0, _, _ => none
  | n + 1, l0, l1 =>
    (fX9_tiers F N w l0).bind fun x1 =>
    if x1 ≤ l1 then
    fX9_hostlessTier_24 F N w l0 l1
    else
    (fX9_hostless F N w l0 l1).bind fun x3 =>
    if 0 ≤ x3 then
    fX9_hostlessTier_24 F N w l0 l1
    else
    fX9_hostlessTier_2 F N w n l0 (l1 + 1)
def fX9_hostlessTier (F : Fr) (N : Nat) (w : Wd) (l0 : Nat) : Option (Int32) :=
  fX9_hostlessTier_2 F N w N l0 0
def fX9_framesOf_12 (F : Fr) (N : Nat) (w : Wd) : Nat → Nat → Int32 → Int32 → Int32 → Option (Int32)
  | 0, _, _, _, _ => none
  | n + 1, l0, l3, l4, l5 =>
    (rdR F w 900 l0 12).bind fun r1 =>
    (ldJ F w r1 l3).bind fun x2 =>
    if 0 ≤ (lg_cmp l5.toInt64 x2) then
    some l4
    else
    (rdR F w 900 l0 12).bind fun r4 =>
    (ldJ F w r4 ((l3 + 2) + (3 * l5))).bind fun x5 =>
    (rdR F w 900 l0 12).bind fun r6 =>
    (ldJ F w r6 ((l3 + 1) + (3 * l5))).bind fun x7 =>
    bnd (l4 + ((x5 - x7).toInt32)) fun v8 =>
    fX9_framesOf_12 F N w n l0 l3 v8 (l5 + 1)
def fX9_framesOf (F : Fr) (N : Nat) (w : Wd) (l0 : Nat) (l1 : Int32) (l2 : Int32) : Option (Int32) :=
  (fX9_row F N w l1 l2).bind fun x9 =>
  fX9_framesOf_12 F N w N l0 x9 0 0
def fX9_differentLabels_52 (F : Fr) (N : Nat) (w : Wd) (k4 : Nat → Int32 → Int32 → Int32 → Option (Int32)) (k19 : Nat → Int32 → Int32 → Int32 → Int32 → Int32 → Option (Int32)) (l0 : Nat) (l1 : Int32) (l2 : Int32) (l3 : Int32) (l5 : Int32) (s0 : Int32) : Option (Int32) :=
  k19 l0 l1 l2 l3 s0 (l5 + 1)
def fX9_differentLabels_51 (F : Fr) (N : Nat) (w : Wd) (k4 : Nat → Int32 → Int32 → Int32 → Option (Int32)) (k19 : Nat → Int32 → Int32 → Int32 → Int32 → Int32 → Option (Int32)) (l0 : Nat) (l1 : Int32) (l2 : Int32) (l3 : Int32) (l5 : Int32) : Option (Int32) :=
  fX9_differentLabels_52 F N w k4 k19 l0 l1 l2 l3 l5 0
def fX9_differentLabels_71 (F : Fr) (N : Nat) (w : Wd) (k4 : Nat → Int32 → Int32 → Int32 → Option (Int32)) (l0 : Nat) (l1 : Int32) (l3 : Int32) (s0 : Int32) (s1 : Int32) : Option (Int32) :=
  bnd (s0 + s1) fun v9 =>
  k4 l0 l1 v9 (l3 + 1)
def fX9_differentLabels_19 (F : Fr) (N : Nat) (w : Wd) (k4 : Nat → Int32 → Int32 → Int32 → Option (Int32)) : Nat → Nat → Int32 → Int32 → Int32 → Int32 → Int32 → Option (Int32)
  | 0, _, _, _, _, _, _ => none
  | n + 1, l0, l1, l2, l3, l4, l5 =>
    if l3 ≤ l5 then
    if l4 = 0 then
    fX9_differentLabels_71 F N w k4 l0 l1 l3 l2 0
    else
    fX9_differentLabels_71 F N w k4 l0 l1 l3 l2 1
    else
    if l4 = 0 then
    fX9_differentLabels_51 F N w k4 (fX9_differentLabels_19 F N w k4 n) l0 l1 l2 l3 l5
    else
    (fX9_label F N w l0 l1 l5).bind fun x6 =>
    (fX9_label F N w l0 l1 l3).bind fun x7 =>
    if (lg_cmp x6 x7) = 0 then
    fX9_differentLabels_51 F N w k4 (fX9_differentLabels_19 F N w k4 n) l0 l1 l2 l3 l5
    else
    fX9_differentLabels_52 F N w k4 (fX9_differentLabels_19 F N w k4 n) l0 l1 l2 l3 l5 1
def fX9_differentLabels_4 (F : Fr) (N : Nat) (w : Wd) : Nat → Nat → Int32 → Int32 → Int32 → Option (Int32)
  | 0, _, _, _, _ => none
  | n + 1, l0, l1, l2, l3 =>
    (fX9_many F N w l0 l1).bind fun x1 =>
    if x1 ≤ l3 then
    some l2
    else
    fX9_differentLabels_19 F N w (fX9_differentLabels_4 F N w n) N l0 l1 l2 l3 1 0
def fX9_differentLabels (F : Fr) (N : Nat) (w : Wd) (l0 : Nat) (l1 : Int32) : Option (Int32) :=
  fX9_differentLabels_4 F N w N l0 l1 0 0
def fX9_tier_142 (F : Fr) (N : Nat) (k114 : Wd → Nat → Int32 → Int32 → Int32 → Option (Int32 × Wd)) (w : Wd) (l0 : Nat) (l1 : Int32) (l4 : Int32) (s0 : Int32) (s1 : Int32) : Option (Int32 × Wd) :=
  bnd (s0 ||| s1) fun v22 =>
  k114 w l0 l1 v22 (l4 + 1)
def fX9_tier_114 (F : Fr) (N : Nat) : Nat → Wd → Nat → Int32 → Int32 → Int32 → Option (Int32 × Wd)
  | 0, _, _, _, _, _ => none
  | n + 1, w, l0, l1, l3, l4 =>
    (fX9_tiers F N w l0).bind fun x18 =>
    if x18 ≤ l4 then
    some (l3, w)
    else
    (fX9_parent F N w l0 l4).bind fun x20 =>
    if x20 = l1 then
    fX9_tier_142 F N (fX9_tier_114 F N n) w l0 l1 l4 l3 (1 <<< (l4 &&& 31))
    else
    fX9_tier_142 F N (fX9_tier_114 F N n) w l0 l1 l4 l3 0
def fX9_tier_28 (F : Fr) (N : Nat) (w : Wd) (l0 : Nat) (l1 : Int32) (l2 : Int32) (s0 : Nat) (s1 : Int32) : Option (Int32 × Wd) :=
  bnd (sI w 906 s0 s1) fun w1 =>
  if (gI w1 906 l0) ≤ 0 then
  if l2 = 3 then
  (fX9_many F N w1 l0 l1).bind fun x4 =>
  some (x4, w1)
  else
  if l2 = 4 then
  (fX9_annotator F N w1 l0).bind fun x6 =>
  (fX9_framesOf F N w1 l0 x6 l1).bind fun x7 =>
  some (x7, w1)
  else
  if l2 = 5 then
  (rdR F w1 900 l0 12).bind fun r9 =>
  (fX9_annotator F N w1 l0).bind fun x10 =>
  (fX9_row F N w1 (1 - x10) l1).bind fun x11 =>
  (ldJ F w1 r9 x11).bind fun x12 =>
  some (x12.toInt32, w1)
  else
  if l2 = 6 then
  fX9_tier_114 F N N w1 l0 l1 0 0
  else
  if l2 = 7 then
  (fX9_differentLabels F N w1 l0 l1).bind fun x15 =>
  some (x15, w1)
  else
  (rdR F w1 900 l0 12).bind fun r16 =>
  (ldJ F w1 r16 ((4 + (3 * l1)) + l2)).bind fun x17 =>
  some (x17.toInt32, w1)
  else
  some (0, w1)
def fX9_tier (F : Fr) (N : Nat) (w : Wd) (l0 : Nat) (l1 : Int32) (l2 : Int32) : Option (Int32 × Wd) :=
  (fX9_isTier F N w l0 l1).bind fun x23 =>
  if x23 = 0 then
  fX9_tier_28 F N w l0 l1 l2 l0 1
  else
  (fX9_in F N w l2 0 7).bind fun x25 =>
  if x25 = 0 then
  fX9_tier_28 F N w l0 l1 l2 l0 2
  else
  fX9_tier_28 F N w l0 l1 l2 l0 0
def fX9_book_64 (F : Fr) (N : Nat) : Nat → Wd → Nat → Int32 → Int32 → Option (Int32 × Wd)
  | 0, _, _, _, _ => none
  | n + 1, w, l0, l2, l3 =>
    if 6 ≤ l3 then
    some (l2, w)
    else
    (rdR F w 900 l0 12).bind fun r10 =>
    (fX9_row F N w 0 l3).bind fun x11 =>
    (ldJ F w r10 x11).bind fun x12 =>
    (rdR F w 900 l0 12).bind fun r13 =>
    (fX9_row F N w 1 l3).bind fun x14 =>
    (ldJ F w r13 x14).bind fun x15 =>
    bnd (l2 + ((x12 + x15).toInt32)) fun v16 =>
    fX9_book_64 F N n w l0 v16 (l3 + 1)
def fX9_book_16 (F : Fr) (N : Nat) (w : Wd) (l0 : Nat) (l1 : Int32) (s0 : Nat) (s1 : Int32) : Option (Int32 × Wd) :=
  bnd (sI w 906 s0 s1) fun w1 =>
  if (gI w1 906 l0) ≤ 0 then
  if l1 = 4 then
  fX9_book_64 F N N w1 l0 0 0
  else
  if l1 = 5 then
  some (gI w1 908 l0, w1)
  else
  if l1 = 6 then
  some (gI w1 905 l0, w1)
  else
  if l1 = 7 then
  some (gI w1 916 l0, w1)
  else
  (rdR F w1 900 l0 12).bind fun r7 =>
  (ldJ F w1 r7 l1).bind fun x8 =>
  some (x8.toInt32, w1)
  else
  some (0, w1)
def fX9_book (F : Fr) (N : Nat) (w : Wd) (l0 : Nat) (l1 : Int32) : Option (Int32 × Wd) :=
  (fX9_in F N w l1 0 7).bind fun x17 =>
  if x17 = 0 then
  fX9_book_16 F N w l0 l1 l0 1
  else
  fX9_book_16 F N w l0 l1 l0 0
def fX9_append_152 (F : Fr) (N : Nat) (k113 : Wd → Nat → Int32 → Int32 → Option (Int32 × Wd)) (w : Wd) (l0 : Nat) (l1 : Int32) (l3 : Int32) : Option (Int32 × Wd) :=
  k113 w l0 l1 (l3 + (-8))
def fX9_append_113 (F : Fr) (N : Nat) : Nat → Wd → Nat → Int32 → Int32 → Option (Int32 × Wd)
  | 0, _, _, _, _ => none
  | n + 1, w, l0, l1, l3 =>
    if l3 < 0 then
    some (gI w 908 l0, w)
    else
    bnd (((l1.toUInt32 >>> (Int32.toUInt32 l3 &&& Int32.toUInt32 31)).toInt32) &&& 255) fun v14 =>
    if v14 ≤ 0 then
    fX9_append_152 F N (fX9_append_113 F N n) w l0 l1 l3
    else
    (rdR F w 907 l0 11).bind fun r16 =>
    (stI F w r16 (gI w 908 l0) v14).bind fun w17 =>
    bnd (sI w17 908 l0 ((gI w17 908 l0) + 1)) fun w18 =>
    fX9_append_152 F N (fX9_append_113 F N n) w18 l0 l1 l3
def fX9_append_98 (F : Fr) (N : Nat) (w : Wd) (l0 : Nat) (l1 : Int32) (s0 : Nat) (s1 : Int32) : Option (Int32 × Wd) :=
  bnd (sI w 906 s0 s1) fun w11 =>
  if (gI w11 906 l0) ≤ 0 then
  fX9_append_113 F N N w11 l0 l1 24
  else
  some (0, w11)
def fX9_append_62 (F : Fr) (N : Nat) (k10 : Wd → Nat → Int32 → Int32 → Int32 → Option (Int32 × Wd)) (w : Wd) (l0 : Nat) (l1 : Int32) (l2 : Int32) (l3 : Int32) (s0 : Nat) (s1 : Int32) : Option (Int32 × Wd) :=
  bnd (sI w 906 s0 s1) fun w10 =>
  k10 w10 l0 l1 l2 (l3 + (-8))
def fX9_append_58 (F : Fr) (N : Nat) (k10 : Wd → Nat → Int32 → Int32 → Int32 → Option (Int32 × Wd)) (w : Wd) (l0 : Nat) (l1 : Int32) (l2 : Int32) (l3 : Int32) (s0 : Nat) : Option (Int32 × Wd) :=
  fX9_append_62 F N k10 w l0 l1 l2 l3 s0 (gI w 906 l0)
def fX9_append_34 (F : Fr) (N : Nat) (k10 : Wd → Nat → Int32 → Int32 → Int32 → Option (Int32 × Wd)) (w : Wd) (l0 : Nat) (l1 : Int32) (l3 : Int32) (l4 : Int32) (s0 : Int32) (s1 : Int32) : Option (Int32 × Wd) :=
  bnd (s0 + s1) fun v6 =>
  if l4 ≤ 0 then
  fX9_append_58 F N k10 w l0 l1 v6 l3 l0
  else
  (fX9_in F N w l4 32 126).bind fun x8 =>
  if x8 = 0 then
  fX9_append_62 F N k10 w l0 l1 v6 l3 l0 1
  else
  fX9_append_58 F N k10 w l0 l1 v6 l3 l0
def fX9_append_94 (F : Fr) (N : Nat) (w : Wd) (l0 : Nat) (l1 : Int32) (s0 : Nat) : Option (Int32 × Wd) :=
  fX9_append_98 F N w l0 l1 s0 (gI w 906 l0)
def fX9_append_10 (F : Fr) (N : Nat) : Nat → Wd → Nat → Int32 → Int32 → Int32 → Option (Int32 × Wd)
  | 0, _, _, _, _, _ => none
  | n + 1, w, l0, l1, l2, l3 =>
    if l3 < 0 then
    if (gI w 906 l0) = 0 then
    if ((gI w 908 l0) + l2) ≤ 100 then
    fX9_append_94 F N w l0 l1 l0
    else
    fX9_append_98 F N w l0 l1 l0 2
    else
    fX9_append_94 F N w l0 l1 l0
    else
    bnd (((l1.toUInt32 >>> (Int32.toUInt32 l3 &&& Int32.toUInt32 31)).toInt32) &&& 255) fun v4 =>
    if v4 ≤ 0 then
    fX9_append_34 F N (fX9_append_10 F N n) w l0 l1 l3 v4 l2 0
    else
    fX9_append_34 F N (fX9_append_10 F N n) w l0 l1 l3 v4 l2 1
def fX9_append (F : Fr) (N : Nat) (w : Wd) (l0 : Nat) (l1 : Int32) : Option (Int32 × Wd) :=
  bnd (sI w 906 l0 0) fun w19 =>
  fX9_append_10 F N N w19 l0 l1 0 24
def fX9_here (F : Fr) (N : Nat) (w : Wd) (l0 : Nat) : Option (Int32) :=
  if (gI w 908 l0) ≤ (gI w 909 l0) then
  some 0
  else
  (rdR F w 907 l0 11).bind fun r2 =>
  (ldI F w r2 (gI w 909 l0)).bind fun x3 =>
  some x3
def fX9_isOf_46 (F : Fr) (N : Nat) (w : Wd) : Option (Int32) :=
  some 1
def fX9_isOf (F : Fr) (N : Nat) (w : Wd) (l0 : Int32) (l1 : Int32) : Option (Int32) :=
  if l0 = 1 then
  if l1 = 108 then
  fX9_isOf_46 F N w
  else
  if l1 = 114 then
  fX9_isOf_46 F N w
  else
  if l1 = 98 then
  fX9_isOf_46 F N w
  else
  some 0
  else
  if l0 = 2 then
  (fX9_in F N w l1 48 57).bind fun x6 =>
  (ckZ x6).bind fun _ =>
  some x6
  else
  (fX9_in F N w l1 97 122).bind fun x8 =>
  (ckZ x8).bind fun _ =>
  some x8
def fX9_readLabel_89 (F : Fr) (N : Nat) (w : Wd) (l2 : Int64) (s0 : Nat) : Option (Int64 × Wd) :=
  bnd (sI w 910 s0 1) fun w12 =>
  some (l2, w12)
def fX9_readLabel_76 (F : Fr) (N : Nat) (w : Wd) (l0 : Nat) (l2 : Int64) (l5 : Int32) : Option (Int64 × Wd) :=
  if (gI w 910 l0) = 0 then
  if l5 = 0 then
  fX9_readLabel_89 F N w l2 l0
  else
  bnd (sI w 910 l0 0) fun w11 =>
  some (l2, w11)
  else
  fX9_readLabel_89 F N w l2 l0
def fX9_readLabel_23 (F : Fr) (N : Nat) : Nat → Wd → Nat → Int32 → Int64 → Int32 → Int32 → Option (Int64 × Wd)
  | 0, _, _, _, _, _, _ => none
  | n + 1, w, l0, l1, l2, l4, l5 =>
    if (gI w 910 l0) = 0 then
    if l4 ≤ l5 then
    fX9_readLabel_76 F N w l0 l2 l5
    else
    (fX9_here F N w l0).bind fun x3 =>
    (fX9_isOf F N w l1 x3).bind fun x4 =>
    if x4 = 0 then
    fX9_readLabel_76 F N w l0 l2 l5
    else
    (fX9_here F N w l0).bind fun x6 =>
    bnd ((128 * l2) + x6.toInt64) fun v7 =>
    bnd (sI w 909 l0 ((gI w 909 l0) + 1)) fun w8 =>
    fX9_readLabel_23 F N n w8 l0 l1 v7 l4 (l5 + 1)
    else
    fX9_readLabel_76 F N w l0 l2 l5
def fX9_readLabel_18 (F : Fr) (N : Nat) (w : Wd) (l0 : Nat) (l1 : Int32) (l2 : Int64) (s0 : Int32) : Option (Int64 × Wd) :=
  fX9_readLabel_23 F N N w l0 l1 l2 s0 0
def fX9_readLabel_12 (F : Fr) (N : Nat) (w : Wd) (l0 : Nat) (l1 : Int32) (l2 : Int64) : Option (Int64 × Wd) :=
  fX9_readLabel_18 F N w l0 l1 l2 1
def fX9_readLabel (F : Fr) (N : Nat) (w : Wd) (l0 : Nat) (l1 : Int32) : Option (Int64 × Wd) :=
  if l1 = 1 then
  fX9_readLabel_12 F N w l0 l1 0
  else
  if l1 = 2 then
  fX9_readLabel_12 F N w l0 l1 0
  else
  fX9_readLabel_18 F N w l0 l1 0 8
def fX9_beginText (F : Fr) (N : Nat) (w : Wd) (l0 : Nat) : Option (Wd) :=
  bnd (sI w 909 l0 0) fun w1 =>
  bnd (sI w1 910 l0 0) fun w2 =>
  some w2
def fX9_endText_51 (F : Fr) (N : Nat) (w : Wd) (l0 : Nat) (s0 : Nat) (s1 : Int32) : Option (Int32 × Wd) :=
  bnd (sI w 911 s0 s1) fun w6 =>
  (ckZ (gI w6 910 l0)).bind fun _ =>
  some (gI w6 910 l0, w6)
def fX9_endText_24 (F : Fr) (N : Nat) (w : Wd) (l0 : Nat) (s0 : Nat) (s1 : Int32) : Option (Int32 × Wd) :=
  (ckZ s1).bind fun _ =>
  bnd (sI w 910 s0 s1) fun w3 =>
  bnd (sI w3 908 l0 0) fun w4 =>
  if (gI w4 910 l0) = 0 then
  fX9_endText_51 F N w4 l0 l0 (gI w4 911 l0)
  else
  fX9_endText_51 F N w4 l0 l0 (gI w4 909 l0)
def fX9_endText_19 (F : Fr) (N : Nat) (w : Wd) (l0 : Nat) (s0 : Nat) : Option (Int32 × Wd) :=
  fX9_endText_24 F N w l0 s0 1
def fX9_endText (F : Fr) (N : Nat) (w : Wd) (l0 : Nat) : Option (Int32 × Wd) :=
  if (gI w 910 l0) = 0 then
  if (gI w 908 l0) ≤ (gI w 909 l0) then
  fX9_endText_24 F N w l0 l0 0
  else
  fX9_endText_19 F N w l0 l0
  else
  fX9_endText_19 F N w l0 l0
def fX9_lengthOf_4 (F : Fr) (N : Nat) (w : Wd) : Nat → Int32 → Int64 → Option (Int32)
  | 0, _, _ => none
  | n + 1, l2, l3 =>
    if (lg_cmp l3 0) ≤ 0 then
    some l2
    else
    bnd (l3 / 128) fun v2 =>
    fX9_lengthOf_4 F N w n (l2 + 1) v2
def fX9_lengthOf (F : Fr) (N : Nat) (w : Wd) (l0 : Int64) : Option (Int32) :=
  fX9_lengthOf_4 F N w N 0 l0
def fX9_isRefused_14 (F : Fr) (N : Nat) (w : Wd) (l1 : Int32) : Option (Int32 × Wd) :=
  if l1 ≤ 0 then
  some (0, w)
  else
  some (1, w)
def fX9_isRefused (F : Fr) (N : Nat) (w : Wd) (l0 : Nat) (l1 : Int32) (l2 : Int32) : Option (Int32 × Wd) :=
  if l1 ≤ 0 then
  fX9_isRefused_14 F N w l1
  else
  bnd (sI w 912 l0 l1) fun w3 =>
  bnd (sI w3 913 l0 l2) fun w4 =>
  fX9_isRefused_14 F N w4 l1
def fX9_inTheWay_45 (F : Fr) (N : Nat) (w : Wd) (k3 : Nat → Int32 → Int32 → Int32 → Int32 → Int32 → Option (Int32)) (l0 : Nat) (l1 : Int32) (l2 : Int32) (l3 : Int32) (l4 : Int32) (l5 : Int32) : Option (Int32) :=
  k3 l0 l1 l2 l3 l4 (l5 + 1)
def fX9_inTheWay_3 (F : Fr) (N : Nat) (w : Wd) : Nat → Nat → Int32 → Int32 → Int32 → Int32 → Int32 → Option (Int32)
  | 0, _, _, _, _, _, _ => none
  | n + 1, l0, l1, l2, l3, l4, l5 =>
    (fX9_many F N w l0 l1).bind fun x1 =>
    if x1 ≤ l5 then
    some (-1)
    else
    if l5 = l2 then
    fX9_inTheWay_45 F N w (fX9_inTheWay_3 F N w n) l0 l1 l2 l3 l4 l5
    else
    (fX9_first F N w l0 l1 l5).bind fun x4 =>
    if l4 ≤ x4 then
    fX9_inTheWay_45 F N w (fX9_inTheWay_3 F N w n) l0 l1 l2 l3 l4 l5
    else
    (fX9_end F N w l0 l1 l5).bind fun x6 =>
    if x6 ≤ l3 then
    fX9_inTheWay_45 F N w (fX9_inTheWay_3 F N w n) l0 l1 l2 l3 l4 l5
    else
    some l5
def fX9_inTheWay (F : Fr) (N : Nat) (w : Wd) (l0 : Nat) (l1 : Int32) (l2 : Int32) (l3 : Int32) (l4 : Int32) : Option (Int32) :=
  fX9_inTheWay_3 F N w N l0 l1 l2 l3 l4 0
def fX9_areFrames (F : Fr) (N : Nat) (w : Wd) (l0 : Int32) (l1 : Int32) : Option (Int32) :=
  (fX9_in F N w l0 0 999).bind fun x1 =>
  if x1 = 0 then
  some 0
  else
  (fX9_in F N w l1 1 1000).bind fun x3 =>
  if x3 = 0 then
  some 0
  else
  if l1 ≤ l0 then
  some 0
  else
  some 1
def fX9_areRefused_59 (F : Fr) (N : Nat) (w : Wd) (s0 : Nat) (s1 : Int32) : Option (Int32 × Wd) :=
  (fX9_isRefused F N w s0 s1 0).bind fun p1 =>
  (ckZ p1.1).bind fun _ =>
  some (p1.1, p1.2)
def fX9_areRefused (F : Fr) (N : Nat) (w : Wd) (l0 : Nat) (l1 : Int32) (l2 : Int32) (l3 : Int32) (l4 : Int32) : Option (Int32 × Wd) :=
  (fX9_areFrames F N w l3 l4).bind fun x3 =>
  if x3 = 0 then
  (fX9_isRefused F N w l0 1 0).bind fun p11 =>
  (ckZ p11.1).bind fun _ =>
  some (p11.1, p11.2)
  else
  (fX9_inTheWay F N w l0 l1 l2 l3 l4).bind fun x5 =>
  if x5 < 0 then
  (fX9_lacksHost F N w l0 l1 l3 l4).bind fun x7 =>
  if x7 = 0 then
  fX9_areRefused_59 F N w l0 0
  else
  fX9_areRefused_59 F N w l0 3
  else
  (fX9_isRefused F N w l0 2 x5).bind fun p9 =>
  (ckZ p9.1).bind fun _ =>
  some (p9.1, p9.2)
def fX9_add_27 (F : Fr) (N : Nat) (w : Wd) (l0 : Nat) (l1 : Int32) (l2 : Int32) (l3 : Int32) (l4 : Int64) (s0 : Nat) (s1 : Int32) : Option (Int32 × Wd) :=
  (fX9_isRefused F N w s0 s1 0).bind fun p1 =>
  if p1.1 = 0 then
  (fX9_putIn F N p1.2 l0 l1 l2 l3 l4).bind fun p3 =>
  some (p3.1, p3.2)
  else
  some ((-1), p1.2)
def fX9_add (F : Fr) (N : Nat) (w : Wd) (l0 : Nat) (l1 : Int32) (l2 : Int32) (l3 : Int32) (l4 : Int64) : Option (Int32 × Wd) :=
  (fX9_areRefused F N w l0 l1 (-1) l2 l3).bind fun p4 =>
  if p4.1 = 0 then
  (fX9_many F N p4.2 l0 l1).bind fun x6 =>
  if x6 = 30 then
  fX9_add_27 F N p4.2 l0 l1 l2 l3 l4 l0 5
  else
  fX9_add_27 F N p4.2 l0 l1 l2 l3 l4 l0 0
  else
  some ((-1), p4.2)
def fX9_addSpan_14 (F : Fr) (N : Nat) (w : Wd) (l0 : Nat) (l1 : Int32) (l2 : Int32) (l3 : Int32) (s0 : Nat) (s1 : Int32) : Option (Int32 × Wd) :=
  bnd (sI w 906 s0 s1) fun w1 =>
  if (gI w1 906 l0) ≤ 0 then
  (fX9_beginText F N w1 l0).bind fun p3 =>
  (fX9_kind F N p3 l0 l1).bind fun x4 =>
  (fX9_readLabel F N p3 l0 x4).bind fun p5 =>
  (fX9_endText F N p5.2 l0).bind fun p6 =>
  if p6.1 = 0 then
  (fX9_keepState F N p6.2 l0).bind fun p8 =>
  (fX9_add F N p8 l0 l1 l2 l3 p5.1).bind fun p9 =>
  if 0 ≤ p9.1 then
  (fX9_change F N p9.2 l0).bind fun p11 =>
  some (p9.1, p11)
  else
  bnd (sI p9.2 906 l0 3) fun w12 =>
  some (0, w12)
  else
  bnd (sI p6.2 906 l0 2) fun w13 =>
  some (0, w13)
  else
  some (0, w1)
def fX9_addSpan (F : Fr) (N : Nat) (w : Wd) (l0 : Nat) (l1 : Int32) (l2 : Int32) (l3 : Int32) : Option (Int32 × Wd) :=
  (fX9_isTier F N w l0 l1).bind fun x14 =>
  if x14 = 0 then
  fX9_addSpan_14 F N w l0 l1 l2 l3 l0 1
  else
  fX9_addSpan_14 F N w l0 l1 l2 l3 l0 0
def fX9_removeSpan_59 (F : Fr) (N : Nat) (k42 : Wd → Nat → Int32 → Int32 → Option (Int32 × Wd)) : Nat → Wd → Nat → Int32 → Int32 → Int32 → Option (Int32 × Wd)
  | 0, _, _, _, _, _ => none
  | n + 1, w, l0, l3, l4, l5 =>
    if l5 < 0 then
    k42 w l0 l3 (l4 + 1)
    else
    (fX9_takeOut F N w l0 l4 l5).bind fun p9 =>
    (fX9_hostless F N p9 l0 l4).bind fun x10 =>
    fX9_removeSpan_59 F N k42 n p9 l0 (l3 + 1) l4 x10
def fX9_removeSpan_42 (F : Fr) (N : Nat) : Nat → Wd → Nat → Int32 → Int32 → Option (Int32 × Wd)
  | 0, _, _, _, _ => none
  | n + 1, w, l0, l3, l4 =>
    (fX9_tiers F N w l0).bind fun x5 =>
    if x5 ≤ l4 then
    some (l3, w)
    else
    (fX9_hostless F N w l0 l4).bind fun x7 =>
    fX9_removeSpan_59 F N (fX9_removeSpan_42 F N n) N w l0 l3 l4 x7
def fX9_removeSpan_15 (F : Fr) (N : Nat) (w : Wd) (l0 : Nat) (l1 : Int32) (l2 : Int32) (s0 : Nat) (s1 : Int32) : Option (Int32 × Wd) :=
  bnd (sI w 906 s0 s1) fun w1 =>
  if (gI w1 906 l0) ≤ 0 then
  (fX9_changes F N w1 l0).bind fun p3 =>
  (fX9_takeOut F N p3 l0 l1 l2).bind fun p4 =>
  fX9_removeSpan_42 F N N p4 l0 1 0
  else
  some (0, w1)
def fX9_removeSpan (F : Fr) (N : Nat) (w : Wd) (l0 : Nat) (l1 : Int32) (l2 : Int32) : Option (Int32 × Wd) :=
  (fX9_isSpan F N w l0 l1 l2).bind fun x11 =>
  if x11 = 0 then
  fX9_removeSpan_15 F N w l0 l1 l2 l0 1
  else
  fX9_removeSpan_15 F N w l0 l1 l2 l0 0
def fX9_stays_15 (F : Fr) (N : Nat) (w : Wd) (l0 : Nat) (l1 : Int32) (l2 : Int32) (s0 : Nat) (s1 : Int32) : Option (Int32 × Wd) :=
  (fX9_isRefused F N w s0 s1 l2).bind fun p1 =>
  if p1.1 = 0 then
  some (1, p1.2)
  else
  (fX9_putBack F N p1.2 l0).bind fun p3 =>
  bnd (sI p3 906 l0 l1) fun w4 =>
  some (0, w4)
def fX9_stays (F : Fr) (N : Nat) (w : Wd) (l0 : Nat) (l1 : Int32) : Option (Int32 × Wd) :=
  (fX9_hostlessTier F N w l0).bind fun x5 =>
  if x5 < 0 then
  fX9_stays_15 F N w l0 l1 x5 l0 0
  else
  fX9_stays_15 F N w l0 l1 x5 l0 4
def fX9_moveSpan_31 (F : Fr) (N : Nat) (w : Wd) (l0 : Nat) (l1 : Int32) (l2 : Int32) (l3 : Int32) (l4 : Int32) (s0 : Nat) (s1 : Int32) : Option (Int32 × Wd) :=
  bnd (sI w 906 s0 s1) fun w1 =>
  if (gI w1 906 l0) ≤ 0 then
  (fX9_keepState F N w1 l0).bind fun p3 =>
  (fX9_label F N p3 l0 l1 l2).bind fun x4 =>
  (fX9_takeOut F N p3 l0 l1 l2).bind fun p5 =>
  (fX9_putIn F N p5 l0 l1 l3 l4 x4).bind fun p6 =>
  (fX9_stays F N p6.2 l0 2).bind fun p7 =>
  if p7.1 = 0 then
  some (0, p7.2)
  else
  (fX9_change F N p7.2 l0).bind fun p9 =>
  some (p6.1, p9)
  else
  some (0, w1)
def fX9_moveSpan (F : Fr) (N : Nat) (w : Wd) (l0 : Nat) (l1 : Int32) (l2 : Int32) (l3 : Int32) (l4 : Int32) : Option (Int32 × Wd) :=
  (fX9_isSpan F N w l0 l1 l2).bind fun x10 =>
  if x10 = 0 then
  fX9_moveSpan_31 F N w l0 l1 l2 l3 l4 l0 1
  else
  (fX9_areRefused F N w l0 l1 l2 l3 l4).bind fun p12 =>
  if p12.1 = 0 then
  fX9_moveSpan_31 F N p12.2 l0 l1 l2 l3 l4 l0 0
  else
  fX9_moveSpan_31 F N p12.2 l0 l1 l2 l3 l4 l0 2
def fX9_rename_75 (F : Fr) (N : Nat) (w : Wd) (l0 : Nat) (l1 : Int32) (l2 : Int32) (l3 : Int64) (s0 : Int32) : Option (Int32 × Wd) :=
  (rdR F w 900 l0 12).bind fun r12 =>
  (fX9_at F N w l0 l1 l2).bind fun x13 =>
  (stJ F w r12 (x13 + 2) l3).bind fun w14 =>
  if s0 = 0 then
  some (0, w14)
  else
  some (1, w14)
def fX9_rename_15 (F : Fr) (N : Nat) (w : Wd) (l0 : Nat) (l1 : Int32) (l2 : Int32) (s0 : Nat) (s1 : Int32) : Option (Int32 × Wd) :=
  bnd (sI w 906 s0 s1) fun w1 =>
  if (gI w1 906 l0) ≤ 0 then
  (fX9_beginText F N w1 l0).bind fun p3 =>
  (fX9_kind F N p3 l0 l1).bind fun x4 =>
  (fX9_readLabel F N p3 l0 x4).bind fun p5 =>
  (fX9_endText F N p5.2 l0).bind fun p6 =>
  if p6.1 = 0 then
  (fX9_changes F N p6.2 l0).bind fun p8 =>
  (fX9_label F N p8 l0 l1 l2).bind fun x9 =>
  if (lg_cmp x9 p5.1) = 0 then
  fX9_rename_75 F N p8 l0 l1 l2 p5.1 0
  else
  fX9_rename_75 F N p8 l0 l1 l2 p5.1 1
  else
  bnd (sI p6.2 906 l0 2) fun w11 =>
  some (0, w11)
  else
  some (0, w1)
def fX9_rename (F : Fr) (N : Nat) (w : Wd) (l0 : Nat) (l1 : Int32) (l2 : Int32) : Option (Int32 × Wd) :=
  (fX9_isSpan F N w l0 l1 l2).bind fun x16 =>
  if x16 = 0 then
  fX9_rename_15 F N w l0 l1 l2 l0 1
  else
  fX9_rename_15 F N w l0 l1 l2 l0 0
def fX9_isHosted_42 (F : Fr) (N : Nat) (w : Wd) : Option (Int32) :=
  some 0
def fX9_isHosted_68 (F : Fr) (N : Nat) (w : Wd) : Option (Int32) :=
  some 1
def fX9_isHosted (F : Fr) (N : Nat) (w : Wd) (l0 : Nat) (l1 : Int32) (l2 : Int32) (l3 : Int32) (l4 : Int32) : Option (Int32) :=
  (fX9_first F N w l0 l1 l2).bind fun x1 =>
  (fX9_end F N w l0 l1 l2).bind fun x2 =>
  (fX9_rule F N w l0 l1).bind fun x3 =>
  if x3 = 1 then
  if x1 < l3 then
  fX9_isHosted_42 F N w
  else
  if l4 < x2 then
  fX9_isHosted_42 F N w
  else
  some 1
  else
  if l3 = x1 then
  (fX9_rule F N w l0 l1).bind fun x6 =>
  if x6 = 3 then
  fX9_isHosted_68 F N w
  else
  if l4 = x2 then
  fX9_isHosted_68 F N w
  else
  some 0
  else
  some 0
def fX9_splitFull_155 (F : Fr) (N : Nat) (w : Wd) (l0 : Nat) (s0 : Int32) : Option (Int32 × Wd) :=
  if s0 = 0 then
  bnd (sI w 906 l0 0) fun w20 =>
  some (0, w20)
  else
  bnd (sI w 906 l0 2) fun w21 =>
  some (0, w21)
def fX9_splitFull_116 (F : Fr) (N : Nat) (k11 : Wd → Nat → Int32 → Int32 → Int32 → Int32 → Int32 → Option (Int32 × Wd)) (k20 : Wd → Nat → Int32 → Int32 → Int32 → Int32 → Int32 → Int32 → Option (Int32 × Wd)) (w : Wd) (l0 : Nat) (l1 : Int32) (l3 : Int32) (l4 : Int32) (l6 : Int32) (l7 : Int32) (s0 : Int32) : Option (Int32 × Wd) :=
  k20 w l0 l1 l3 l4 s0 l6 (l7 + 1)
def fX9_splitFull_114 (F : Fr) (N : Nat) (k11 : Wd → Nat → Int32 → Int32 → Int32 → Int32 → Int32 → Option (Int32 × Wd)) (k20 : Wd → Nat → Int32 → Int32 → Int32 → Int32 → Int32 → Int32 → Option (Int32 × Wd)) (w : Wd) (l0 : Nat) (l1 : Int32) (l3 : Int32) (l4 : Int32) (l5 : Int32) (l6 : Int32) (l7 : Int32) : Option (Int32 × Wd) :=
  fX9_splitFull_116 F N k11 k20 w l0 l1 l3 l4 l6 l7 l5
def fX9_splitFull_97 (F : Fr) (N : Nat) (k11 : Wd → Nat → Int32 → Int32 → Int32 → Int32 → Int32 → Option (Int32 × Wd)) (k20 : Wd → Nat → Int32 → Int32 → Int32 → Int32 → Int32 → Int32 → Option (Int32 × Wd)) (w : Wd) (l0 : Nat) (l1 : Int32) (l3 : Int32) (l4 : Int32) (l5 : Int32) (l6 : Int32) (l7 : Int32) (l8 : Int32) (s0 : Int32) : Option (Int32 × Wd) :=
  if l8 = 0 then
  fX9_splitFull_114 F N k11 k20 w l0 l1 l3 l4 l5 l6 l7
  else
  if s0 = 0 then
  fX9_splitFull_116 F N k11 k20 w l0 l1 l3 l4 l6 l7 l6
  else
  fX9_splitFull_114 F N k11 k20 w l0 l1 l3 l4 l5 l6 l7
def fX9_splitFull_96 (F : Fr) (N : Nat) (k11 : Wd → Nat → Int32 → Int32 → Int32 → Int32 → Int32 → Option (Int32 × Wd)) (k20 : Wd → Nat → Int32 → Int32 → Int32 → Int32 → Int32 → Int32 → Option (Int32 × Wd)) (w : Wd) (l0 : Nat) (l1 : Int32) (l3 : Int32) (l4 : Int32) (l5 : Int32) (l6 : Int32) (l7 : Int32) (l8 : Int32) : Option (Int32 × Wd) :=
  fX9_splitFull_97 F N k11 k20 w l0 l1 l3 l4 l5 l6 l7 l8 0
def fX9_splitFull_92 (F : Fr) (N : Nat) (k11 : Wd → Nat → Int32 → Int32 → Int32 → Int32 → Int32 → Option (Int32 × Wd)) (k20 : Wd → Nat → Int32 → Int32 → Int32 → Int32 → Int32 → Int32 → Option (Int32 × Wd)) (w : Wd) (l0 : Nat) (l1 : Int32) (l3 : Int32) (l4 : Int32) (l5 : Int32) (l6 : Int32) (l7 : Int32) (l8 : Int32) : Option (Int32 × Wd) :=
  fX9_splitFull_97 F N k11 k20 w l0 l1 l3 l4 l5 l6 l7 l8 1
def fX9_splitFull_46 (F : Fr) (N : Nat) (k11 : Wd → Nat → Int32 → Int32 → Int32 → Int32 → Int32 → Option (Int32 × Wd)) (k20 : Wd → Nat → Int32 → Int32 → Int32 → Int32 → Int32 → Int32 → Option (Int32 × Wd)) (w : Wd) (l0 : Nat) (l1 : Int32) (l3 : Int32) (l4 : Int32) (l5 : Int32) (l6 : Int32) (l7 : Int32) (s0 : Int32) : Option (Int32 × Wd) :=
  if s0 = 0 then
  fX9_splitFull_96 F N k11 k20 w l0 l1 l3 l4 l5 l6 l7 s0
  else
  (fX9_first F N w l0 l6 l7).bind fun x11 =>
  (fX9_end F N w l0 l6 l7).bind fun x12 =>
  (fX9_hostOf F N w l0 l6 x11 x12).bind fun x13 =>
  if 0 ≤ x13 then
  fX9_splitFull_92 F N k11 k20 w l0 l1 l3 l4 l5 l6 l7 s0
  else
  (fX9_isHosted F N w l0 l6 l7 l3 l4).bind fun x15 =>
  if x15 = 0 then
  fX9_splitFull_96 F N k11 k20 w l0 l1 l3 l4 l5 l6 l7 s0
  else
  fX9_splitFull_92 F N k11 k20 w l0 l1 l3 l4 l5 l6 l7 s0
def fX9_splitFull_20 (F : Fr) (N : Nat) (k11 : Wd → Nat → Int32 → Int32 → Int32 → Int32 → Int32 → Option (Int32 × Wd)) : Nat → Wd → Nat → Int32 → Int32 → Int32 → Int32 → Int32 → Int32 → Option (Int32 × Wd)
  | 0, _, _, _, _, _, _, _, _ => none
  | n + 1, w, l0, l1, l3, l4, l5, l6, l7 =>
    (fX9_many F N w l0 l6).bind fun x6 =>
    if x6 ≤ l7 then
    k11 w l0 l1 l3 l4 l5 (l6 + (-1))
    else
    (fX9_parent F N w l0 l6).bind fun x8 =>
    if x8 = l1 then
    fX9_splitFull_46 F N k11 (fX9_splitFull_20 F N k11 n) w l0 l1 l3 l4 l5 l6 l7 1
    else
    fX9_splitFull_46 F N k11 (fX9_splitFull_20 F N k11 n) w l0 l1 l3 l4 l5 l6 l7 0
def fX9_splitFull_11 (F : Fr) (N : Nat) : Nat → Wd → Nat → Int32 → Int32 → Int32 → Int32 → Int32 → Option (Int32 × Wd)
  | 0, _, _, _, _, _, _, _ => none
  | n + 1, w, l0, l1, l3, l4, l5, l6 =>
    if l6 ≤ l1 then
    (fX9_putBack F N w l0).bind fun p2 =>
    if l5 < 0 then
    (fX9_isRefused F N p2 l0 5 0).bind fun p4 =>
    fX9_splitFull_155 F N p4.2 l0 p4.1
    else
    (fX9_isRefused F N p2 l0 4 l5).bind fun p5 =>
    fX9_splitFull_155 F N p5.2 l0 p5.1
    else
    fX9_splitFull_20 F N (fX9_splitFull_11 F N n) N w l0 l1 l3 l4 l5 l6 0
def fX9_splitFull (F : Fr) (N : Nat) (w : Wd) (l0 : Nat) (l1 : Int32) (l2 : Int32) (l3 : Int32) (l4 : Int32) : Option (Int32 × Wd) :=
  (fX9_tiers F N w l0).bind fun x22 =>
  bnd (x22 - 1) fun v23 =>
  fX9_splitFull_11 F N N w l0 l1 l3 l4 (-1) v23
def fX9_split_147 (F : Fr) (N : Nat) (w : Wd) (l0 : Nat) (l1 : Int32) (l2 : Int32) (l3 : Int32) (l5 : Int32) (l7 : Int64) (s0 : Int32) : Option (Int32 × Wd) :=
  (rdR F w 900 l0 12).bind fun r19 =>
  (fX9_at F N w l0 l1 l2).bind fun x20 =>
  (stJ F w r19 (x20 + 1) l3.toInt64).bind fun w21 =>
  if s0 = 0 then
  (fX9_putIn F N w21 l0 l1 l3 l5 l7).bind fun p23 =>
  (fX9_stays F N p23.2 l0 2).bind fun p24 =>
  if p24.1 = 0 then
  some (0, p24.2)
  else
  (fX9_change F N p24.2 l0).bind fun p26 =>
  if 0 ≤ p23.1 then
  (fX9_many F N p26 l0 l1).bind fun x28 =>
  some (x28, p26)
  else
  some (0, p26)
  else
  (fX9_splitFull F N w21 l0 l1 l2 l3 l5).bind fun p29 =>
  some (p29.1, p29.2)
def fX9_split_108 (F : Fr) (N : Nat) (w : Wd) (l0 : Nat) (l1 : Int32) (l2 : Int32) (l3 : Int32) (l5 : Int32) (s0 : Nat) (s1 : Int32) : Option (Int32 × Wd) :=
  bnd (sI w 906 s0 s1) fun w13 =>
  if (gI w13 906 l0) ≤ 0 then
  (fX9_keepState F N w13 l0).bind fun p15 =>
  (fX9_label F N p15 l0 l1 l2).bind fun x16 =>
  (fX9_many F N p15 l0 l1).bind fun x17 =>
  if x17 = 30 then
  fX9_split_147 F N p15 l0 l1 l2 l3 l5 x16 1
  else
  fX9_split_147 F N p15 l0 l1 l2 l3 l5 x16 0
  else
  some (0, w13)
def fX9_split_92 (F : Fr) (N : Nat) (w : Wd) (l0 : Nat) (l1 : Int32) (l2 : Int32) (l3 : Int32) (l5 : Int32) (l6 : Int32) : Option (Int32 × Wd) :=
  (fX9_isRefused F N w l0 l6 0).bind fun p11 =>
  if p11.1 = 0 then
  fX9_split_108 F N p11.2 l0 l1 l2 l3 l5 l0 0
  else
  fX9_split_108 F N p11.2 l0 l1 l2 l3 l5 l0 2
def fX9_split_89 (F : Fr) (N : Nat) (w : Wd) (l0 : Nat) (l1 : Int32) (l2 : Int32) (l3 : Int32) (l5 : Int32) : Option (Int32 × Wd) :=
  fX9_split_92 F N w l0 l1 l2 l3 l5 3
def fX9_split_15 (F : Fr) (N : Nat) (w : Wd) (l0 : Nat) (l1 : Int32) (l2 : Int32) (l3 : Int32) (s0 : Nat) (s1 : Int32) : Option (Int32 × Wd) :=
  bnd (sI w 906 s0 s1) fun w1 =>
  if (gI w1 906 l0) ≤ 0 then
  (fX9_first F N w1 l0 l1 l2).bind fun x3 =>
  (fX9_end F N w1 l0 l1 l2).bind fun x4 =>
  (fX9_in F N w1 l3 (x3 + 1) (x4 - 1)).bind fun x5 =>
  if x5 = 0 then
  fX9_split_92 F N w1 l0 l1 l2 l3 x4 1
  else
  (fX9_lacksHost F N w1 l0 l1 x3 l3).bind fun x7 =>
  if x7 = 0 then
  (fX9_lacksHost F N w1 l0 l1 l3 x4).bind fun x9 =>
  if x9 = 0 then
  fX9_split_92 F N w1 l0 l1 l2 l3 x4 0
  else
  fX9_split_89 F N w1 l0 l1 l2 l3 x4
  else
  fX9_split_89 F N w1 l0 l1 l2 l3 x4
  else
  some (0, w1)
def fX9_split (F : Fr) (N : Nat) (w : Wd) (l0 : Nat) (l1 : Int32) (l2 : Int32) (l3 : Int32) : Option (Int32 × Wd) :=
  (fX9_isSpan F N w l0 l1 l2).bind fun x30 =>
  if x30 = 0 then
  fX9_split_15 F N w l0 l1 l2 l3 l0 1
  else
  fX9_split_15 F N w l0 l1 l2 l3 l0 0
def fX9_join_114 (F : Fr) (N : Nat) (w : Wd) (l0 : Nat) (l1 : Int32) (l2 : Int32) (l5 : Int32) (s0 : Nat) (s1 : Int32) : Option (Int32 × Wd) :=
  bnd (sI w 906 s0 s1) fun w13 =>
  if (gI w13 906 l0) ≤ 0 then
  (fX9_keepState F N w13 l0).bind fun p15 =>
  (fX9_takeOut F N p15 l0 l1 (l2 + 1)).bind fun p16 =>
  (rdR F p16 900 l0 12).bind fun r17 =>
  (fX9_at F N p16 l0 l1 l2).bind fun x18 =>
  (stJ F p16 r17 (x18 + 1) l5.toInt64).bind fun w19 =>
  (fX9_stays F N w19 l0 2).bind fun p20 =>
  if p20.1 = 0 then
  some (0, p20.2)
  else
  (fX9_change F N p20.2 l0).bind fun p22 =>
  (fX9_many F N p22 l0 l1).bind fun x23 =>
  some (x23, p22)
  else
  some (0, w13)
def fX9_join_96 (F : Fr) (N : Nat) (w : Wd) (l0 : Nat) (l1 : Int32) (l2 : Int32) (l5 : Int32) (s0 : Int32) : Option (Int32 × Wd) :=
  (fX9_isRefused F N w l0 s0 0).bind fun p11 =>
  if p11.1 = 0 then
  fX9_join_114 F N p11.2 l0 l1 l2 l5 l0 0
  else
  fX9_join_114 F N p11.2 l0 l1 l2 l5 l0 2
def fX9_join_69 (F : Fr) (N : Nat) (w : Wd) (l0 : Nat) (l1 : Int32) (l2 : Int32) (l3 : Int32) (l4 : Int32) (s0 : Int32) : Option (Int32 × Wd) :=
  if l4 = 0 then
  (fX9_lacksHost F N w l0 l1 l3 s0).bind fun x9 =>
  if x9 = 0 then
  fX9_join_96 F N w l0 l1 l2 s0 0
  else
  fX9_join_96 F N w l0 l1 l2 s0 3
  else
  fX9_join_96 F N w l0 l1 l2 s0 1
def fX9_join_50 (F : Fr) (N : Nat) (w : Wd) (l0 : Nat) (l1 : Int32) (l2 : Int32) (l3 : Int32) (s0 : Int32) : Option (Int32 × Wd) :=
  if s0 = 0 then
  (fX9_end F N w l0 l1 (l2 + 1)).bind fun x7 =>
  fX9_join_69 F N w l0 l1 l2 l3 s0 x7
  else
  fX9_join_69 F N w l0 l1 l2 l3 s0 0
def fX9_join_15 (F : Fr) (N : Nat) (w : Wd) (l0 : Nat) (l1 : Int32) (l2 : Int32) (s0 : Nat) (s1 : Int32) : Option (Int32 × Wd) :=
  bnd (sI w 906 s0 s1) fun w1 =>
  if (gI w1 906 l0) ≤ 0 then
  (fX9_first F N w1 l0 l1 l2).bind fun x3 =>
  (fX9_many F N w1 l0 l1).bind fun x4 =>
  if l2 = (x4 - 1) then
  fX9_join_50 F N w1 l0 l1 l2 x3 1
  else
  fX9_join_50 F N w1 l0 l1 l2 x3 0
  else
  some (0, w1)
def fX9_join (F : Fr) (N : Nat) (w : Wd) (l0 : Nat) (l1 : Int32) (l2 : Int32) : Option (Int32 × Wd) :=
  (fX9_isSpan F N w l0 l1 l2).bind fun x24 =>
  if x24 = 0 then
  fX9_join_15 F N w l0 l1 l2 l0 1
  else
  fX9_join_15 F N w l0 l1 l2 l0 0
def fX9_hosted_70 (F : Fr) (N : Nat) (w : Wd) (k5 : Nat → Int32 → Int32 → Int32 → Int32 → Option (Int32)) (k17 : Nat → Int32 → Int32 → Int32 → Int32 → Int32 → Option (Int32)) (l0 : Nat) (l1 : Int32) (l2 : Int32) (l4 : Int32) (l5 : Int32) (s0 : Int32) (s1 : Int32) : Option (Int32) :=
  bnd (s0 + s1) fun v11 =>
  k17 l0 l1 l2 v11 l4 (l5 + 1)
def fX9_hosted_78 (F : Fr) (N : Nat) (w : Wd) (k5 : Nat → Int32 → Int32 → Int32 → Int32 → Option (Int32)) (l0 : Nat) (l1 : Int32) (l2 : Int32) (l3 : Int32) (l4 : Int32) : Option (Int32) :=
  k5 l0 l1 l2 l3 (l4 + 1)
def fX9_hosted_17 (F : Fr) (N : Nat) (w : Wd) (k5 : Nat → Int32 → Int32 → Int32 → Int32 → Option (Int32)) : Nat → Nat → Int32 → Int32 → Int32 → Int32 → Int32 → Option (Int32)
  | 0, _, _, _, _, _, _ => none
  | n + 1, l0, l1, l2, l3, l4, l5 =>
    (fX9_many F N w l0 l4).bind fun x3 =>
    if x3 ≤ l5 then
    fX9_hosted_78 F N w k5 l0 l1 l2 l3 l4
    else
    (fX9_parent F N w l0 l4).bind fun x5 =>
    if x5 = l1 then
    (fX9_first F N w l0 l4 l5).bind fun x7 =>
    (fX9_end F N w l0 l4 l5).bind fun x8 =>
    (fX9_hostOf F N w l0 l4 x7 x8).bind fun x9 =>
    if x9 = l2 then
    fX9_hosted_70 F N w k5 (fX9_hosted_17 F N w k5 n) l0 l1 l2 l4 l5 l3 1
    else
    fX9_hosted_70 F N w k5 (fX9_hosted_17 F N w k5 n) l0 l1 l2 l4 l5 l3 0
    else
    fX9_hosted_78 F N w k5 l0 l1 l2 l3 l4
def fX9_hosted_5 (F : Fr) (N : Nat) (w : Wd) : Nat → Nat → Int32 → Int32 → Int32 → Int32 → Option (Int32)
  | 0, _, _, _, _, _ => none
  | n + 1, l0, l1, l2, l3, l4 =>
    (fX9_tiers F N w l0).bind fun x1 =>
    if x1 ≤ l4 then
    some l3
    else
    fX9_hosted_17 F N w (fX9_hosted_5 F N w n) N l0 l1 l2 l3 l4 0
def fX9_hosted (F : Fr) (N : Nat) (w : Wd) (l0 : Nat) (l1 : Int32) (l2 : Int32) : Option (Int32) :=
  fX9_hosted_5 F N w N l0 l1 l2 0 0
def fX9_span_28 (F : Fr) (N : Nat) (w : Wd) (l0 : Nat) (l1 : Int32) (l2 : Int32) (l3 : Int32) (s0 : Nat) (s1 : Int32) : Option (Int32 × Wd) :=
  bnd (sI w 906 s0 s1) fun w1 =>
  if (gI w1 906 l0) ≤ 0 then
  if l3 = 0 then
  (fX9_first F N w1 l0 l1 l2).bind fun x4 =>
  some (x4, w1)
  else
  if l3 = 1 then
  (fX9_end F N w1 l0 l1 l2).bind fun x6 =>
  some (x6, w1)
  else
  if l3 = 2 then
  (fX9_label F N w1 l0 l1 l2).bind fun x8 =>
  (fX9_lengthOf F N w1 x8).bind fun x9 =>
  some (x9, w1)
  else
  if l3 = 3 then
  (fX9_first F N w1 l0 l1 l2).bind fun x11 =>
  (fX9_end F N w1 l0 l1 l2).bind fun x12 =>
  (fX9_hostOf F N w1 l0 l1 x11 x12).bind fun x13 =>
  some (x13, w1)
  else
  (fX9_hosted F N w1 l0 l1 l2).bind fun x14 =>
  some (x14, w1)
  else
  some (0, w1)
def fX9_span (F : Fr) (N : Nat) (w : Wd) (l0 : Nat) (l1 : Int32) (l2 : Int32) (l3 : Int32) : Option (Int32 × Wd) :=
  (fX9_isSpan F N w l0 l1 l2).bind fun x15 =>
  if x15 = 0 then
  fX9_span_28 F N w l0 l1 l2 l3 l0 1
  else
  (fX9_in F N w l3 0 4).bind fun x17 =>
  if x17 = 0 then
  fX9_span_28 F N w l0 l1 l2 l3 l0 2
  else
  fX9_span_28 F N w l0 l1 l2 l3 l0 0
def fX9_letter_38 (F : Fr) (N : Nat) (w : Wd) (l0 : Nat) (l1 : Int32) (l2 : Int32) (l3 : Int32) (s0 : Nat) (s1 : Int32) : Option (Int32 × Wd) :=
  bnd (sI w 906 s0 s1) fun w1 =>
  if (gI w1 906 l0) ≤ 0 then
  (fX9_label F N w1 l0 l1 l2).bind fun x3 =>
  (fX9_lengthOf F N w1 x3).bind fun x4 =>
  (ckC ((((((x3.toUInt64 >>> ((Int32.toInt64 (7 * ((x4 - 1) - l3))).toUInt64 &&& Int64.toUInt64 63)).toInt64) &&& 127).toInt32).toUInt32 % 65536).toInt32)).bind fun _ =>
  some ((((((x3.toUInt64 >>> ((Int32.toInt64 (7 * ((x4 - 1) - l3))).toUInt64 &&& Int64.toUInt64 63)).toInt64) &&& 127).toInt32).toUInt32 % 65536).toInt32, w1)
  else
  some (0, w1)
def fX9_letter (F : Fr) (N : Nat) (w : Wd) (l0 : Nat) (l1 : Int32) (l2 : Int32) (l3 : Int32) : Option (Int32 × Wd) :=
  (fX9_isSpan F N w l0 l1 l2).bind fun x6 =>
  if x6 = 0 then
  fX9_letter_38 F N w l0 l1 l2 l3 l0 1
  else
  (fX9_label F N w l0 l1 l2).bind fun x8 =>
  (fX9_lengthOf F N w x8).bind fun x9 =>
  (fX9_in F N w l3 0 (x9 - 1)).bind fun x10 =>
  if x10 = 0 then
  fX9_letter_38 F N w l0 l1 l2 l3 l0 2
  else
  fX9_letter_38 F N w l0 l1 l2 l3 l0 0
def fX9_spanAt_75 (F : Fr) (N : Nat) (w : Wd) (l0 : Nat) (l3 : Int32) : Option (Int32 × Wd) :=
  if (gI w 906 l0) ≤ 0 then
  some (l3, w)
  else
  some (0, w)
def fX9_spanAt_68 (F : Fr) (N : Nat) (k22 : Wd → Nat → Int32 → Int32 → Int32 → Int32 → Option (Int32 × Wd)) (w : Wd) (l0 : Nat) (l1 : Int32) (l2 : Int32) (l4 : Int32) (s0 : Int32) : Option (Int32 × Wd) :=
  k22 w l0 l1 l2 s0 (l4 + 1)
def fX9_spanAt_22 (F : Fr) (N : Nat) : Nat → Wd → Nat → Int32 → Int32 → Int32 → Int32 → Option (Int32 × Wd)
  | 0, _, _, _, _, _, _ => none
  | n + 1, w, l0, l1, l2, l3, l4 =>
    if (gI w 906 l0) = 0 then
    (fX9_many F N w l0 l1).bind fun x3 =>
    if x3 ≤ l4 then
    fX9_spanAt_75 F N w l0 l3
    else
    (fX9_first F N w l0 l1 l4).bind fun x5 =>
    (fX9_end F N w l0 l1 l4).bind fun x6 =>
    (fX9_in F N w l2 x5 (x6 - 1)).bind fun x7 =>
    if x7 = 0 then
    fX9_spanAt_68 F N (fX9_spanAt_22 F N n) w l0 l1 l2 l4 l3
    else
    fX9_spanAt_68 F N (fX9_spanAt_22 F N n) w l0 l1 l2 l4 l4
    else
    fX9_spanAt_75 F N w l0 l3
def fX9_spanAt_14 (F : Fr) (N : Nat) (w : Wd) (l0 : Nat) (l1 : Int32) (l2 : Int32) (s0 : Nat) (s1 : Int32) : Option (Int32 × Wd) :=
  bnd (sI w 906 s0 s1) fun w1 =>
  fX9_spanAt_22 F N N w1 l0 l1 l2 (-1) 0
def fX9_spanAt (F : Fr) (N : Nat) (w : Wd) (l0 : Nat) (l1 : Int32) (l2 : Int32) : Option (Int32 × Wd) :=
  (fX9_isTier F N w l0 l1).bind fun x10 =>
  if x10 = 0 then
  fX9_spanAt_14 F N w l0 l1 l2 l0 1
  else
  fX9_spanAt_14 F N w l0 l1 l2 l0 0
def fX9_refusal_13 (F : Fr) (N : Nat) (w : Wd) (l0 : Nat) (l1 : Int32) (s0 : Nat) (s1 : Int32) : Option (Int32 × Wd) :=
  bnd (sI w 906 s0 s1) fun w1 =>
  if l1 = 0 then
  some (gI w1 913 l0, w1)
  else
  some (gI w1 912 l0, w1)
def fX9_refusal (F : Fr) (N : Nat) (w : Wd) (l0 : Nat) (l1 : Int32) : Option (Int32 × Wd) :=
  if (gI w 912 l0) = 0 then
  fX9_refusal_13 F N w l0 l1 l0 1
  else
  fX9_refusal_13 F N w l0 l1 l0 0
def fX9_cell (F : Fr) (N : Nat) (w : Wd) (l0 : Int32) (l1 : Int32) : Option (Int32) :=
  some ((31 * l0) + l1)
def fX9_distance (F : Fr) (N : Nat) (w : Wd) (l0 : Nat) (l1 : Int32) (l2 : Int32) (l3 : Int32) (l4 : Int32) : Option (Int32) :=
  (fX9_first F N w l0 l1 l2).bind fun x1 =>
  (fX9_first F N w l0 l3 l4).bind fun x2 =>
  (fX9_end F N w l0 l1 l2).bind fun x3 =>
  (fX9_end F N w l0 l3 l4).bind fun x4 =>
  some ((iabs (x1 - x2)) + (iabs (x3 - x4)))
def fX9_isBestPair (F : Fr) (N : Nat) (w : Wd) (l0 : Nat) (l1 : Int32) (l2 : Int32) (l3 : Int32) (l4 : Int32) (l5 : Int32) : Option (Int32) :=
  (fX9_distance F N w l0 l1 l2 l3 l4).bind fun x1 =>
  (fX9_cell F N w (l2 + 1) (l4 + 1)).bind fun x2 =>
  (rdR F w 900 l0 12).bind fun r3 =>
  (ldJ F w r3 2).bind fun x4 =>
  if 0 < (lg_cmp x1.toInt64 x4) then
  some 0
  else
  (rdR F w 914 l0 11).bind fun r6 =>
  (ldI F w r6 x2).bind fun x7 =>
  (rdR F w 914 l0 11).bind fun r8 =>
  (ldI F w r8 l5).bind fun x9 =>
  if (x7 + 1) = x9 then
  (rdR F w 915 l0 11).bind fun r11 =>
  (ldI F w r11 x2).bind fun x12 =>
  (rdR F w 915 l0 11).bind fun r13 =>
  (ldI F w r13 l5).bind fun x14 =>
  if (x12 + x1) = x14 then
  some 1
  else
  some 0
  else
  some 0
def fX9_take_54 (F : Fr) (N : Nat) (w : Wd) (l0 : Nat) (l1 : Int32) (l5 : Int32) (l6 : Int32) : Option (Wd) :=
  (rdR F w 914 l0 11).bind fun r1 =>
  (stI F w r1 l1 l5).bind fun w2 =>
  (rdR F w2 915 l0 11).bind fun r3 =>
  (stI F w2 r3 l1 l6).bind fun w4 =>
  some w4
def fX9_take (F : Fr) (N : Nat) (w : Wd) (l0 : Nat) (l1 : Int32) (l2 : Int32) (l3 : Int32) (l4 : Int32) : Option (Wd) :=
  (rdR F w 914 l0 11).bind fun r5 =>
  (ldI F w r5 l2).bind fun x6 =>
  bnd (x6 + l3) fun v7 =>
  (rdR F w 915 l0 11).bind fun r8 =>
  (ldI F w r8 l2).bind fun x9 =>
  bnd (x9 + l4) fun v10 =>
  (rdR F w 914 l0 11).bind fun r11 =>
  (ldI F w r11 l1).bind fun x12 =>
  if x12 < v7 then
  fX9_take_54 F N w l0 l1 v7 v10
  else
  (rdR F w 914 l0 11).bind fun r14 =>
  (ldI F w r14 l1).bind fun x15 =>
  if v7 = x15 then
  (rdR F w 915 l0 11).bind fun r17 =>
  (ldI F w r17 l1).bind fun x18 =>
  if x18 ≤ v10 then
  some w
  else
  fX9_take_54 F N w l0 l1 v7 v10
  else
  some w
def fX9_align_140 (F : Fr) (N : Nat) (k6 : Wd → Nat → Int32 → Int32 → Int32 → Option (Wd)) (k17 : Wd → Nat → Int32 → Int32 → Int32 → Int32 → Option (Wd)) (w : Wd) (l0 : Nat) (l1 : Int32) (l2 : Int32) (l3 : Int32) (l4 : Int32) : Option (Wd) :=
  k17 w l0 l1 l2 l3 (l4 + (-1))
def fX9_align_17 (F : Fr) (N : Nat) (k6 : Wd → Nat → Int32 → Int32 → Int32 → Option (Wd)) : Nat → Wd → Nat → Int32 → Int32 → Int32 → Int32 → Option (Wd)
  | 0, _, _, _, _, _, _ => none
  | n + 1, w, l0, l1, l2, l3, l4 =>
    if l4 < 0 then
    k6 w l0 l1 l2 (l3 + (-1))
    else
    (fX9_cell F N w l3 l4).bind fun x4 =>
    (rdR F w 914 l0 11).bind fun r5 =>
    (stI F w r5 x4 0).bind fun w6 =>
    (rdR F w6 915 l0 11).bind fun r7 =>
    (stI F w6 r7 x4 0).bind fun w8 =>
    (fX9_many F N w8 l0 l1).bind fun x9 =>
    if x9 ≤ l3 then
    fX9_align_140 F N k6 (fX9_align_17 F N k6 n) w8 l0 l1 l2 l3 l4
    else
    (fX9_many F N w8 l0 l2).bind fun x11 =>
    if x11 ≤ l4 then
    fX9_align_140 F N k6 (fX9_align_17 F N k6 n) w8 l0 l1 l2 l3 l4
    else
    (fX9_cell F N w8 (l3 + 1) l4).bind fun x13 =>
    (fX9_take F N w8 l0 x4 x13 0 0).bind fun p14 =>
    (fX9_cell F N p14 l3 (l4 + 1)).bind fun x15 =>
    (fX9_take F N p14 l0 x4 x15 0 0).bind fun p16 =>
    (fX9_distance F N p16 l0 l1 l3 l2 l4).bind fun x17 =>
    (rdR F p16 900 l0 12).bind fun r18 =>
    (ldJ F p16 r18 2).bind fun x19 =>
    if 0 < (lg_cmp x17.toInt64 x19) then
    fX9_align_140 F N k6 (fX9_align_17 F N k6 n) p16 l0 l1 l2 l3 l4
    else
    (fX9_cell F N p16 (l3 + 1) (l4 + 1)).bind fun x21 =>
    (fX9_take F N p16 l0 x4 x21 1 x17).bind fun p22 =>
    fX9_align_140 F N k6 (fX9_align_17 F N k6 n) p22 l0 l1 l2 l3 l4
def fX9_align_6 (F : Fr) (N : Nat) : Nat → Wd → Nat → Int32 → Int32 → Int32 → Option (Wd)
  | 0, _, _, _, _, _ => none
  | n + 1, w, l0, l1, l2, l3 =>
    if l3 < 0 then
    some w
    else
    (fX9_many F N w l0 l2).bind fun x2 =>
    fX9_align_17 F N (fX9_align_6 F N n) N w l0 l1 l2 l3 x2
def fX9_align (F : Fr) (N : Nat) (w : Wd) (l0 : Nat) (l1 : Int32) (l2 : Int32) : Option (Wd) :=
  (fX9_many F N w l0 l1).bind fun x23 =>
  fX9_align_6 F N N w l0 l1 l2 x23
def fX9_aligned_136 (F : Fr) (N : Nat) (k58 : Wd → Nat → Int32 → Int32 → Int32 → Int32 → Int32 → Int32 → Option (Int32 × Wd)) (w : Wd) (l0 : Nat) (l1 : Int32) (l2 : Int32) (l3 : Int32) (l5 : Int32) (l6 : Int32) (s0 : Int32) : Option (Int32 × Wd) :=
  k58 w l0 l1 l2 l3 s0 l5 (l6 + 1)
def fX9_aligned_120 (F : Fr) (N : Nat) (k58 : Wd → Nat → Int32 → Int32 → Int32 → Int32 → Int32 → Int32 → Option (Int32 × Wd)) (w : Wd) (l0 : Nat) (l1 : Int32) (l2 : Int32) (l3 : Int32) (l4 : Int32) (l6 : Int32) (s0 : Int32) : Option (Int32 × Wd) :=
  if 0 ≤ s0 then
  fX9_aligned_136 F N k58 w l0 l1 l2 l3 s0 l6 (s0 + 1)
  else
  fX9_aligned_136 F N k58 w l0 l1 l2 l3 s0 l6 l4
def fX9_aligned_104 (F : Fr) (N : Nat) (k58 : Wd → Nat → Int32 → Int32 → Int32 → Int32 → Int32 → Int32 → Option (Int32 × Wd)) (w : Wd) (l0 : Nat) (l1 : Int32) (l2 : Int32) (l3 : Int32) (l4 : Int32) (l6 : Int32) (l7 : Int32) : Option (Int32 × Wd) :=
  (fX9_many F N w l0 l2).bind fun x10 =>
  if x10 ≤ l7 then
  fX9_aligned_120 F N k58 w l0 l1 l2 l3 l4 l6 (-1)
  else
  fX9_aligned_120 F N k58 w l0 l1 l2 l3 l4 l6 l7
def fX9_aligned_68 (F : Fr) (N : Nat) (k58 : Wd → Nat → Int32 → Int32 → Int32 → Int32 → Int32 → Int32 → Option (Int32 × Wd)) : Nat → Wd → Nat → Int32 → Int32 → Int32 → Int32 → Int32 → Int32 → Option (Int32 × Wd)
  | 0, _, _, _, _, _, _, _, _ => none
  | n + 1, w, l0, l1, l2, l3, l4, l6, l7 =>
    (fX9_many F N w l0 l2).bind fun x5 =>
    if x5 ≤ l7 then
    fX9_aligned_104 F N k58 w l0 l1 l2 l3 l4 l6 l7
    else
    (fX9_cell F N w l6 l4).bind fun x7 =>
    (fX9_isBestPair F N w l0 l1 l6 l2 l7 x7).bind fun x8 =>
    if x8 = 0 then
    fX9_aligned_68 F N k58 n w l0 l1 l2 l3 l4 l6 (l7 + 1)
    else
    fX9_aligned_104 F N k58 w l0 l1 l2 l3 l4 l6 l7
def fX9_aligned_58 (F : Fr) (N : Nat) : Nat → Wd → Nat → Int32 → Int32 → Int32 → Int32 → Int32 → Int32 → Option (Int32 × Wd)
  | 0, _, _, _, _, _, _, _, _ => none
  | n + 1, w, l0, l1, l2, l3, l4, l5, l6 =>
    if l3 < l6 then
    some (l5, w)
    else
    fX9_aligned_68 F N (fX9_aligned_58 F N n) N w l0 l1 l2 l3 l4 l6 l4
def fX9_aligned_31 (F : Fr) (N : Nat) (w : Wd) (l0 : Nat) (l1 : Int32) (l2 : Int32) (l3 : Int32) (s0 : Nat) (s1 : Int32) : Option (Int32 × Wd) :=
  bnd (sI w 906 s0 s1) fun w1 =>
  if (gI w1 906 l0) ≤ 0 then
  (fX9_align F N w1 l0 l1 l2).bind fun p3 =>
  fX9_aligned_58 F N N p3 l0 l1 l2 l3 0 (-1) 0
  else
  some (0, w1)
def fX9_aligned_30 (F : Fr) (N : Nat) (w : Wd) (l0 : Nat) (l1 : Int32) (l2 : Int32) (l3 : Int32) (s0 : Nat) : Option (Int32 × Wd) :=
  fX9_aligned_31 F N w l0 l1 l2 l3 s0 1
def fX9_aligned (F : Fr) (N : Nat) (w : Wd) (l0 : Nat) (l1 : Int32) (l2 : Int32) (l3 : Int32) : Option (Int32 × Wd) :=
  (fX9_isTier F N w l0 l1).bind fun x13 =>
  if x13 = 0 then
  fX9_aligned_30 F N w l0 l1 l2 l3 l0
  else
  (fX9_isTier F N w l0 l2).bind fun x15 =>
  if x15 = 0 then
  fX9_aligned_30 F N w l0 l1 l2 l3 l0
  else
  (fX9_isSpan F N w l0 l1 l3).bind fun x17 =>
  if x17 = 0 then
  fX9_aligned_30 F N w l0 l1 l2 l3 l0
  else
  fX9_aligned_31 F N w l0 l1 l2 l3 l0 0
def fX9_alignment_22 (F : Fr) (N : Nat) (w : Wd) (l0 : Nat) (l1 : Int32) (l2 : Int32) (l3 : Int32) (s0 : Nat) (s1 : Int32) : Option (Int32 × Wd) :=
  bnd (sI w 906 s0 s1) fun w1 =>
  if (gI w1 906 l0) ≤ 0 then
  (fX9_align F N w1 l0 l1 l2).bind fun p3 =>
  if l3 = 0 then
  (rdR F p3 915 l0 11).bind fun r5 =>
  (ldI F p3 r5 0).bind fun x6 =>
  some (x6, p3)
  else
  (rdR F p3 914 l0 11).bind fun r7 =>
  (ldI F p3 r7 0).bind fun x8 =>
  some (x8, p3)
  else
  some (0, w1)
def fX9_alignment_21 (F : Fr) (N : Nat) (w : Wd) (l0 : Nat) (l1 : Int32) (l2 : Int32) (l3 : Int32) (s0 : Nat) : Option (Int32 × Wd) :=
  fX9_alignment_22 F N w l0 l1 l2 l3 s0 1
def fX9_alignment (F : Fr) (N : Nat) (w : Wd) (l0 : Nat) (l1 : Int32) (l2 : Int32) (l3 : Int32) : Option (Int32 × Wd) :=
  (fX9_isTier F N w l0 l1).bind fun x9 =>
  if x9 = 0 then
  fX9_alignment_21 F N w l0 l1 l2 l3 l0
  else
  (fX9_isTier F N w l0 l2).bind fun x11 =>
  if x11 = 0 then
  fX9_alignment_21 F N w l0 l1 l2 l3 l0
  else
  fX9_alignment_22 F N w l0 l1 l2 l3 l0 0
def fX9_readTierNumber_34 (F : Fr) (N : Nat) (w : Wd) (l0 : Nat) (s0 : Nat) (s1 : Int32) : Option (Int32 × Wd) :=
  (ckZ s1).bind fun _ =>
  bnd (sI w 910 s0 s1) fun w3 =>
  if (gI w3 910 l0) = 0 then
  bnd (sI w3 909 l0 ((gI w3 909 l0) + 1)) fun w5 =>
  (rdR F w5 907 l0 11).bind fun r6 =>
  (ldI F w5 r6 ((gI w5 909 l0) - 1)).bind fun x7 =>
  some (x7 - 48, w5)
  else
  some (0, w3)
def fX9_readTierNumber_29 (F : Fr) (N : Nat) (w : Wd) (l0 : Nat) (s0 : Nat) : Option (Int32 × Wd) :=
  fX9_readTierNumber_34 F N w l0 s0 1
def fX9_readTierNumber (F : Fr) (N : Nat) (w : Wd) (l0 : Nat) : Option (Int32 × Wd) :=
  if (gI w 910 l0) = 0 then
  (fX9_here F N w l0).bind fun x9 =>
  (fX9_tiers F N w l0).bind fun x10 =>
  (fX9_in F N w x9 48 ((48 + x10) - 1)).bind fun x11 =>
  if x11 = 0 then
  fX9_readTierNumber_29 F N w l0 l0
  else
  fX9_readTierNumber_34 F N w l0 l0 0
  else
  fX9_readTierNumber_29 F N w l0 l0
def fX9_sign_21 (F : Fr) (N : Nat) (w : Wd) (l0 : Nat) (s0 : Nat) (s1 : Int32) : Option (Wd) :=
  (ckZ s1).bind fun _ =>
  bnd (sI w 910 s0 s1) fun w3 =>
  if (gI w3 910 l0) = 0 then
  bnd (sI w3 909 l0 ((gI w3 909 l0) + 1)) fun w5 =>
  some w5
  else
  bnd (sI w3 909 l0 ((gI w3 909 l0) + 0)) fun w6 =>
  some w6
def fX9_sign_16 (F : Fr) (N : Nat) (w : Wd) (l0 : Nat) (s0 : Nat) : Option (Wd) :=
  fX9_sign_21 F N w l0 s0 1
def fX9_sign (F : Fr) (N : Nat) (w : Wd) (l0 : Nat) (l1 : Int32) : Option (Wd) :=
  if (gI w 910 l0) = 0 then
  (fX9_here F N w l0).bind fun x8 =>
  if x8 = l1 then
  fX9_sign_21 F N w l0 l0 0
  else
  fX9_sign_16 F N w l0 l0
  else
  fX9_sign_16 F N w l0 l0
def fX9_readPart_89 (F : Fr) (N : Nat) (w : Wd) (l0 : Nat) : Option (Wd) :=
  bnd (sI w 924 l0 ((gI w 924 l0) + 1)) fun w6 =>
  some w6
def fX9_readPart_85 (F : Fr) (N : Nat) (w : Wd) (l0 : Nat) (s0 : Nat) (s1 : Int32) (s2 : Nat) (s3 : Int32) : Option (Wd) :=
  (fX9_readLabel F N w s2 s3).bind fun p4 =>
  (stJ F p4.2 s0 s1 p4.1).bind fun w5 =>
  fX9_readPart_89 F N w5 l0
def fX9_readPart_60 (F : Fr) (N : Nat) (w : Wd) (l0 : Nat) (l1 : Int32) : Option (Wd) :=
  (rdR F w 922 l0 12).bind fun r1 =>
  if (gI w 910 l0) = 0 then
  (fX9_kind F N w l0 l1).bind fun x3 =>
  fX9_readPart_85 F N w l0 r1 (gI w 924 l0) l0 x3
  else
  fX9_readPart_85 F N w l0 r1 (gI w 924 l0) l0 0
def fX9_readPart (F : Fr) (N : Nat) (w : Wd) (l0 : Nat) : Option (Wd) :=
  (fX9_readTierNumber F N w l0).bind fun p7 =>
  (fX9_sign F N p7.2 l0 61).bind fun p8 =>
  (rdR F p8 921 l0 11).bind fun r9 =>
  (stI F p8 r9 (gI p8 924 l0) p7.1).bind fun w10 =>
  if (gI w10 910 l0) = 0 then
  (fX9_here F N w10 l0).bind fun x12 =>
  if x12 = 42 then
  bnd (sI w10 909 l0 ((gI w10 909 l0) + 1)) fun w14 =>
  (rdR F w14 922 l0 12).bind fun r15 =>
  (stJ F w14 r15 (gI w14 924 l0) 0).bind fun w16 =>
  fX9_readPart_89 F N w16 l0
  else
  fX9_readPart_60 F N w10 l0 p7.1
  else
  fX9_readPart_60 F N w10 l0 p7.1
def fX9_isPatternWrong_68 (F : Fr) (N : Nat) (k13 : Wd → Nat → Option (Int32 × Wd)) (w : Wd) (l0 : Nat) (s0 : Nat) (s1 : Int32) (s2 : Int32) : Option (Int32 × Wd) :=
  (stI F w s0 s1 (vp_nar .boolean s2)).bind fun w10 =>
  bnd (sI w10 909 l0 ((gI w10 909 l0) + 1)) fun w11 =>
  (fX9_readPart F N w11 l0).bind fun p12 =>
  k13 p12 l0
def fX9_isPatternWrong_46 (F : Fr) (N : Nat) (k13 : Wd → Nat → Option (Int32 × Wd)) (w : Wd) (l0 : Nat) : Option (Int32 × Wd) :=
  (rdR F w 923 l0 13).bind fun r7 =>
  (fX9_here F N w l0).bind fun x8 =>
  if x8 = 44 then
  fX9_isPatternWrong_68 F N k13 w l0 r7 (gI w 924 l0) 1
  else
  fX9_isPatternWrong_68 F N k13 w l0 r7 (gI w 924 l0) 0
def fX9_isPatternWrong_86 (F : Fr) (N : Nat) (w : Wd) (l0 : Nat) : Option (Int32 × Wd) :=
  (fX9_endText F N w l0).bind fun p13 =>
  (ckZ p13.1).bind fun _ =>
  some (p13.1, p13.2)
def fX9_isPatternWrong_13 (F : Fr) (N : Nat) : Nat → Wd → Nat → Option (Int32 × Wd)
  | 0, _, _ => none
  | n + 1, w, l0 =>
    if (gI w 910 l0) = 0 then
    if 4 ≤ (gI w 924 l0) then
    fX9_isPatternWrong_86 F N w l0
    else
    (fX9_here F N w l0).bind fun x3 =>
    if x3 = 44 then
    fX9_isPatternWrong_46 F N (fX9_isPatternWrong_13 F N n) w l0
    else
    (fX9_here F N w l0).bind fun x5 =>
    if x5 = 38 then
    fX9_isPatternWrong_46 F N (fX9_isPatternWrong_13 F N n) w l0
    else
    fX9_isPatternWrong_86 F N w l0
    else
    fX9_isPatternWrong_86 F N w l0
def fX9_isPatternWrong (F : Fr) (N : Nat) (w : Wd) (l0 : Nat) : Option (Int32 × Wd) :=
  (fX9_beginText F N w l0).bind fun p15 =>
  bnd (sI p15 924 l0 0) fun w16 =>
  (fX9_readPart F N w16 l0).bind fun p17 =>
  fX9_isPatternWrong_13 F N N p17 l0
def fX9_isFitting_57 (F : Fr) (N : Nat) (w : Wd) : Option (Int32) :=
  some 1
def fX9_isFitting (F : Fr) (N : Nat) (w : Wd) (l0 : Nat) (l1 : Int32) (l2 : Int32) : Option (Int32) :=
  (rdR F w 917 l0 11).bind fun r1 =>
  (ldI F w r1 l1).bind fun x2 =>
  (fX9_label F N w l0 x2 l2).bind fun x3 =>
  (rdR F w 919 l0 12).bind fun r4 =>
  (ldJ F w r4 l1).bind fun x5 =>
  if (lg_cmp x5 0) = 0 then
  fX9_isFitting_57 F N w
  else
  (rdR F w 919 l0 12).bind fun r7 =>
  (ldJ F w r7 l1).bind fun x8 =>
  if (lg_cmp x3 x8) = 0 then
  fX9_isFitting_57 F N w
  else
  (rdR F w 918 l0 11).bind fun r10 =>
  (ldI F w r10 l1).bind fun x11 =>
  if x11 = 1 then
  if (lg_cmp x3 98) = 0 then
  fX9_isFitting_57 F N w
  else
  some 0
  else
  some 0
def fX9_isLinked_109 (F : Fr) (N : Nat) (w : Wd) : Option (Int32) :=
  some 0
def fX9_isLinked (F : Fr) (N : Nat) (w : Wd) (l0 : Nat) (l1 : Int32) (l2 : Int32) : Option (Int32) :=
  if l1 = 0 then
  some 1
  else
  (rdR F w 917 l0 11).bind fun r2 =>
  (ldI F w r2 l1).bind fun x3 =>
  (fX9_first F N w l0 x3 l2).bind fun x4 =>
  (rdR F w 917 l0 11).bind fun r5 =>
  (ldI F w r5 l1).bind fun x6 =>
  (fX9_end F N w l0 x6 l2).bind fun x7 =>
  (rdR F w 917 l0 11).bind fun r8 =>
  (ldI F w r8 (l1 - 1)).bind fun x9 =>
  (rdR F w 925 l0 11).bind fun r10 =>
  (ldI F w r10 (l1 - 1)).bind fun x11 =>
  (fX9_first F N w l0 x9 x11).bind fun x12 =>
  (rdR F w 917 l0 11).bind fun r13 =>
  (ldI F w r13 (l1 - 1)).bind fun x14 =>
  (rdR F w 925 l0 11).bind fun r15 =>
  (ldI F w r15 (l1 - 1)).bind fun x16 =>
  (fX9_end F N w l0 x14 x16).bind fun x17 =>
  (rdR F w 920 l0 13).bind fun r18 =>
  (ldI F w r18 l1).bind fun x19 =>
  if x19 = 0 then
  if x17 ≤ x4 then
  some 0
  else
  if x7 ≤ x12 then
  some 0
  else
  some 1
  else
  if x4 < x17 then
  fX9_isLinked_109 F N w
  else
  (rdR F w 900 l0 12).bind fun r24 =>
  (ldJ F w r24 3).bind fun x25 =>
  if 0 < (lg_cmp ((x4 - x17).toInt64) x25) then
  fX9_isLinked_109 F N w
  else
  some 1
def fX9_match_33 (F : Fr) (N : Nat) (rc : Wd → Nat → Int32 → Option Wd) (w : Wd) (l0 : Nat) : Option (Wd) :=
  bnd (sI w 927 l0 ((gI w 927 l0) + 1)) fun w1 =>
  some w1
def fX9_match_141 (F : Fr) (N : Nat) (rc : Wd → Nat → Int32 → Option Wd) (k82 : Wd → Nat → Int32 → Int32 → Int32 → Int32 → Option (Wd)) (w : Wd) (l0 : Nat) (l1 : Int32) (l2 : Int32) (l3 : Int32) (l4 : Int32) : Option (Wd) :=
  k82 w l0 l1 l2 l3 (l4 + 1)
def fX9_match_82 (F : Fr) (N : Nat) (rc : Wd → Nat → Int32 → Option Wd) : Nat → Wd → Nat → Int32 → Int32 → Int32 → Int32 → Option (Wd)
  | 0, _, _, _, _, _, _ => none
  | n + 1, w, l0, l1, l2, l3, l4 =>
    if l3 = 0 then
    some w
    else
    (fX9_many F N w l0 l2).bind fun x3 =>
    if x3 ≤ l4 then
    some w
    else
    if 1000 ≤ (gI w 927 l0) then
    some w
    else
    (fX9_isFitting F N w l0 l1 l4).bind fun x6 =>
    if x6 = 0 then
    fX9_match_141 F N rc (fX9_match_82 F N rc n) w l0 l1 l2 l3 l4
    else
    (fX9_isLinked F N w l0 l1 l4).bind fun x8 =>
    if x8 = 0 then
    fX9_match_141 F N rc (fX9_match_82 F N rc n) w l0 l1 l2 l3 l4
    else
    (rdR F w 925 l0 11).bind fun r10 =>
    (stI F w r10 l1 l4).bind fun w11 =>
    (rc w11 l0 (l1 + 1)).bind fun p12 =>
    fX9_match_141 F N rc (fX9_match_82 F N rc n) p12 l0 l1 l2 l3 l4
def fX9_match_78 (F : Fr) (N : Nat) (rc : Wd → Nat → Int32 → Option Wd) (w : Wd) (l0 : Nat) (l1 : Int32) (l2 : Int32) (s0 : Int32) : Option (Wd) :=
  fX9_match_82 F N rc N w l0 l1 l2 s0 0
def fX9_match_77 (F : Fr) (N : Nat) (rc : Wd → Nat → Int32 → Option Wd) (w : Wd) (l0 : Nat) (l1 : Int32) (l2 : Int32) : Option (Wd) :=
  fX9_match_78 F N rc w l0 l1 l2 0
def fX9_match_b (F : Fr) (N : Nat) (rc : Wd → Nat → Int32 → Option Wd) (w : Wd) (l0 : Nat) (l1 : Int32) : Option (Wd) :=
  if l1 = (gI w 916 l0) then
  if (gI w 927 l0) = (gI w 928 l0) then
  (rdR F w 925 l0 11).bind fun r23 =>
  (rdR F w 926 l0 11).bind fun r24 =>
  (cpI F w r23 0 r24 0 4).bind fun w25 =>
  fX9_match_33 F N rc w25 l0
  else
  fX9_match_33 F N rc w l0
  else
  (rdR F w 917 l0 11).bind fun r14 =>
  (ldI F w r14 l1).bind fun x15 =>
  (fX9_isTier F N w l0 x15).bind fun x16 =>
  if x16 = 0 then
  fX9_match_77 F N rc w l0 l1 x15
  else
  (fX9_kind F N w l0 x15).bind fun x18 =>
  (rdR F w 918 l0 11).bind fun r19 =>
  (ldI F w r19 l1).bind fun x20 =>
  if x18 = x20 then
  fX9_match_78 F N rc w l0 l1 x15 1
  else
  fX9_match_77 F N rc w l0 l1 x15
def fX9_match (F : Fr) (N : Nat) : Nat → Wd → Nat → Int32 → Option Wd
  | 0, _, _, _ => none
  | n + 1, w, l0, l1 => fX9_match_b F N (fX9_match F N n) w l0 l1
def fX9_search_35 (F : Fr) (N : Nat) : Nat → Wd → Nat → Int32 → Option (Int32 × Wd)
  | 0, _, _, _ => none
  | n + 1, w, l0, l1 =>
    if (gI w 916 l0) ≤ l1 then
    bnd (sI w 927 l0 0) fun w5 =>
    bnd (sI w5 928 l0 (-1)) fun w6 =>
    (fX9_match F N 6 w6 l0 0).bind fun p7 =>
    some (gI p7 927 l0, p7)
    else
    (rdR F w 917 l0 11).bind fun r8 =>
    (rdR F w 921 l0 11).bind fun r9 =>
    (ldI F w r9 l1).bind fun x10 =>
    (stI F w r8 l1 x10).bind fun w11 =>
    (rdR F w11 918 l0 11).bind fun r12 =>
    (rdR F w11 921 l0 11).bind fun r13 =>
    (ldI F w11 r13 l1).bind fun x14 =>
    (fX9_kind F N w11 l0 x14).bind fun x15 =>
    (stI F w11 r12 l1 x15).bind fun w16 =>
    (rdR F w16 919 l0 12).bind fun r17 =>
    (rdR F w16 922 l0 12).bind fun r18 =>
    (ldJ F w16 r18 l1).bind fun x19 =>
    (stJ F w16 r17 l1 x19).bind fun w20 =>
    (rdR F w20 920 l0 13).bind fun r21 =>
    (rdR F w20 923 l0 13).bind fun r22 =>
    (ldI F w20 r22 l1).bind fun x23 =>
    (stI F w20 r21 l1 (vp_nar .boolean x23)).bind fun w24 =>
    fX9_search_35 F N n w24 l0 (l1 + 1)
def fX9_search_13 (F : Fr) (N : Nat) (w : Wd) (l0 : Nat) (s0 : Nat) (s1 : Int32) : Option (Int32 × Wd) :=
  bnd (sI w 906 s0 s1) fun w1 =>
  if (gI w1 906 l0) ≤ 0 then
  bnd (sI w1 916 l0 (gI w1 924 l0)) fun w3 =>
  fX9_search_35 F N N w3 l0 0
  else
  some (0, w1)
def fX9_search (F : Fr) (N : Nat) (w : Wd) (l0 : Nat) : Option (Int32 × Wd) :=
  (fX9_isPatternWrong F N w l0).bind fun p25 =>
  if p25.1 = 0 then
  fX9_search_13 F N p25.2 l0 l0 0
  else
  fX9_search_13 F N p25.2 l0 l0 1
def fX9_match__83 (F : Fr) (N : Nat) (w : Wd) (l0 : Nat) (l2 : Int32) (s0 : Nat) (s1 : Int32) : Option (Int32 × Wd) :=
  bnd (sI w 906 s0 s1) fun w7 =>
  if (gI w7 906 l0) ≤ 0 then
  (rdR F w7 926 l0 11).bind fun r9 =>
  (ldI F w7 r9 l2).bind fun x10 =>
  some (x10, w7)
  else
  some (0, w7)
def fX9_match__42 (F : Fr) (N : Nat) (w : Wd) (l0 : Nat) (l1 : Int32) (l2 : Int32) (s0 : Nat) (s1 : Int32) : Option (Int32 × Wd) :=
  bnd (sI w 906 s0 s1) fun w1 =>
  if (gI w1 906 l0) ≤ 0 then
  bnd (sI w1 927 l0 0) fun w3 =>
  bnd (sI w3 928 l0 l1) fun w4 =>
  (fX9_match F N 6 w4 l0 0).bind fun p5 =>
  if l1 < (gI p5 927 l0) then
  fX9_match__83 F N p5 l0 l2 l0 0
  else
  fX9_match__83 F N p5 l0 l2 l0 2
  else
  some (0, w1)
def fX9_match__37 (F : Fr) (N : Nat) (w : Wd) (l0 : Nat) (l1 : Int32) (l2 : Int32) (s0 : Nat) : Option (Int32 × Wd) :=
  fX9_match__42 F N w l0 l1 l2 s0 2
def fX9_match_ (F : Fr) (N : Nat) (w : Wd) (l0 : Nat) (l1 : Int32) (l2 : Int32) : Option (Int32 × Wd) :=
  if (gI w 916 l0) = 0 then
  fX9_match__42 F N w l0 l1 l2 l0 1
  else
  (fX9_in F N w l1 0 999).bind fun x12 =>
  if x12 = 0 then
  fX9_match__37 F N w l0 l1 l2 l0
  else
  (fX9_in F N w l2 0 ((gI w 916 l0) - 1)).bind fun x14 =>
  if x14 = 0 then
  fX9_match__37 F N w l0 l1 l2 l0
  else
  fX9_match__42 F N w l0 l1 l2 l0 0
def fX9_put (F : Fr) (N : Nat) (w : Wd) (l0 : Nat) (l1 : Int32) (l2 : Int32) (l3 : Int64) (l5 : Int32) : Option (Wd) :=
  (rdR F w 929 l0 11).bind fun r1 =>
  (stI F w r1 (gI w 933 l0) l1).bind fun w2 =>
  (rdR F w2 930 l0 11).bind fun r3 =>
  (stI F w2 r3 (gI w2 933 l0) l2).bind fun w4 =>
  (rdR F w4 931 l0 12).bind fun r5 =>
  (stJ F w4 r5 (gI w4 933 l0) l3).bind fun w6 =>
  (rdR F w6 932 l0 11).bind fun r7 =>
  (stI F w6 r7 (gI w6 933 l0) (1 <<< (l5 &&& 31))).bind fun w8 =>
  bnd (sI w8 933 l0 ((gI w8 933 l0) + 1)) fun w9 =>
  some w9
def fX9_mergeIn_24 (F : Fr) (N : Nat) (w : Wd) (l0 : Nat) (l1 : Int32) (l2 : Int32) (l3 : Int64) (l5 : Int32) : Option (Wd) :=
  (fX9_put F N w l0 l1 l2 l3 l5).bind fun p1 =>
  some p1
def fX9_mergeIn (F : Fr) (N : Nat) (w : Wd) (l0 : Nat) (l1 : Int32) (l2 : Int32) (l3 : Int64) (l5 : Int32) : Option (Wd) :=
  bnd ((gI w 933 l0) - 1) fun v2 =>
  if v2 < 0 then
  fX9_mergeIn_24 F N w l0 l1 l2 l3 l5
  else
  (rdR F w 930 l0 11).bind fun r4 =>
  (ldI F w r4 v2).bind fun x5 =>
  if l1 < x5 then
  (rdR F w 931 l0 12).bind fun r7 =>
  (ldJ F w r7 v2).bind fun x8 =>
  if (lg_cmp x8 l3) = 0 then
  (rdR F w 930 l0 11).bind fun r18 =>
  (rdR F w 930 l0 11).bind fun r19 =>
  (ldI F w r19 v2).bind fun x20 =>
  (stI F w r18 v2 (imax x20 l2)).bind fun w21 =>
  (rdR F w21 932 l0 11).bind fun r22 =>
  (ldI F w21 r22 v2).bind fun x23 =>
  (stI F w21 r22 v2 (x23 ||| (1 <<< (l5 &&& 31)))).bind fun w24 =>
  some w24
  else
  bnd (sI w 934 l0 ((gI w 934 l0) + 1)) fun w10 =>
  (rdR F w10 930 l0 11).bind fun r11 =>
  (ldI F w10 r11 v2).bind fun x12 =>
  if l2 ≤ x12 then
  bnd (sI w10 935 l0 ((gI w10 935 l0) + 1)) fun w14 =>
  some w14
  else
  (rdR F w10 930 l0 11).bind fun r15 =>
  (ldI F w10 r15 v2).bind fun x16 =>
  (fX9_put F N w10 l0 x16 l2 l3 l5).bind fun p17 =>
  some p17
  else
  fX9_mergeIn_24 F N w l0 l1 l2 l3 l5
def fX9_mergeTier_252 (F : Fr) (N : Nat) (k33 : Wd → Nat → Int32 → Int32 → Int32 → Int32 → Option (Wd)) (w : Wd) (l0 : Nat) (l2 : Int32) (l3 : Int32) (l4 : Int32) (s0 : Int32) (s1 : Int32) : Option (Wd) :=
  bnd (s0 + s1) fun v42 =>
  k33 w l0 l2 l3 l4 v42
def fX9_mergeTier_237 (F : Fr) (N : Nat) (k33 : Wd → Nat → Int32 → Int32 → Int32 → Int32 → Option (Wd)) (w : Wd) (l0 : Nat) (l2 : Int32) (l3 : Int32) (l5 : Int32) (l8 : Int32) (s0 : Int32) (s1 : Int32) : Option (Wd) :=
  bnd (s0 + s1) fun v40 =>
  if l8 = 0 then
  fX9_mergeTier_252 F N k33 w l0 l2 l3 v40 l5 1
  else
  fX9_mergeTier_252 F N k33 w l0 l2 l3 v40 l5 0
def fX9_mergeTier_222 (F : Fr) (N : Nat) (k33 : Wd → Nat → Int32 → Int32 → Int32 → Int32 → Option (Wd)) (w : Wd) (l0 : Nat) (l2 : Int32) (l3 : Int32) (l4 : Int32) (l5 : Int32) (l8 : Int32) (s0 : Nat) (s1 : Int32) (s2 : Int32) (s3 : Int64) (s4 : Int32) : Option (Wd) :=
  (fX9_mergeIn F N w s0 s1 s2 s3 s4).bind fun p38 =>
  if l8 = 0 then
  fX9_mergeTier_237 F N k33 p38 l0 l2 l3 l5 l8 l4 0
  else
  fX9_mergeTier_237 F N k33 p38 l0 l2 l3 l5 l8 l4 1
def fX9_mergeTier_182 (F : Fr) (N : Nat) (k33 : Wd → Nat → Int32 → Int32 → Int32 → Int32 → Option (Wd)) (w : Wd) (l0 : Nat) (l2 : Int32) (l3 : Int32) (l4 : Int32) (l5 : Int32) (l8 : Int32) (s0 : Int32) : Option (Wd) :=
  (rdR F w 900 l0 12).bind fun r31 =>
  (ldJ F w r31 s0).bind fun x32 =>
  (rdR F w 900 l0 12).bind fun r33 =>
  (ldJ F w r33 (s0 + 1)).bind fun x34 =>
  (rdR F w 900 l0 12).bind fun r35 =>
  (ldJ F w r35 (s0 + 2)).bind fun x36 =>
  if l8 = 0 then
  fX9_mergeTier_222 F N k33 w l0 l2 l3 l4 l5 l8 l0 x32.toInt32 x34.toInt32 x36 1
  else
  fX9_mergeTier_222 F N k33 w l0 l2 l3 l4 l5 l8 l0 x32.toInt32 x34.toInt32 x36 0
def fX9_mergeTier_168 (F : Fr) (N : Nat) (k33 : Wd → Nat → Int32 → Int32 → Int32 → Int32 → Option (Wd)) (w : Wd) (l0 : Nat) (l2 : Int32) (l3 : Int32) (l4 : Int32) (l5 : Int32) (l6 : Int32) (l7 : Int32) (s0 : Int32) : Option (Wd) :=
  if s0 = 0 then
  fX9_mergeTier_182 F N k33 w l0 l2 l3 l4 l5 s0 l7
  else
  fX9_mergeTier_182 F N k33 w l0 l2 l3 l4 l5 s0 l6
def fX9_mergeTier_163 (F : Fr) (N : Nat) (k33 : Wd → Nat → Int32 → Int32 → Int32 → Int32 → Option (Wd)) (w : Wd) (l0 : Nat) (l2 : Int32) (l3 : Int32) (l4 : Int32) (l5 : Int32) (l6 : Int32) (l7 : Int32) : Option (Wd) :=
  fX9_mergeTier_168 F N k33 w l0 l2 l3 l4 l5 l6 l7 1
def fX9_mergeTier_167 (F : Fr) (N : Nat) (k33 : Wd → Nat → Int32 → Int32 → Int32 → Int32 → Option (Wd)) (w : Wd) (l0 : Nat) (l2 : Int32) (l3 : Int32) (l4 : Int32) (l5 : Int32) (l6 : Int32) (l7 : Int32) : Option (Wd) :=
  fX9_mergeTier_168 F N k33 w l0 l2 l3 l4 l5 l6 l7 0
def fX9_mergeTier_59 (F : Fr) (N : Nat) (k33 : Wd → Nat → Int32 → Int32 → Int32 → Int32 → Option (Wd)) (w : Wd) (l0 : Nat) (l2 : Int32) (l3 : Int32) (l4 : Int32) (l5 : Int32) : Option (Wd) :=
  bnd ((l2 + 1) + (3 * l4)) fun v7 =>
  bnd ((l3 + 1) + (3 * l5)) fun v8 =>
  (rdR F w 900 l0 12).bind fun r9 =>
  (ldJ F w r9 l3).bind fun x10 =>
  if (lg_cmp l5.toInt64 x10) = 0 then
  fX9_mergeTier_163 F N k33 w l0 l2 l3 l4 l5 v7 v8
  else
  (rdR F w 900 l0 12).bind fun r12 =>
  (ldJ F w r12 l2).bind fun x13 =>
  if 0 ≤ (lg_cmp l4.toInt64 x13) then
  fX9_mergeTier_167 F N k33 w l0 l2 l3 l4 l5 v7 v8
  else
  (rdR F w 900 l0 12).bind fun r15 =>
  (ldJ F w r15 v7).bind fun x16 =>
  (rdR F w 900 l0 12).bind fun r17 =>
  (ldJ F w r17 v8).bind fun x18 =>
  if (lg_cmp x16 x18) < 0 then
  fX9_mergeTier_163 F N k33 w l0 l2 l3 l4 l5 v7 v8
  else
  (rdR F w 900 l0 12).bind fun r20 =>
  (ldJ F w r20 v7).bind fun x21 =>
  (rdR F w 900 l0 12).bind fun r22 =>
  (ldJ F w r22 v8).bind fun x23 =>
  if (lg_cmp x21 x23) = 0 then
  (rdR F w 900 l0 12).bind fun r25 =>
  (ldJ F w r25 (v7 + 1)).bind fun x26 =>
  (rdR F w 900 l0 12).bind fun r27 =>
  (ldJ F w r27 (v8 + 1)).bind fun x28 =>
  if 0 < (lg_cmp x26 x28) then
  fX9_mergeTier_167 F N k33 w l0 l2 l3 l4 l5 v7 v8
  else
  fX9_mergeTier_163 F N k33 w l0 l2 l3 l4 l5 v7 v8
  else
  fX9_mergeTier_167 F N k33 w l0 l2 l3 l4 l5 v7 v8
def fX9_mergeTier_33 (F : Fr) (N : Nat) : Nat → Wd → Nat → Int32 → Int32 → Int32 → Int32 → Option (Wd)
  | 0, _, _, _, _, _, _ => none
  | n + 1, w, l0, l2, l3, l4, l5 =>
    (rdR F w 900 l0 12).bind fun r1 =>
    (ldJ F w r1 l2).bind fun x2 =>
    if (lg_cmp l4.toInt64 x2) < 0 then
    fX9_mergeTier_59 F N (fX9_mergeTier_33 F N n) w l0 l2 l3 l4 l5
    else
    (rdR F w 900 l0 12).bind fun r4 =>
    (ldJ F w r4 l3).bind fun x5 =>
    if 0 ≤ (lg_cmp l5.toInt64 x5) then
    some w
    else
    fX9_mergeTier_59 F N (fX9_mergeTier_33 F N n) w l0 l2 l3 l4 l5
def fX9_mergeTier (F : Fr) (N : Nat) (w : Wd) (l0 : Nat) (l1 : Int32) : Option (Wd) :=
  bnd (sI w 933 l0 0) fun w43 =>
  bnd (sI w43 934 l0 0) fun w44 =>
  bnd (sI w44 935 l0 0) fun w45 =>
  (fX9_row F N w45 0 l1).bind fun x46 =>
  (fX9_row F N w45 1 l1).bind fun x47 =>
  fX9_mergeTier_33 F N N w45 l0 x46 x47 0 0
def fX9_merge_78 (F : Fr) (N : Nat) (k52 : Wd → Nat → Int32 → Int32 → Int32 → Int32 → Option (Int32 × Wd)) (w : Wd) (l0 : Nat) (l2 : Int32) (l4 : Int32) (l5 : Int32) (s0 : Int32) (s1 : Int32) : Option (Int32 × Wd) :=
  bnd (s0 + s1) fun v12 =>
  (rdR F w 930 l0 11).bind fun r13 =>
  (ldI F w r13 l5).bind fun x14 =>
  (rdR F w 929 l0 11).bind fun r15 =>
  (ldI F w r15 l5).bind fun x16 =>
  bnd (l4 + (x14 - x16)) fun v17 =>
  k52 w l0 l2 v12 v17 (l5 + 1)
def fX9_merge_52 (F : Fr) (N : Nat) : Nat → Wd → Nat → Int32 → Int32 → Int32 → Int32 → Option (Int32 × Wd)
  | 0, _, _, _, _, _, _ => none
  | n + 1, w, l0, l2, l3, l4, l5 =>
    if (gI w 933 l0) ≤ l5 then
    if l2 = 0 then
    some (gI w 933 l0, w)
    else
    if l2 = 1 then
    some (gI w 934 l0, w)
    else
    if l2 = 2 then
    some (gI w 935 l0, w)
    else
    if l2 = 3 then
    some (l3, w)
    else
    some (l4, w)
    else
    (rdR F w 932 l0 11).bind fun r9 =>
    (ldI F w r9 l5).bind fun x10 =>
    if x10 = 3 then
    fX9_merge_78 F N (fX9_merge_52 F N n) w l0 l2 l4 l5 l3 1
    else
    fX9_merge_78 F N (fX9_merge_52 F N n) w l0 l2 l4 l5 l3 0
def fX9_merge_27 (F : Fr) (N : Nat) (w : Wd) (l0 : Nat) (l1 : Int32) (l2 : Int32) (s0 : Nat) (s1 : Int32) : Option (Int32 × Wd) :=
  bnd (sI w 906 s0 s1) fun w1 =>
  if (gI w1 906 l0) ≤ 0 then
  (fX9_mergeTier F N w1 l0 l1).bind fun p3 =>
  fX9_merge_52 F N N p3 l0 l2 0 0 0
  else
  some (0, w1)
def fX9_merge (F : Fr) (N : Nat) (w : Wd) (l0 : Nat) (l1 : Int32) (l2 : Int32) : Option (Int32 × Wd) :=
  (fX9_isTier F N w l0 l1).bind fun x18 =>
  if x18 = 0 then
  fX9_merge_27 F N w l0 l1 l2 l0 1
  else
  (fX9_in F N w l2 0 4).bind fun x20 =>
  if x20 = 0 then
  fX9_merge_27 F N w l0 l1 l2 l0 2
  else
  fX9_merge_27 F N w l0 l1 l2 l0 0
def fX9_merged_64 (F : Fr) (N : Nat) (w : Wd) (l0 : Nat) (l2 : Int32) (l3 : Int32) (s0 : Nat) (s1 : Int32) : Option (Int32 × Wd) :=
  bnd (sI w 906 s0 s1) fun w8 =>
  if (gI w8 906 l0) ≤ 0 then
  if l3 = 0 then
  (rdR F w8 929 l0 11).bind fun r11 =>
  (ldI F w8 r11 l2).bind fun x12 =>
  some (x12, w8)
  else
  if l3 = 1 then
  (rdR F w8 930 l0 11).bind fun r14 =>
  (ldI F w8 r14 l2).bind fun x15 =>
  some (x15, w8)
  else
  if l3 = 2 then
  (rdR F w8 932 l0 11).bind fun r17 =>
  (ldI F w8 r17 l2).bind fun x18 =>
  some (x18, w8)
  else
  (rdR F w8 931 l0 12).bind fun r19 =>
  (ldJ F w8 r19 l2).bind fun x20 =>
  (fX9_lengthOf F N w8 x20).bind fun x21 =>
  some (x21, w8)
  else
  some (0, w8)
def fX9_merged_14 (F : Fr) (N : Nat) (w : Wd) (l0 : Nat) (l1 : Int32) (l2 : Int32) (l3 : Int32) (s0 : Nat) (s1 : Int32) : Option (Int32 × Wd) :=
  bnd (sI w 906 s0 s1) fun w1 =>
  if (gI w1 906 l0) ≤ 0 then
  (fX9_mergeTier F N w1 l0 l1).bind fun p3 =>
  (fX9_in F N p3 l2 0 ((gI p3 933 l0) - 1)).bind fun x4 =>
  if x4 = 0 then
  fX9_merged_64 F N p3 l0 l2 l3 l0 2
  else
  (fX9_in F N p3 l3 0 3).bind fun x6 =>
  if x6 = 0 then
  fX9_merged_64 F N p3 l0 l2 l3 l0 3
  else
  fX9_merged_64 F N p3 l0 l2 l3 l0 0
  else
  some (0, w1)
def fX9_merged (F : Fr) (N : Nat) (w : Wd) (l0 : Nat) (l1 : Int32) (l2 : Int32) (l3 : Int32) : Option (Int32 × Wd) :=
  (fX9_isTier F N w l0 l1).bind fun x22 =>
  if x22 = 0 then
  fX9_merged_14 F N w l0 l1 l2 l3 l0 1
  else
  fX9_merged_14 F N w l0 l1 l2 l3 l0 0
def fX9_layOut_71 (F : Fr) (N : Nat) (k24 : Wd → Nat → Int32 → Int32 → Option (Wd)) (k38 : Wd → Nat → Int32 → Int32 → Int32 → Int32 → Option (Wd)) : Nat → Wd → Nat → Int32 → Int32 → Int32 → Int32 → Int32 → Int32 → Option (Wd)
  | 0, _, _, _, _, _, _, _, _ => none
  | n + 1, w, l0, l1, l2, l3, l4, l5, l6 =>
    (rdR F w 900 l0 12).bind fun r12 =>
    (ldJ F w r12 (l5 + 1)).bind fun x13 =>
    if 0 ≤ (lg_cmp l6.toInt64 x13) then
    k38 w l0 l1 l2 l3 (l4 + 1)
    else
    (rdR F w 936 l0 12).bind fun r15 =>
    (rdR F w 900 l0 12).bind fun r16 =>
    (ldJ F w r16 (l5 + 2)).bind fun x17 =>
    (stJ F w r15 ((1000 * l2) + l6) x17).bind fun w18 =>
    fX9_layOut_71 F N k24 k38 n w18 l0 l1 l2 l3 l4 l5 (l6 + 1)
def fX9_layOut_38 (F : Fr) (N : Nat) (k24 : Wd → Nat → Int32 → Int32 → Option (Wd)) : Nat → Wd → Nat → Int32 → Int32 → Int32 → Int32 → Option (Wd)
  | 0, _, _, _, _, _, _ => none
  | n + 1, w, l0, l1, l2, l3, l4 =>
    (rdR F w 900 l0 12).bind fun r6 =>
    (ldJ F w r6 l3).bind fun x7 =>
    if 0 ≤ (lg_cmp l4.toInt64 x7) then
    k24 w l0 l1 (l2 + 1)
    else
    bnd ((l3 + 1) + (3 * l4)) fun v9 =>
    (rdR F w 900 l0 12).bind fun r10 =>
    (ldJ F w r10 v9).bind fun x11 =>
    fX9_layOut_71 F N k24 (fX9_layOut_38 F N k24 n) N w l0 l1 l2 l3 l4 v9 x11.toInt32
def fX9_layOut_24 (F : Fr) (N : Nat) : Nat → Wd → Nat → Int32 → Int32 → Option (Wd)
  | 0, _, _, _, _ => none
  | n + 1, w, l0, l1, l2 =>
    if 2 ≤ l2 then
    some w
    else
    (fX9_row F N w l2 l1).bind fun x5 =>
    fX9_layOut_38 F N (fX9_layOut_24 F N n) N w l0 l1 l2 x5 0
def fX9_layOut_2 (F : Fr) (N : Nat) : Nat → Wd → Nat → Int32 → Int32 → Option (Wd)
  | 0, _, _, _, _ => none
  | n + 1, w, l0, l1, l2 =>
    if 2000 ≤ l2 then
    fX9_layOut_24 F N N w l0 l1 0
    else
    (rdR F w 936 l0 12).bind fun r2 =>
    (stJ F w r2 l2 0).bind fun w3 =>
    fX9_layOut_2 F N n w3 l0 l1 (l2 + 1)
def fX9_layOut (F : Fr) (N : Nat) (w : Wd) (l0 : Nat) (l1 : Int32) : Option (Wd) :=
  fX9_layOut_2 F N N w l0 l1 0
def fX9_compareFrames_162 (F : Fr) (N : Nat) (k27 : Wd → Nat → Int32 → Option (Wd)) (w : Wd) (l0 : Nat) (l2 : Int32) (s0 : Nat) (s1 : Int32) (s2 : Int32) : Option (Wd) :=
  bnd (sI w 940 s0 (s1 + s2)) fun w17 =>
  k27 w17 l0 (l2 + 1)
def fX9_compareFrames_141 (F : Fr) (N : Nat) (k27 : Wd → Nat → Int32 → Option (Wd)) (w : Wd) (l0 : Nat) (l2 : Int32) (l3 : Int64) (l5 : Int64) (s0 : Nat) (s1 : Int32) (s2 : Int32) : Option (Wd) :=
  bnd (sI w 939 s0 (s1 + s2)) fun w15 =>
  if (lg_cmp l3 l5) = 0 then
  fX9_compareFrames_162 F N k27 w15 l0 l2 l0 (gI w15 940 l0) 1
  else
  fX9_compareFrames_162 F N k27 w15 l0 l2 l0 (gI w15 940 l0) 0
def fX9_compareFrames_136 (F : Fr) (N : Nat) (k27 : Wd → Nat → Int32 → Option (Wd)) (w : Wd) (l0 : Nat) (l2 : Int32) (l3 : Int64) (l5 : Int64) (s0 : Nat) (s1 : Int32) : Option (Wd) :=
  fX9_compareFrames_141 F N k27 w l0 l2 l3 l5 s0 s1 1
def fX9_compareFrames_114 (F : Fr) (N : Nat) (k27 : Wd → Nat → Int32 → Option (Wd)) (w : Wd) (l0 : Nat) (l2 : Int32) (l3 : Int64) (l5 : Int64) (s0 : Nat) (s1 : Int32) (s2 : Int32) : Option (Wd) :=
  bnd (sI w 938 s0 (s1 + s2)) fun w12 =>
  if (lg_cmp l3 0) = 0 then
  if (lg_cmp l5 0) = 0 then
  fX9_compareFrames_141 F N k27 w12 l0 l2 l3 l5 l0 (gI w12 939 l0) 0
  else
  fX9_compareFrames_136 F N k27 w12 l0 l2 l3 l5 l0 (gI w12 939 l0)
  else
  fX9_compareFrames_136 F N k27 w12 l0 l2 l3 l5 l0 (gI w12 939 l0)
def fX9_compareFrames_95 (F : Fr) (N : Nat) (k27 : Wd → Nat → Int32 → Option (Wd)) (w : Wd) (l0 : Nat) (l2 : Int32) (l3 : Int64) (l5 : Int64) (l7 : Int32) (s0 : Nat) (s1 : Int32) (s2 : Int32) : Option (Wd) :=
  bnd (sI w 937 s0 (s1 + s2)) fun w10 =>
  if l7 = 0 then
  fX9_compareFrames_114 F N k27 w10 l0 l2 l3 l5 l0 (gI w10 938 l0) 0
  else
  fX9_compareFrames_114 F N k27 w10 l0 l2 l3 l5 l0 (gI w10 938 l0) 1
def fX9_compareFrames_94 (F : Fr) (N : Nat) (k27 : Wd → Nat → Int32 → Option (Wd)) (w : Wd) (l0 : Nat) (l2 : Int32) (l3 : Int64) (l5 : Int64) (l7 : Int32) (s0 : Nat) (s1 : Int32) : Option (Wd) :=
  fX9_compareFrames_95 F N k27 w l0 l2 l3 l5 l7 s0 s1 0
def fX9_compareFrames_71 (F : Fr) (N : Nat) (k27 : Wd → Nat → Int32 → Option (Wd)) (w : Wd) (l0 : Nat) (l2 : Int32) (l3 : Int64) (l5 : Int64) (s0 : Int32) : Option (Wd) :=
  if s0 = 0 then
  fX9_compareFrames_94 F N k27 w l0 l2 l3 l5 s0 l0 (gI w 937 l0)
  else
  if (lg_cmp l3 l5) = 0 then
  fX9_compareFrames_95 F N k27 w l0 l2 l3 l5 s0 l0 (gI w 937 l0) 1
  else
  fX9_compareFrames_94 F N k27 w l0 l2 l3 l5 s0 l0 (gI w 937 l0)
def fX9_compareFrames_70 (F : Fr) (N : Nat) (k27 : Wd → Nat → Int32 → Option (Wd)) (w : Wd) (l0 : Nat) (l2 : Int32) (l3 : Int64) (l5 : Int64) : Option (Wd) :=
  fX9_compareFrames_71 F N k27 w l0 l2 l3 l5 0
def fX9_compareFrames_27 (F : Fr) (N : Nat) : Nat → Wd → Nat → Int32 → Option (Wd)
  | 0, _, _, _ => none
  | n + 1, w, l0, l2 =>
    if 1000 ≤ l2 then
    some w
    else
    (rdR F w 936 l0 12).bind fun r2 =>
    (ldJ F w r2 l2).bind fun x3 =>
    (rdR F w 936 l0 12).bind fun r4 =>
    (ldJ F w r4 (1000 + l2)).bind fun x5 =>
    if (lg_cmp x3 0) = 0 then
    fX9_compareFrames_70 F N (fX9_compareFrames_27 F N n) w l0 l2 x3 x5
    else
    if (lg_cmp x5 0) = 0 then
    fX9_compareFrames_70 F N (fX9_compareFrames_27 F N n) w l0 l2 x3 x5
    else
    fX9_compareFrames_71 F N (fX9_compareFrames_27 F N n) w l0 l2 x3 x5 1
def fX9_compareFrames (F : Fr) (N : Nat) (w : Wd) (l0 : Nat) (l1 : Int32) : Option (Wd) :=
  (fX9_layOut F N w l0 l1).bind fun p18 =>
  bnd (sI p18 937 l0 0) fun w19 =>
  bnd (sI w19 938 l0 0) fun w20 =>
  bnd (sI w20 939 l0 0) fun w21 =>
  bnd (sI w21 940 l0 0) fun w22 =>
  fX9_compareFrames_27 F N N w22 l0 0
def fX9_frames_27 (F : Fr) (N : Nat) (w : Wd) (l0 : Nat) (l1 : Int32) (l2 : Int32) (s0 : Nat) (s1 : Int32) : Option (Int32 × Wd) :=
  bnd (sI w 906 s0 s1) fun w1 =>
  if (gI w1 906 l0) ≤ 0 then
  if 2 ≤ l2 then
  (fX9_compareFrames F N w1 l0 l1).bind fun p4 =>
  if l2 = 2 then
  some (gI p4 937 l0, p4)
  else
  if l2 = 3 then
  some (gI p4 938 l0, p4)
  else
  some (gI p4 939 l0, p4)
  else
  (fX9_framesOf F N w1 l0 l2 l1).bind fun x7 =>
  some (x7, w1)
  else
  some (0, w1)
def fX9_frames (F : Fr) (N : Nat) (w : Wd) (l0 : Nat) (l1 : Int32) (l2 : Int32) : Option (Int32 × Wd) :=
  (fX9_isTier F N w l0 l1).bind fun x8 =>
  if x8 = 0 then
  fX9_frames_27 F N w l0 l1 l2 l0 1
  else
  (fX9_in F N w l2 0 4).bind fun x10 =>
  if x10 = 0 then
  fX9_frames_27 F N w l0 l1 l2 l0 2
  else
  fX9_frames_27 F N w l0 l1 l2 l0 0
def fX9_agreement_44 (F : Fr) (N : Nat) (w : Wd) (l0 : Nat) (s0 : Nat) (s1 : Int32) : Option (UInt32 × Wd) :=
  bnd (sI w 906 s0 s1) fun w5 =>
  if (gI w5 906 l0) ≤ 0 then
  (nnF (FP.fdiv (FP.i2f (gI w5 937 l0)) (FP.i2f (gI w5 939 l0)))).bind fun v7 =>
  some (v7, w5)
  else
  some (FP.fconst0, w5)
def fX9_agreement_14 (F : Fr) (N : Nat) (w : Wd) (l0 : Nat) (l1 : Int32) (s0 : Nat) (s1 : Int32) : Option (UInt32 × Wd) :=
  bnd (sI w 906 s0 s1) fun w1 =>
  if (gI w1 906 l0) ≤ 0 then
  (fX9_compareFrames F N w1 l0 l1).bind fun p3 =>
  if (gI p3 939 l0) = 0 then
  fX9_agreement_44 F N p3 l0 l0 2
  else
  fX9_agreement_44 F N p3 l0 l0 0
  else
  some (FP.fconst0, w1)
def fX9_agreement (F : Fr) (N : Nat) (w : Wd) (l0 : Nat) (l1 : Int32) : Option (UInt32 × Wd) :=
  (fX9_isTier F N w l0 l1).bind fun x8 =>
  if x8 = 0 then
  fX9_agreement_14 F N w l0 l1 l0 1
  else
  fX9_agreement_14 F N w l0 l1 l0 0
def fX9_labelledAs_82 (F : Fr) (N : Nat) (w : Wd) (k13 : Nat → Int64 → Int32 → Int32 → Int32 → Option (Int32)) (l0 : Nat) (l3 : Int64) (l5 : Int32) (l7 : Int32) (s0 : Int32) (s1 : Int32) : Option (Int32) :=
  bnd (s0 + s1) fun v11 =>
  k13 l0 l3 l5 v11 (l7 + 1)
def fX9_labelledAs_13 (F : Fr) (N : Nat) (w : Wd) : Nat → Nat → Int64 → Int32 → Int32 → Int32 → Option (Int32)
  | 0, _, _, _, _, _ => none
  | n + 1, l0, l3, l5, l6, l7 =>
    (rdR F w 900 l0 12).bind fun r1 =>
    (ldJ F w r1 l5).bind fun x2 =>
    if 0 ≤ (lg_cmp l7.toInt64 x2) then
    some l6
    else
    (rdR F w 900 l0 12).bind fun r4 =>
    (ldJ F w r4 ((l5 + 3) + (3 * l7))).bind fun x5 =>
    if (lg_cmp x5 l3) = 0 then
    (rdR F w 900 l0 12).bind fun r7 =>
    (ldJ F w r7 ((l5 + 2) + (3 * l7))).bind fun x8 =>
    (rdR F w 900 l0 12).bind fun r9 =>
    (ldJ F w r9 ((l5 + 1) + (3 * l7))).bind fun x10 =>
    fX9_labelledAs_82 F N w (fX9_labelledAs_13 F N w n) l0 l3 l5 l7 l6 ((x8 - x10).toInt32)
    else
    fX9_labelledAs_82 F N w (fX9_labelledAs_13 F N w n) l0 l3 l5 l7 l6 0
def fX9_labelledAs (F : Fr) (N : Nat) (w : Wd) (l0 : Nat) (l1 : Int32) (l2 : Int32) (l3 : Int64) : Option (Int32) :=
  (fX9_row F N w l1 l2).bind fun x12 =>
  fX9_labelledAs_13 F N w N l0 l3 x12 0 0
def fX9_products_31 (F : Fr) (N : Nat) (w : Wd) : Nat → Nat → Int32 → Int32 → Int32 → Int32 → Option (Int32)
  | 0, _, _, _, _, _ => none
  | n + 1, l0, l1, l2, l3, l4 =>
    (rdR F w 900 l0 12).bind fun r1 =>
    (ldJ F w r1 l3).bind fun x2 =>
    if 0 ≤ (lg_cmp l4.toInt64 x2) then
    some l2
    else
    (rdR F w 900 l0 12).bind fun r4 =>
    (ldJ F w r4 ((l3 + 2) + (3 * l4))).bind fun x5 =>
    (rdR F w 900 l0 12).bind fun r6 =>
    (ldJ F w r6 ((l3 + 1) + (3 * l4))).bind fun x7 =>
    (rdR F w 900 l0 12).bind fun r8 =>
    (ldJ F w r8 ((l3 + 3) + (3 * l4))).bind fun x9 =>
    (fX9_labelledAs F N w l0 1 l1 x9).bind fun x10 =>
    bnd (l2 + (((x5 - x7).toInt32) * x10)) fun v11 =>
    fX9_products_31 F N w n l0 l1 v11 l3 (l4 + 1)
def fX9_products (F : Fr) (N : Nat) (w : Wd) (l0 : Nat) (l1 : Int32) : Option (Int32) :=
  (fX9_framesOf F N w l0 0 l1).bind fun x12 =>
  (fX9_framesOf F N w l0 1 l1).bind fun x13 =>
  bnd ((1000 - x12) * (1000 - x13)) fun v14 =>
  (fX9_row F N w 0 l1).bind fun x15 =>
  fX9_products_31 F N w N l0 l1 v14 x15 0
def fX9_kappa_45 (F : Fr) (N : Nat) (w : Wd) (l0 : Nat) (l1 : Int32) (l2 : Int32) (s0 : Nat) (s1 : Int32) : Option (UInt64 × Wd) :=
  bnd (sI w 906 s0 s1) fun w5 =>
  if (gI w5 906 l0) ≤ 0 then
  (fX9_compareFrames F N w5 l0 l1).bind fun p7 =>
  (nnD (FP.ddiv (FP.i2d (gI p7 940 l0)) 4652007308841189376)).bind fun v8 =>
  (nnD (FP.ddiv (FP.i2d l2) 4696837146684686336)).bind fun v9 =>
  (nnD (FP.dsub v8 v9)).bind fun v10 =>
  (nnD (FP.dsub FP.dconst1 v9)).bind fun v11 =>
  (nnD (FP.ddiv v10 v11)).bind fun v12 =>
  some (v12, p7)
  else
  some (FP.dconst0, w5)
def fX9_kappa_14 (F : Fr) (N : Nat) (w : Wd) (l0 : Nat) (l1 : Int32) (s0 : Nat) (s1 : Int32) : Option (UInt64 × Wd) :=
  bnd (sI w 906 s0 s1) fun w1 =>
  if (gI w1 906 l0) ≤ 0 then
  (fX9_products F N w1 l0 l1).bind fun x3 =>
  if x3 = 1000000 then
  fX9_kappa_45 F N w1 l0 l1 x3 l0 2
  else
  fX9_kappa_45 F N w1 l0 l1 x3 l0 0
  else
  some (FP.dconst0, w1)
def fX9_kappa (F : Fr) (N : Nat) (w : Wd) (l0 : Nat) (l1 : Int32) : Option (UInt64 × Wd) :=
  (fX9_isTier F N w l0 l1).bind fun x13 =>
  if x13 = 0 then
  fX9_kappa_14 F N w l0 l1 l0 1
  else
  fX9_kappa_14 F N w l0 l1 l0 0
def fX9_isConsistent (F : Fr) (N : Nat) (w : Wd) (l0 : Nat) : Option (Int32 × Wd) :=
  bnd (sI w 906 l0 0) fun w1 =>
  some (1, w1)
def fX9_number_49 (F : Fr) (N : Nat) : Nat → Wd → Nat → Int32 → Int32 → Int32 → Option (Int32 × Wd)
  | 0, _, _, _, _, _ => none
  | n + 1, w, l0, l1, l2, l3 =>
    if l2 ≤ l3 then
    some (l1, w)
    else
    if (gI w 910 l0) = 0 then
    (fX9_here F N w l0).bind fun x8 =>
    (fX9_in F N w x8 48 57).bind fun x9 =>
    if x9 = 0 then
    some (l1, w)
    else
    (fX9_here F N w l0).bind fun x11 =>
    bnd (((10 * l1) + x11) - 48) fun v12 =>
    bnd (sI w 909 l0 ((gI w 909 l0) + 1)) fun w13 =>
    fX9_number_49 F N n w13 l0 v12 l2 (l3 + 1)
    else
    some (l1, w)
def fX9_number_46 (F : Fr) (N : Nat) (w : Wd) (l0 : Nat) (l1 : Int32) (s0 : Int32) : Option (Int32 × Wd) :=
  fX9_number_49 F N N w l0 l1 s0 0
def fX9_number_27 (F : Fr) (N : Nat) (w : Wd) (l0 : Nat) (s0 : Nat) (s1 : Int32) : Option (Int32 × Wd) :=
  (ckZ s1).bind fun _ =>
  bnd (sI w 910 s0 s1) fun w3 =>
  (fX9_here F N w3 l0).bind fun x4 =>
  if x4 = 48 then
  fX9_number_46 F N w3 l0 0 1
  else
  fX9_number_46 F N w3 l0 0 4
def fX9_number_22 (F : Fr) (N : Nat) (w : Wd) (l0 : Nat) (s0 : Nat) : Option (Int32 × Wd) :=
  fX9_number_27 F N w l0 s0 1
def fX9_number (F : Fr) (N : Nat) (w : Wd) (l0 : Nat) : Option (Int32 × Wd) :=
  if (gI w 910 l0) = 0 then
  (fX9_here F N w l0).bind fun x15 =>
  (fX9_in F N w x15 48 57).bind fun x16 =>
  if x16 = 0 then
  fX9_number_22 F N w l0 l0
  else
  fX9_number_27 F N w l0 l0 0
  else
  fX9_number_22 F N w l0 l0
def fX9_readItem_90 (F : Fr) (N : Nat) (w : Wd) (l0 : Nat) (s0 : Nat) (s1 : Int32) (s2 : Nat) (s3 : Int32) : Option (Wd) :=
  (fX9_readLabel F N w s2 s3).bind fun p1 =>
  (stJ F p1.2 s0 s1 p1.1).bind fun w2 =>
  bnd (sI w2 945 l0 ((gI w2 945 l0) + 1)) fun w3 =>
  some w3
def fX9_readItem (F : Fr) (N : Nat) (w : Wd) (l0 : Nat) : Option (Wd) :=
  (rdR F w 941 l0 11).bind fun r4 =>
  (fX9_readTierNumber F N w l0).bind fun p5 =>
  (stI F p5.2 r4 (gI w 945 l0) p5.1).bind fun w6 =>
  (fX9_sign F N w6 l0 58).bind fun p7 =>
  (rdR F p7 942 l0 11).bind fun r8 =>
  (fX9_number F N p7 l0).bind fun p9 =>
  (stI F p9.2 r8 (gI p7 945 l0) p9.1).bind fun w10 =>
  (fX9_sign F N w10 l0 45).bind fun p11 =>
  (rdR F p11 943 l0 11).bind fun r12 =>
  (fX9_number F N p11 l0).bind fun p13 =>
  (stI F p13.2 r12 (gI p11 945 l0) p13.1).bind fun w14 =>
  (fX9_sign F N w14 l0 61).bind fun p15 =>
  (rdR F p15 944 l0 12).bind fun r16 =>
  if (gI p15 910 l0) = 0 then
  (rdR F p15 941 l0 11).bind fun r18 =>
  (ldI F p15 r18 (gI p15 945 l0)).bind fun x19 =>
  (fX9_kind F N p15 l0 x19).bind fun x20 =>
  fX9_readItem_90 F N p15 l0 r16 (gI p15 945 l0) l0 x20
  else
  fX9_readItem_90 F N p15 l0 r16 (gI p15 945 l0) l0 0
def fX9_read_75 (F : Fr) (N : Nat) : Nat → Wd → Nat → Int32 → Option (Int32 × Wd)
  | 0, _, _, _ => none
  | n + 1, w, l0, l1 =>
    if (gI w 945 l0) ≤ l1 then
    (fX9_change F N w l0).bind fun p11 =>
    some (gI p11 945 l0, p11)
    else
    (rdR F w 941 l0 11).bind fun r12 =>
    (ldI F w r12 l1).bind fun x13 =>
    (rdR F w 942 l0 11).bind fun r14 =>
    (ldI F w r14 l1).bind fun x15 =>
    (rdR F w 943 l0 11).bind fun r16 =>
    (ldI F w r16 l1).bind fun x17 =>
    (rdR F w 944 l0 12).bind fun r18 =>
    (ldJ F w r18 l1).bind fun x19 =>
    (fX9_add F N w l0 x13 x15 x17 x19).bind fun p20 =>
    if 0 ≤ p20.1 then
    fX9_read_75 F N n p20.2 l0 (l1 + 1)
    else
    (fX9_putBack F N p20.2 l0).bind fun p22 =>
    bnd (sI p22 946 l0 l1) fun w23 =>
    bnd (sI w23 906 l0 2) fun w24 =>
    some (0, w24)
def fX9_read_57 (F : Fr) (N : Nat) (w : Wd) (l0 : Nat) (s0 : Nat) (s1 : Int32) : Option (Int32 × Wd) :=
  bnd (sI w 906 s0 s1) fun w7 =>
  if (gI w7 906 l0) ≤ 0 then
  (fX9_keepState F N w7 l0).bind fun p9 =>
  fX9_read_75 F N N p9 l0 0
  else
  some (0, w7)
def fX9_read_44 (F : Fr) (N : Nat) (w : Wd) (l0 : Nat) : Option (Int32 × Wd) :=
  (fX9_endText F N w l0).bind fun p5 =>
  if p5.1 = 0 then
  fX9_read_57 F N p5.2 l0 l0 0
  else
  fX9_read_57 F N p5.2 l0 l0 1
def fX9_read_13 (F : Fr) (N : Nat) : Nat → Wd → Nat → Option (Int32 × Wd)
  | 0, _, _ => none
  | n + 1, w, l0 =>
    if (gI w 910 l0) = 0 then
    if (gI w 908 l0) ≤ (gI w 909 l0) then
    fX9_read_44 F N w l0
    else
    (fX9_sign F N w l0 59).bind fun p3 =>
    (fX9_readItem F N p3 l0).bind fun p4 =>
    fX9_read_13 F N n p4 l0
    else
    fX9_read_44 F N w l0
def fX9_read (F : Fr) (N : Nat) (w : Wd) (l0 : Nat) : Option (Int32 × Wd) :=
  (fX9_beginText F N w l0).bind fun p25 =>
  bnd (sI p25 945 l0 0) fun w26 =>
  (fX9_readItem F N w26 l0).bind fun p27 =>
  fX9_read_13 F N N p27 l0
def fX9_errorPosition_13 (F : Fr) (N : Nat) (w : Wd) (l0 : Nat) (s0 : Nat) (s1 : Int32) : Option (Int32 × Wd) :=
  bnd (sI w 906 s0 s1) fun w1 =>
  if (gI w1 906 l0) ≤ 0 then
  some (gI w1 911 l0, w1)
  else
  some (0, w1)
def fX9_errorPosition (F : Fr) (N : Nat) (w : Wd) (l0 : Nat) : Option (Int32 × Wd) :=
  if 0 ≤ (gI w 911 l0) then
  fX9_errorPosition_13 F N w l0 l0 0
  else
  fX9_errorPosition_13 F N w l0 l0 1
def fX9_refusedItem_13 (F : Fr) (N : Nat) (w : Wd) (l0 : Nat) (s0 : Nat) (s1 : Int32) : Option (Int32 × Wd) :=
  bnd (sI w 906 s0 s1) fun w1 =>
  if (gI w1 906 l0) ≤ 0 then
  some (gI w1 946 l0, w1)
  else
  some (0, w1)
def fX9_refusedItem (F : Fr) (N : Nat) (w : Wd) (l0 : Nat) : Option (Int32 × Wd) :=
  if 0 ≤ (gI w 946 l0) then
  fX9_refusedItem_13 F N w l0 l0 0
  else
  fX9_refusedItem_13 F N w l0 l0 1
def fX9_undo_13 (F : Fr) (N : Nat) (w : Wd) (l0 : Nat) (s0 : Nat) (s1 : Int32) : Option (Int32 × Wd) :=
  bnd (sI w 906 s0 s1) fun w1 =>
  if (gI w1 906 l0) ≤ 0 then
  bnd (sI w1 905 l0 ((gI w1 905 l0) - 1)) fun w3 =>
  (rdR F w3 904 l0 12).bind fun r4 =>
  (rdR F w3 900 l0 12).bind fun r5 =>
  (cpJ F w3 r4 (1114 * (gI w3 905 l0)) r5 0 1114).bind fun w6 =>
  some (gI w6 905 l0, w6)
  else
  some (0, w1)
def fX9_undo (F : Fr) (N : Nat) (w : Wd) (l0 : Nat) : Option (Int32 × Wd) :=
  if (gI w 905 l0) = 0 then
  fX9_undo_13 F N w l0 l0 1
  else
  fX9_undo_13 F N w l0 l0 0
def fX9_snapshot (F : Fr) (N : Nat) (w : Wd) (l0 : Nat) : Option (Int32 × Wd) :=
  bnd (sI w 906 l0 0) fun w1 =>
  (rdR F w1 900 l0 12).bind fun r2 =>
  (rdR F w1 902 l0 12).bind fun r3 =>
  (cpJ F w1 r2 0 r3 0 1114).bind fun w4 =>
  bnd (sI w4 903 l0 1) fun w5 =>
  (fX9_tiers F N w5 l0).bind fun x6 =>
  some (x6, w5)
def fX9_restore_13 (F : Fr) (N : Nat) (w : Wd) (l0 : Nat) (s0 : Nat) (s1 : Int32) : Option (Int32 × Wd) :=
  bnd (sI w 906 s0 s1) fun w1 =>
  if (gI w1 906 l0) ≤ 0 then
  (rdR F w1 902 l0 12).bind fun r3 =>
  (rdR F w1 900 l0 12).bind fun r4 =>
  (cpJ F w1 r3 0 r4 0 1114).bind fun w5 =>
  bnd (sI w5 905 l0 0) fun w6 =>
  (fX9_tiers F N w6 l0).bind fun x7 =>
  some (x7, w6)
  else
  some (0, w1)
def fX9_restore (F : Fr) (N : Nat) (w : Wd) (l0 : Nat) : Option (Int32 × Wd) :=
  if (gI w 903 l0) = 0 then
  fX9_restore_13 F N w l0 l0 1
  else
  fX9_restore_13 F N w l0 l0 0
