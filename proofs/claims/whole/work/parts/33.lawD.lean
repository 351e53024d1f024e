def fL_law_2250 (F : Fr) (N L : Nat) (xs : Nat → Int32) (k28 : Nat → Wd → Nat → Nat → Nat → Nat → Int32 → Option Unit) (j : Nat) (w : Wd) (l1 : Nat) (l2 : Nat) (l3 : Nat) (l4 : Nat) (l5 : Int32) : Option Unit :=
  k28 (j + 1) w l1 l2 l3 l4 (l5 + 5)
def fL_law_974 (F : Fr) (N L : Nat) (xs : Nat → Int32) (k28 : Nat → Wd → Nat → Nat → Nat → Nat → Int32 → Option Unit) (j : Nat) (w : Wd) (l1 : Nat) (l2 : Nat) (l3 : Nat) (l4 : Nat) (l5 : Int32) : Option Unit :=
  fL_law_2250 F N L xs k28 j w l1 l2 l3 l4 l5
def fL_law_897 (F : Fr) (N L : Nat) (xs : Nat → Int32) (k28 : Nat → Wd → Nat → Nat → Nat → Nat → Int32 → Option Unit) (j : Nat) (w : Wd) (l1 : Nat) (l2 : Nat) (l3 : Nat) (l4 : Nat) (l5 : Int32) : Option Unit :=
  (ldS L xs (l5 + 1)).bind fun x151 =>
  (ldS L xs (l5 + 2)).bind fun x152 =>
  (ldS L xs (l5 + 3)).bind fun x153 =>
  (fL_split F N w l1 x151 x152 x153 l3).bind fun p154 =>
  (ldS L xs (l5 + 1)).bind fun x155 =>
  (ldS L xs (l5 + 2)).bind fun x156 =>
  (ldS L xs (l5 + 3)).bind fun x157 =>
  (fX9_split F N p154.2 l2 x155 x156 x157).bind fun p158 =>
  (fX9_thrown F N p158.2 l2).bind fun x159 =>
  if x159 = p154.1 then
  if p154.1 = 0 then
  (ldJ F p158.2 l3 0).bind fun x162 =>
  if (lg_cmp x162 p158.1.toInt64) = 0 then
  fL_law_974 F N L xs k28 j p158.2 l1 l2 l3 l4 l5
  else
  none
  else
  fL_law_974 F N L xs k28 j p158.2 l1 l2 l3 l4 l5
  else
  none
def fL_law_2001 (F : Fr) (N L : Nat) (xs : Nat → Int32) (k28 : Nat → Wd → Nat → Nat → Nat → Nat → Int32 → Option Unit) (j : Nat) (w : Wd) (l1 : Nat) (l2 : Nat) (l3 : Nat) (l4 : Nat) (l5 : Int32) : Option Unit :=
  fL_law_2250 F N L xs k28 j w l1 l2 l3 l4 l5
def fL_law_1927 (F : Fr) (N L : Nat) (xs : Nat → Int32) (k28 : Nat → Wd → Nat → Nat → Nat → Nat → Int32 → Option Unit) (j : Nat) (w : Wd) (l1 : Nat) (l2 : Nat) (l3 : Nat) (l4 : Nat) (l5 : Int32) : Option Unit :=
  (ldS L xs (l5 + 1)).bind fun x318 =>
  (fL_kappa F N w l1 x318 l4).bind fun p319 =>
  (ldS L xs (l5 + 1)).bind fun x320 =>
  (fX9_kappa F N p319.2 l2 x320).bind fun p321 =>
  (fX9_thrown F N p321.2 l2).bind fun x322 =>
  if x322 = p319.1 then
  if p319.1 = 0 then
  (ldD F p321.2 l4 0).bind fun x325 =>
  if (Op.cmpValue (FP.dcmp x325 p321.1) .l) = 0 then
  fL_law_2001 F N L xs k28 j p321.2 l1 l2 l3 l4 l5
  else
  (ldD F p321.2 l4 0).bind fun x327 =>
  (ldD F p321.2 l4 0).bind fun x328 =>
  if (Op.cmpValue (FP.dcmp x327 x328) .l) = 0 then
  none
  else
  if (Op.cmpValue (FP.dcmp p321.1 p321.1) .l) = 0 then
  none
  else
  fL_law_2001 F N L xs k28 j p321.2 l1 l2 l3 l4 l5
  else
  fL_law_2001 F N L xs k28 j p321.2 l1 l2 l3 l4 l5
  else
  none
def fL_law_2102 (F : Fr) (N L : Nat) (xs : Nat → Int32) (k28 : Nat → Wd → Nat → Nat → Nat → Nat → Int32 → Option Unit) (j : Nat) (w : Wd) (l1 : Nat) (l2 : Nat) (l3 : Nat) (l4 : Nat) (l5 : Int32) : Option Unit :=
  fL_law_2250 F N L xs k28 j w l1 l2 l3 l4 l5
def fL_law_2061 (F : Fr) (N L : Nat) (xs : Nat → Int32) (k28 : Nat → Wd → Nat → Nat → Nat → Nat → Int32 → Option Unit) (j : Nat) (w : Wd) (l1 : Nat) (l2 : Nat) (l3 : Nat) (l4 : Nat) (l5 : Int32) : Option Unit :=
  (fL_errorPosition F N w l1 l3).bind fun p341 =>
  (fX9_errorPosition F N p341.2 l2).bind fun p342 =>
  (fX9_thrown F N p342.2 l2).bind fun x343 =>
  if x343 = p341.1 then
  if p341.1 = 0 then
  (ldJ F p342.2 l3 0).bind fun x346 =>
  if (lg_cmp x346 p342.1.toInt64) = 0 then
  fL_law_2102 F N L xs k28 j p342.2 l1 l2 l3 l4 l5
  else
  none
  else
  fL_law_2102 F N L xs k28 j p342.2 l1 l2 l3 l4 l5
  else
  none
def fL_law_1518 (F : Fr) (N L : Nat) (xs : Nat → Int32) (k28 : Nat → Wd → Nat → Nat → Nat → Nat → Int32 → Option Unit) (j : Nat) (w : Wd) (l1 : Nat) (l2 : Nat) (l3 : Nat) (l4 : Nat) (l5 : Int32) : Option Unit :=
  fL_law_2250 F N L xs k28 j w l1 l2 l3 l4 l5
def fL_law_1485 (F : Fr) (N L : Nat) (xs : Nat → Int32) (k28 : Nat → Wd → Nat → Nat → Nat → Nat → Int32 → Option Unit) (j : Nat) (w : Wd) (l1 : Nat) (l2 : Nat) (l3 : Nat) (l4 : Nat) (l5 : Int32) (l6 : Int32) (s0 : Nat) (s1 : Int32) (s2 : Int32) (s3 : Int32) : Option Unit :=
  (fX9_alignment F N w s0 s1 s2 s3).bind fun p245 =>
  (fX9_thrown F N p245.2 l2).bind fun x246 =>
  if x246 = l6 then
  if l6 = 0 then
  (ldJ F p245.2 l3 0).bind fun x249 =>
  if (lg_cmp x249 p245.1.toInt64) = 0 then
  fL_law_1518 F N L xs k28 j p245.2 l1 l2 l3 l4 l5
  else
  none
  else
  fL_law_1518 F N L xs k28 j p245.2 l1 l2 l3 l4 l5
  else
  none
def fL_law_1452 (F : Fr) (N L : Nat) (xs : Nat → Int32) (k28 : Nat → Wd → Nat → Nat → Nat → Nat → Int32 → Option Unit) (j : Nat) (w : Wd) (l1 : Nat) (l2 : Nat) (l3 : Nat) (l4 : Nat) (l5 : Int32) (s0 : Nat) (s1 : Int32) (s2 : Int32) (s3 : Int32) : Option Unit :=
  (fL_alignment F N w s0 s1 s2 s3 l3).bind fun p240 =>
  (ldS L xs (l5 + 1)).bind fun x241 =>
  (ldS L xs (l5 + 2)).bind fun x242 =>
  (ldS L xs (l5 + 3)).bind fun x243 =>
  if x243 = 0 then
  fL_law_1485 F N L xs k28 j p240.2 l1 l2 l3 l4 l5 p240.1 l2 x241 x242 0
  else
  fL_law_1485 F N L xs k28 j p240.2 l1 l2 l3 l4 l5 p240.1 l2 x241 x242 1
def fL_law_1425 (F : Fr) (N L : Nat) (xs : Nat → Int32) (k28 : Nat → Wd → Nat → Nat → Nat → Nat → Int32 → Option Unit) (j : Nat) (w : Wd) (l1 : Nat) (l2 : Nat) (l3 : Nat) (l4 : Nat) (l5 : Int32) : Option Unit :=
  (ldS L xs (l5 + 1)).bind fun x236 =>
  (ldS L xs (l5 + 2)).bind fun x237 =>
  (ldS L xs (l5 + 3)).bind fun x238 =>
  if x238 = 0 then
  fL_law_1452 F N L xs k28 j w l1 l2 l3 l4 l5 l1 x236 x237 0
  else
  fL_law_1452 F N L xs k28 j w l1 l2 l3 l4 l5 l1 x236 x237 1
def fL_law_2193 (F : Fr) (N L : Nat) (xs : Nat → Int32) (k28 : Nat → Wd → Nat → Nat → Nat → Nat → Int32 → Option Unit) (j : Nat) (w : Wd) (l1 : Nat) (l2 : Nat) (l3 : Nat) (l4 : Nat) (l5 : Int32) : Option Unit :=
  (fX8_snapshot F N w l1).bind fun p362 =>
  (fX9_snapshot F N p362.2 l2).bind fun p363 =>
  if p362.1 = p363.1 then
  fL_law_2250 F N L xs k28 j p363.2 l1 l2 l3 l4 l5
  else
  none
def fL_law_586 (F : Fr) (N L : Nat) (xs : Nat → Int32) (k28 : Nat → Wd → Nat → Nat → Nat → Nat → Int32 → Option Unit) (j : Nat) (w : Wd) (l1 : Nat) (l2 : Nat) (l3 : Nat) (l4 : Nat) (l5 : Int32) : Option Unit :=
  fL_law_2250 F N L xs k28 j w l1 l2 l3 l4 l5
def fL_law_533 (F : Fr) (N L : Nat) (xs : Nat → Int32) (k28 : Nat → Wd → Nat → Nat → Nat → Nat → Int32 → Option Unit) (j : Nat) (w : Wd) (l1 : Nat) (l2 : Nat) (l3 : Nat) (l4 : Nat) (l5 : Int32) : Option Unit :=
  (ldS L xs (l5 + 1)).bind fun x92 =>
  (fL_append F N w l1 x92 l3).bind fun p93 =>
  (ldS L xs (l5 + 1)).bind fun x94 =>
  (fX9_append F N p93.2 l2 x94).bind fun p95 =>
  (fX9_thrown F N p95.2 l2).bind fun x96 =>
  if x96 = p93.1 then
  if p93.1 = 0 then
  (ldJ F p95.2 l3 0).bind fun x99 =>
  if (lg_cmp x99 p95.1.toInt64) = 0 then
  fL_law_586 F N L xs k28 j p95.2 l1 l2 l3 l4 l5
  else
  none
  else
  fL_law_586 F N L xs k28 j p95.2 l1 l2 l3 l4 l5
  else
  none
def fL_law_1122 (F : Fr) (N L : Nat) (xs : Nat → Int32) (k28 : Nat → Wd → Nat → Nat → Nat → Nat → Int32 → Option Unit) (j : Nat) (w : Wd) (l1 : Nat) (l2 : Nat) (l3 : Nat) (l4 : Nat) (l5 : Int32) : Option Unit :=
  fL_law_2250 F N L xs k28 j w l1 l2 l3 l4 l5
def fL_law_1045 (F : Fr) (N L : Nat) (xs : Nat → Int32) (k28 : Nat → Wd → Nat → Nat → Nat → Nat → Int32 → Option Unit) (j : Nat) (w : Wd) (l1 : Nat) (l2 : Nat) (l3 : Nat) (l4 : Nat) (l5 : Int32) : Option Unit :=
  (ldS L xs (l5 + 1)).bind fun x175 =>
  (ldS L xs (l5 + 2)).bind fun x176 =>
  (ldS L xs (l5 + 3)).bind fun x177 =>
  (fL_span F N w l1 x175 x176 x177 l3).bind fun p178 =>
  (ldS L xs (l5 + 1)).bind fun x179 =>
  (ldS L xs (l5 + 2)).bind fun x180 =>
  (ldS L xs (l5 + 3)).bind fun x181 =>
  (fX9_span F N p178.2 l2 x179 x180 x181).bind fun p182 =>
  (fX9_thrown F N p182.2 l2).bind fun x183 =>
  if x183 = p178.1 then
  if p178.1 = 0 then
  (ldJ F p182.2 l3 0).bind fun x186 =>
  if (lg_cmp x186 p182.1.toInt64) = 0 then
  fL_law_1122 F N L xs k28 j p182.2 l1 l2 l3 l4 l5
  else
  none
  else
  fL_law_1122 F N L xs k28 j p182.2 l1 l2 l3 l4 l5
  else
  none
def fL_law_474 (F : Fr) (N L : Nat) (xs : Nat → Int32) (k28 : Nat → Wd → Nat → Nat → Nat → Nat → Int32 → Option Unit) (j : Nat) (w : Wd) (l1 : Nat) (l2 : Nat) (l3 : Nat) (l4 : Nat) (l5 : Int32) : Option Unit :=
  fL_law_2250 F N L xs k28 j w l1 l2 l3 l4 l5
def fL_law_409 (F : Fr) (N L : Nat) (xs : Nat → Int32) (k28 : Nat → Wd → Nat → Nat → Nat → Nat → Int32 → Option Unit) (j : Nat) (w : Wd) (l1 : Nat) (l2 : Nat) (l3 : Nat) (l4 : Nat) (l5 : Int32) : Option Unit :=
  (ldS L xs (l5 + 1)).bind fun x72 =>
  (ldS L xs (l5 + 2)).bind fun x73 =>
  (fL_tier F N w l1 x72 x73 l3).bind fun p74 =>
  (ldS L xs (l5 + 1)).bind fun x75 =>
  (ldS L xs (l5 + 2)).bind fun x76 =>
  (fX9_tier F N p74.2 l2 x75 x76).bind fun p77 =>
  (fX9_thrown F N p77.2 l2).bind fun x78 =>
  if x78 = p74.1 then
  if p74.1 = 0 then
  (ldJ F p77.2 l3 0).bind fun x81 =>
  if (lg_cmp x81 p77.1.toInt64) = 0 then
  fL_law_474 F N L xs k28 j p77.2 l1 l2 l3 l4 l5
  else
  none
  else
  fL_law_474 F N L xs k28 j p77.2 l1 l2 l3 l4 l5
  else
  none
def fL_law_734 (F : Fr) (N L : Nat) (xs : Nat → Int32) (k28 : Nat → Wd → Nat → Nat → Nat → Nat → Int32 → Option Unit) (j : Nat) (w : Wd) (l1 : Nat) (l2 : Nat) (l3 : Nat) (l4 : Nat) (l5 : Int32) : Option Unit :=
  fL_law_2250 F N L xs k28 j w l1 l2 l3 l4 l5
def fL_law_669 (F : Fr) (N L : Nat) (xs : Nat → Int32) (k28 : Nat → Wd → Nat → Nat → Nat → Nat → Int32 → Option Unit) (j : Nat) (w : Wd) (l1 : Nat) (l2 : Nat) (l3 : Nat) (l4 : Nat) (l5 : Int32) : Option Unit :=
  (ldS L xs (l5 + 1)).bind fun x114 =>
  (ldS L xs (l5 + 2)).bind fun x115 =>
  (fL_removeSpan F N w l1 x114 x115 l3).bind fun p116 =>
  (ldS L xs (l5 + 1)).bind fun x117 =>
  (ldS L xs (l5 + 2)).bind fun x118 =>
  (fX9_removeSpan F N p116.2 l2 x117 x118).bind fun p119 =>
  (fX9_thrown F N p119.2 l2).bind fun x120 =>
  if x120 = p116.1 then
  if p116.1 = 0 then
  (ldJ F p119.2 l3 0).bind fun x123 =>
  if (lg_cmp x123 p119.1.toInt64) = 0 then
  fL_law_734 F N L xs k28 j p119.2 l1 l2 l3 l4 l5
  else
  none
  else
  fL_law_734 F N L xs k28 j p119.2 l1 l2 l3 l4 l5
  else
  none
def fL_law_338 (F : Fr) (N L : Nat) (xs : Nat → Int32) (k28 : Nat → Wd → Nat → Nat → Nat → Nat → Int32 → Option Unit) (j : Nat) (w : Wd) (l1 : Nat) (l2 : Nat) (l3 : Nat) (l4 : Nat) (l5 : Int32) : Option Unit :=
  fL_law_2250 F N L xs k28 j w l1 l2 l3 l4 l5
def fL_law_285 (F : Fr) (N L : Nat) (xs : Nat → Int32) (k28 : Nat → Wd → Nat → Nat → Nat → Nat → Int32 → Option Unit) (j : Nat) (w : Wd) (l1 : Nat) (l2 : Nat) (l3 : Nat) (l4 : Nat) (l5 : Int32) : Option Unit :=
  (ldS L xs (l5 + 1)).bind fun x52 =>
  (fL_select F N w l1 x52 l3).bind fun p53 =>
  (ldS L xs (l5 + 1)).bind fun x54 =>
  (fX9_select F N p53.2 l2 x54).bind fun p55 =>
  (fX9_thrown F N p55.2 l2).bind fun x56 =>
  if x56 = p53.1 then
  if p53.1 = 0 then
  (ldJ F p55.2 l3 0).bind fun x59 =>
  if (lg_cmp x59 p55.1.toInt64) = 0 then
  fL_law_338 F N L xs k28 j p55.2 l1 l2 l3 l4 l5
  else
  none
  else
  fL_law_338 F N L xs k28 j p55.2 l1 l2 l3 l4 l5
  else
  none
def fL_law_1630 (F : Fr) (N L : Nat) (xs : Nat → Int32) (k28 : Nat → Wd → Nat → Nat → Nat → Nat → Int32 → Option Unit) (j : Nat) (w : Wd) (l1 : Nat) (l2 : Nat) (l3 : Nat) (l4 : Nat) (l5 : Int32) : Option Unit :=
  fL_law_2250 F N L xs k28 j w l1 l2 l3 l4 l5
def fL_law_1565 (F : Fr) (N L : Nat) (xs : Nat → Int32) (k28 : Nat → Wd → Nat → Nat → Nat → Nat → Int32 → Option Unit) (j : Nat) (w : Wd) (l1 : Nat) (l2 : Nat) (l3 : Nat) (l4 : Nat) (l5 : Int32) : Option Unit :=
  (ldS L xs (l5 + 1)).bind fun x258 =>
  (ldS L xs (l5 + 2)).bind fun x259 =>
  (fL_match F N w l1 x258 x259 l3).bind fun p260 =>
  (ldS L xs (l5 + 1)).bind fun x261 =>
  (ldS L xs (l5 + 2)).bind fun x262 =>
  (fX9_match_ F N p260.2 l2 x261 x262).bind fun p263 =>
  (fX9_thrown F N p263.2 l2).bind fun x264 =>
  if x264 = p260.1 then
  if p260.1 = 0 then
  (ldJ F p263.2 l3 0).bind fun x267 =>
  if (lg_cmp x267 p263.1.toInt64) = 0 then
  fL_law_1630 F N L xs k28 j p263.2 l1 l2 l3 l4 l5
  else
  none
  else
  fL_law_1630 F N L xs k28 j p263.2 l1 l2 l3 l4 l5
  else
  none
def fL_law_2247 (F : Fr) (N L : Nat) (xs : Nat → Int32) (k28 : Nat → Wd → Nat → Nat → Nat → Nat → Int32 → Option Unit) (j : Nat) (w : Wd) (l1 : Nat) (l2 : Nat) (l3 : Nat) (l4 : Nat) (l5 : Int32) : Option Unit :=
  fL_law_2250 F N L xs k28 j w l1 l2 l3 l4 l5
def fL_law_2206 (F : Fr) (N L : Nat) (xs : Nat → Int32) (k28 : Nat → Wd → Nat → Nat → Nat → Nat → Int32 → Option Unit) (j : Nat) (w : Wd) (l1 : Nat) (l2 : Nat) (l3 : Nat) (l4 : Nat) (l5 : Int32) : Option Unit :=
  (fL_restore F N w l1 l3).bind fun p365 =>
  (fX9_restore F N p365.2 l2).bind fun p366 =>
  (fX9_thrown F N p366.2 l2).bind fun x367 =>
  if x367 = p365.1 then
  if p365.1 = 0 then
  (ldJ F p366.2 l3 0).bind fun x370 =>
  if (lg_cmp x370 p366.1.toInt64) = 0 then
  fL_law_2247 F N L xs k28 j p366.2 l1 l2 l3 l4 l5
  else
  none
  else
  fL_law_2247 F N L xs k28 j p366.2 l1 l2 l3 l4 l5
  else
  none
def fL_law_1778 (F : Fr) (N L : Nat) (xs : Nat → Int32) (k28 : Nat → Wd → Nat → Nat → Nat → Nat → Int32 → Option Unit) (j : Nat) (w : Wd) (l1 : Nat) (l2 : Nat) (l3 : Nat) (l4 : Nat) (l5 : Int32) : Option Unit :=
  fL_law_2250 F N L xs k28 j w l1 l2 l3 l4 l5
def fL_law_1701 (F : Fr) (N L : Nat) (xs : Nat → Int32) (k28 : Nat → Wd → Nat → Nat → Nat → Nat → Int32 → Option Unit) (j : Nat) (w : Wd) (l1 : Nat) (l2 : Nat) (l3 : Nat) (l4 : Nat) (l5 : Int32) : Option Unit :=
  (ldS L xs (l5 + 1)).bind fun x280 =>
  (ldS L xs (l5 + 2)).bind fun x281 =>
  (ldS L xs (l5 + 3)).bind fun x282 =>
  (fL_merged F N w l1 x280 x281 x282 l3).bind fun p283 =>
  (ldS L xs (l5 + 1)).bind fun x284 =>
  (ldS L xs (l5 + 2)).bind fun x285 =>
  (ldS L xs (l5 + 3)).bind fun x286 =>
  (fX9_merged F N p283.2 l2 x284 x285 x286).bind fun p287 =>
  (fX9_thrown F N p287.2 l2).bind fun x288 =>
  if x288 = p283.1 then
  if p283.1 = 0 then
  (ldJ F p287.2 l3 0).bind fun x291 =>
  if (lg_cmp x291 p287.1.toInt64) = 0 then
  fL_law_1778 F N L xs k28 j p287.2 l1 l2 l3 l4 l5
  else
  none
  else
  fL_law_1778 F N L xs k28 j p287.2 l1 l2 l3 l4 l5
  else
  none
def fL_law_1270 (F : Fr) (N L : Nat) (xs : Nat → Int32) (k28 : Nat → Wd → Nat → Nat → Nat → Nat → Int32 → Option Unit) (j : Nat) (w : Wd) (l1 : Nat) (l2 : Nat) (l3 : Nat) (l4 : Nat) (l5 : Int32) : Option Unit :=
  fL_law_2250 F N L xs k28 j w l1 l2 l3 l4 l5
def fL_law_1205 (F : Fr) (N L : Nat) (xs : Nat → Int32) (k28 : Nat → Wd → Nat → Nat → Nat → Nat → Int32 → Option Unit) (j : Nat) (w : Wd) (l1 : Nat) (l2 : Nat) (l3 : Nat) (l4 : Nat) (l5 : Int32) : Option Unit :=
  (ldS L xs (l5 + 1)).bind fun x201 =>
  (ldS L xs (l5 + 2)).bind fun x202 =>
  (fL_spanAt F N w l1 x201 x202 l3).bind fun p203 =>
  (ldS L xs (l5 + 1)).bind fun x204 =>
  (ldS L xs (l5 + 2)).bind fun x205 =>
  (fX9_spanAt F N p203.2 l2 x204 x205).bind fun p206 =>
  (fX9_thrown F N p206.2 l2).bind fun x207 =>
  if x207 = p203.1 then
  if p203.1 = 0 then
  (ldJ F p206.2 l3 0).bind fun x210 =>
  if (lg_cmp x210 p206.1.toInt64) = 0 then
  fL_law_1270 F N L xs k28 j p206.2 l1 l2 l3 l4 l5
  else
  none
  else
  fL_law_1270 F N L xs k28 j p206.2 l1 l2 l3 l4 l5
  else
  none
def fL_law_1924 (F : Fr) (N L : Nat) (xs : Nat → Int32) (k28 : Nat → Wd → Nat → Nat → Nat → Nat → Int32 → Option Unit) (j : Nat) (w : Wd) (l1 : Nat) (l2 : Nat) (l3 : Nat) (l4 : Nat) (l5 : Int32) : Option Unit :=
  fL_law_2250 F N L xs k28 j w l1 l2 l3 l4 l5
def fL_law_1849 (F : Fr) (N L : Nat) (xs : Nat → Int32) (k28 : Nat → Wd → Nat → Nat → Nat → Nat → Int32 → Option Unit) (j : Nat) (w : Wd) (l1 : Nat) (l2 : Nat) (l3 : Nat) (l4 : Nat) (l5 : Int32) : Option Unit :=
  (ldS L xs (l5 + 1)).bind fun x304 =>
  (fL_agreement F N w l1 x304 l4).bind fun p305 =>
  (ldS L xs (l5 + 1)).bind fun x306 =>
  (fX9_agreement F N p305.2 l2 x306).bind fun p307 =>
  (fX9_thrown F N p307.2 l2).bind fun x308 =>
  if x308 = p305.1 then
  if p305.1 = 0 then
  (ldD F p307.2 l4 0).bind fun x311 =>
  (nnD (FP.f2d p307.1)).bind fun v312 =>
  if (Op.cmpValue (FP.dcmp x311 v312) .l) = 0 then
  fL_law_1924 F N L xs k28 j p307.2 l1 l2 l3 l4 l5
  else
  (ldD F p307.2 l4 0).bind fun x314 =>
  (ldD F p307.2 l4 0).bind fun x315 =>
  if (Op.cmpValue (FP.dcmp x314 x315) .l) = 0 then
  none
  else
  if (Op.cmpValue (FP.fcmp p307.1 p307.1) .l) = 0 then
  none
  else
  fL_law_1924 F N L xs k28 j p307.2 l1 l2 l3 l4 l5
  else
  fL_law_1924 F N L xs k28 j p307.2 l1 l2 l3 l4 l5
  else
  none
def fL_law_2146 (F : Fr) (N L : Nat) (xs : Nat → Int32) (k28 : Nat → Wd → Nat → Nat → Nat → Nat → Int32 → Option Unit) (j : Nat) (w : Wd) (l1 : Nat) (l2 : Nat) (l3 : Nat) (l4 : Nat) (l5 : Int32) : Option Unit :=
  fL_law_2250 F N L xs k28 j w l1 l2 l3 l4 l5
def fL_law_2105 (F : Fr) (N L : Nat) (xs : Nat → Int32) (k28 : Nat → Wd → Nat → Nat → Nat → Nat → Int32 → Option Unit) (j : Nat) (w : Wd) (l1 : Nat) (l2 : Nat) (l3 : Nat) (l4 : Nat) (l5 : Int32) : Option Unit :=
  (fL_refusedItem F N w l1 l3).bind fun p348 =>
  (fX9_refusedItem F N p348.2 l2).bind fun p349 =>
  (fX9_thrown F N p349.2 l2).bind fun x350 =>
  if x350 = p348.1 then
  if p348.1 = 0 then
  (ldJ F p349.2 l3 0).bind fun x353 =>
  if (lg_cmp x353 p349.1.toInt64) = 0 then
  fL_law_2146 F N L xs k28 j p349.2 l1 l2 l3 l4 l5
  else
  none
  else
  fL_law_2146 F N L xs k28 j p349.2 l1 l2 l3 l4 l5
  else
  none
def fL_law_894 (F : Fr) (N L : Nat) (xs : Nat → Int32) (k28 : Nat → Wd → Nat → Nat → Nat → Nat → Int32 → Option Unit) (j : Nat) (w : Wd) (l1 : Nat) (l2 : Nat) (l3 : Nat) (l4 : Nat) (l5 : Int32) : Option Unit :=
  fL_law_2250 F N L xs k28 j w l1 l2 l3 l4 l5
def fL_law_829 (F : Fr) (N L : Nat) (xs : Nat → Int32) (k28 : Nat → Wd → Nat → Nat → Nat → Nat → Int32 → Option Unit) (j : Nat) (w : Wd) (l1 : Nat) (l2 : Nat) (l3 : Nat) (l4 : Nat) (l5 : Int32) : Option Unit :=
  (ldS L xs (l5 + 1)).bind fun x140 =>
  (ldS L xs (l5 + 2)).bind fun x141 =>
  (fL_rename F N w l1 x140 x141 l3).bind fun p142 =>
  (ldS L xs (l5 + 1)).bind fun x143 =>
  (ldS L xs (l5 + 2)).bind fun x144 =>
  (fX9_rename F N p142.2 l2 x143 x144).bind fun p145 =>
  (fX9_thrown F N p145.2 l2).bind fun x146 =>
  if x146 = p142.1 then
  if p142.1 = 0 then
  (ldJ F p145.2 l3 0).bind fun x149 =>
  if (lg_cmp x149 p145.1.toInt64) = 0 then
  fL_law_894 F N L xs k28 j p145.2 l1 l2 l3 l4 l5
  else
  none
  else
  fL_law_894 F N L xs k28 j p145.2 l1 l2 l3 l4 l5
  else
  none
def fL_law_192 (F : Fr) (N L : Nat) (xs : Nat → Int32) (k28 : Nat → Wd → Nat → Nat → Nat → Nat → Int32 → Option Unit) (j : Nat) (w : Wd) (l1 : Nat) (l2 : Nat) (l3 : Nat) (l4 : Nat) (l5 : Int32) : Option Unit :=
  (fX8_clear F N w l1).bind fun p36 =>
  (fX9_clear F N p36.2 l2).bind fun p37 =>
  if p36.1 = p37.1 then
  fL_law_2250 F N L xs k28 j p37.2 l1 l2 l3 l4 l5
  else
  none
def fL_law_1422 (F : Fr) (N L : Nat) (xs : Nat → Int32) (k28 : Nat → Wd → Nat → Nat → Nat → Nat → Int32 → Option Unit) (j : Nat) (w : Wd) (l1 : Nat) (l2 : Nat) (l3 : Nat) (l4 : Nat) (l5 : Int32) : Option Unit :=
  fL_law_2250 F N L xs k28 j w l1 l2 l3 l4 l5
def fL_law_1345 (F : Fr) (N L : Nat) (xs : Nat → Int32) (k28 : Nat → Wd → Nat → Nat → Nat → Nat → Int32 → Option Unit) (j : Nat) (w : Wd) (l1 : Nat) (l2 : Nat) (l3 : Nat) (l4 : Nat) (l5 : Int32) : Option Unit :=
  (ldS L xs (l5 + 1)).bind fun x223 =>
  (ldS L xs (l5 + 2)).bind fun x224 =>
  (ldS L xs (l5 + 3)).bind fun x225 =>
  (fL_aligned F N w l1 x223 x224 x225 l3).bind fun p226 =>
  (ldS L xs (l5 + 1)).bind fun x227 =>
  (ldS L xs (l5 + 2)).bind fun x228 =>
  (ldS L xs (l5 + 3)).bind fun x229 =>
  (fX9_aligned F N p226.2 l2 x227 x228 x229).bind fun p230 =>
  (fX9_thrown F N p230.2 l2).bind fun x231 =>
  if x231 = p226.1 then
  if p226.1 = 0 then
  (ldJ F p230.2 l3 0).bind fun x234 =>
  if (lg_cmp x234 p230.1.toInt64) = 0 then
  fL_law_1422 F N L xs k28 j p230.2 l1 l2 l3 l4 l5
  else
  none
  else
  fL_law_1422 F N L xs k28 j p230.2 l1 l2 l3 l4 l5
  else
  none
def fL_law_282 (F : Fr) (N L : Nat) (xs : Nat → Int32) (k28 : Nat → Wd → Nat → Nat → Nat → Nat → Int32 → Option Unit) (j : Nat) (w : Wd) (l1 : Nat) (l2 : Nat) (l3 : Nat) (l4 : Nat) (l5 : Int32) : Option Unit :=
  fL_law_2250 F N L xs k28 j w l1 l2 l3 l4 l5
def fL_law_205 (F : Fr) (N L : Nat) (xs : Nat → Int32) (k28 : Nat → Wd → Nat → Nat → Nat → Nat → Int32 → Option Unit) (j : Nat) (w : Wd) (l1 : Nat) (l2 : Nat) (l3 : Nat) (l4 : Nat) (l5 : Int32) : Option Unit :=
  (ldS L xs (l5 + 1)).bind fun x39 =>
  (ldS L xs (l5 + 2)).bind fun x40 =>
  (ldS L xs (l5 + 3)).bind fun x41 =>
  (fL_addTier F N w l1 x39 x40 x41 l3).bind fun p42 =>
  (ldS L xs (l5 + 1)).bind fun x43 =>
  (ldS L xs (l5 + 2)).bind fun x44 =>
  (ldS L xs (l5 + 3)).bind fun x45 =>
  (fX9_addTier F N p42.2 l2 x43 x44 x45).bind fun p46 =>
  (fX9_thrown F N p46.2 l2).bind fun x47 =>
  if x47 = p42.1 then
  if p42.1 = 0 then
  (ldJ F p46.2 l3 0).bind fun x50 =>
  if (lg_cmp x50 p46.1.toInt64) = 0 then
  fL_law_282 F N L xs k28 j p46.2 l1 l2 l3 l4 l5
  else
  none
  else
  fL_law_282 F N L xs k28 j p46.2 l1 l2 l3 l4 l5
  else
  none
def fL_law_666 (F : Fr) (N L : Nat) (xs : Nat → Int32) (k28 : Nat → Wd → Nat → Nat → Nat → Nat → Int32 → Option Unit) (j : Nat) (w : Wd) (l1 : Nat) (l2 : Nat) (l3 : Nat) (l4 : Nat) (l5 : Int32) : Option Unit :=
  fL_law_2250 F N L xs k28 j w l1 l2 l3 l4 l5
def fL_law_589 (F : Fr) (N L : Nat) (xs : Nat → Int32) (k28 : Nat → Wd → Nat → Nat → Nat → Nat → Int32 → Option Unit) (j : Nat) (w : Wd) (l1 : Nat) (l2 : Nat) (l3 : Nat) (l4 : Nat) (l5 : Int32) : Option Unit :=
  (ldS L xs (l5 + 1)).bind fun x101 =>
  (ldS L xs (l5 + 2)).bind fun x102 =>
  (ldS L xs (l5 + 3)).bind fun x103 =>
  (fL_addSpan F N w l1 x101 x102 x103 l3).bind fun p104 =>
  (ldS L xs (l5 + 1)).bind fun x105 =>
  (ldS L xs (l5 + 2)).bind fun x106 =>
  (ldS L xs (l5 + 3)).bind fun x107 =>
  (fX9_addSpan F N p104.2 l2 x105 x106 x107).bind fun p108 =>
  (fX9_thrown F N p108.2 l2).bind fun x109 =>
  if x109 = p104.1 then
  if p104.1 = 0 then
  (ldJ F p108.2 l3 0).bind fun x112 =>
  if (lg_cmp x112 p108.1.toInt64) = 0 then
  fL_law_666 F N L xs k28 j p108.2 l1 l2 l3 l4 l5
  else
  none
  else
  fL_law_666 F N L xs k28 j p108.2 l1 l2 l3 l4 l5
  else
  none
def fL_law_1042 (F : Fr) (N L : Nat) (xs : Nat → Int32) (k28 : Nat → Wd → Nat → Nat → Nat → Nat → Int32 → Option Unit) (j : Nat) (w : Wd) (l1 : Nat) (l2 : Nat) (l3 : Nat) (l4 : Nat) (l5 : Int32) : Option Unit :=
  fL_law_2250 F N L xs k28 j w l1 l2 l3 l4 l5
def fL_law_977 (F : Fr) (N L : Nat) (xs : Nat → Int32) (k28 : Nat → Wd → Nat → Nat → Nat → Nat → Int32 → Option Unit) (j : Nat) (w : Wd) (l1 : Nat) (l2 : Nat) (l3 : Nat) (l4 : Nat) (l5 : Int32) : Option Unit :=
  (ldS L xs (l5 + 1)).bind fun x164 =>
  (ldS L xs (l5 + 2)).bind fun x165 =>
  (fL_join F N w l1 x164 x165 l3).bind fun p166 =>
  (ldS L xs (l5 + 1)).bind fun x167 =>
  (ldS L xs (l5 + 2)).bind fun x168 =>
  (fX9_join F N p166.2 l2 x167 x168).bind fun p169 =>
  (fX9_thrown F N p169.2 l2).bind fun x170 =>
  if x170 = p166.1 then
  if p166.1 = 0 then
  (ldJ F p169.2 l3 0).bind fun x173 =>
  if (lg_cmp x173 p169.1.toInt64) = 0 then
  fL_law_1042 F N L xs k28 j p169.2 l1 l2 l3 l4 l5
  else
  none
  else
  fL_law_1042 F N L xs k28 j p169.2 l1 l2 l3 l4 l5
  else
  none
def fL_law_2004 (F : Fr) (N L : Nat) (xs : Nat → Int32) (k28 : Nat → Wd → Nat → Nat → Nat → Nat → Int32 → Option Unit) (j : Nat) (w : Wd) (l1 : Nat) (l2 : Nat) (l3 : Nat) (l4 : Nat) (l5 : Int32) : Option Unit :=
  (fX8_isConsistent F N w l1).bind fun x331 =>
  (fX9_isConsistent F N w l2).bind fun p332 =>
  if x331 = p332.1 then
  fL_law_2250 F N L xs k28 j p332.2 l1 l2 l3 l4 l5
  else
  none
def fL_law_406 (F : Fr) (N L : Nat) (xs : Nat → Int32) (k28 : Nat → Wd → Nat → Nat → Nat → Nat → Int32 → Option Unit) (j : Nat) (w : Wd) (l1 : Nat) (l2 : Nat) (l3 : Nat) (l4 : Nat) (l5 : Int32) : Option Unit :=
  fL_law_2250 F N L xs k28 j w l1 l2 l3 l4 l5
def fL_law_341 (F : Fr) (N L : Nat) (xs : Nat → Int32) (k28 : Nat → Wd → Nat → Nat → Nat → Nat → Int32 → Option Unit) (j : Nat) (w : Wd) (l1 : Nat) (l2 : Nat) (l3 : Nat) (l4 : Nat) (l5 : Int32) : Option Unit :=
  (ldS L xs (l5 + 1)).bind fun x61 =>
  (ldS L xs (l5 + 2)).bind fun x62 =>
  (fL_setSetting F N w l1 x61 x62 l3).bind fun p63 =>
  (ldS L xs (l5 + 1)).bind fun x64 =>
  (ldS L xs (l5 + 2)).bind fun x65 =>
  (fX9_setSetting F N p63.2 l2 x64 x65).bind fun p66 =>
  (fX9_thrown F N p66.2 l2).bind fun x67 =>
  if x67 = p63.1 then
  if p63.1 = 0 then
  (ldJ F p66.2 l3 0).bind fun x70 =>
  if (lg_cmp x70 p66.1.toInt64) = 0 then
  fL_law_406 F N L xs k28 j p66.2 l1 l2 l3 l4 l5
  else
  none
  else
  fL_law_406 F N L xs k28 j p66.2 l1 l2 l3 l4 l5
  else
  none
def fL_law_530 (F : Fr) (N L : Nat) (xs : Nat → Int32) (k28 : Nat → Wd → Nat → Nat → Nat → Nat → Int32 → Option Unit) (j : Nat) (w : Wd) (l1 : Nat) (l2 : Nat) (l3 : Nat) (l4 : Nat) (l5 : Int32) : Option Unit :=
  fL_law_2250 F N L xs k28 j w l1 l2 l3 l4 l5
def fL_law_477 (F : Fr) (N L : Nat) (xs : Nat → Int32) (k28 : Nat → Wd → Nat → Nat → Nat → Nat → Int32 → Option Unit) (j : Nat) (w : Wd) (l1 : Nat) (l2 : Nat) (l3 : Nat) (l4 : Nat) (l5 : Int32) : Option Unit :=
  (ldS L xs (l5 + 1)).bind fun x83 =>
  (fL_book F N w l1 x83 l3).bind fun p84 =>
  (ldS L xs (l5 + 1)).bind fun x85 =>
  (fX9_book F N p84.2 l2 x85).bind fun p86 =>
  (fX9_thrown F N p86.2 l2).bind fun x87 =>
  if x87 = p84.1 then
  if p84.1 = 0 then
  (ldJ F p86.2 l3 0).bind fun x90 =>
  if (lg_cmp x90 p86.1.toInt64) = 0 then
  fL_law_530 F N L xs k28 j p86.2 l1 l2 l3 l4 l5
  else
  none
  else
  fL_law_530 F N L xs k28 j p86.2 l1 l2 l3 l4 l5
  else
  none
def fL_law_826 (F : Fr) (N L : Nat) (xs : Nat → Int32) (k28 : Nat → Wd → Nat → Nat → Nat → Nat → Int32 → Option Unit) (j : Nat) (w : Wd) (l1 : Nat) (l2 : Nat) (l3 : Nat) (l4 : Nat) (l5 : Int32) : Option Unit :=
  fL_law_2250 F N L xs k28 j w l1 l2 l3 l4 l5
def fL_law_737 (F : Fr) (N L : Nat) (xs : Nat → Int32) (k28 : Nat → Wd → Nat → Nat → Nat → Nat → Int32 → Option Unit) (j : Nat) (w : Wd) (l1 : Nat) (l2 : Nat) (l3 : Nat) (l4 : Nat) (l5 : Int32) : Option Unit :=
  (ldS L xs (l5 + 1)).bind fun x125 =>
  (ldS L xs (l5 + 2)).bind fun x126 =>
  (ldS L xs (l5 + 3)).bind fun x127 =>
  (ldS L xs (l5 + 4)).bind fun x128 =>
  (fL_moveSpan F N w l1 x125 x126 x127 x128 l3).bind fun p129 =>
  (ldS L xs (l5 + 1)).bind fun x130 =>
  (ldS L xs (l5 + 2)).bind fun x131 =>
  (ldS L xs (l5 + 3)).bind fun x132 =>
  (ldS L xs (l5 + 4)).bind fun x133 =>
  (fX9_moveSpan F N p129.2 l2 x130 x131 x132 x133).bind fun p134 =>
  (fX9_thrown F N p134.2 l2).bind fun x135 =>
  if x135 = p129.1 then
  if p129.1 = 0 then
  (ldJ F p134.2 l3 0).bind fun x138 =>
  if (lg_cmp x138 p134.1.toInt64) = 0 then
  fL_law_826 F N L xs k28 j p134.2 l1 l2 l3 l4 l5
  else
  none
  else
  fL_law_826 F N L xs k28 j p134.2 l1 l2 l3 l4 l5
  else
  none
def fL_law_1698 (F : Fr) (N L : Nat) (xs : Nat → Int32) (k28 : Nat → Wd → Nat → Nat → Nat → Nat → Int32 → Option Unit) (j : Nat) (w : Wd) (l1 : Nat) (l2 : Nat) (l3 : Nat) (l4 : Nat) (l5 : Int32) : Option Unit :=
  fL_law_2250 F N L xs k28 j w l1 l2 l3 l4 l5
def fL_law_1633 (F : Fr) (N L : Nat) (xs : Nat → Int32) (k28 : Nat → Wd → Nat → Nat → Nat → Nat → Int32 → Option Unit) (j : Nat) (w : Wd) (l1 : Nat) (l2 : Nat) (l3 : Nat) (l4 : Nat) (l5 : Int32) : Option Unit :=
  (ldS L xs (l5 + 1)).bind fun x269 =>
  (ldS L xs (l5 + 2)).bind fun x270 =>
  (fL_merge F N w l1 x269 x270 l3).bind fun p271 =>
  (ldS L xs (l5 + 1)).bind fun x272 =>
  (ldS L xs (l5 + 2)).bind fun x273 =>
  (fX9_merge F N p271.2 l2 x272 x273).bind fun p274 =>
  (fX9_thrown F N p274.2 l2).bind fun x275 =>
  if x275 = p271.1 then
  if p271.1 = 0 then
  (ldJ F p274.2 l3 0).bind fun x278 =>
  if (lg_cmp x278 p274.1.toInt64) = 0 then
  fL_law_1698 F N L xs k28 j p274.2 l1 l2 l3 l4 l5
  else
  none
  else
  fL_law_1698 F N L xs k28 j p274.2 l1 l2 l3 l4 l5
  else
  none
def fL_law_2058 (F : Fr) (N L : Nat) (xs : Nat → Int32) (k28 : Nat → Wd → Nat → Nat → Nat → Nat → Int32 → Option Unit) (j : Nat) (w : Wd) (l1 : Nat) (l2 : Nat) (l3 : Nat) (l4 : Nat) (l5 : Int32) : Option Unit :=
  fL_law_2250 F N L xs k28 j w l1 l2 l3 l4 l5
def fL_law_2017 (F : Fr) (N L : Nat) (xs : Nat → Int32) (k28 : Nat → Wd → Nat → Nat → Nat → Nat → Int32 → Option Unit) (j : Nat) (w : Wd) (l1 : Nat) (l2 : Nat) (l3 : Nat) (l4 : Nat) (l5 : Int32) : Option Unit :=
  (fL_read F N w l1 l3).bind fun p334 =>
  (fX9_read F N p334.2 l2).bind fun p335 =>
  (fX9_thrown F N p335.2 l2).bind fun x336 =>
  if x336 = p334.1 then
  if p334.1 = 0 then
  (ldJ F p335.2 l3 0).bind fun x339 =>
  if (lg_cmp x339 p335.1.toInt64) = 0 then
  fL_law_2058 F N L xs k28 j p335.2 l1 l2 l3 l4 l5
  else
  none
  else
  fL_law_2058 F N L xs k28 j p335.2 l1 l2 l3 l4 l5
  else
  none
def fL_law_1202 (F : Fr) (N L : Nat) (xs : Nat → Int32) (k28 : Nat → Wd → Nat → Nat → Nat → Nat → Int32 → Option Unit) (j : Nat) (w : Wd) (l1 : Nat) (l2 : Nat) (l3 : Nat) (l4 : Nat) (l5 : Int32) : Option Unit :=
  fL_law_2250 F N L xs k28 j w l1 l2 l3 l4 l5
def fL_law_1125 (F : Fr) (N L : Nat) (xs : Nat → Int32) (k28 : Nat → Wd → Nat → Nat → Nat → Nat → Int32 → Option Unit) (j : Nat) (w : Wd) (l1 : Nat) (l2 : Nat) (l3 : Nat) (l4 : Nat) (l5 : Int32) : Option Unit :=
  (ldS L xs (l5 + 1)).bind fun x188 =>
  (ldS L xs (l5 + 2)).bind fun x189 =>
  (ldS L xs (l5 + 3)).bind fun x190 =>
  (fL_letter F N w l1 x188 x189 x190 l3).bind fun p191 =>
  (ldS L xs (l5 + 1)).bind fun x192 =>
  (ldS L xs (l5 + 2)).bind fun x193 =>
  (ldS L xs (l5 + 3)).bind fun x194 =>
  (fX9_letter F N p191.2 l2 x192 x193 x194).bind fun p195 =>
  (fX9_thrown F N p195.2 l2).bind fun x196 =>
  if x196 = p191.1 then
  if p191.1 = 0 then
  (ldJ F p195.2 l3 0).bind fun x199 =>
  if (lg_cmp x199 p195.1.toInt64) = 0 then
  fL_law_1202 F N L xs k28 j p195.2 l1 l2 l3 l4 l5
  else
  none
  else
  fL_law_1202 F N L xs k28 j p195.2 l1 l2 l3 l4 l5
  else
  none
def fL_law_2190 (F : Fr) (N L : Nat) (xs : Nat → Int32) (k28 : Nat → Wd → Nat → Nat → Nat → Nat → Int32 → Option Unit) (j : Nat) (w : Wd) (l1 : Nat) (l2 : Nat) (l3 : Nat) (l4 : Nat) (l5 : Int32) : Option Unit :=
  fL_law_2250 F N L xs k28 j w l1 l2 l3 l4 l5
def fL_law_2149 (F : Fr) (N L : Nat) (xs : Nat → Int32) (k28 : Nat → Wd → Nat → Nat → Nat → Nat → Int32 → Option Unit) (j : Nat) (w : Wd) (l1 : Nat) (l2 : Nat) (l3 : Nat) (l4 : Nat) (l5 : Int32) : Option Unit :=
  (fL_undo F N w l1 l3).bind fun p355 =>
  (fX9_undo F N p355.2 l2).bind fun p356 =>
  (fX9_thrown F N p356.2 l2).bind fun x357 =>
  if x357 = p355.1 then
  if p355.1 = 0 then
  (ldJ F p356.2 l3 0).bind fun x360 =>
  if (lg_cmp x360 p356.1.toInt64) = 0 then
  fL_law_2190 F N L xs k28 j p356.2 l1 l2 l3 l4 l5
  else
  none
  else
  fL_law_2190 F N L xs k28 j p356.2 l1 l2 l3 l4 l5
  else
  none
def fL_law_1562 (F : Fr) (N L : Nat) (xs : Nat → Int32) (k28 : Nat → Wd → Nat → Nat → Nat → Nat → Int32 → Option Unit) (j : Nat) (w : Wd) (l1 : Nat) (l2 : Nat) (l3 : Nat) (l4 : Nat) (l5 : Int32) : Option Unit :=
  fL_law_2250 F N L xs k28 j w l1 l2 l3 l4 l5
def fL_law_1521 (F : Fr) (N L : Nat) (xs : Nat → Int32) (k28 : Nat → Wd → Nat → Nat → Nat → Nat → Int32 → Option Unit) (j : Nat) (w : Wd) (l1 : Nat) (l2 : Nat) (l3 : Nat) (l4 : Nat) (l5 : Int32) : Option Unit :=
  (fL_search F N w l1 l3).bind fun p251 =>
  (fX9_search F N p251.2 l2).bind fun p252 =>
  (fX9_thrown F N p252.2 l2).bind fun x253 =>
  if x253 = p251.1 then
  if p251.1 = 0 then
  (ldJ F p252.2 l3 0).bind fun x256 =>
  if (lg_cmp x256 p252.1.toInt64) = 0 then
  fL_law_1562 F N L xs k28 j p252.2 l1 l2 l3 l4 l5
  else
  none
  else
  fL_law_1562 F N L xs k28 j p252.2 l1 l2 l3 l4 l5
  else
  none
def fL_law_1846 (F : Fr) (N L : Nat) (xs : Nat → Int32) (k28 : Nat → Wd → Nat → Nat → Nat → Nat → Int32 → Option Unit) (j : Nat) (w : Wd) (l1 : Nat) (l2 : Nat) (l3 : Nat) (l4 : Nat) (l5 : Int32) : Option Unit :=
  fL_law_2250 F N L xs k28 j w l1 l2 l3 l4 l5
def fL_law_1781 (F : Fr) (N L : Nat) (xs : Nat → Int32) (k28 : Nat → Wd → Nat → Nat → Nat → Nat → Int32 → Option Unit) (j : Nat) (w : Wd) (l1 : Nat) (l2 : Nat) (l3 : Nat) (l4 : Nat) (l5 : Int32) : Option Unit :=
  (ldS L xs (l5 + 1)).bind fun x293 =>
  (ldS L xs (l5 + 2)).bind fun x294 =>
  (fL_frames F N w l1 x293 x294 l3).bind fun p295 =>
  (ldS L xs (l5 + 1)).bind fun x296 =>
  (ldS L xs (l5 + 2)).bind fun x297 =>
  (fX9_frames F N p295.2 l2 x296 x297).bind fun p298 =>
  (fX9_thrown F N p298.2 l2).bind fun x299 =>
  if x299 = p295.1 then
  if p295.1 = 0 then
  (ldJ F p298.2 l3 0).bind fun x302 =>
  if (lg_cmp x302 p298.1.toInt64) = 0 then
  fL_law_1846 F N L xs k28 j p298.2 l1 l2 l3 l4 l5
  else
  none
  else
  fL_law_1846 F N L xs k28 j p298.2 l1 l2 l3 l4 l5
  else
  none
def fL_law_1342 (F : Fr) (N L : Nat) (xs : Nat → Int32) (k28 : Nat → Wd → Nat → Nat → Nat → Nat → Int32 → Option Unit) (j : Nat) (w : Wd) (l1 : Nat) (l2 : Nat) (l3 : Nat) (l4 : Nat) (l5 : Int32) : Option Unit :=
  fL_law_2250 F N L xs k28 j w l1 l2 l3 l4 l5
def fL_law_1309 (F : Fr) (N L : Nat) (xs : Nat → Int32) (k28 : Nat → Wd → Nat → Nat → Nat → Nat → Int32 → Option Unit) (j : Nat) (w : Wd) (l1 : Nat) (l2 : Nat) (l3 : Nat) (l4 : Nat) (l5 : Int32) (l6 : Int32) (s0 : Nat) (s1 : Int32) : Option Unit :=
  (fX9_refusal F N w s0 s1).bind fun p217 =>
  (fX9_thrown F N p217.2 l2).bind fun x218 =>
  if x218 = l6 then
  if l6 = 0 then
  (ldJ F p217.2 l3 0).bind fun x221 =>
  if (lg_cmp x221 p217.1.toInt64) = 0 then
  fL_law_1342 F N L xs k28 j p217.2 l1 l2 l3 l4 l5
  else
  none
  else
  fL_law_1342 F N L xs k28 j p217.2 l1 l2 l3 l4 l5
  else
  none
def fL_law_1288 (F : Fr) (N L : Nat) (xs : Nat → Int32) (k28 : Nat → Wd → Nat → Nat → Nat → Nat → Int32 → Option Unit) (j : Nat) (w : Wd) (l1 : Nat) (l2 : Nat) (l3 : Nat) (l4 : Nat) (l5 : Int32) (s0 : Nat) (s1 : Int32) : Option Unit :=
  (fL_refusal F N w s0 s1 l3).bind fun p214 =>
  (ldS L xs (l5 + 1)).bind fun x215 =>
  if x215 = 0 then
  fL_law_1309 F N L xs k28 j p214.2 l1 l2 l3 l4 l5 p214.1 l2 0
  else
  fL_law_1309 F N L xs k28 j p214.2 l1 l2 l3 l4 l5 p214.1 l2 1
def fL_law_1273 (F : Fr) (N L : Nat) (xs : Nat → Int32) (k28 : Nat → Wd → Nat → Nat → Nat → Nat → Int32 → Option Unit) (j : Nat) (w : Wd) (l1 : Nat) (l2 : Nat) (l3 : Nat) (l4 : Nat) (l5 : Int32) : Option Unit :=
  (ldS L xs (l5 + 1)).bind fun x212 =>
  if x212 = 0 then
  fL_law_1288 F N L xs k28 j w l1 l2 l3 l4 l5 l1 0
  else
  fL_law_1288 F N L xs k28 j w l1 l2 l3 l4 l5 l1 1
def fL_law_28 (F : Fr) (N L : Nat) (xs : Nat → Int32) : Nat → Nat → Wd → Nat → Nat → Nat → Nat → Int32 → Option Unit
  | 0, _, _, _, _, _, _, _ => none
  | n + 1, j, w, l1, l2, l3, l4, l5 =>
    (ckJ j).bind fun _ =>
    if ((nI L) - 5) < l5 then
    some ()
    else
    (ldS L xs l5).bind fun x2 =>
    if (x2 &&& 63) = 0 then
    fL_law_192 F N L xs (fL_law_28 F N L xs n) j w l1 l2 l3 l4 l5
    else
    if (x2 &&& 63) = 1 then
    fL_law_205 F N L xs (fL_law_28 F N L xs n) j w l1 l2 l3 l4 l5
    else
    if (x2 &&& 63) = 2 then
    fL_law_285 F N L xs (fL_law_28 F N L xs n) j w l1 l2 l3 l4 l5
    else
    if (x2 &&& 63) = 3 then
    fL_law_341 F N L xs (fL_law_28 F N L xs n) j w l1 l2 l3 l4 l5
    else
    if (x2 &&& 63) = 4 then
    fL_law_409 F N L xs (fL_law_28 F N L xs n) j w l1 l2 l3 l4 l5
    else
    if (x2 &&& 63) = 5 then
    fL_law_477 F N L xs (fL_law_28 F N L xs n) j w l1 l2 l3 l4 l5
    else
    if (x2 &&& 63) = 6 then
    fL_law_533 F N L xs (fL_law_28 F N L xs n) j w l1 l2 l3 l4 l5
    else
    if (x2 &&& 63) = 7 then
    fL_law_589 F N L xs (fL_law_28 F N L xs n) j w l1 l2 l3 l4 l5
    else
    if (x2 &&& 63) = 8 then
    fL_law_669 F N L xs (fL_law_28 F N L xs n) j w l1 l2 l3 l4 l5
    else
    if (x2 &&& 63) = 9 then
    fL_law_737 F N L xs (fL_law_28 F N L xs n) j w l1 l2 l3 l4 l5
    else
    if (x2 &&& 63) = 10 then
    fL_law_829 F N L xs (fL_law_28 F N L xs n) j w l1 l2 l3 l4 l5
    else
    if (x2 &&& 63) = 11 then
    fL_law_897 F N L xs (fL_law_28 F N L xs n) j w l1 l2 l3 l4 l5
    else
    if (x2 &&& 63) = 12 then
    fL_law_977 F N L xs (fL_law_28 F N L xs n) j w l1 l2 l3 l4 l5
    else
    if (x2 &&& 63) = 13 then
    fL_law_1045 F N L xs (fL_law_28 F N L xs n) j w l1 l2 l3 l4 l5
    else
    if (x2 &&& 63) = 14 then
    fL_law_1125 F N L xs (fL_law_28 F N L xs n) j w l1 l2 l3 l4 l5
    else
    if (x2 &&& 63) = 15 then
    fL_law_1205 F N L xs (fL_law_28 F N L xs n) j w l1 l2 l3 l4 l5
    else
    if (x2 &&& 63) = 16 then
    fL_law_1273 F N L xs (fL_law_28 F N L xs n) j w l1 l2 l3 l4 l5
    else
    if (x2 &&& 63) = 17 then
    fL_law_1345 F N L xs (fL_law_28 F N L xs n) j w l1 l2 l3 l4 l5
    else
    if (x2 &&& 63) = 18 then
    fL_law_1425 F N L xs (fL_law_28 F N L xs n) j w l1 l2 l3 l4 l5
    else
    if (x2 &&& 63) = 19 then
    fL_law_1521 F N L xs (fL_law_28 F N L xs n) j w l1 l2 l3 l4 l5
    else
    if (x2 &&& 63) = 20 then
    fL_law_1565 F N L xs (fL_law_28 F N L xs n) j w l1 l2 l3 l4 l5
    else
    if (x2 &&& 63) = 21 then
    fL_law_1633 F N L xs (fL_law_28 F N L xs n) j w l1 l2 l3 l4 l5
    else
    if (x2 &&& 63) = 22 then
    fL_law_1701 F N L xs (fL_law_28 F N L xs n) j w l1 l2 l3 l4 l5
    else
    if (x2 &&& 63) = 23 then
    fL_law_1781 F N L xs (fL_law_28 F N L xs n) j w l1 l2 l3 l4 l5
    else
    if (x2 &&& 63) = 24 then
    fL_law_1849 F N L xs (fL_law_28 F N L xs n) j w l1 l2 l3 l4 l5
    else
    if (x2 &&& 63) = 25 then
    fL_law_1927 F N L xs (fL_law_28 F N L xs n) j w l1 l2 l3 l4 l5
    else
    if (x2 &&& 63) = 26 then
    fL_law_2004 F N L xs (fL_law_28 F N L xs n) j w l1 l2 l3 l4 l5
    else
    if (x2 &&& 63) = 27 then
    fL_law_2017 F N L xs (fL_law_28 F N L xs n) j w l1 l2 l3 l4 l5
    else
    if (x2 &&& 63) = 28 then
    fL_law_2061 F N L xs (fL_law_28 F N L xs n) j w l1 l2 l3 l4 l5
    else
    if (x2 &&& 63) = 29 then
    fL_law_2105 F N L xs (fL_law_28 F N L xs n) j w l1 l2 l3 l4 l5
    else
    if (x2 &&& 63) = 30 then
    fL_law_2149 F N L xs (fL_law_28 F N L xs n) j w l1 l2 l3 l4 l5
    else
    if (x2 &&& 63) = 31 then
    fL_law_2193 F N L xs (fL_law_28 F N L xs n) j w l1 l2 l3 l4 l5
    else
    if (x2 &&& 63) = 32 then
    fL_law_2206 F N L xs (fL_law_28 F N L xs n) j w l1 l2 l3 l4 l5
    else
    fL_law_2250 F N L xs (fL_law_28 F N L xs n) j w l1 l2 l3 l4 l5
