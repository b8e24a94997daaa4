def fL_low (N : Nat) (p0 : Int32) (p1 : Int32) : Option Int32 :=
z_ck (z_nz p1) <|
some (((p0 &&& (2147483647 : Int32)) - (p0 &&& (2147483647 : Int32)) / p1 * p1))
def lL_copy_2 (N : Nat) (ln : Nat) (f : Nat → Int32) : Nat → Int32 → (Nat → Int32) → Option ((Nat → Int32))
  | 0, _, _ => none
  | fu + 1, x2, h => (if (Int32.ofNat ln) ≤ x2 then
some h
else
z_ck (z_in x2 ln) <|
z_ck (z_in x2 ln) <|
z_lt (upd h (x2).toNatClampNeg (f (x2).toNatClampNeg)) fun h4 =>
(lL_copy_2 N ln f fu (x2 + (1 : Int32)) h4))
def fL_copy (N : Nat) (ln : Nat) (f : Nat → Int32) (h : (Nat → Int32)) : Option ((Nat → Int32)) :=
(lL_copy_2 N ln f N (0 : Int32) h)
def fL_cell (N L : Nat) (xs : Nat → Int32) (p1 : Int32) : Option Int32 :=
(if (Int32.ofNat L) ≤ p1 then
some ((((1028477379 : Int32) * (p1 + (1 : Int32))) + (1516993665 : Int32)))
else
z_ck (z_in p1 L) <|
some ((xs (p1).toNatClampNeg)))
def lL_at_2 (N : Nat) (x0 : Int32) (g : z_R) : Nat → Int32 → Option Int32
  | 0, _ => none
  | fu + 1, x2 => (if (6 : Int32) ≤ x2 then
some ((-1 : Int32))
else
z_ck (z_in (((9 : Int32) * x2) + (5 : Int32)) 54) <|
(if (g 1 ((((9 : Int32) * x2) + (5 : Int32))).toNatClampNeg) = x0 then
some (x2)
else
(lL_at_2 N x0 g fu (x2 + (1 : Int32)))))
def fL_at (N : Nat) (p0 : Int32) (g : z_R) : Option Int32 :=
(lL_at_2 N p0 g N (0 : Int32))
def fL_refund (N : Nat) (p0 : Int32) (g : z_R) : Option (z_R) :=
z_ck (z_in ((9 : Int32) * p0) 54) <|
z_ck (z_in ((7 : Int32) + (g 1 (((9 : Int32) * p0)).toNatClampNeg)) 12) <|
z_ck (z_in (((9 : Int32) * p0) + (7 : Int32)) 54) <|
z_ck (z_in ((7 : Int32) + (g 1 (((9 : Int32) * p0)).toNatClampNeg)) 12) <|
z_lt (z_u2 g 0 (((7 : Int32) + (g 1 (((9 : Int32) * p0)).toNatClampNeg))).toNatClampNeg ((g 0 (((7 : Int32) + (g 1 (((9 : Int32) * p0)).toNatClampNeg))).toNatClampNeg) + (g 1 ((((9 : Int32) * p0) + (7 : Int32))).toNatClampNeg))) fun g5 =>
z_ck (z_in (((9 : Int32) * p0) + (7 : Int32)) 54) <|
z_lt (z_u2 g5 1 ((((9 : Int32) * p0) + (7 : Int32))).toNatClampNeg (0 : Int32)) fun g7 =>
some g7
def lL_wanted_133 (N : Nat) (g : z_R) : Nat → Int32 → Option Int32
  | 0, _ => none
  | fu + 1, x4 => (if 0 ≤ x4 then
z_ck (z_nz (g 0 ((0 : Int32)).toNatClampNeg)) <|
some ((x4 - x4 / (g 0 ((0 : Int32)).toNatClampNeg) * (g 0 ((0 : Int32)).toNatClampNeg)))
else
(lL_wanted_133 N g fu (x4 + (g 0 ((0 : Int32)).toNatClampNeg))))
def lL_wanted_61 (N : Nat) (x0 : Int32) (g : z_R) : Nat → Int32 → Int32 → Int32 → Option Int32
  | 0, _, _, _ => none
  | fu + 1, x4, x5, x6 => (if (6 : Int32) ≤ x6 then
(lL_wanted_133 N g N x4)
else
(if x5 = 0 then
z_ck (z_in (((9 : Int32) * x6) + (5 : Int32)) 54) <|
(if (g 1 ((((9 : Int32) * x6) + (5 : Int32))).toNatClampNeg) < 0 then
(lL_wanted_61 N x0 g fu x4 x5 (x6 + (1 : Int32)))
else
z_ck (z_in (((9 : Int32) * x6) + (2 : Int32)) 54) <|
(if (g 1 ((((9 : Int32) * x6) + (2 : Int32))).toNatClampNeg) = x0 then
z_ck (z_in (((9 : Int32) * x6) + (5 : Int32)) 54) <|
z_ck (z_in (((9 : Int32) * x6) + (1 : Int32)) 54) <|
(lL_wanted_61 N x0 g fu (((g 1 ((((9 : Int32) * x6) + (5 : Int32))).toNatClampNeg) + (1 : Int32)) + (g 1 ((((9 : Int32) * x6) + (1 : Int32))).toNatClampNeg)) (1 : Int32) (x6 + (1 : Int32)))
else
(lL_wanted_61 N x0 g fu x4 x5 (x6 + (1 : Int32)))))
else
(lL_wanted_61 N x0 g fu x4 x5 (x6 + (1 : Int32)))))
def jL_wanted_52 (N : Nat) (x0 : Int32) (g : z_R) : Option Int32 :=
(lL_wanted_61 N x0 g N (0 : Int32) (0 : Int32) (0 : Int32))
def fL_wanted (N : Nat) (p0 : Int32) (g : z_R) : Option Int32 :=
z_ck (z_in (((9 : Int32) * p0) + (2 : Int32)) 54) <|
(if (g 1 ((((9 : Int32) * p0) + (2 : Int32))).toNatClampNeg) < 0 then
(jL_wanted_52 N p0 g)
else
(if (6 : Int32) ≤ (g 1 ((((9 : Int32) * p0) + (2 : Int32))).toNatClampNeg) then
(jL_wanted_52 N p0 g)
else
z_ck (z_in (((9 : Int32) * (g 1 ((((9 : Int32) * p0) + (2 : Int32))).toNatClampNeg)) + (5 : Int32)) 54) <|
(if (g 1 ((((9 : Int32) * (g 1 ((((9 : Int32) * p0) + (2 : Int32))).toNatClampNeg)) + (5 : Int32))).toNatClampNeg) < 0 then
(jL_wanted_52 N p0 g)
else
z_ck (z_in (((9 : Int32) * (g 1 ((((9 : Int32) * p0) + (2 : Int32))).toNatClampNeg)) + (5 : Int32)) 54) <|
z_ck (z_in (((9 : Int32) * p0) + (1 : Int32)) 54) <|
(lL_wanted_61 N p0 g N (((g 1 ((((9 : Int32) * (g 1 ((((9 : Int32) * p0) + (2 : Int32))).toNatClampNeg)) + (5 : Int32))).toNatClampNeg) - (1 : Int32)) - (g 1 ((((9 : Int32) * p0) + (1 : Int32))).toNatClampNeg)) (0 : Int32) (0 : Int32)))))
def lL_lay_67 (N : Nat) (x2 : Int32) (x4 : Int32) (Y : z_V) (k : Int32 → Option (Int32 × z_R)) : Nat → Int32 → Int32 → Option (Int32 × z_R)
  | 0, _, _ => none
  | fu + 1, x5, x6 => (if (6 : Int32) ≤ x6 then
(k x5)
else
z_ck (z_in x6 6) <|
(if (Y.2 (x6).toNatClampNeg) = 0 then
(if x5 < 0 then
(lL_lay_67 N x2 x4 Y k fu x6 (x6 + (1 : Int32)))
else
z_ck (z_in (((9 : Int32) * x6) + (4 : Int32)) 54) <|
z_ck (z_in (((9 : Int32) * x5) + (4 : Int32)) 54) <|
(if (Y.1 1 ((((9 : Int32) * x6) + (4 : Int32))).toNatClampNeg) ≤ (Y.1 1 ((((9 : Int32) * x5) + (4 : Int32))).toNatClampNeg) then
(lL_lay_67 N x2 x4 Y k fu x5 (x6 + (1 : Int32)))
else
(lL_lay_67 N x2 x4 Y k fu x6 (x6 + (1 : Int32)))))
else
(lL_lay_67 N x2 x4 Y k fu x5 (x6 + (1 : Int32)))))
def lL_lay_134 (N : Nat) (x2 : Int32) (x4 : Int32) (x5 : Int32) (x6 : Int32) (Y : z_V) (k : Int32 → Option (Int32 × z_R)) : Nat → Int32 → Option (Int32 × z_R)
  | 0, _ => none
  | fu + 1, x7 => (if (Y.1 0 ((0 : Int32)).toNatClampNeg) ≤ x7 then
(k x7)
else
z_ck (z_nz (Y.1 0 ((0 : Int32)).toNatClampNeg)) <|
(fL_at N ((x6 + x7) - (x6 + x7) / (Y.1 0 ((0 : Int32)).toNatClampNeg) * (Y.1 0 ((0 : Int32)).toNatClampNeg)) (Y.1)).bind fun r16 =>
(if r16 < 0 then
(k x7)
else
(lL_lay_134 N x2 x4 x5 x6 Y k fu (x7 + (1 : Int32)))))
def jL_lay_164_54 (N : Nat) (bk : Int32 → Int32 → z_V → Option (Int32 × z_R)) (x2 : Int32) (x4 : Int32) (x5 : Int32) (x6 : Int32) (x7 : Int32) (Y : z_V) : Option (Int32 × z_R) :=
(if x7 = (Y.1 0 ((0 : Int32)).toNatClampNeg) then
(bk x2 (x4 + (1 : Int32)) Y)
else
z_ck (z_nz (Y.1 0 ((0 : Int32)).toNatClampNeg)) <|
z_ck (z_in (((9 : Int32) * x5) + (5 : Int32)) 54) <|
z_lt ((z_u2 Y.1 1 ((((9 : Int32) * x5) + (5 : Int32))).toNatClampNeg ((x6 + x7) - (x6 + x7) / (Y.1 0 ((0 : Int32)).toNatClampNeg) * (Y.1 0 ((0 : Int32)).toNatClampNeg)), Y.2)) fun Y21 =>
z_ck (z_in (((9 : Int32) * x5) + (6 : Int32)) 54) <|
z_lt ((z_u2 Y21.1 1 ((((9 : Int32) * x5) + (6 : Int32))).toNatClampNeg x7, Y21.2)) fun Y23 =>
z_ck (z_in (((9 : Int32) * x5) + (4 : Int32)) 54) <|
z_ck (z_in (((9 : Int32) * x5) + (7 : Int32)) 54) <|
z_lt ((z_u2 Y23.1 1 ((((9 : Int32) * x5) + (7 : Int32))).toNatClampNeg (Y23.1 1 ((((9 : Int32) * x5) + (4 : Int32))).toNatClampNeg), Y23.2)) fun Y26 =>
z_ck (z_in ((9 : Int32) * x5) 54) <|
z_ck (z_in ((3 : Int32) + (Y26.1 1 (((9 : Int32) * x5)).toNatClampNeg)) 12) <|
z_ck (z_in (((9 : Int32) * x5) + (4 : Int32)) 54) <|
z_ck (z_in ((3 : Int32) + (Y26.1 1 (((9 : Int32) * x5)).toNatClampNeg)) 12) <|
z_lt ((z_u2 Y26.1 0 (((3 : Int32) + (Y26.1 1 (((9 : Int32) * x5)).toNatClampNeg))).toNatClampNeg ((Y26.1 0 (((3 : Int32) + (Y26.1 1 (((9 : Int32) * x5)).toNatClampNeg))).toNatClampNeg) + (Y26.1 1 ((((9 : Int32) * x5) + (4 : Int32))).toNatClampNeg)), Y26.2)) fun Y31 =>
(bk (x2 + x7) (x4 + (1 : Int32)) Y31))
def lL_lay_54 (N : Nat) : Nat → Int32 → Int32 → z_V → Option (Int32 × z_R)
  | 0, _, _, _ => none
  | fu + 1, x2, x4, Y => (if (6 : Int32) ≤ x4 then
some (x2, Y.1)
else
(lL_lay_67 N x2 x4 Y (fun x5_67 => z_ck (z_in x5_67 6) <|
z_lt ((Y.1, upd Y.2 (x5_67).toNatClampNeg (1 : Int32))) fun Y12 =>
(fL_wanted N x5_67 (Y12.1)).bind fun r13 =>
(lL_lay_134 N x2 x4 x5_67 r13 Y12 (fun x7_134 => (jL_lay_164_54 N (lL_lay_54 N fu) x2 x4 x5_67 r13 x7_134 Y12)) N (0 : Int32))) N (-1 : Int32) (0 : Int32)))
def lL_lay_10 (N : Nat) (x2 : Int32) : Nat → Int32 → z_V → Option (Int32 × z_R)
  | 0, _, _ => none
  | fu + 1, x4, Y => (if (6 : Int32) ≤ x4 then
(lL_lay_54 N N x2 (0 : Int32) Y)
else
(fL_refund N x4 (Y.1)).bind fun u32 =>
z_lt ((u32, Y.2)) fun Y33 =>
z_ck (z_in (((9 : Int32) * x4) + (5 : Int32)) 54) <|
z_lt ((z_u2 Y33.1 1 ((((9 : Int32) * x4) + (5 : Int32))).toNatClampNeg (-1 : Int32), Y33.2)) fun Y35 =>
z_ck (z_in (((9 : Int32) * x4) + (6 : Int32)) 54) <|
z_lt ((z_u2 Y35.1 1 ((((9 : Int32) * x4) + (6 : Int32))).toNatClampNeg (-1 : Int32), Y35.2)) fun Y37 =>
(lL_lay_10 N x2 fu (x4 + (1 : Int32)) Y37))
def fL_lay (N : Nat) (g : z_R) : Option (Int32 × z_R) :=
z_lt ((g, fun _ => 0) : z_V) fun Y1 =>
(lL_lay_10 N (0 : Int32) N (0 : Int32) Y1)
def lL_run_93 (N : Nat) (x4 : Int32) (x5 : Int32) (x6 : Int32) (k : Int32 → z_R → Option (Int32 × z_R)) : Nat → Int32 → z_R → Option (Int32 × z_R)
  | 0, _, _ => none
  | fu + 1, x7, g => z_ck (z_nz (g 0 ((0 : Int32)).toNatClampNeg)) <|
z_ck (z_in (((9 : Int32) * x4) + (5 : Int32)) 54) <|
(if ((g 0 ((1 : Int32)).toNatClampNeg) - (g 0 ((1 : Int32)).toNatClampNeg) / (g 0 ((0 : Int32)).toNatClampNeg) * (g 0 ((0 : Int32)).toNatClampNeg)) = (g 1 ((((9 : Int32) * x4) + (5 : Int32))).toNatClampNeg) then
(k x7 g)
else
z_lt (z_u2 g 0 ((1 : Int32)).toNatClampNeg ((g 0 ((1 : Int32)).toNatClampNeg) + (1 : Int32))) fun g13 =>
(lL_run_93 N x4 x5 x6 k fu (x7 + (1 : Int32)) g13))
def jL_run_154_9 (N : Nat) (bk : Int32 → Int32 → Int32 → z_R → Option (Int32 × z_R)) (x4 : Int32) (x5 : Int32) (x6 : Int32) (g : z_R) : Option (Int32 × z_R) :=
(if x5 < 0 then
z_ck (z_in (((9 : Int32) * x4) + (7 : Int32)) 54) <|
z_ck (z_in (((9 : Int32) * x4) + (7 : Int32)) 54) <|
z_lt (z_u2 g 1 ((((9 : Int32) * x4) + (7 : Int32))).toNatClampNeg (g 1 ((((9 : Int32) * x4) + (7 : Int32))).toNatClampNeg)) fun g21 =>
z_ck (z_in (((9 : Int32) * x4) + (1 : Int32)) 54) <|
z_lt (z_u2 g21 0 ((1 : Int32)).toNatClampNeg ((g21 0 ((1 : Int32)).toNatClampNeg) + ((1 : Int32) + (g21 1 ((((9 : Int32) * x4) + (1 : Int32))).toNatClampNeg)))) fun g23 =>
z_lt (z_u2 g23 0 ((2 : Int32)).toNatClampNeg (0 : Int32)) fun g24 =>
z_ck (z_in (((9 : Int32) * x4) + (2 : Int32)) 54) <|
(if 0 ≤ (g24 1 ((((9 : Int32) * x4) + (2 : Int32))).toNatClampNeg) then
z_ck (z_in (((8 : Int32) * x4) + (g24 1 ((((9 : Int32) * x4) + (2 : Int32))).toNatClampNeg)) 64) <|
(if (g24 2 ((((8 : Int32) * x4) + (g24 1 ((((9 : Int32) * x4) + (2 : Int32))).toNatClampNeg))).toNatClampNeg) = 0 then
z_lt (z_u2 g24 0 ((11 : Int32)).toNatClampNeg ((g24 0 ((11 : Int32)).toNatClampNeg) + (1 : Int32))) fun g33 =>
z_ck (z_in (((8 : Int32) * x4) + (g24 1 ((((9 : Int32) * x4) + (2 : Int32))).toNatClampNeg)) 64) <|
z_ck (z_in (((8 : Int32) * x4) + (g24 1 ((((9 : Int32) * x4) + (2 : Int32))).toNatClampNeg)) 64) <|
z_lt (z_u2 g33 2 ((((8 : Int32) * x4) + (g24 1 ((((9 : Int32) * x4) + (2 : Int32))).toNatClampNeg))).toNatClampNeg ((g33 2 ((((8 : Int32) * x4) + (g24 1 ((((9 : Int32) * x4) + (2 : Int32))).toNatClampNeg))).toNatClampNeg) + (1 : Int32))) fun g36 =>
(bk (g24 1 ((((9 : Int32) * x4) + (2 : Int32))).toNatClampNeg) x4 (x6 + (1 : Int32)) g36)
else
z_lt (z_u2 g24 0 ((11 : Int32)).toNatClampNeg ((g24 0 ((11 : Int32)).toNatClampNeg) + (0 : Int32))) fun g29 =>
z_ck (z_in (((8 : Int32) * x4) + (g24 1 ((((9 : Int32) * x4) + (2 : Int32))).toNatClampNeg)) 64) <|
z_ck (z_in (((8 : Int32) * x4) + (g24 1 ((((9 : Int32) * x4) + (2 : Int32))).toNatClampNeg)) 64) <|
z_lt (z_u2 g29 2 ((((8 : Int32) * x4) + (g24 1 ((((9 : Int32) * x4) + (2 : Int32))).toNatClampNeg))).toNatClampNeg ((g29 2 ((((8 : Int32) * x4) + (g24 1 ((((9 : Int32) * x4) + (2 : Int32))).toNatClampNeg))).toNatClampNeg) + (1 : Int32))) fun g32 =>
(bk (g24 1 ((((9 : Int32) * x4) + (2 : Int32))).toNatClampNeg) x4 (x6 + (1 : Int32)) g32))
else
some ((0 : Int32), g24))
else
z_ck (z_in (((9 : Int32) * x4) + (7 : Int32)) 54) <|
z_lt (z_u2 g 1 ((((9 : Int32) * x4) + (7 : Int32))).toNatClampNeg (0 : Int32)) fun g38 =>
z_ck (z_in (((9 : Int32) * x4) + (1 : Int32)) 54) <|
z_lt (z_u2 g38 0 ((1 : Int32)).toNatClampNeg ((g38 0 ((1 : Int32)).toNatClampNeg) + ((1 : Int32) + (g38 1 ((((9 : Int32) * x4) + (1 : Int32))).toNatClampNeg)))) fun g40 =>
z_lt (z_u2 g40 0 ((2 : Int32)).toNatClampNeg (0 : Int32)) fun g41 =>
z_ck (z_in (((9 : Int32) * x4) + (2 : Int32)) 54) <|
(if 0 ≤ (g41 1 ((((9 : Int32) * x4) + (2 : Int32))).toNatClampNeg) then
z_ck (z_in (((8 : Int32) * x4) + (g41 1 ((((9 : Int32) * x4) + (2 : Int32))).toNatClampNeg)) 64) <|
(if (g41 2 ((((8 : Int32) * x4) + (g41 1 ((((9 : Int32) * x4) + (2 : Int32))).toNatClampNeg))).toNatClampNeg) = 0 then
z_lt (z_u2 g41 0 ((11 : Int32)).toNatClampNeg ((g41 0 ((11 : Int32)).toNatClampNeg) + (1 : Int32))) fun g50 =>
z_ck (z_in (((8 : Int32) * x4) + (g41 1 ((((9 : Int32) * x4) + (2 : Int32))).toNatClampNeg)) 64) <|
z_ck (z_in (((8 : Int32) * x4) + (g41 1 ((((9 : Int32) * x4) + (2 : Int32))).toNatClampNeg)) 64) <|
z_lt (z_u2 g50 2 ((((8 : Int32) * x4) + (g41 1 ((((9 : Int32) * x4) + (2 : Int32))).toNatClampNeg))).toNatClampNeg ((g50 2 ((((8 : Int32) * x4) + (g41 1 ((((9 : Int32) * x4) + (2 : Int32))).toNatClampNeg))).toNatClampNeg) + (1 : Int32))) fun g53 =>
(bk (g41 1 ((((9 : Int32) * x4) + (2 : Int32))).toNatClampNeg) x4 (x6 + (1 : Int32)) g53)
else
z_lt (z_u2 g41 0 ((11 : Int32)).toNatClampNeg ((g41 0 ((11 : Int32)).toNatClampNeg) + (0 : Int32))) fun g46 =>
z_ck (z_in (((8 : Int32) * x4) + (g41 1 ((((9 : Int32) * x4) + (2 : Int32))).toNatClampNeg)) 64) <|
z_ck (z_in (((8 : Int32) * x4) + (g41 1 ((((9 : Int32) * x4) + (2 : Int32))).toNatClampNeg)) 64) <|
z_lt (z_u2 g46 2 ((((8 : Int32) * x4) + (g41 1 ((((9 : Int32) * x4) + (2 : Int32))).toNatClampNeg))).toNatClampNeg ((g46 2 ((((8 : Int32) * x4) + (g41 1 ((((9 : Int32) * x4) + (2 : Int32))).toNatClampNeg))).toNatClampNeg) + (1 : Int32))) fun g49 =>
(bk (g41 1 ((((9 : Int32) * x4) + (2 : Int32))).toNatClampNeg) x4 (x6 + (1 : Int32)) g49))
else
some ((0 : Int32), g41)))
def jL_run_77_9 (N : Nat) (bk : Int32 → Int32 → Int32 → z_R → Option (Int32 × z_R)) (x4 : Int32) (x5 : Int32) (x6 : Int32) (g : z_R) : Option (Int32 × z_R) :=
z_lt (z_u2 g 0 ((2 : Int32)).toNatClampNeg (2 : Int32)) fun g8 =>
(if x6 = (99 : Int32) then
some ((2 : Int32), g8)
else
(lL_run_93 N x4 x5 x6 (fun x7_93 g93_14 => z_ck (z_in (((9 : Int32) * x4) + (8 : Int32)) 54) <|
z_lt (z_u2 g93_14 1 ((((9 : Int32) * x4) + (8 : Int32))).toNatClampNeg x7_93) fun g16 =>
(if x5 < 0 then
(jL_run_154_9 N bk x4 x5 x6 g16)
else
(if x7_93 ≤ 0 then
(jL_run_154_9 N bk x4 x5 x6 g16)
else
(fL_refund N x4 (g16)).bind fun u55 =>
(jL_run_154_9 N bk x4 x5 x6 u55)))) N (0 : Int32) g8))
def lL_run_9 (N : Nat) : Nat → Int32 → Int32 → Int32 → z_R → Option (Int32 × z_R)
  | 0, _, _, _, _ => none
  | fu + 1, x4, x5, x6, g => (if (100 : Int32) ≤ x6 then
some ((-1 : Int32), g)
else
z_lt (z_u2 g 0 ((2 : Int32)).toNatClampNeg (3 : Int32)) fun g2 =>
(if (5 : Int32) < x4 then
some ((3 : Int32), g2)
else
z_ck (z_in (((9 : Int32) * x4) + (5 : Int32)) 54) <|
(if 0 ≤ (g2 1 ((((9 : Int32) * x4) + (5 : Int32))).toNatClampNeg) then
z_lt (z_u2 g2 0 ((2 : Int32)).toNatClampNeg (1 : Int32)) fun g6 =>
(if x5 < 0 then
(jL_run_77_9 N (lL_run_9 N fu) x4 x5 x6 g6)
else
z_ck (z_in (((9 : Int32) * x4) + (3 : Int32)) 54) <|
(if (g6 1 ((((9 : Int32) * x4) + (3 : Int32))).toNatClampNeg) < 0 then
(jL_run_77_9 N (lL_run_9 N fu) x4 x5 x6 g6)
else
z_ck (z_in (((9 : Int32) * x4) + (3 : Int32)) 54) <|
(if (g6 1 ((((9 : Int32) * x4) + (3 : Int32))).toNatClampNeg) = x5 then
(jL_run_77_9 N (lL_run_9 N fu) x4 x5 x6 g6)
else
some ((1 : Int32), g6))))
else
some ((3 : Int32), g2))))
def fL_run (N : Nat) (p0 : Int32) (g : z_R) : Option (Int32 × z_R) :=
(lL_run_9 N N p0 (-1 : Int32) (0 : Int32) g)
def fL_move (N : Nat) (p1 : Int32) (p2 : Int32) (X : z_X) : Option (Int32 × z_X) :=
z_b2 (fX4_move N p1 p2 X) fun o1 X1 =>
(z_sm o1 (fun r1 =>
some (r1, X1)) (fun k =>
(if k = 3 then
some ((-1 : Int32), X1)
else
(if k = 2 then
some ((-2 : Int32), X1)
else
none))))
def lL_same_252 (N : Nat) (x4 : Int32) (x5 : Int32) (x6 : Int32) (x7 : Int32) (Y : z_N) : Nat → Int32 → Option Int32
  | 0, _ => none
  | fu + 1, x8 => (if (Y.2 0 ((11 : Int32)).toNatClampNeg) ≤ x8 then
(nX4_about N (0 : Int32) Y.1).bind fun r4 =>
(if r4 = (Y.2 0 ((0 : Int32)).toNatClampNeg) then
(nX4_about N (2 : Int32) Y.1).bind fun r6 =>
(if r6 = (Y.2 0 ((1 : Int32)).toNatClampNeg) then
(nX4_about N (3 : Int32) Y.1).bind fun r8 =>
z_ck (z_nz (Y.2 0 ((0 : Int32)).toNatClampNeg)) <|
(if r8 = ((Y.2 0 ((1 : Int32)).toNatClampNeg) - (Y.2 0 ((1 : Int32)).toNatClampNeg) / (Y.2 0 ((0 : Int32)).toNatClampNeg) * (Y.2 0 ((0 : Int32)).toNatClampNeg)) then
(nX4_about N (4 : Int32) Y.1).bind fun r11 =>
(if r11 = x7 then
(nX4_about N (5 : Int32) Y.1).bind fun r13 =>
(if r13 = x4 then
(nX4_about N (6 : Int32) Y.1).bind fun r15 =>
(if r15 = x5 then
(nX4_about N (7 : Int32) Y.1).bind fun r17 =>
(if r17 = x6 then
(nX4_about N (8 : Int32) Y.1).bind fun r19 =>
(if r19 = (Y.2 0 ((11 : Int32)).toNatClampNeg) then
(nX4_about N (9 : Int32) Y.1).bind fun r21 =>
(if r21 = (Y.2 0 ((2 : Int32)).toNatClampNeg) then
(nX4_jump N (Y.2 0 ((11 : Int32)).toNatClampNeg) (0 : Int32) Y.1).bind fun r23 =>
(if r23 = (-1 : Int32) then
some ((1 : Int32))
else
some ((0 : Int32)))
else
some ((0 : Int32)))
else
some ((0 : Int32)))
else
some ((0 : Int32)))
else
some ((0 : Int32)))
else
some ((0 : Int32)))
else
some ((0 : Int32)))
else
some ((0 : Int32)))
else
some ((0 : Int32)))
else
some ((0 : Int32)))
else
(nX4_jump N x8 (2 : Int32) Y.1).bind fun r25 =>
(nX4_jump N x8 (0 : Int32) Y.1).bind fun r26 =>
(nX4_jump N x8 (1 : Int32) Y.1).bind fun r27 =>
z_ck (z_in (((8 : Int32) * r26) + r27) 64) <|
(if r25 = (Y.2 2 ((((8 : Int32) * r26) + r27)).toNatClampNeg) then
(nX4_jump N x8 (2 : Int32) Y.1).bind fun r30 =>
(if (1 : Int32) ≤ r30 then
(lL_same_252 N x4 x5 x6 x7 Y fu (x8 + (1 : Int32)))
else
some ((0 : Int32)))
else
some ((0 : Int32))))
def lL_same_179 (N : Nat) (x6 : Int32) (x7 : Int32) (Y : z_N) : Nat → Int32 → Int32 → Int32 → Option Int32
  | 0, _, _, _ => none
  | fu + 1, x4, x5, x8 => (if (4 : Int32) ≤ x8 then
(lL_same_252 N x4 x5 x6 x7 Y N (0 : Int32))
else
(nX4_author N x8 (1 : Int32) Y.1).bind fun r32 =>
z_ck (z_in ((3 : Int32) + x8) 12) <|
(if r32 = (Y.2 0 (((3 : Int32) + x8)).toNatClampNeg) then
(nX4_author N x8 (2 : Int32) Y.1).bind fun r35 =>
z_ck (z_in ((7 : Int32) + x8) 12) <|
(if r35 = (Y.2 0 (((7 : Int32) + x8)).toNatClampNeg) then
z_ck (z_in ((3 : Int32) + x8) 12) <|
z_ck (z_in ((7 : Int32) + x8) 12) <|
(lL_same_179 N x6 x7 Y fu (x4 + (Y.2 0 (((3 : Int32) + x8)).toNatClampNeg)) (x5 + (Y.2 0 (((7 : Int32) + x8)).toNatClampNeg)) (x8 + (1 : Int32)))
else
some ((0 : Int32)))
else
some ((0 : Int32))))
def lL_same_32 (N : Nat) (x4 : Int32) (x5 : Int32) (x6 : Int32) (x7 : Int32) (x8 : Int32) (x9 : Int32) (Y : z_N) (k : Unit → Option Int32) : Nat → Int32 → Option Int32
  | 0, _ => none
  | fu + 1, x10 => (if (8 : Int32) < x10 then
(k ())
else
(nX4_order N x8 x10 Y.1).bind fun r41 =>
z_ck (z_in (x9 + x10) 54) <|
(if r41 = (Y.2 1 ((x9 + x10)).toNatClampNeg) then
(lL_same_32 N x4 x5 x6 x7 x8 x9 Y k fu (x10 + (1 : Int32)))
else
some ((0 : Int32))))
def jL_same_139_15 (N : Nat) (bk : Int32 → Int32 → Int32 → Option Int32) (x4 : Int32) (x5 : Int32) (x6 : Int32) (x7 : Int32) (x8 : Int32) (x9 : Int32) (Y : z_N) : Option Int32 :=
z_ck (z_in (x9 + (7 : Int32)) 54) <|
z_ck (z_in (x9 + (5 : Int32)) 54) <|
(if (Y.2 1 ((x9 + (5 : Int32))).toNatClampNeg) < 0 then
(bk (x6 + (Y.2 1 ((x9 + (7 : Int32))).toNatClampNeg)) (x7 + (0 : Int32)) (x8 + (1 : Int32)))
else
(bk (x6 + (Y.2 1 ((x9 + (7 : Int32))).toNatClampNeg)) (x7 + (1 : Int32)) (x8 + (1 : Int32))))
def lL_same_15 (N : Nat) (x4 : Int32) (x5 : Int32) (Y : z_N) : Nat → Int32 → Int32 → Int32 → Option Int32
  | 0, _, _, _ => none
  | fu + 1, x6, x7, x8 => (if (6 : Int32) ≤ x8 then
(lL_same_179 N x6 x7 Y N x4 x5 (0 : Int32))
else
(lL_same_32 N x4 x5 x6 x7 x8 ((9 : Int32) * x8) Y (fun _ : Unit => z_ck (z_in (((9 : Int32) * x8) + (5 : Int32)) 54) <|
(if 0 ≤ (Y.2 1 ((((9 : Int32) * x8) + (5 : Int32))).toNatClampNeg) then
z_ck (z_in (((9 : Int32) * x8) + (5 : Int32)) 54) <|
z_ck (z_nz (Y.2 0 ((0 : Int32)).toNatClampNeg)) <|
z_ck (z_nz (Y.2 0 ((0 : Int32)).toNatClampNeg)) <|
(nX4_waits N x8 Y.1).bind fun r49 =>
(if r49 = ((((Y.2 1 ((((9 : Int32) * x8) + (5 : Int32))).toNatClampNeg) - ((Y.2 0 ((1 : Int32)).toNatClampNeg) - (Y.2 0 ((1 : Int32)).toNatClampNeg) / (Y.2 0 ((0 : Int32)).toNatClampNeg) * (Y.2 0 ((0 : Int32)).toNatClampNeg))) + (Y.2 0 ((0 : Int32)).toNatClampNeg)) - (((Y.2 1 ((((9 : Int32) * x8) + (5 : Int32))).toNatClampNeg) - ((Y.2 0 ((1 : Int32)).toNatClampNeg) - (Y.2 0 ((1 : Int32)).toNatClampNeg) / (Y.2 0 ((0 : Int32)).toNatClampNeg) * (Y.2 0 ((0 : Int32)).toNatClampNeg))) + (Y.2 0 ((0 : Int32)).toNatClampNeg)) / (Y.2 0 ((0 : Int32)).toNatClampNeg) * (Y.2 0 ((0 : Int32)).toNatClampNeg)) then
z_ck (z_in (((9 : Int32) * x8) + (5 : Int32)) 54) <|
(if (Y.2 1 ((((9 : Int32) * x8) + (5 : Int32))).toNatClampNeg) < 0 then
(jL_same_139_15 N (lL_same_15 N x4 x5 Y fu) x4 x5 x6 x7 x8 ((9 : Int32) * x8) Y)
else
z_ck (z_in (((9 : Int32) * x8) + (5 : Int32)) 54) <|
(nX4_at N (Y.2 1 ((((9 : Int32) * x8) + (5 : Int32))).toNatClampNeg) Y.1).bind fun r57 =>
(if r57 = x8 then
(jL_same_139_15 N (lL_same_15 N x4 x5 Y fu) x4 x5 x6 x7 x8 ((9 : Int32) * x8) Y)
else
some ((0 : Int32))))
else
some ((0 : Int32)))
else
(nX4_waits N x8 Y.1).bind fun r59 =>
(if r59 = (-1 : Int32) then
z_ck (z_in (((9 : Int32) * x8) + (5 : Int32)) 54) <|
(if (Y.2 1 ((((9 : Int32) * x8) + (5 : Int32))).toNatClampNeg) < 0 then
(jL_same_139_15 N (lL_same_15 N x4 x5 Y fu) x4 x5 x6 x7 x8 ((9 : Int32) * x8) Y)
else
z_ck (z_in (((9 : Int32) * x8) + (5 : Int32)) 54) <|
(nX4_at N (Y.2 1 ((((9 : Int32) * x8) + (5 : Int32))).toNatClampNeg) Y.1).bind fun r64 =>
(if r64 = x8 then
(jL_same_139_15 N (lL_same_15 N x4 x5 Y fu) x4 x5 x6 x7 x8 ((9 : Int32) * x8) Y)
else
some ((0 : Int32))))
else
some ((0 : Int32))))) N (0 : Int32)))
def fL_same (N : Nat) (Y : z_N) : Option Int32 :=
(lL_same_15 N (0 : Int32) (0 : Int32) Y N (0 : Int32) (0 : Int32) (0 : Int32))
def lL_would_255 (N : Nat) (x1 : Int32) : Nat → Int32 → Int32 → z_O → Option (Int32 × z_O)
  | 0, _, _, _ => none
  | fu + 1, x12, x13, Y => (if x13 < 0 then
z_b2 (nX4_leastBribe N x1 Y.1) fun r28 u28 =>
z_lt ((u28, Y.2)) fun Y29 =>
(if r28 = x12 then
some ((1 : Int32), Y29)
else
some ((0 : Int32), Y29))
else
(fL_copy N 12 (Y.2.1 0) (Y.2.2 0)).bind fun u31 =>
z_lt ((Y.1, Y.2.1, z_uR Y.2.2 0 u31)) fun Y32 =>
(fL_copy N 54 (Y32.2.1 1) (Y32.2.2 1)).bind fun u33 =>
z_lt ((Y32.1, Y32.2.1, z_uR Y32.2.2 1 u33)) fun Y34 =>
z_ck (z_in (((9 : Int32) * x1) + (4 : Int32)) 54) <|
z_lt ((Y34.1, Y34.2.1, z_u2 Y34.2.2 1 ((((9 : Int32) * x1) + (4 : Int32))).toNatClampNeg x13)) fun Y36 =>
z_b2 (fL_lay N  (Y36.2.2)) fun r37 u37 =>
z_lt ((Y36.1, Y36.2.1, u37)) fun Y38 =>
z_ck (z_in (((9 : Int32) * x1) + (6 : Int32)) 54) <|
(if (Y38.2.2 1 ((((9 : Int32) * x1) + (6 : Int32))).toNatClampNeg) = 0 then
(lL_would_255 N x1 fu x13 (x13 + (-1 : Int32)) Y38)
else
(lL_would_255 N x1 fu x12 (x13 + (-1 : Int32)) Y38)))
def jL_would_204_115 (N : Nat) (bk : Int32 → Int32 → Int32 → z_O → Option (Int32 × z_O)) (x1 : Int32) (x2 : Int32) (x11 : Int32) (x12 : Int32) (x13 : Int32) (Y : z_O) : Option (Int32 × z_O) :=
(if x12 = x12 then
(bk x12 x13 (x12 + (1 : Int32)) Y)
else
(bk x12 x11 (x12 + (1 : Int32)) Y))
def jL_would_147_115 (N : Nat) (bk : Int32 → Int32 → Int32 → z_O → Option (Int32 × z_O)) (x1 : Int32) (x2 : Int32) (x10 : Int32) (x11 : Int32) (x12 : Int32) (Y : z_O) : Option (Int32 × z_O) :=
(fL_copy N 12 (Y.2.1 0) (Y.2.2 0)).bind fun u43 =>
z_lt ((Y.1, Y.2.1, z_uR Y.2.2 0 u43)) fun Y44 =>
(fL_copy N 54 (Y44.2.1 1) (Y44.2.2 1)).bind fun u45 =>
z_lt ((Y44.1, Y44.2.1, z_uR Y44.2.2 1 u45)) fun Y46 =>
z_ck (z_in (((9 : Int32) * x1) + (5 : Int32)) 54) <|
z_lt ((Y46.1, Y46.2.1, z_u2 Y46.2.2 1 ((((9 : Int32) * x1) + (5 : Int32))).toNatClampNeg x12)) fun Y48 =>
z_b2 (fL_run N x2 (Y48.2.2)) fun r49 u49 =>
z_lt ((Y48.1, Y48.2.1, u49)) fun Y50 =>
(if x10 < 0 then
(jL_would_204_115 N bk x1 x2 x11 x12 ((Y50.2.2 0 ((1 : Int32)).toNatClampNeg) - (Y50.2.1 0 ((1 : Int32)).toNatClampNeg)) Y50)
else
(if x11 ≤ ((Y50.2.2 0 ((1 : Int32)).toNatClampNeg) - (Y50.2.1 0 ((1 : Int32)).toNatClampNeg)) then
(if x10 = x12 then
(bk x10 ((Y50.2.2 0 ((1 : Int32)).toNatClampNeg) - (Y50.2.1 0 ((1 : Int32)).toNatClampNeg)) (x12 + (1 : Int32)) Y50)
else
(bk x10 x11 (x12 + (1 : Int32)) Y50))
else
(jL_would_204_115 N bk x1 x2 x11 x12 ((Y50.2.2 0 ((1 : Int32)).toNatClampNeg) - (Y50.2.1 0 ((1 : Int32)).toNatClampNeg)) Y50)))
def lL_would_115 (N : Nat) (x1 : Int32) (x2 : Int32) : Nat → Int32 → Int32 → Int32 → z_O → Option (Int32 × z_O)
  | 0, _, _, _, _ => none
  | fu + 1, x10, x11, x12, Y => (if (Y.2.1 0 ((0 : Int32)).toNatClampNeg) ≤ x12 then
z_b2 (nX4_bestPlace N x1 x2 Y.1) fun r24 u24 =>
z_lt ((u24, Y.2)) fun Y25 =>
(if r24 = x10 then
(lL_would_255 N x1 300 (-1 : Int32) (99 : Int32) Y25)
else
some ((0 : Int32), Y25))
else
(fL_at N x12 (Y.2.1)).bind fun r41 =>
(if r41 < 0 then
(jL_would_147_115 N (lL_would_115 N x1 x2 fu) x1 x2 x10 x11 x12 Y)
else
(fL_at N x12 (Y.2.1)).bind fun r55 =>
(if r55 = x1 then
(jL_would_147_115 N (lL_would_115 N x1 x2 fu) x1 x2 x10 x11 x12 Y)
else
(lL_would_115 N x1 x2 fu x10 x11 (x12 + (1 : Int32)) Y))))
def fL_would (N : Nat) (p1 : Int32) (p2 : Int32) (Y : z_O) : Option (Int32 × z_O) :=
(fL_copy N 12 (Y.2.1 0) (Y.2.2 0)).bind fun u1 =>
z_lt ((Y.1, Y.2.1, z_uR Y.2.2 0 u1)) fun Y2 =>
(fL_copy N 54 (Y2.2.1 1) (Y2.2.2 1)).bind fun u3 =>
z_lt ((Y2.1, Y2.2.1, z_uR Y2.2.2 1 u3)) fun Y4 =>
(fL_copy N 64 (Y4.2.1 2) (Y4.2.2 2)).bind fun u5 =>
z_lt ((Y4.1, Y4.2.1, z_uR Y4.2.2 2 u5)) fun Y6 =>
z_b2 (fL_run N p2 (Y6.2.2)) fun r7 u7 =>
z_lt ((Y6.1, Y6.2.1, u7)) fun Y8 =>
z_b2 (nX4_time N p2 Y8.1) fun r9 u9 =>
z_lt ((u9, Y8.2)) fun Y10 =>
(if r9 = ((Y8.2.2 0 ((1 : Int32)).toNatClampNeg) - (Y8.2.1 0 ((1 : Int32)).toNatClampNeg)) then
(fL_copy N 12 (Y10.2.1 0) (Y10.2.2 0)).bind fun u12 =>
z_lt ((Y10.1, Y10.2.1, z_uR Y10.2.2 0 u12)) fun Y13 =>
(fL_copy N 54 (Y13.2.1 1) (Y13.2.2 1)).bind fun u14 =>
z_lt ((Y13.1, Y13.2.1, z_uR Y13.2.2 1 u14)) fun Y15 =>
z_b2 (fL_lay N  (Y15.2.2)) fun r16 u16 =>
z_lt ((Y15.1, Y15.2.1, u16)) fun Y17 =>
z_b2 (fL_run N p2 (Y17.2.2)) fun r18 u18 =>
z_lt ((Y17.1, Y17.2.1, u18)) fun Y19 =>
z_b2 (nX4_saves N p2 Y19.1) fun r20 u20 =>
z_lt ((u20, Y19.2)) fun Y21 =>
(if r20 = (((Y8.2.2 0 ((1 : Int32)).toNatClampNeg) - (Y8.2.1 0 ((1 : Int32)).toNatClampNeg)) - ((Y21.2.2 0 ((1 : Int32)).toNatClampNeg) - (Y21.2.1 0 ((1 : Int32)).toNatClampNeg))) then
(lL_would_115 N p1 p2 N (-1 : Int32) (0 : Int32) (0 : Int32) Y21)
else
some ((0 : Int32), Y21))
else
some ((0 : Int32), Y10))
def jL_law_676_299 (N : Nat) (L : Nat) (xs : Nat → Int32) (bk : Int32 → z_O → Option Int32) (x8 : Int32) (x9 : Int32) (x11 : Int32) (Y : z_O) : Option Int32 :=
(fL_same N (Y.1, Y.2.1)).bind fun r19 =>
(if r19 = 0 then
some (0 : Int32)
else
(fL_low N (x9 >>> ((16 : Int32) &&& 31)) (6 : Int32)).bind fun r21 =>
z_b2 (fL_would N x11 r21 Y) fun r22 u22 =>
(if r22 = 0 then
some (0 : Int32)
else
(bk (x8 + (1 : Int32)) u22)))
def jL_law_355_299 (N : Nat) (L : Nat) (xs : Nat → Int32) (bk : Int32 → z_O → Option Int32) (x8 : Int32) (x9 : Int32) (x11 : Int32) (Y : z_O) : Option Int32 :=
z_b2 (fX4_lay N  Y.1) fun r14 u14 =>
z_lt ((u14, Y.2)) fun Y15 =>
z_b2 (fL_lay N  (Y15.2.1)) fun r16 u16 =>
z_lt ((Y15.1, u16, Y15.2.2)) fun Y17 =>
(if r14 = r16 then
(jL_law_676_299 N L xs bk x8 x9 x11 Y17)
else
some (0 : Int32))
def jL_law_510_299 (N : Nat) (L : Nat) (xs : Nat → Int32) (bk : Int32 → z_O → Option Int32) (x8 : Int32) (x9 : Int32) (x11 : Int32) (Y : z_O) : Option Int32 :=
(jL_law_676_299 N L xs bk x8 x9 x11 Y)
def jL_law_487_299 (N : Nat) (L : Nat) (xs : Nat → Int32) (bk : Int32 → z_O → Option Int32) (x8 : Int32) (x9 : Int32) (x11 : Int32) (x12 : Int32) (x13 : Int32) (Y : z_O) : Option Int32 :=
(fL_refund N x11 (Y.2.1)).bind fun u74 =>
z_lt ((Y.1, u74, Y.2.2)) fun Y75 =>
z_ck (z_in (x12 + (5 : Int32)) 54) <|
z_lt ((Y75.1, z_u2 Y75.2.1 1 ((x12 + (5 : Int32))).toNatClampNeg x13, Y75.2.2)) fun Y77 =>
z_ck (z_in (x12 + (6 : Int32)) 54) <|
z_lt ((Y77.1, z_u2 Y77.2.1 1 ((x12 + (6 : Int32))).toNatClampNeg (-1 : Int32), Y77.2.2)) fun Y79 =>
(jL_law_510_299 N L xs bk x8 x9 x11 Y79)
def lL_law_299 (N : Nat) (L : Nat) (xs : Nat → Int32) : Nat → Int32 → z_O → Option Int32
  | 0, _, _ => none
  | fu + 1, x8, Y => (if (9 : Int32) ≤ x8 then
some (1 : Int32)
else
(fL_cell N L xs ((7 : Int32) + x8)).bind fun r10 =>
(fL_low N r10 (8 : Int32)).bind fun r11 =>
(fL_low N (r10 >>> ((3 : Int32) &&& 31)) (6 : Int32)).bind fun r12 =>
(if r11 < (2 : Int32) then
(jL_law_355_299 N L xs (lL_law_299 N L xs fu) x8 r10 r12 Y)
else
(if x8 = 0 then
(jL_law_355_299 N L xs (lL_law_299 N L xs fu) x8 r10 r12 Y)
else
(if (5 : Int32) ≤ r11 then
(if r11 = (5 : Int32) then
(fL_low N (r10 >>> ((6 : Int32) &&& 31)) (Y.2.1 0 ((0 : Int32)).toNatClampNeg)).bind fun r66 =>
(fL_at N r66 (Y.2.1)).bind fun r67 =>
z_ck (z_in (((9 : Int32) * r12) + (7 : Int32)) 54) <|
z_b2 (fL_move N r12 r66 Y.1) fun r69 u69 =>
z_lt ((u69, Y.2)) fun Y70 =>
(if r67 < 0 then
(if r69 = (Y.2.1 1 ((((9 : Int32) * r12) + (7 : Int32))).toNatClampNeg) then
(if r67 < 0 then
(jL_law_487_299 N L xs (lL_law_299 N L xs fu) x8 r10 r12 ((9 : Int32) * r12) r66 Y70)
else
(if r67 = r12 then
(jL_law_487_299 N L xs (lL_law_299 N L xs fu) x8 r10 r12 ((9 : Int32) * r12) r66 Y70)
else
(jL_law_510_299 N L xs (lL_law_299 N L xs fu) x8 r10 r12 Y70)))
else
some (0 : Int32))
else
(if r67 = r12 then
(if r69 = (Y.2.1 1 ((((9 : Int32) * r12) + (7 : Int32))).toNatClampNeg) then
(if r67 < 0 then
(jL_law_487_299 N L xs (lL_law_299 N L xs fu) x8 r10 r12 ((9 : Int32) * r12) r66 Y70)
else
(if r67 = r12 then
(jL_law_487_299 N L xs (lL_law_299 N L xs fu) x8 r10 r12 ((9 : Int32) * r12) r66 Y70)
else
(jL_law_510_299 N L xs (lL_law_299 N L xs fu) x8 r10 r12 Y70)))
else
some (0 : Int32))
else
(if r69 = (-2 : Int32) then
(if r67 < 0 then
(jL_law_487_299 N L xs (lL_law_299 N L xs fu) x8 r10 r12 ((9 : Int32) * r12) r66 Y70)
else
(if r67 = r12 then
(jL_law_487_299 N L xs (lL_law_299 N L xs fu) x8 r10 r12 ((9 : Int32) * r12) r66 Y70)
else
(jL_law_510_299 N L xs (lL_law_299 N L xs fu) x8 r10 r12 Y70)))
else
some (0 : Int32))))
else
(if r11 = (6 : Int32) then
(fL_low N (r10 >>> ((6 : Int32) &&& 31)) (99 : Int32)).bind fun r60 =>
z_lt ((Y.1, z_u2 Y.2.1 0 ((1 : Int32)).toNatClampNeg ((Y.2.1 0 ((1 : Int32)).toNatClampNeg) + ((1 : Int32) + r60)), Y.2.2)) fun Y61 =>
z_b2 (nX4_turn N ((1 : Int32) + r60) Y61.1) fun r62 u62 =>
z_lt ((u62, Y61.2)) fun Y63 =>
z_ck (z_nz (Y63.2.1 0 ((0 : Int32)).toNatClampNeg)) <|
(if r62 = ((Y63.2.1 0 ((1 : Int32)).toNatClampNeg) - (Y63.2.1 0 ((1 : Int32)).toNatClampNeg) / (Y63.2.1 0 ((0 : Int32)).toNatClampNeg) * (Y63.2.1 0 ((0 : Int32)).toNatClampNeg)) then
(jL_law_676_299 N L xs (lL_law_299 N L xs fu) x8 r10 r12 Y63)
else
some (0 : Int32))
else
(fL_low N (r10 >>> ((6 : Int32) &&& 31)) (5 : Int32)).bind fun r28 =>
(if r28 = 0 then
(fL_low N (r10 >>> ((9 : Int32) &&& 31)) (4 : Int32)).bind fun r53 =>
z_b2 (nX4_change N r12 r28 r53 Y.1) fun r54 u54 =>
z_lt ((u54, Y.2)) fun Y55 =>
z_ck (z_in (((9 : Int32) * r12) + r28) 54) <|
(if r54 = (Y55.2.1 1 ((((9 : Int32) * r12) + r28)).toNatClampNeg) then
z_ck (z_in (((9 : Int32) * r12) + r28) 54) <|
z_lt ((Y55.1, z_u2 Y55.2.1 1 ((((9 : Int32) * r12) + r28)).toNatClampNeg r53, Y55.2.2)) fun Y59 =>
(jL_law_676_299 N L xs (lL_law_299 N L xs fu) x8 r10 r12 Y59)
else
some (0 : Int32))
else
(if r28 = (1 : Int32) then
(fL_low N (r10 >>> ((9 : Int32) &&& 31)) (9 : Int32)).bind fun r46 =>
z_b2 (nX4_change N r12 r28 ((1 : Int32) + r46) Y.1) fun r47 u47 =>
z_lt ((u47, Y.2)) fun Y48 =>
z_ck (z_in (((9 : Int32) * r12) + r28) 54) <|
(if r47 = (Y48.2.1 1 ((((9 : Int32) * r12) + r28)).toNatClampNeg) then
z_ck (z_in (((9 : Int32) * r12) + r28) 54) <|
z_lt ((Y48.1, z_u2 Y48.2.1 1 ((((9 : Int32) * r12) + r28)).toNatClampNeg ((1 : Int32) + r46), Y48.2.2)) fun Y52 =>
(jL_law_676_299 N L xs (lL_law_299 N L xs fu) x8 r10 r12 Y52)
else
some (0 : Int32))
else
(if r28 = (4 : Int32) then
(fL_low N (r10 >>> ((9 : Int32) &&& 31)) (100 : Int32)).bind fun r39 =>
z_b2 (nX4_change N r12 r28 r39 Y.1) fun r40 u40 =>
z_lt ((u40, Y.2)) fun Y41 =>
z_ck (z_in (((9 : Int32) * r12) + r28) 54) <|
(if r40 = (Y41.2.1 1 ((((9 : Int32) * r12) + r28)).toNatClampNeg) then
z_ck (z_in (((9 : Int32) * r12) + r28) 54) <|
z_lt ((Y41.1, z_u2 Y41.2.1 1 ((((9 : Int32) * r12) + r28)).toNatClampNeg r39, Y41.2.2)) fun Y45 =>
(jL_law_676_299 N L xs (lL_law_299 N L xs fu) x8 r10 r12 Y45)
else
some (0 : Int32))
else
(fL_low N (r10 >>> ((9 : Int32) &&& 31)) (9 : Int32)).bind fun r32 =>
z_b2 (nX4_change N r12 r28 (r32 - (1 : Int32)) Y.1) fun r33 u33 =>
z_lt ((u33, Y.2)) fun Y34 =>
z_ck (z_in (((9 : Int32) * r12) + r28) 54) <|
(if r33 = (Y34.2.1 1 ((((9 : Int32) * r12) + r28)).toNatClampNeg) then
z_ck (z_in (((9 : Int32) * r12) + r28) 54) <|
z_lt ((Y34.1, z_u2 Y34.2.1 1 ((((9 : Int32) * r12) + r28)).toNatClampNeg (r32 - (1 : Int32)), Y34.2.2)) fun Y38 =>
(jL_law_676_299 N L xs (lL_law_299 N L xs fu) x8 r10 r12 Y38)
else
some (0 : Int32)))))))
else
z_b2 (fL_run N r12 (Y.2.1)) fun r88 u88 =>
z_lt ((Y.1, u88, Y.2.2)) fun Y89 =>
(if r88 < 0 then
some (0 : Int32)
else
z_b2 (nX4_run N r12 Y89.1) fun r91 u91 =>
z_lt ((u91, Y89.2)) fun Y92 =>
(if r91 = r88 then
(jL_law_676_299 N L xs (lL_law_299 N L xs fu) x8 r10 r12 Y92)
else
some (0 : Int32)))))))
def lL_law_79 (N : Nat) (L : Nat) (xs : Nat → Int32) : Nat → Int32 → z_O → Option Int32
  | 0, _, _ => none
  | fu + 1, x8, Y => (if (6 : Int32) ≤ x8 then
(lL_law_299 N L xs 300 (0 : Int32) Y)
else
(fL_cell N L xs ((1 : Int32) + x8)).bind fun r94 =>
(fL_low N r94 (4 : Int32)).bind fun r95 =>
z_ck (z_in ((9 : Int32) * x8) 54) <|
z_lt ((Y.1, z_u2 Y.2.1 1 (((9 : Int32) * x8)).toNatClampNeg r95, Y.2.2)) fun Y97 =>
(fL_low N (r94 >>> ((2 : Int32) &&& 31)) (9 : Int32)).bind fun r98 =>
z_ck (z_in (((9 : Int32) * x8) + (1 : Int32)) 54) <|
z_lt ((Y97.1, z_u2 Y97.2.1 1 ((((9 : Int32) * x8) + (1 : Int32))).toNatClampNeg ((1 : Int32) + r98), Y97.2.2)) fun Y100 =>
(fL_low N (r94 >>> ((6 : Int32) &&& 31)) (9 : Int32)).bind fun r101 =>
z_ck (z_in (((9 : Int32) * x8) + (2 : Int32)) 54) <|
z_lt ((Y100.1, z_u2 Y100.2.1 1 ((((9 : Int32) * x8) + (2 : Int32))).toNatClampNeg (r101 - (1 : Int32)), Y100.2.2)) fun Y103 =>
(fL_low N (r94 >>> ((10 : Int32) &&& 31)) (3 : Int32)).bind fun r104 =>
(if r104 ≤ 0 then
(fL_low N (r94 >>> ((12 : Int32) &&& 31)) (7 : Int32)).bind fun r106 =>
z_ck (z_in (((9 : Int32) * x8) + (3 : Int32)) 54) <|
z_lt ((Y103.1, z_u2 Y103.2.1 1 ((((9 : Int32) * x8) + (3 : Int32))).toNatClampNeg r106, Y103.2.2)) fun Y108 =>
(fL_low N (r94 >>> ((15 : Int32) &&& 31)) (100 : Int32)).bind fun r109 =>
z_ck (z_in (((9 : Int32) * x8) + (4 : Int32)) 54) <|
z_lt ((Y108.1, z_u2 Y108.2.1 1 ((((9 : Int32) * x8) + (4 : Int32))).toNatClampNeg r109, Y108.2.2)) fun Y111 =>
z_ck (z_in (((9 : Int32) * x8) + (5 : Int32)) 54) <|
z_lt ((Y111.1, z_u2 Y111.2.1 1 ((((9 : Int32) * x8) + (5 : Int32))).toNatClampNeg (-1 : Int32), Y111.2.2)) fun Y113 =>
z_ck (z_in (((9 : Int32) * x8) + (6 : Int32)) 54) <|
z_lt ((Y113.1, z_u2 Y113.2.1 1 ((((9 : Int32) * x8) + (6 : Int32))).toNatClampNeg (-1 : Int32), Y113.2.2)) fun Y115 =>
z_ck (z_in (((9 : Int32) * x8) + (8 : Int32)) 54) <|
z_lt ((Y115.1, z_u2 Y115.2.1 1 ((((9 : Int32) * x8) + (8 : Int32))).toNatClampNeg (-1 : Int32), Y115.2.2)) fun Y117 =>
z_ck (z_in ((9 : Int32) * x8) 54) <|
z_ck (z_in (((9 : Int32) * x8) + (1 : Int32)) 54) <|
z_ck (z_in (((9 : Int32) * x8) + (2 : Int32)) 54) <|
z_ck (z_in (((9 : Int32) * x8) + (3 : Int32)) 54) <|
z_ck (z_in (((9 : Int32) * x8) + (4 : Int32)) 54) <|
z_b2 (nX4_addOrder N (Y117.2.1 1 (((9 : Int32) * x8)).toNatClampNeg) (Y117.2.1 1 ((((9 : Int32) * x8) + (1 : Int32))).toNatClampNeg) (Y117.2.1 1 ((((9 : Int32) * x8) + (2 : Int32))).toNatClampNeg) (Y117.2.1 1 ((((9 : Int32) * x8) + (3 : Int32))).toNatClampNeg) (Y117.2.1 1 ((((9 : Int32) * x8) + (4 : Int32))).toNatClampNeg) Y117.1) fun r123 u123 =>
z_lt ((u123, Y117.2)) fun Y124 =>
(if r123 = x8 then
(lL_law_79 N L xs fu (x8 + (1 : Int32)) Y124)
else
some (0 : Int32))
else
z_ck (z_in (((9 : Int32) * x8) + (3 : Int32)) 54) <|
z_lt ((Y103.1, z_u2 Y103.2.1 1 ((((9 : Int32) * x8) + (3 : Int32))).toNatClampNeg (-1 : Int32), Y103.2.2)) fun Y127 =>
(fL_low N (r94 >>> ((15 : Int32) &&& 31)) (100 : Int32)).bind fun r128 =>
z_ck (z_in (((9 : Int32) * x8) + (4 : Int32)) 54) <|
z_lt ((Y127.1, z_u2 Y127.2.1 1 ((((9 : Int32) * x8) + (4 : Int32))).toNatClampNeg r128, Y127.2.2)) fun Y130 =>
z_ck (z_in (((9 : Int32) * x8) + (5 : Int32)) 54) <|
z_lt ((Y130.1, z_u2 Y130.2.1 1 ((((9 : Int32) * x8) + (5 : Int32))).toNatClampNeg (-1 : Int32), Y130.2.2)) fun Y132 =>
z_ck (z_in (((9 : Int32) * x8) + (6 : Int32)) 54) <|
z_lt ((Y132.1, z_u2 Y132.2.1 1 ((((9 : Int32) * x8) + (6 : Int32))).toNatClampNeg (-1 : Int32), Y132.2.2)) fun Y134 =>
z_ck (z_in (((9 : Int32) * x8) + (8 : Int32)) 54) <|
z_lt ((Y134.1, z_u2 Y134.2.1 1 ((((9 : Int32) * x8) + (8 : Int32))).toNatClampNeg (-1 : Int32), Y134.2.2)) fun Y136 =>
z_ck (z_in ((9 : Int32) * x8) 54) <|
z_ck (z_in (((9 : Int32) * x8) + (1 : Int32)) 54) <|
z_ck (z_in (((9 : Int32) * x8) + (2 : Int32)) 54) <|
z_ck (z_in (((9 : Int32) * x8) + (3 : Int32)) 54) <|
z_ck (z_in (((9 : Int32) * x8) + (4 : Int32)) 54) <|
z_b2 (nX4_addOrder N (Y136.2.1 1 (((9 : Int32) * x8)).toNatClampNeg) (Y136.2.1 1 ((((9 : Int32) * x8) + (1 : Int32))).toNatClampNeg) (Y136.2.1 1 ((((9 : Int32) * x8) + (2 : Int32))).toNatClampNeg) (Y136.2.1 1 ((((9 : Int32) * x8) + (3 : Int32))).toNatClampNeg) (Y136.2.1 1 ((((9 : Int32) * x8) + (4 : Int32))).toNatClampNeg) Y136.1) fun r142 u142 =>
z_lt ((u142, Y136.2)) fun Y143 =>
(if r142 = x8 then
(lL_law_79 N L xs fu (x8 + (1 : Int32)) Y143)
else
some (0 : Int32))))
def fL_main (N L : Nat) (xs : Nat → Int32) (Y : z_O) : Option Int32 :=
(fL_cell N L xs (0 : Int32)).bind fun r1 =>
(fL_low N r1 (20 : Int32)).bind fun r2 =>
z_lt ((Y.1, z_u2 Y.2.1 0 ((0 : Int32)).toNatClampNeg ((6 : Int32) + r2), Y.2.2)) fun Y3 =>
z_lt ((Y3.1, z_u2 Y3.2.1 0 ((2 : Int32)).toNatClampNeg (-1 : Int32), Y3.2.2)) fun Y4 =>
z_b2 (nX4_setDrum N (Y4.2.1 0 ((0 : Int32)).toNatClampNeg) Y4.1) fun r5 u5 =>
z_lt ((u5, Y4.2)) fun Y6 =>
(if r5 = (12 : Int32) then
(lL_law_79 N L xs N (0 : Int32) Y6)
else
some (0 : Int32))
