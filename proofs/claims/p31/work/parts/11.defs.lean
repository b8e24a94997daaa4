/-! what the methods do, as functions: printed out of the bytecode by wip/p31/gen -/
def lX0_note_2 (N : Nat) (x1 : Int32) (x2 : Int32) (g : z_R) : Nat → Int32 → Option (z_R)
  | 0, _ => none
  | fu + 1, x3 => (if (g 0 4) ≤ x3 then
(if (256 : Int32) ≤ (g 0 4) then
some g
else
z_ck (z_in (g 0 4) 256) <|
z_lt (z_u2 g 13 ((g 0 4)).toNatClampNeg x1) fun g4 =>
z_ck (z_in (g4 0 4) 256) <|
z_lt (z_u2 g4 14 ((g4 0 4)).toNatClampNeg x2) fun g6 =>
z_ck (z_in (g6 0 4) 256) <|
z_lt (z_u2 g6 15 ((g6 0 4)).toNatClampNeg (1 : Int32)) fun g8 =>
z_lt (z_u2 g8 0 4 ((g8 0 4) + (1 : Int32))) fun g9 =>
some g9)
else
z_ck (z_in x3 256) <|
(if (g 13 (x3).toNatClampNeg) = x1 then
z_ck (z_in x3 256) <|
(if (g 14 (x3).toNatClampNeg) = x2 then
z_ck (z_in x3 256) <|
z_ck (z_in x3 256) <|
z_lt (z_u2 g 15 (x3).toNatClampNeg ((g 15 (x3).toNatClampNeg) + (1 : Int32))) fun g16 =>
some g16
else
(lX0_note_2 N x1 x2 g fu (x3 + (1 : Int32))))
else
(lX0_note_2 N x1 x2 g fu (x3 + (1 : Int32)))))
def fX0_note (N : Nat) (p1 : Int32) (p2 : Int32) (g : z_R) : Option (z_R) :=
(lX0_note_2 N p1 p2 g N (0 : Int32))
def fX0_number (N : Nat) (p1 : Int32) (p2 : Int32) (g : z_R) : Option Int32 :=
(if p1 < 0 then
some ((-1 : Int32))
else
(if p1 < (g 0 4) then
(if p2 = 0 then
z_ck (z_in p1 256) <|
some ((g 13 (p1).toNatClampNeg))
else
(if p2 = (1 : Int32) then
z_ck (z_in p1 256) <|
some ((g 14 (p1).toNatClampNeg))
else
z_ck (z_in p1 256) <|
some ((g 15 (p1).toNatClampNeg))))
else
some ((-1 : Int32))))
def lX0_copyFrom_2 (N : Nat) (h : z_R) : Nat → Int32 → z_R → Option (z_R)
  | 0, _, _ => none
  | fu + 1, x2, g => (if (h 0 4) ≤ x2 then
z_lt (z_u2 g 0 4 (h 0 4)) fun g2 =>
some g2
else
z_ck (z_in x2 256) <|
z_ck (z_in x2 256) <|
z_lt (z_u2 g 13 (x2).toNatClampNeg (h 13 (x2).toNatClampNeg)) fun g5 =>
z_ck (z_in x2 256) <|
z_ck (z_in x2 256) <|
z_lt (z_u2 g5 14 (x2).toNatClampNeg (h 14 (x2).toNatClampNeg)) fun g8 =>
z_ck (z_in x2 256) <|
z_ck (z_in x2 256) <|
z_lt (z_u2 g8 15 (x2).toNatClampNeg (h 15 (x2).toNatClampNeg)) fun g11 =>
(lX0_copyFrom_2 N h fu (x2 + (1 : Int32)) g11))
def fX0_copyFrom (N : Nat) (h : z_R) (g : z_R) : Option (z_R) :=
(lX0_copyFrom_2 N h N (0 : Int32) g)
def lX2_copyRow_2 (N : Nat) (ln : Nat) (f : Nat → Int32) : Nat → Int32 → (Nat → Int32) → Option ((Nat → Int32))
  | 0, _, _ => none
  | fu + 1, x2, h => (if (Int32.ofNat ln) ≤ x2 then
some h
else
(if (Int32.ofNat ln) ≤ x2 then
some h
else
z_ck (z_in x2 ln) <|
z_ck (z_in x2 ln) <|
z_lt (upd h (x2).toNatClampNeg (f (x2).toNatClampNeg)) fun h5 =>
(lX2_copyRow_2 N ln f fu (x2 + (1 : Int32)) h5)))
def fX2_copyRow (N : Nat) (ln : Nat) (f : Nat → Int32) (h : (Nat → Int32)) : Option ((Nat → Int32)) :=
(lX2_copyRow_2 N ln f N (0 : Int32) h)
def fX2_copyFrom (N : Nat) (h : z_R) (g : z_R) : Option (z_R) :=
z_lt (z_u2 g 0 0 (h 0 0)) fun g1 =>
z_lt (z_u2 g1 0 1 (h 0 1)) fun g2 =>
z_lt (z_u2 g2 0 2 (h 0 2)) fun g3 =>
z_lt (z_u2 g3 0 3 (h 0 3)) fun g4 =>
(fX2_copyRow N 16 (h 1)  (g4 1)).bind fun u5 =>
z_lt (z_uR g4 1 u5) fun g5 =>
(fX2_copyRow N 16 (h 2)  (g5 2)).bind fun u6 =>
z_lt (z_uR g5 2 u6) fun g6 =>
(fX2_copyRow N 16 (h 3)  (g6 3)).bind fun u7 =>
z_lt (z_uR g6 3 u7) fun g7 =>
(fX2_copyRow N 16 (h 4)  (g7 4)).bind fun u8 =>
z_lt (z_uR g7 4 u8) fun g8 =>
(fX2_copyRow N 16 (h 5)  (g8 5)).bind fun u9 =>
z_lt (z_uR g8 5 u9) fun g9 =>
(fX2_copyRow N 16 (h 6)  (g9 6)).bind fun u10 =>
z_lt (z_uR g9 6 u10) fun g10 =>
(fX2_copyRow N 16 (h 7)  (g10 7)).bind fun u11 =>
z_lt (z_uR g10 7 u11) fun g11 =>
(fX2_copyRow N 16 (h 8)  (g11 8)).bind fun u12 =>
z_lt (z_uR g11 8 u12) fun g12 =>
(fX2_copyRow N 16 (h 9)  (g12 9)).bind fun u13 =>
z_lt (z_uR g12 9 u13) fun g13 =>
(fX2_copyRow N 4 (h 10)  (g13 10)).bind fun u14 =>
z_lt (z_uR g13 10 u14) fun g14 =>
(fX2_copyRow N 4 (h 11)  (g14 11)).bind fun u15 =>
z_lt (z_uR g14 11 u15) fun g15 =>
(fX0_copyFrom N h  g15).bind fun g16 =>
some g16
def fX2_has (N : Nat) (p1 : Int32) (g : z_R) : Option Int32 :=
(if p1 < 0 then
some ((0 : Int32))
else
(if (g 0 1) ≤ p1 then
some ((0 : Int32))
else
(if (16 : Int32) ≤ p1 then
some ((0 : Int32))
else
some ((1 : Int32)))))
def fX2_hasPlace (N : Nat) (p1 : Int32) (g : z_R) : Option Int32 :=
(if p1 < 0 then
some ((0 : Int32))
else
(if (g 0 0) ≤ p1 then
some ((0 : Int32))
else
some ((1 : Int32))))
def fX2_isOnDrum (N : Nat) (p1 : Int32) (g : z_R) : Option Int32 :=
(fX2_has N p1 g).bind fun r1 =>
(if r1 = 0 then
some ((0 : Int32))
else
z_ck (z_in p1 16) <|
(if (g 6 (p1).toNatClampNeg) = (-1 : Int32) then
some ((0 : Int32))
else
some ((1 : Int32))))
def fJ9_floorMod_7cf53 (N : Nat) (p0 : Int32) (p1 : Int32) : Option Int32 :=
z_ck (z_nz p1) <|
(if 0 ≤ (p0 ^^^ p1) then
some ((p0 - p0 / p1 * p1))
else
(if (p0 - p0 / p1 * p1) = 0 then
some ((p0 - p0 / p1 * p1))
else
some (((p0 - p0 / p1 * p1) + p1))))
def fX2_around (N : Nat) (p1 : Int32) (g : z_R) : Option Int32 :=
(if (g 0 0) ≤ 0 then
some ((0 : Int32))
else
(fJ9_floorMod_7cf53 N p1 (g 0 0)).bind fun r2 =>
some (r2))
def lX2_laidOrders_4 (N : Nat) (g : z_R) : Nat → Int32 → Int32 → Option Int32
  | 0, _, _ => none
  | fu + 1, x1, x2 => (if (16 : Int32) ≤ x2 then
some (x1)
else
(fX2_has N x2 g).bind fun r2 =>
(if r2 = 0 then
some (x1)
else
z_ck (z_in x2 16) <|
(if (g 6 (x2).toNatClampNeg) = (-1 : Int32) then
(lX2_laidOrders_4 N g fu x1 (x2 + (1 : Int32)))
else
(lX2_laidOrders_4 N g fu (x1 + (1 : Int32)) (x2 + (1 : Int32))))))
def fX2_laidOrders (N : Nat) (g : z_R) : Option Int32 :=
(lX2_laidOrders_4 N g N (0 : Int32) (0 : Int32))
def lX2_ordersOf_4 (N : Nat) (x1 : Int32) (g : z_R) : Nat → Int32 → Int32 → Option Int32
  | 0, _, _ => none
  | fu + 1, x2, x3 => (if (16 : Int32) ≤ x3 then
some (x2)
else
(fX2_has N x3 g).bind fun r2 =>
(if r2 = 0 then
some (x2)
else
z_ck (z_in x3 16) <|
(if (g 1 (x3).toNatClampNeg) = x1 then
(lX2_ordersOf_4 N x1 g fu (x2 + (1 : Int32)) (x3 + (1 : Int32)))
else
(lX2_ordersOf_4 N x1 g fu x2 (x3 + (1 : Int32))))))
def fX2_ordersOf (N : Nat) (p1 : Int32) (g : z_R) : Option Int32 :=
(lX2_ordersOf_4 N p1 g N (0 : Int32) (0 : Int32))
def lX2_orderOn_2 (N : Nat) (x1 : Int32) (g : z_R) : Nat → Int32 → Option Int32
  | 0, _ => none
  | fu + 1, x2 => (if (16 : Int32) ≤ x2 then
some ((-1 : Int32))
else
(fX2_has N x2 g).bind fun r2 =>
(if r2 = 0 then
some ((-1 : Int32))
else
z_ck (z_in x2 16) <|
(if (g 6 (x2).toNatClampNeg) = x1 then
some (x2)
else
(lX2_orderOn_2 N x1 g fu (x2 + (1 : Int32))))))
def fX2_orderOn (N : Nat) (p1 : Int32) (g : z_R) : Option Int32 :=
(lX2_orderOn_2 N p1 g N (0 : Int32))
def fX2_isFreeFor (N : Nat) (p1 : Int32) (p2 : Int32) (g : z_R) : Option Int32 :=
(fX2_orderOn N p2 g).bind fun r1 =>
(if r1 = (-1 : Int32) then
some ((1 : Int32))
else
(if r1 = p1 then
some ((1 : Int32))
else
some ((0 : Int32))))
def fX2_addNew (N : Nat) (p1 : Int32) (p2 : Int32) (p3 : Int32) (p4 : Int32) (p5 : Int32) (g : z_R) : Option (Int32 × z_R) :=
(if (g 0 1) < 0 then
some ((-1 : Int32), g)
else
(if (g 0 1) < (16 : Int32) then
z_ck (z_in (g 0 1) 16) <|
z_lt (z_u2 g 1 ((g 0 1)).toNatClampNeg p1) fun g4 =>
z_ck (z_in (g 0 1) 16) <|
z_lt (z_u2 g4 2 ((g 0 1)).toNatClampNeg p2) fun g6 =>
z_ck (z_in (g 0 1) 16) <|
z_lt (z_u2 g6 3 ((g 0 1)).toNatClampNeg p3) fun g8 =>
z_ck (z_in (g 0 1) 16) <|
z_lt (z_u2 g8 4 ((g 0 1)).toNatClampNeg p4) fun g10 =>
z_ck (z_in (g 0 1) 16) <|
z_lt (z_u2 g10 5 ((g 0 1)).toNatClampNeg p5) fun g12 =>
z_ck (z_in (g 0 1) 16) <|
z_lt (z_u2 g12 6 ((g 0 1)).toNatClampNeg (-1 : Int32)) fun g14 =>
z_ck (z_in (g 0 1) 16) <|
z_lt (z_u2 g14 7 ((g 0 1)).toNatClampNeg (-1 : Int32)) fun g16 =>
z_ck (z_in (g 0 1) 16) <|
z_lt (z_u2 g16 8 ((g 0 1)).toNatClampNeg (0 : Int32)) fun g18 =>
z_ck (z_in (g 0 1) 16) <|
z_lt (z_u2 g18 9 ((g 0 1)).toNatClampNeg (-1 : Int32)) fun g20 =>
z_lt (z_u2 g20 0 1 ((g20 0 1) + (1 : Int32))) fun g21 =>
some ((g 0 1), g21)
else
some ((-1 : Int32), g)))
def fX2_changeableRow (N : Nat) (p1 : Int32) (g : z_R) : Option Nat :=
(if p1 = (0 : Int32) then
some (1 : Nat)
else
(if p1 = (1 : Int32) then
some (2 : Nat)
else
(if p1 = (2 : Int32) then
some (3 : Nat)
else
(if p1 = (3 : Int32) then
some (4 : Nat)
else
(if p1 = (4 : Int32) then
some (5 : Nat)
else
some (0 : Nat))))))
def fX2_replace (N : Nat) (p1 : Int32) (p2 : Int32) (p3 : Int32) (g : z_R) : Option (Int32 × z_R) :=
(fX2_changeableRow N p2 g).bind fun r1 =>
(if r1 = 1 then
(if p1 < 0 then
some ((-1 : Int32), g)
else
(if p1 < (16 : Int32) then
z_ck (z_in p1 16) <|
z_ck (z_in p1 16) <|
z_lt (z_u2 g 1 (p1).toNatClampNeg p3) fun g6 =>
some ((g 1 (p1).toNatClampNeg), g6)
else
some ((-1 : Int32), g)))
else
(if r1 = 2 then
(if p1 < 0 then
some ((-1 : Int32), g)
else
(if p1 < (16 : Int32) then
z_ck (z_in p1 16) <|
z_ck (z_in p1 16) <|
z_lt (z_u2 g 2 (p1).toNatClampNeg p3) fun g11 =>
some ((g 2 (p1).toNatClampNeg), g11)
else
some ((-1 : Int32), g)))
else
(if r1 = 3 then
(if p1 < 0 then
some ((-1 : Int32), g)
else
(if p1 < (16 : Int32) then
z_ck (z_in p1 16) <|
z_ck (z_in p1 16) <|
z_lt (z_u2 g 3 (p1).toNatClampNeg p3) fun g16 =>
some ((g 3 (p1).toNatClampNeg), g16)
else
some ((-1 : Int32), g)))
else
(if r1 = 4 then
(if p1 < 0 then
some ((-1 : Int32), g)
else
(if p1 < (16 : Int32) then
z_ck (z_in p1 16) <|
z_ck (z_in p1 16) <|
z_lt (z_u2 g 4 (p1).toNatClampNeg p3) fun g21 =>
some ((g 4 (p1).toNatClampNeg), g21)
else
some ((-1 : Int32), g)))
else
(if r1 = 5 then
(if p1 < 0 then
some ((-1 : Int32), g)
else
(if p1 < (16 : Int32) then
z_ck (z_in p1 16) <|
z_ck (z_in p1 16) <|
z_lt (z_u2 g 5 (p1).toNatClampNeg p3) fun g26 =>
some ((g 5 (p1).toNatClampNeg), g26)
else
some ((-1 : Int32), g)))
else
(if r1 = 0 then
some ((-1 : Int32), g)
else
none))))))
def fX4_isAuthor (N : Nat) (p0 : Int32) : Option Int32 :=
(if p0 < 0 then
some ((0 : Int32))
else
(if (4 : Int32) ≤ p0 then
some ((0 : Int32))
else
some ((1 : Int32))))
def fX2_refund (N : Nat) (p1 : Int32) (g : z_R) : Option (Int32 × z_R) :=
z_ck (z_in p1 16) <|
z_ck (z_in p1 16) <|
z_lt (z_u2 g 8 (p1).toNatClampNeg (0 : Int32)) fun g3 =>
z_ck (z_in p1 16) <|
(fX4_isAuthor N (g3 1 (p1).toNatClampNeg)).bind fun r5 =>
(if r5 = 0 then
some ((g 8 (p1).toNatClampNeg), g3)
else
z_ck (z_in p1 16) <|
z_ck (z_in (g3 1 (p1).toNatClampNeg) 4) <|
z_ck (z_in (g3 1 (p1).toNatClampNeg) 4) <|
z_lt (z_u2 g3 11 ((g3 1 (p1).toNatClampNeg)).toNatClampNeg ((g3 11 ((g3 1 (p1).toNatClampNeg)).toNatClampNeg) + (g 8 (p1).toNatClampNeg))) fun g10 =>
some ((g 8 (p1).toNatClampNeg), g10))
def fX2_put (N : Nat) (p1 : Int32) (p2 : Int32) (g : z_R) : Option (Int32 × z_R) :=
z_b2 (fX2_refund N p1 g) fun r1 g1 =>
z_ck (z_in p1 16) <|
z_lt (z_u2 g1 6 (p1).toNatClampNeg p2) fun g3 =>
z_ck (z_in p1 16) <|
z_lt (z_u2 g3 7 (p1).toNatClampNeg (-1 : Int32)) fun g5 =>
some (r1, g5)
def lX2_takeAllOff_2 (N : Nat) : Nat → Int32 → z_R → Option (z_R)
  | 0, _, _ => none
  | fu + 1, x1, g => (if (16 : Int32) ≤ x1 then
some g
else
(fX2_has N x1 g).bind fun r2 =>
(if r2 = 0 then
some g
else
z_b2 (fX2_put N x1 (-1 : Int32) g) fun r4 g4 =>
(lX2_takeAllOff_2 N fu (x1 + (1 : Int32)) g4)))
def fX2_takeAllOff (N : Nat) (g : z_R) : Option (z_R) :=
(lX2_takeAllOff_2 N N (0 : Int32) g)
def lX2_laidBehind_4 (N : Nat) (x1 : Int32) (g : z_R) : Nat → Int32 → Int32 → Option Int32
  | 0, _, _ => none
  | fu + 1, x2, x3 => (if (16 : Int32) ≤ x3 then
some (x2)
else
(fX2_has N x3 g).bind fun r2 =>
(if r2 = 0 then
some (x2)
else
(fX2_has N x1 g).bind fun r4 =>
(if r4 = 0 then
(if x2 = (-1 : Int32) then
(lX2_laidBehind_4 N x1 g fu x3 (x3 + (1 : Int32)))
else
z_ck (z_in x3 16) <|
z_ck (z_in x2 16) <|
(if (g 5 (x3).toNatClampNeg) ≤ (g 5 (x2).toNatClampNeg) then
(lX2_laidBehind_4 N x1 g fu x2 (x3 + (1 : Int32)))
else
(lX2_laidBehind_4 N x1 g fu x3 (x3 + (1 : Int32)))))
else
z_ck (z_in x3 16) <|
z_ck (z_in x1 16) <|
(if (g 5 (x3).toNatClampNeg) < (g 5 (x1).toNatClampNeg) then
(if x2 = (-1 : Int32) then
(lX2_laidBehind_4 N x1 g fu x3 (x3 + (1 : Int32)))
else
z_ck (z_in x3 16) <|
z_ck (z_in x2 16) <|
(if (g 5 (x3).toNatClampNeg) ≤ (g 5 (x2).toNatClampNeg) then
(lX2_laidBehind_4 N x1 g fu x2 (x3 + (1 : Int32)))
else
(lX2_laidBehind_4 N x1 g fu x3 (x3 + (1 : Int32)))))
else
z_ck (z_in x3 16) <|
z_ck (z_in x1 16) <|
(if (g 5 (x3).toNatClampNeg) = (g 5 (x1).toNatClampNeg) then
(if x3 ≤ x1 then
(lX2_laidBehind_4 N x1 g fu x2 (x3 + (1 : Int32)))
else
(if x2 = (-1 : Int32) then
(lX2_laidBehind_4 N x1 g fu x3 (x3 + (1 : Int32)))
else
z_ck (z_in x3 16) <|
z_ck (z_in x2 16) <|
(if (g 5 (x3).toNatClampNeg) ≤ (g 5 (x2).toNatClampNeg) then
(lX2_laidBehind_4 N x1 g fu x2 (x3 + (1 : Int32)))
else
(lX2_laidBehind_4 N x1 g fu x3 (x3 + (1 : Int32))))))
else
(lX2_laidBehind_4 N x1 g fu x2 (x3 + (1 : Int32))))))))
def fX2_laidBehind (N : Nat) (p1 : Int32) (g : z_R) : Option Int32 :=
(lX2_laidBehind_4 N p1 g N (-1 : Int32) (0 : Int32))
def lX2_wantedPlace_2 (N : Nat) (x1 : Int32) (g : z_R) (k : Unit → Option Int32) : Nat → Int32 → Option Int32
  | 0, _ => none
  | fu + 1, x2 => (if (16 : Int32) ≤ x2 then
(k ())
else
(fX2_has N x2 g).bind fun r2 =>
(if r2 = 0 then
(k ())
else
z_ck (z_in x2 16) <|
(if (g 6 (x2).toNatClampNeg) = (-1 : Int32) then
(lX2_wantedPlace_2 N x1 g k fu (x2 + (1 : Int32)))
else
z_ck (z_in x2 16) <|
(if (g 3 (x2).toNatClampNeg) = x1 then
z_ck (z_in x2 16) <|
z_ck (z_in x2 16) <|
(fX2_around N (((g 6 (x2).toNatClampNeg) + (1 : Int32)) + (g 2 (x2).toNatClampNeg)) g).bind fun r10 =>
some (r10)
else
(lX2_wantedPlace_2 N x1 g k fu (x2 + (1 : Int32)))))))
def fX2_wantedPlace (N : Nat) (p1 : Int32) (g : z_R) : Option Int32 :=
(lX2_wantedPlace_2 N p1 g (fun _ : Unit => z_ck (z_in p1 16) <|
(fX2_isOnDrum N (g 3 (p1).toNatClampNeg) g).bind fun r12 =>
(if r12 = 0 then
some ((0 : Int32))
else
z_ck (z_in p1 16) <|
z_ck (z_in (g 3 (p1).toNatClampNeg) 16) <|
z_ck (z_in p1 16) <|
(fX2_around N (((g 6 ((g 3 (p1).toNatClampNeg)).toNatClampNeg) - (1 : Int32)) - (g 2 (p1).toNatClampNeg)) g).bind fun r17 =>
some (r17))) N (0 : Int32))
def lX2_layOne_8 (N : Nat) (x1 : Int32) (x2 : Int32) (g : z_R) : Nat → Int32 → Option (z_R)
  | 0, _ => none
  | fu + 1, x3 => (if (g 0 0) ≤ x3 then
some g
else
(fX2_around N (x2 + x3) g).bind fun r3 =>
(fX2_orderOn N r3 g).bind fun r4 =>
(if r4 = (-1 : Int32) then
z_ck (z_in x1 16) <|
z_lt (z_u2 g 6 (x1).toNatClampNeg r3) fun g7 =>
z_ck (z_in x1 16) <|
z_lt (z_u2 g7 7 (x1).toNatClampNeg x3) fun g9 =>
z_ck (z_in x1 16) <|
z_ck (z_in x1 16) <|
z_lt (z_u2 g9 8 (x1).toNatClampNeg (g9 5 (x1).toNatClampNeg)) fun g12 =>
z_ck (z_in x1 16) <|
(fX4_isAuthor N (g12 1 (x1).toNatClampNeg)).bind fun r14 =>
(if r14 = 0 then
some g12
else
z_ck (z_in x1 16) <|
z_ck (z_in (g12 1 (x1).toNatClampNeg) 4) <|
z_ck (z_in x1 16) <|
z_ck (z_in (g12 1 (x1).toNatClampNeg) 4) <|
z_lt (z_u2 g12 10 ((g12 1 (x1).toNatClampNeg)).toNatClampNeg ((g12 10 ((g12 1 (x1).toNatClampNeg)).toNatClampNeg) + (g12 5 (x1).toNatClampNeg))) fun g20 =>
some g20)
else
(lX2_layOne_8 N x1 x2 g fu (x3 + (1 : Int32)))))
def fX2_layOne (N : Nat) (p1 : Int32) (g : z_R) : Option (z_R) :=
(fX2_wantedPlace N p1 g).bind fun r1 =>
(lX2_layOne_8 N p1 r1 g N (0 : Int32))
def lX2_layAll_14 (N : Nat) : Nat → Int32 → Int32 → Int32 → z_R → Option (Int32 × z_R)
  | 0, _, _, _, _ => none
  | fu + 1, x1, x2, x3, g => (if (16 : Int32) ≤ x3 then
some (x1, g)
else
(fX2_has N x2 g).bind fun r4 =>
(if r4 = 0 then
some (x1, g)
else
(fX2_layOne N x2 g).bind fun g6 =>
z_ck (z_in x2 16) <|
(if (g6 7 (x2).toNatClampNeg) = (-1 : Int32) then
(fX2_laidBehind N x2 g6).bind fun r9 =>
(lX2_layAll_14 N fu x1 r9 (x3 + (1 : Int32)) g6)
else
z_ck (z_in x2 16) <|
(fX2_laidBehind N x2 g6).bind fun r11 =>
(lX2_layAll_14 N fu (x1 + (g6 7 (x2).toNatClampNeg)) r11 (x3 + (1 : Int32)) g6))))
def fX2_layAll (N : Nat) (g : z_R) : Option (Int32 × z_R) :=
(fX2_takeAllOff N  g).bind fun g1 =>
(fX2_laidBehind N (-1 : Int32) g1).bind fun r2 =>
(lX2_layAll_14 N N (0 : Int32) r2 (0 : Int32) g1)
def fX2_waitFor (N : Nat) (p1 : Int32) (g : z_R) : Option Int32 :=
(fX2_isOnDrum N p1 g).bind fun r1 =>
(if r1 = 0 then
some ((-1 : Int32))
else
z_ck (z_in p1 16) <|
(fX2_around N ((g 6 (p1).toNatClampNeg) - (g 0 2)) g).bind fun r4 =>
some (r4))
def fX2_read (N : Nat) (p1 : Int32) (p2 : Int32) (g : z_R) : Option (z_R) :=
z_ck (z_in p1 16) <|
(fX2_around N ((g 6 (p1).toNatClampNeg) - (g 0 2)) g).bind fun r2 =>
z_lt (z_u2 g 0 2 ((g 0 2) + r2)) fun g3 =>
z_ck (z_in p1 16) <|
z_lt (z_u2 g3 9 (p1).toNatClampNeg r2) fun g5 =>
(if p2 = 0 then
z_ck (z_in p1 16) <|
z_lt (z_u2 g5 0 2 ((g5 0 2) + ((1 : Int32) + (g5 2 (p1).toNatClampNeg)))) fun g8 =>
some g8
else
(if r2 = 0 then
z_ck (z_in p1 16) <|
z_lt (z_u2 g5 8 (p1).toNatClampNeg (0 : Int32)) fun g11 =>
z_ck (z_in p1 16) <|
z_lt (z_u2 g11 0 2 ((g11 0 2) + ((1 : Int32) + (g11 2 (p1).toNatClampNeg)))) fun g13 =>
some g13
else
z_b2 (fX2_refund N p1 g5) fun r14 g14 =>
z_ck (z_in p1 16) <|
z_lt (z_u2 g14 8 (p1).toNatClampNeg (0 : Int32)) fun g16 =>
z_ck (z_in p1 16) <|
z_lt (z_u2 g16 0 2 ((g16 0 2) + ((1 : Int32) + (g16 2 (p1).toNatClampNeg)))) fun g18 =>
some g18))
def lX2_runFrom_10 (N : Nat) (k : Int32 → z_R → Option (Int32 × z_R)) : Nat → Int32 → Int32 → Int32 → Int32 → z_R → Option (Int32 × z_R)
  | 0, _, _, _, _, _ => none
  | fu + 1, x2, x3, x4, x5, g => (if (99 : Int32) < x5 then
(k x2 g)
else
(if x2 = (-1 : Int32) then
(fX2_isOnDrum N x4 g).bind fun r3 =>
(if r3 = 0 then
(lX2_runFrom_10 N k fu (3 : Int32) x3 x4 (x5 + (1 : Int32)) g)
else
(if x3 = (-1 : Int32) then
(if x5 = (99 : Int32) then
(lX2_runFrom_10 N k fu (2 : Int32) x3 x4 (x5 + (1 : Int32)) g)
else
(if x3 = (-1 : Int32) then
(fX2_read N x4 (0 : Int32) g).bind fun g8 =>
z_ck (z_in x4 16) <|
(if (g8 3 (x4).toNatClampNeg) = (-1 : Int32) then
(lX2_runFrom_10 N k fu (0 : Int32) x3 x4 (x5 + (1 : Int32)) g8)
else
z_ck (z_in x4 16) <|
(fX0_note N x4 (g8 3 (x4).toNatClampNeg) g8).bind fun g12 =>
z_ck (z_in x4 16) <|
(lX2_runFrom_10 N k fu x2 x4 (g12 3 (x4).toNatClampNeg) (x5 + (1 : Int32)) g12))
else
(fX2_read N x4 (1 : Int32) g).bind fun g14 =>
z_ck (z_in x4 16) <|
(if (g14 3 (x4).toNatClampNeg) = (-1 : Int32) then
(lX2_runFrom_10 N k fu (0 : Int32) x3 x4 (x5 + (1 : Int32)) g14)
else
z_ck (z_in x4 16) <|
(fX0_note N x4 (g14 3 (x4).toNatClampNeg) g14).bind fun g18 =>
z_ck (z_in x4 16) <|
(lX2_runFrom_10 N k fu x2 x4 (g18 3 (x4).toNatClampNeg) (x5 + (1 : Int32)) g18))))
else
z_ck (z_in x4 16) <|
(if (g 4 (x4).toNatClampNeg) = (-1 : Int32) then
(if x5 = (99 : Int32) then
(lX2_runFrom_10 N k fu (2 : Int32) x3 x4 (x5 + (1 : Int32)) g)
else
(if x3 = (-1 : Int32) then
(fX2_read N x4 (0 : Int32) g).bind fun g24 =>
z_ck (z_in x4 16) <|
(if (g24 3 (x4).toNatClampNeg) = (-1 : Int32) then
(lX2_runFrom_10 N k fu (0 : Int32) x3 x4 (x5 + (1 : Int32)) g24)
else
z_ck (z_in x4 16) <|
(fX0_note N x4 (g24 3 (x4).toNatClampNeg) g24).bind fun g28 =>
z_ck (z_in x4 16) <|
(lX2_runFrom_10 N k fu x2 x4 (g28 3 (x4).toNatClampNeg) (x5 + (1 : Int32)) g28))
else
(fX2_read N x4 (1 : Int32) g).bind fun g30 =>
z_ck (z_in x4 16) <|
(if (g30 3 (x4).toNatClampNeg) = (-1 : Int32) then
(lX2_runFrom_10 N k fu (0 : Int32) x3 x4 (x5 + (1 : Int32)) g30)
else
z_ck (z_in x4 16) <|
(fX0_note N x4 (g30 3 (x4).toNatClampNeg) g30).bind fun g34 =>
z_ck (z_in x4 16) <|
(lX2_runFrom_10 N k fu x2 x4 (g34 3 (x4).toNatClampNeg) (x5 + (1 : Int32)) g34))))
else
z_ck (z_in x4 16) <|
(if (g 4 (x4).toNatClampNeg) = x3 then
(if x5 = (99 : Int32) then
(lX2_runFrom_10 N k fu (2 : Int32) x3 x4 (x5 + (1 : Int32)) g)
else
(if x3 = (-1 : Int32) then
(fX2_read N x4 (0 : Int32) g).bind fun g40 =>
z_ck (z_in x4 16) <|
(if (g40 3 (x4).toNatClampNeg) = (-1 : Int32) then
(lX2_runFrom_10 N k fu (0 : Int32) x3 x4 (x5 + (1 : Int32)) g40)
else
z_ck (z_in x4 16) <|
(fX0_note N x4 (g40 3 (x4).toNatClampNeg) g40).bind fun g44 =>
z_ck (z_in x4 16) <|
(lX2_runFrom_10 N k fu x2 x4 (g44 3 (x4).toNatClampNeg) (x5 + (1 : Int32)) g44))
else
(fX2_read N x4 (1 : Int32) g).bind fun g46 =>
z_ck (z_in x4 16) <|
(if (g46 3 (x4).toNatClampNeg) = (-1 : Int32) then
(lX2_runFrom_10 N k fu (0 : Int32) x3 x4 (x5 + (1 : Int32)) g46)
else
z_ck (z_in x4 16) <|
(fX0_note N x4 (g46 3 (x4).toNatClampNeg) g46).bind fun g50 =>
z_ck (z_in x4 16) <|
(lX2_runFrom_10 N k fu x2 x4 (g50 3 (x4).toNatClampNeg) (x5 + (1 : Int32)) g50))))
else
(lX2_runFrom_10 N k fu (1 : Int32) x3 x4 (x5 + (1 : Int32)) g)))))
else
(k x2 g)))
def fX2_runFrom (N : Nat) (p1 : Int32) (g : z_R) : Option (Int32 × z_R) :=
(lX2_runFrom_10 N (fun x2_10 g10_52 => z_lt (z_u2 g10_52 0 3 x2_10) fun g53 =>
some (x2_10, g53)) N (-1 : Int32) (-1 : Int32) p1 (0 : Int32) g)
def fX4_isWork (N : Nat) (p0 : Int32) : Option Int32 :=
(if p0 < (1 : Int32) then
some ((0 : Int32))
else
(if (9 : Int32) < p0 then
some ((0 : Int32))
else
some ((1 : Int32))))
def fX4_isLink (N : Nat) (p0 : Int32) : Option Int32 :=
(if p0 = (-1 : Int32) then
some ((1 : Int32))
else
(if p0 < 0 then
some ((0 : Int32))
else
(if (16 : Int32) ≤ p0 then
some ((0 : Int32))
else
some ((1 : Int32)))))
def fX4_isBribe (N : Nat) (p0 : Int32) : Option Int32 :=
(if p0 < 0 then
some ((0 : Int32))
else
(if (99 : Int32) < p0 then
some ((0 : Int32))
else
some ((1 : Int32))))
def fX4_isTurn (N : Nat) (p0 : Int32) : Option Int32 :=
(if p0 < (1 : Int32) then
some ((0 : Int32))
else
(if (99 : Int32) < p0 then
some ((0 : Int32))
else
some ((1 : Int32))))
def fX4_isNumberOfOrder (N : Nat) (p0 : Int32) (p1 : Int32) : Option Int32 :=
(if p0 = (0 : Int32) then
(fX4_isAuthor N p1).bind fun r2 =>
z_ck (z_bo r2) <|
some (r2)
else
(if p0 = (1 : Int32) then
(fX4_isWork N p1).bind fun r4 =>
z_ck (z_bo r4) <|
some (r4)
else
(if p0 = (2 : Int32) then
(fX4_isLink N p1).bind fun r6 =>
z_ck (z_bo r6) <|
some (r6)
else
(if p0 = (3 : Int32) then
(fX4_isLink N p1).bind fun r8 =>
z_ck (z_bo r8) <|
some (r8)
else
(if p0 = (4 : Int32) then
(fX4_isBribe N p1).bind fun r10 =>
z_ck (z_bo r10) <|
some (r10)
else
some ((0 : Int32)))))))
def lX4_sum_4 (N : Nat) (ln : Nat) (f : (Nat → Int32)) : Nat → Int32 → Int32 → Option Int32
  | 0, _, _ => none
  | fu + 1, x1, x2 => (if (Int32.ofNat ln) ≤ x2 then
some (x1)
else
z_ck (z_in x2 ln) <|
(lX4_sum_4 N ln f fu (x1 + (f (x2).toNatClampNeg)) (x2 + (1 : Int32))))
def fX4_sum (N : Nat) (ln : Nat) (f : (Nat → Int32)) : Option Int32 :=
(lX4_sum_4 N ln f N (0 : Int32) (0 : Int32))
