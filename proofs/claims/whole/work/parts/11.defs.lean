/-! what the methods do, as functions: printed out of the bytecode by wip/whole/gen -/
def lX0_note_2 (N : Nat) (x1 : Int32) (x2 : Int32) (g : z_R) : Nat → Int32 → Option (z_R)
  | 0, _ => none
  | fu + 1, x3 => (if (g 0 4) ≤ x3 then
(if (256 : Int32) ≤ (g 0 4) then
some g
else
z_ck (z_in (g 0 4) 256) <|
z_lt (z_u2 g 13 ((g 0 4)).toNatClampNeg x1) fun g4 =>
z_ck (z_in (g4 0 4) 256) <|
z_lt (z_u2 g4 14 ((g4 0 4)).toNatClampNeg x2) fun g6 =>
z_ck (z_in (g6 0 4) 256) <|
z_lt (z_u2 g6 15 ((g6 0 4)).toNatClampNeg (1 : Int32)) fun g8 =>
z_lt (z_u2 g8 0 4 ((g8 0 4) + (1 : Int32))) fun g9 =>
some g9)
else
z_ck (z_in x3 256) <|
(if (g 13 (x3).toNatClampNeg) = x1 then
z_ck (z_in x3 256) <|
(if (g 14 (x3).toNatClampNeg) = x2 then
z_ck (z_in x3 256) <|
z_ck (z_in x3 256) <|
z_lt (z_u2 g 15 (x3).toNatClampNeg ((g 15 (x3).toNatClampNeg) + (1 : Int32))) fun g16 =>
some g16
else
(lX0_note_2 N x1 x2 g fu (x3 + (1 : Int32))))
else
(lX0_note_2 N x1 x2 g fu (x3 + (1 : Int32)))))
def fX0_note (N : Nat) (p1 : Int32) (p2 : Int32) (g : z_R) : Option (z_R) :=
(lX0_note_2 N p1 p2 g N (0 : Int32))
def fX0_number (N : Nat) (p1 : Int32) (p2 : Int32) (g : z_R) : Option Int32 :=
(if p1 < 0 then
some ((-1 : Int32))
else
(if p1 < (g 0 4) then
(if p2 = 0 then
z_ck (z_in p1 256) <|
some ((g 13 (p1).toNatClampNeg))
else
(if p2 = (1 : Int32) then
z_ck (z_in p1 256) <|
some ((g 14 (p1).toNatClampNeg))
else
z_ck (z_in p1 256) <|
some ((g 15 (p1).toNatClampNeg))))
else
some ((-1 : Int32))))
def lX0_copyFrom_2 (N : Nat) (h : z_R) : Nat → Int32 → z_R → Option (z_R)
  | 0, _, _ => none
  | fu + 1, x2, g => (if (h 0 4) ≤ x2 then
z_lt (z_u2 g 0 4 (h 0 4)) fun g2 =>
some g2
else
z_ck (z_in x2 256) <|
z_ck (z_in x2 256) <|
z_lt (z_u2 g 13 (x2).toNatClampNeg (h 13 (x2).toNatClampNeg)) fun g5 =>
z_ck (z_in x2 256) <|
z_ck (z_in x2 256) <|
z_lt (z_u2 g5 14 (x2).toNatClampNeg (h 14 (x2).toNatClampNeg)) fun g8 =>
z_ck (z_in x2 256) <|
z_ck (z_in x2 256) <|
z_lt (z_u2 g8 15 (x2).toNatClampNeg (h 15 (x2).toNatClampNeg)) fun g11 =>
(lX0_copyFrom_2 N h fu (x2 + (1 : Int32)) g11))
def fX0_copyFrom (N : Nat) (h : z_R) (g : z_R) : Option (z_R) :=
(lX0_copyFrom_2 N h N (0 : Int32) g)
def lX2_reset_57 (N : Nat) : Nat → Int32 → z_R → Option (z_R)
  | 0, _, _ => none
  | fu + 1, x2, g => (if (16 : Int32) ≤ x2 then
some g
else
z_ck (z_in x2 16) <|
z_lt (z_u2 g 8 (x2).toNatClampNeg (0 : Int32)) fun g9 =>
(lX2_reset_57 N fu (x2 + (1 : Int32)) g9))
def lX2_reset_30 (N : Nat) : Nat → Int32 → z_R → Option (z_R)
  | 0, _, _ => none
  | fu + 1, x2, g => (if (4 : Int32) ≤ x2 then
(lX2_reset_57 N N (0 : Int32) g)
else
z_ck (z_in x2 4) <|
z_lt (z_u2 g 10 (x2).toNatClampNeg (0 : Int32)) fun g11 =>
z_ck (z_in x2 4) <|
z_lt (z_u2 g11 11 (x2).toNatClampNeg (0 : Int32)) fun g13 =>
(lX2_reset_30 N fu (x2 + (1 : Int32)) g13))
def fX2_reset (N : Nat) (p1 : Int32) (g : z_R) : Option (z_R) :=
z_lt (z_u2 g 0 0 p1) fun g1 =>
z_lt (z_u2 g1 0 1 (0 : Int32)) fun g2 =>
z_lt (z_u2 g2 0 2 (0 : Int32)) fun g3 =>
z_lt (z_u2 g3 0 3 (-1 : Int32)) fun g4 =>
z_lt (z_u2 g4 0 4 (0 : Int32)) fun g5 =>
(lX2_reset_30 N N (0 : Int32) g5)
def lX2_copyRow_2 (N : Nat) (ln : Nat) (f : Nat → Int32) : Nat → Int32 → (Nat → Int32) → Option ((Nat → Int32))
  | 0, _, _ => none
  | fu + 1, x2, h => (if (Int32.ofNat ln) ≤ x2 then
some h
else
(if (Int32.ofNat ln) ≤ x2 then
some h
else
z_ck (z_in x2 ln) <|
z_ck (z_in x2 ln) <|
z_lt (upd h (x2).toNatClampNeg (f (x2).toNatClampNeg)) fun h5 =>
(lX2_copyRow_2 N ln f fu (x2 + (1 : Int32)) h5)))
def fX2_copyRow (N : Nat) (ln : Nat) (f : Nat → Int32) (h : (Nat → Int32)) : Option ((Nat → Int32)) :=
(lX2_copyRow_2 N ln f N (0 : Int32) h)
def fX2_copyFrom (N : Nat) (h : z_R) (g : z_R) : Option (z_R) :=
z_lt (z_u2 g 0 0 (h 0 0)) fun g1 =>
z_lt (z_u2 g1 0 1 (h 0 1)) fun g2 =>
z_lt (z_u2 g2 0 2 (h 0 2)) fun g3 =>
z_lt (z_u2 g3 0 3 (h 0 3)) fun g4 =>
(fX2_copyRow N 16 (h 1)  (g4 1)).bind fun u5 =>
z_lt (z_uR g4 1 u5) fun g5 =>
(fX2_copyRow N 16 (h 2)  (g5 2)).bind fun u6 =>
z_lt (z_uR g5 2 u6) fun g6 =>
(fX2_copyRow N 16 (h 3)  (g6 3)).bind fun u7 =>
z_lt (z_uR g6 3 u7) fun g7 =>
(fX2_copyRow N 16 (h 4)  (g7 4)).bind fun u8 =>
z_lt (z_uR g7 4 u8) fun g8 =>
(fX2_copyRow N 16 (h 5)  (g8 5)).bind fun u9 =>
z_lt (z_uR g8 5 u9) fun g9 =>
(fX2_copyRow N 16 (h 6)  (g9 6)).bind fun u10 =>
z_lt (z_uR g9 6 u10) fun g10 =>
(fX2_copyRow N 16 (h 7)  (g10 7)).bind fun u11 =>
z_lt (z_uR g10 7 u11) fun g11 =>
(fX2_copyRow N 16 (h 8)  (g11 8)).bind fun u12 =>
z_lt (z_uR g11 8 u12) fun g12 =>
(fX2_copyRow N 16 (h 9)  (g12 9)).bind fun u13 =>
z_lt (z_uR g12 9 u13) fun g13 =>
(fX2_copyRow N 4 (h 10)  (g13 10)).bind fun u14 =>
z_lt (z_uR g13 10 u14) fun g14 =>
(fX2_copyRow N 4 (h 11)  (g14 11)).bind fun u15 =>
z_lt (z_uR g14 11 u15) fun g15 =>
(fX0_copyFrom N h  g15).bind fun g16 =>
some g16
def fX2_has (N : Nat) (p1 : Int32) (g : z_R) : Option Int32 :=
(if p1 < 0 then
some ((0 : Int32))
else
(if (g 0 1) ≤ p1 then
some ((0 : Int32))
else
(if (16 : Int32) ≤ p1 then
some ((0 : Int32))
else
some ((1 : Int32)))))
def fX2_hasPlace (N : Nat) (p1 : Int32) (g : z_R) : Option Int32 :=
(if p1 < 0 then
some ((0 : Int32))
else
(if (g 0 0) ≤ p1 then
some ((0 : Int32))
else
some ((1 : Int32))))
def fX2_isOnDrum (N : Nat) (p1 : Int32) (g : z_R) : Option Int32 :=
(fX2_has N p1 g).bind fun r1 =>
(if r1 = 0 then
some ((0 : Int32))
else
z_ck (z_in p1 16) <|
(if (g 6 (p1).toNatClampNeg) = (-1 : Int32) then
some ((0 : Int32))
else
some ((1 : Int32))))
def fJ9_floorMod_7cf53 (N : Nat) (p0 : Int32) (p1 : Int32) : Option Int32 :=
z_ck (z_nz p1) <|
(if 0 ≤ (p0 ^^^ p1) then
some ((p0 - p0 / p1 * p1))
else
(if (p0 - p0 / p1 * p1) = 0 then
some ((p0 - p0 / p1 * p1))
else
some (((p0 - p0 / p1 * p1) + p1))))
def fX2_around (N : Nat) (p1 : Int32) (g : z_R) : Option Int32 :=
(if (g 0 0) ≤ 0 then
some ((0 : Int32))
else
(fJ9_floorMod_7cf53 N p1 (g 0 0)).bind fun r2 =>
some (r2))
def lX2_laidOrders_4 (N : Nat) (g : z_R) : Nat → Int32 → Int32 → Option Int32
  | 0, _, _ => none
  | fu + 1, x1, x2 => (if (16 : Int32) ≤ x2 then
some (x1)
else
(fX2_has N x2 g).bind fun r2 =>
(if r2 = 0 then
some (x1)
else
z_ck (z_in x2 16) <|
(if (g 6 (x2).toNatClampNeg) = (-1 : Int32) then
(lX2_laidOrders_4 N g fu x1 (x2 + (1 : Int32)))
else
(lX2_laidOrders_4 N g fu (x1 + (1 : Int32)) (x2 + (1 : Int32))))))
def fX2_laidOrders (N : Nat) (g : z_R) : Option Int32 :=
(lX2_laidOrders_4 N g N (0 : Int32) (0 : Int32))
def lX2_ordersOf_4 (N : Nat) (x1 : Int32) (g : z_R) : Nat → Int32 → Int32 → Option Int32
  | 0, _, _ => none
  | fu + 1, x2, x3 => (if (16 : Int32) ≤ x3 then
some (x2)
else
(fX2_has N x3 g).bind fun r2 =>
(if r2 = 0 then
some (x2)
else
z_ck (z_in x3 16) <|
(if (g 1 (x3).toNatClampNeg) = x1 then
(lX2_ordersOf_4 N x1 g fu (x2 + (1 : Int32)) (x3 + (1 : Int32)))
else
(lX2_ordersOf_4 N x1 g fu x2 (x3 + (1 : Int32))))))
def fX2_ordersOf (N : Nat) (p1 : Int32) (g : z_R) : Option Int32 :=
(lX2_ordersOf_4 N p1 g N (0 : Int32) (0 : Int32))
def lX2_orderOn_2 (N : Nat) (x1 : Int32) (g : z_R) : Nat → Int32 → Option Int32
  | 0, _ => none
  | fu + 1, x2 => (if (16 : Int32) ≤ x2 then
some ((-1 : Int32))
else
(fX2_has N x2 g).bind fun r2 =>
(if r2 = 0 then
some ((-1 : Int32))
else
z_ck (z_in x2 16) <|
(if (g 6 (x2).toNatClampNeg) = x1 then
some (x2)
else
(lX2_orderOn_2 N x1 g fu (x2 + (1 : Int32))))))
def fX2_orderOn (N : Nat) (p1 : Int32) (g : z_R) : Option Int32 :=
(lX2_orderOn_2 N p1 g N (0 : Int32))
def fX2_isFreeFor (N : Nat) (p1 : Int32) (p2 : Int32) (g : z_R) : Option Int32 :=
(fX2_orderOn N p2 g).bind fun r1 =>
(if r1 = (-1 : Int32) then
some ((1 : Int32))
else
(if r1 = p1 then
some ((1 : Int32))
else
some ((0 : Int32))))
def lX2_chainLength_7 (N : Nat) (g : z_R) : Nat → Int32 → Int32 → Int32 → Option Int32
  | 0, _, _, _ => none
  | fu + 1, x2, x3, x4 => (if (16 : Int32) ≤ x3 then
some (x3)
else
(fX2_has N x4 g).bind fun r2 =>
(if r2 = 0 then
some (x3)
else
(if ((x2 >>> (x4 &&& 31)) &&& (1 : Int32)) = 0 then
z_ck (z_in x4 16) <|
(lX2_chainLength_7 N g fu (x2 ||| ((1 : Int32) <<< (x4 &&& 31))) (x3 + (1 : Int32)) (g 3 (x4).toNatClampNeg))
else
some (x3))))
def fX2_chainLength (N : Nat) (p1 : Int32) (g : z_R) : Option Int32 :=
(lX2_chainLength_7 N g N (0 : Int32) (0 : Int32) p1)
def lX2_ringLength_4 (N : Nat) (g : z_R) (k : Int32 → Option Int32) : Nat → Int32 → Int32 → Option Int32
  | 0, _, _ => none
  | fu + 1, x2, x3 => (if (16 : Int32) ≤ x3 then
(k x2)
else
(fX2_has N x2 g).bind fun r2 =>
(if r2 = 0 then
(k x2)
else
z_ck (z_in x2 16) <|
(lX2_ringLength_4 N g k fu (g 3 (x2).toNatClampNeg) (x3 + (1 : Int32)))))
def fX2_ringLength (N : Nat) (p1 : Int32) (g : z_R) : Option Int32 :=
(lX2_ringLength_4 N g (fun x2_4 => (fX2_has N x2_4 g).bind fun r5 =>
(if r5 = 0 then
some ((0 : Int32))
else
(fX2_chainLength N x2_4 g).bind fun r7 =>
some (r7))) N p1 (0 : Int32))
def fX2_addNew (N : Nat) (p1 : Int32) (p2 : Int32) (p3 : Int32) (p4 : Int32) (p5 : Int32) (g : z_R) : Option (Int32 × z_R) :=
(if (g 0 1) < 0 then
some ((-1 : Int32), g)
else
(if (g 0 1) < (16 : Int32) then
z_ck (z_in (g 0 1) 16) <|
z_lt (z_u2 g 1 ((g 0 1)).toNatClampNeg p1) fun g4 =>
z_ck (z_in (g 0 1) 16) <|
z_lt (z_u2 g4 2 ((g 0 1)).toNatClampNeg p2) fun g6 =>
z_ck (z_in (g 0 1) 16) <|
z_lt (z_u2 g6 3 ((g 0 1)).toNatClampNeg p3) fun g8 =>
z_ck (z_in (g 0 1) 16) <|
z_lt (z_u2 g8 4 ((g 0 1)).toNatClampNeg p4) fun g10 =>
z_ck (z_in (g 0 1) 16) <|
z_lt (z_u2 g10 5 ((g 0 1)).toNatClampNeg p5) fun g12 =>
z_ck (z_in (g 0 1) 16) <|
z_lt (z_u2 g12 6 ((g 0 1)).toNatClampNeg (-1 : Int32)) fun g14 =>
z_ck (z_in (g 0 1) 16) <|
z_lt (z_u2 g14 7 ((g 0 1)).toNatClampNeg (-1 : Int32)) fun g16 =>
z_ck (z_in (g 0 1) 16) <|
z_lt (z_u2 g16 8 ((g 0 1)).toNatClampNeg (0 : Int32)) fun g18 =>
z_ck (z_in (g 0 1) 16) <|
z_lt (z_u2 g18 9 ((g 0 1)).toNatClampNeg (-1 : Int32)) fun g20 =>
z_lt (z_u2 g20 0 1 ((g20 0 1) + (1 : Int32))) fun g21 =>
some ((g 0 1), g21)
else
some ((-1 : Int32), g)))
def fX2_changeableRow (N : Nat) (p1 : Int32) (g : z_R) : Option Nat :=
(if p1 = (0 : Int32) then
some (1 : Nat)
else
(if p1 = (1 : Int32) then
some (2 : Nat)
else
(if p1 = (2 : Int32) then
some (3 : Nat)
else
(if p1 = (3 : Int32) then
some (4 : Nat)
else
(if p1 = (4 : Int32) then
some (5 : Nat)
else
some (0 : Nat))))))
def fX2_replace (N : Nat) (p1 : Int32) (p2 : Int32) (p3 : Int32) (g : z_R) : Option (Int32 × z_R) :=
(fX2_changeableRow N p2 g).bind fun r1 =>
(if r1 = 1 then
(if p1 < 0 then
some ((-1 : Int32), g)
else
(if p1 < (16 : Int32) then
z_ck (z_in p1 16) <|
z_ck (z_in p1 16) <|
z_lt (z_u2 g 1 (p1).toNatClampNeg p3) fun g6 =>
some ((g 1 (p1).toNatClampNeg), g6)
else
some ((-1 : Int32), g)))
else
(if r1 = 2 then
(if p1 < 0 then
some ((-1 : Int32), g)
else
(if p1 < (16 : Int32) then
z_ck (z_in p1 16) <|
z_ck (z_in p1 16) <|
z_lt (z_u2 g 2 (p1).toNatClampNeg p3) fun g11 =>
some ((g 2 (p1).toNatClampNeg), g11)
else
some ((-1 : Int32), g)))
else
(if r1 = 3 then
(if p1 < 0 then
some ((-1 : Int32), g)
else
(if p1 < (16 : Int32) then
z_ck (z_in p1 16) <|
z_ck (z_in p1 16) <|
z_lt (z_u2 g 3 (p1).toNatClampNeg p3) fun g16 =>
some ((g 3 (p1).toNatClampNeg), g16)
else
some ((-1 : Int32), g)))
else
(if r1 = 4 then
(if p1 < 0 then
some ((-1 : Int32), g)
else
(if p1 < (16 : Int32) then
z_ck (z_in p1 16) <|
z_ck (z_in p1 16) <|
z_lt (z_u2 g 4 (p1).toNatClampNeg p3) fun g21 =>
some ((g 4 (p1).toNatClampNeg), g21)
else
some ((-1 : Int32), g)))
else
(if r1 = 5 then
(if p1 < 0 then
some ((-1 : Int32), g)
else
(if p1 < (16 : Int32) then
z_ck (z_in p1 16) <|
z_ck (z_in p1 16) <|
z_lt (z_u2 g 5 (p1).toNatClampNeg p3) fun g26 =>
some ((g 5 (p1).toNatClampNeg), g26)
else
some ((-1 : Int32), g)))
else
(if r1 = 0 then
some ((-1 : Int32), g)
else
none))))))
def fX4_isAuthor (N : Nat) (p0 : Int32) : Option Int32 :=
(if p0 < 0 then
some ((0 : Int32))
else
(if (4 : Int32) ≤ p0 then
some ((0 : Int32))
else
some ((1 : Int32))))
def fX2_refund (N : Nat) (p1 : Int32) (g : z_R) : Option (Int32 × z_R) :=
z_ck (z_in p1 16) <|
z_ck (z_in p1 16) <|
z_lt (z_u2 g 8 (p1).toNatClampNeg (0 : Int32)) fun g3 =>
z_ck (z_in p1 16) <|
(fX4_isAuthor N (g3 1 (p1).toNatClampNeg)).bind fun r5 =>
(if r5 = 0 then
some ((g 8 (p1).toNatClampNeg), g3)
else
z_ck (z_in p1 16) <|
z_ck (z_in (g3 1 (p1).toNatClampNeg) 4) <|
z_ck (z_in (g3 1 (p1).toNatClampNeg) 4) <|
z_lt (z_u2 g3 11 ((g3 1 (p1).toNatClampNeg)).toNatClampNeg ((g3 11 ((g3 1 (p1).toNatClampNeg)).toNatClampNeg) + (g 8 (p1).toNatClampNeg))) fun g10 =>
some ((g 8 (p1).toNatClampNeg), g10))
def fX2_put (N : Nat) (p1 : Int32) (p2 : Int32) (g : z_R) : Option (Int32 × z_R) :=
z_b2 (fX2_refund N p1 g) fun r1 g1 =>
z_ck (z_in p1 16) <|
z_lt (z_u2 g1 6 (p1).toNatClampNeg p2) fun g3 =>
z_ck (z_in p1 16) <|
z_lt (z_u2 g3 7 (p1).toNatClampNeg (-1 : Int32)) fun g5 =>
some (r1, g5)
def lX2_takeAllOff_2 (N : Nat) : Nat → Int32 → z_R → Option (z_R)
  | 0, _, _ => none
  | fu + 1, x1, g => (if (16 : Int32) ≤ x1 then
some g
else
(fX2_has N x1 g).bind fun r2 =>
(if r2 = 0 then
some g
else
z_b2 (fX2_put N x1 (-1 : Int32) g) fun r4 g4 =>
(lX2_takeAllOff_2 N fu (x1 + (1 : Int32)) g4)))
def fX2_takeAllOff (N : Nat) (g : z_R) : Option (z_R) :=
(lX2_takeAllOff_2 N N (0 : Int32) g)
def lX2_laidBehind_4 (N : Nat) (x1 : Int32) (g : z_R) : Nat → Int32 → Int32 → Option Int32
  | 0, _, _ => none
  | fu + 1, x2, x3 => (if (16 : Int32) ≤ x3 then
some (x2)
else
(fX2_has N x3 g).bind fun r2 =>
(if r2 = 0 then
some (x2)
else
(fX2_has N x1 g).bind fun r4 =>
(if r4 = 0 then
(if x2 = (-1 : Int32) then
(lX2_laidBehind_4 N x1 g fu x3 (x3 + (1 : Int32)))
else
z_ck (z_in x3 16) <|
z_ck (z_in x2 16) <|
(if (g 5 (x3).toNatClampNeg) ≤ (g 5 (x2).toNatClampNeg) then
(lX2_laidBehind_4 N x1 g fu x2 (x3 + (1 : Int32)))
else
(lX2_laidBehind_4 N x1 g fu x3 (x3 + (1 : Int32)))))
else
z_ck (z_in x3 16) <|
z_ck (z_in x1 16) <|
(if (g 5 (x3).toNatClampNeg) < (g 5 (x1).toNatClampNeg) then
(if x2 = (-1 : Int32) then
(lX2_laidBehind_4 N x1 g fu x3 (x3 + (1 : Int32)))
else
z_ck (z_in x3 16) <|
z_ck (z_in x2 16) <|
(if (g 5 (x3).toNatClampNeg) ≤ (g 5 (x2).toNatClampNeg) then
(lX2_laidBehind_4 N x1 g fu x2 (x3 + (1 : Int32)))
else
(lX2_laidBehind_4 N x1 g fu x3 (x3 + (1 : Int32)))))
else
z_ck (z_in x3 16) <|
z_ck (z_in x1 16) <|
(if (g 5 (x3).toNatClampNeg) = (g 5 (x1).toNatClampNeg) then
(if x3 ≤ x1 then
(lX2_laidBehind_4 N x1 g fu x2 (x3 + (1 : Int32)))
else
(if x2 = (-1 : Int32) then
(lX2_laidBehind_4 N x1 g fu x3 (x3 + (1 : Int32)))
else
z_ck (z_in x3 16) <|
z_ck (z_in x2 16) <|
(if (g 5 (x3).toNatClampNeg) ≤ (g 5 (x2).toNatClampNeg) then
(lX2_laidBehind_4 N x1 g fu x2 (x3 + (1 : Int32)))
else
(lX2_laidBehind_4 N x1 g fu x3 (x3 + (1 : Int32))))))
else
(lX2_laidBehind_4 N x1 g fu x2 (x3 + (1 : Int32))))))))
def fX2_laidBehind (N : Nat) (p1 : Int32) (g : z_R) : Option Int32 :=
(lX2_laidBehind_4 N p1 g N (-1 : Int32) (0 : Int32))
def lX2_wantedPlace_2 (N : Nat) (x1 : Int32) (g : z_R) (k : Unit → Option Int32) : Nat → Int32 → Option Int32
  | 0, _ => none
  | fu + 1, x2 => (if (16 : Int32) ≤ x2 then
(k ())
else
(fX2_has N x2 g).bind fun r2 =>
(if r2 = 0 then
(k ())
else
z_ck (z_in x2 16) <|
(if (g 6 (x2).toNatClampNeg) = (-1 : Int32) then
(lX2_wantedPlace_2 N x1 g k fu (x2 + (1 : Int32)))
else
z_ck (z_in x2 16) <|
(if (g 3 (x2).toNatClampNeg) = x1 then
z_ck (z_in x2 16) <|
z_ck (z_in x2 16) <|
(fX2_around N (((g 6 (x2).toNatClampNeg) + (1 : Int32)) + (g 2 (x2).toNatClampNeg)) g).bind fun r10 =>
some (r10)
else
(lX2_wantedPlace_2 N x1 g k fu (x2 + (1 : Int32)))))))
def fX2_wantedPlace (N : Nat) (p1 : Int32) (g : z_R) : Option Int32 :=
(lX2_wantedPlace_2 N p1 g (fun _ : Unit => z_ck (z_in p1 16) <|
(fX2_isOnDrum N (g 3 (p1).toNatClampNeg) g).bind fun r12 =>
(if r12 = 0 then
some ((0 : Int32))
else
z_ck (z_in p1 16) <|
z_ck (z_in (g 3 (p1).toNatClampNeg) 16) <|
z_ck (z_in p1 16) <|
(fX2_around N (((g 6 ((g 3 (p1).toNatClampNeg)).toNatClampNeg) - (1 : Int32)) - (g 2 (p1).toNatClampNeg)) g).bind fun r17 =>
some (r17))) N (0 : Int32))
def lX2_layOne_8 (N : Nat) (x1 : Int32) (x2 : Int32) (g : z_R) : Nat → Int32 → Option (z_R)
  | 0, _ => none
  | fu + 1, x3 => (if (g 0 0) ≤ x3 then
some g
else
(fX2_around N (x2 + x3) g).bind fun r3 =>
(fX2_orderOn N r3 g).bind fun r4 =>
(if r4 = (-1 : Int32) then
z_ck (z_in x1 16) <|
z_lt (z_u2 g 6 (x1).toNatClampNeg r3) fun g7 =>
z_ck (z_in x1 16) <|
z_lt (z_u2 g7 7 (x1).toNatClampNeg x3) fun g9 =>
z_ck (z_in x1 16) <|
z_ck (z_in x1 16) <|
z_lt (z_u2 g9 8 (x1).toNatClampNeg (g9 5 (x1).toNatClampNeg)) fun g12 =>
z_ck (z_in x1 16) <|
(fX4_isAuthor N (g12 1 (x1).toNatClampNeg)).bind fun r14 =>
(if r14 = 0 then
some g12
else
z_ck (z_in x1 16) <|
z_ck (z_in (g12 1 (x1).toNatClampNeg) 4) <|
z_ck (z_in x1 16) <|
z_ck (z_in (g12 1 (x1).toNatClampNeg) 4) <|
z_lt (z_u2 g12 10 ((g12 1 (x1).toNatClampNeg)).toNatClampNeg ((g12 10 ((g12 1 (x1).toNatClampNeg)).toNatClampNeg) + (g12 5 (x1).toNatClampNeg))) fun g20 =>
some g20)
else
(lX2_layOne_8 N x1 x2 g fu (x3 + (1 : Int32)))))
def fX2_layOne (N : Nat) (p1 : Int32) (g : z_R) : Option (z_R) :=
(fX2_wantedPlace N p1 g).bind fun r1 =>
(lX2_layOne_8 N p1 r1 g N (0 : Int32))
def lX2_layAll_14 (N : Nat) : Nat → Int32 → Int32 → Int32 → z_R → Option (Int32 × z_R)
  | 0, _, _, _, _ => none
  | fu + 1, x1, x2, x3, g => (if (16 : Int32) ≤ x3 then
some (x1, g)
else
(fX2_has N x2 g).bind fun r4 =>
(if r4 = 0 then
some (x1, g)
else
(fX2_layOne N x2 g).bind fun g6 =>
z_ck (z_in x2 16) <|
(if (g6 7 (x2).toNatClampNeg) = (-1 : Int32) then
(fX2_laidBehind N x2 g6).bind fun r9 =>
(lX2_layAll_14 N fu x1 r9 (x3 + (1 : Int32)) g6)
else
z_ck (z_in x2 16) <|
(fX2_laidBehind N x2 g6).bind fun r11 =>
(lX2_layAll_14 N fu (x1 + (g6 7 (x2).toNatClampNeg)) r11 (x3 + (1 : Int32)) g6))))
def fX2_layAll (N : Nat) (g : z_R) : Option (Int32 × z_R) :=
(fX2_takeAllOff N  g).bind fun g1 =>
(fX2_laidBehind N (-1 : Int32) g1).bind fun r2 =>
(lX2_layAll_14 N N (0 : Int32) r2 (0 : Int32) g1)
def fX2_waitFor (N : Nat) (p1 : Int32) (g : z_R) : Option Int32 :=
(fX2_isOnDrum N p1 g).bind fun r1 =>
(if r1 = 0 then
some ((-1 : Int32))
else
z_ck (z_in p1 16) <|
(fX2_around N ((g 6 (p1).toNatClampNeg) - (g 0 2)) g).bind fun r4 =>
some (r4))
def fX2_read (N : Nat) (p1 : Int32) (p2 : Int32) (g : z_R) : Option (z_R) :=
z_ck (z_in p1 16) <|
(fX2_around N ((g 6 (p1).toNatClampNeg) - (g 0 2)) g).bind fun r2 =>
z_lt (z_u2 g 0 2 ((g 0 2) + r2)) fun g3 =>
z_ck (z_in p1 16) <|
z_lt (z_u2 g3 9 (p1).toNatClampNeg r2) fun g5 =>
(if p2 = 0 then
z_ck (z_in p1 16) <|
z_lt (z_u2 g5 0 2 ((g5 0 2) + ((1 : Int32) + (g5 2 (p1).toNatClampNeg)))) fun g8 =>
some g8
else
(if r2 = 0 then
z_ck (z_in p1 16) <|
z_lt (z_u2 g5 8 (p1).toNatClampNeg (0 : Int32)) fun g11 =>
z_ck (z_in p1 16) <|
z_lt (z_u2 g11 0 2 ((g11 0 2) + ((1 : Int32) + (g11 2 (p1).toNatClampNeg)))) fun g13 =>
some g13
else
z_b2 (fX2_refund N p1 g5) fun r14 g14 =>
z_ck (z_in p1 16) <|
z_lt (z_u2 g14 8 (p1).toNatClampNeg (0 : Int32)) fun g16 =>
z_ck (z_in p1 16) <|
z_lt (z_u2 g16 0 2 ((g16 0 2) + ((1 : Int32) + (g16 2 (p1).toNatClampNeg)))) fun g18 =>
some g18))
def lX2_runFrom_10 (N : Nat) (k : Int32 → z_R → Option (Int32 × z_R)) : Nat → Int32 → Int32 → Int32 → Int32 → z_R → Option (Int32 × z_R)
  | 0, _, _, _, _, _ => none
  | fu + 1, x2, x3, x4, x5, g => (if (99 : Int32) < x5 then
(k x2 g)
else
(if x2 = (-1 : Int32) then
(fX2_isOnDrum N x4 g).bind fun r3 =>
(if r3 = 0 then
(lX2_runFrom_10 N k fu (3 : Int32) x3 x4 (x5 + (1 : Int32)) g)
else
(if x3 = (-1 : Int32) then
(if x5 = (99 : Int32) then
(lX2_runFrom_10 N k fu (2 : Int32) x3 x4 (x5 + (1 : Int32)) g)
else
(if x3 = (-1 : Int32) then
(fX2_read N x4 (0 : Int32) g).bind fun g8 =>
z_ck (z_in x4 16) <|
(if (g8 3 (x4).toNatClampNeg) = (-1 : Int32) then
(lX2_runFrom_10 N k fu (0 : Int32) x3 x4 (x5 + (1 : Int32)) g8)
else
z_ck (z_in x4 16) <|
(fX0_note N x4 (g8 3 (x4).toNatClampNeg) g8).bind fun g12 =>
z_ck (z_in x4 16) <|
(lX2_runFrom_10 N k fu x2 x4 (g12 3 (x4).toNatClampNeg) (x5 + (1 : Int32)) g12))
else
(fX2_read N x4 (1 : Int32) g).bind fun g14 =>
z_ck (z_in x4 16) <|
(if (g14 3 (x4).toNatClampNeg) = (-1 : Int32) then
(lX2_runFrom_10 N k fu (0 : Int32) x3 x4 (x5 + (1 : Int32)) g14)
else
z_ck (z_in x4 16) <|
(fX0_note N x4 (g14 3 (x4).toNatClampNeg) g14).bind fun g18 =>
z_ck (z_in x4 16) <|
(lX2_runFrom_10 N k fu x2 x4 (g18 3 (x4).toNatClampNeg) (x5 + (1 : Int32)) g18))))
else
z_ck (z_in x4 16) <|
(if (g 4 (x4).toNatClampNeg) = (-1 : Int32) then
(if x5 = (99 : Int32) then
(lX2_runFrom_10 N k fu (2 : Int32) x3 x4 (x5 + (1 : Int32)) g)
else
(if x3 = (-1 : Int32) then
(fX2_read N x4 (0 : Int32) g).bind fun g24 =>
z_ck (z_in x4 16) <|
(if (g24 3 (x4).toNatClampNeg) = (-1 : Int32) then
(lX2_runFrom_10 N k fu (0 : Int32) x3 x4 (x5 + (1 : Int32)) g24)
else
z_ck (z_in x4 16) <|
(fX0_note N x4 (g24 3 (x4).toNatClampNeg) g24).bind fun g28 =>
z_ck (z_in x4 16) <|
(lX2_runFrom_10 N k fu x2 x4 (g28 3 (x4).toNatClampNeg) (x5 + (1 : Int32)) g28))
else
(fX2_read N x4 (1 : Int32) g).bind fun g30 =>
z_ck (z_in x4 16) <|
(if (g30 3 (x4).toNatClampNeg) = (-1 : Int32) then
(lX2_runFrom_10 N k fu (0 : Int32) x3 x4 (x5 + (1 : Int32)) g30)
else
z_ck (z_in x4 16) <|
(fX0_note N x4 (g30 3 (x4).toNatClampNeg) g30).bind fun g34 =>
z_ck (z_in x4 16) <|
(lX2_runFrom_10 N k fu x2 x4 (g34 3 (x4).toNatClampNeg) (x5 + (1 : Int32)) g34))))
else
z_ck (z_in x4 16) <|
(if (g 4 (x4).toNatClampNeg) = x3 then
(if x5 = (99 : Int32) then
(lX2_runFrom_10 N k fu (2 : Int32) x3 x4 (x5 + (1 : Int32)) g)
else
(if x3 = (-1 : Int32) then
(fX2_read N x4 (0 : Int32) g).bind fun g40 =>
z_ck (z_in x4 16) <|
(if (g40 3 (x4).toNatClampNeg) = (-1 : Int32) then
(lX2_runFrom_10 N k fu (0 : Int32) x3 x4 (x5 + (1 : Int32)) g40)
else
z_ck (z_in x4 16) <|
(fX0_note N x4 (g40 3 (x4).toNatClampNeg) g40).bind fun g44 =>
z_ck (z_in x4 16) <|
(lX2_runFrom_10 N k fu x2 x4 (g44 3 (x4).toNatClampNeg) (x5 + (1 : Int32)) g44))
else
(fX2_read N x4 (1 : Int32) g).bind fun g46 =>
z_ck (z_in x4 16) <|
(if (g46 3 (x4).toNatClampNeg) = (-1 : Int32) then
(lX2_runFrom_10 N k fu (0 : Int32) x3 x4 (x5 + (1 : Int32)) g46)
else
z_ck (z_in x4 16) <|
(fX0_note N x4 (g46 3 (x4).toNatClampNeg) g46).bind fun g50 =>
z_ck (z_in x4 16) <|
(lX2_runFrom_10 N k fu x2 x4 (g50 3 (x4).toNatClampNeg) (x5 + (1 : Int32)) g50))))
else
(lX2_runFrom_10 N k fu (1 : Int32) x3 x4 (x5 + (1 : Int32)) g)))))
else
(k x2 g)))
def fX2_runFrom (N : Nat) (p1 : Int32) (g : z_R) : Option (Int32 × z_R) :=
(lX2_runFrom_10 N (fun x2_10 g10_52 => z_lt (z_u2 g10_52 0 3 x2_10) fun g53 =>
some (x2_10, g53)) N (-1 : Int32) (-1 : Int32) p1 (0 : Int32) g)
def fX3_isFull (N : Nat) (g : z_R) : Option Int32 :=
(if (g 0 0) < (160 : Int32) then
some ((0 : Int32))
else
some ((1 : Int32)))
def fX3_add (N : Nat) (p1 : Int32) (g : z_R) : Option (Int32 × z_R) :=
(if (g 0 0) < 0 then
some ((g 0 0), g)
else
(if (160 : Int32) ≤ (g 0 0) then
some ((g 0 0), g)
else
z_ck (z_in (g 0 0) 160) <|
z_lt (z_u2 g 1 ((g 0 0)).toNatClampNeg p1) fun g4 =>
z_lt (z_u2 g4 0 0 ((g4 0 0) + (1 : Int32))) fun g5 =>
some ((g5 0 0), g5)))
def fX3_empty (N : Nat) (g : z_R) : Option (Int32 × z_R) :=
z_lt (z_u2 g 0 0 (0 : Int32)) fun g1 =>
some ((g 0 0), g1)
def fX3_code (N : Nat) (p1 : Int32) (g : z_R) : Option Int32 :=
(if p1 < 0 then
some ((0 : Int32))
else
(if (160 : Int32) ≤ p1 then
some ((0 : Int32))
else
z_ck (z_in p1 160) <|
some ((g 1 (p1).toNatClampNeg))))
def fX3_isDigit (N : Nat) (p0 : Int32) : Option Int32 :=
(if p0 < (48 : Int32) then
some ((0 : Int32))
else
(if (57 : Int32) < p0 then
some ((0 : Int32))
else
some ((1 : Int32))))
def fX3_isAllowedInHead (N : Nat) (p1 : Int32) (p2 : Int32) (g : z_R) : Option Int32 :=
(if p1 = 0 then
(if p2 = (68 : Int32) then
some ((1 : Int32))
else
some ((0 : Int32)))
else
(if p1 = (1 : Int32) then
(if p2 < (48 : Int32) then
some ((0 : Int32))
else
(if (52 : Int32) < p2 then
some ((0 : Int32))
else
some ((1 : Int32))))
else
(fX3_code N (1 : Int32) g).bind fun r3 =>
(fX3_isDigit N p2).bind fun r4 =>
(if r4 = 0 then
some ((0 : Int32))
else
(if ((((10 : Int32) * (r3 - (48 : Int32))) + p2) - (48 : Int32)) < (6 : Int32) then
some ((0 : Int32))
else
(if (40 : Int32) < ((((10 : Int32) * (r3 - (48 : Int32))) + p2) - (48 : Int32)) then
some ((0 : Int32))
else
some ((1 : Int32)))))))
def fX3_endsLink (N : Nat) (p0 : Int32) (p1 : Int32) : Option Int32 :=
(if p0 = (45 : Int32) then
(if p1 = (45 : Int32) then
some ((1 : Int32))
else
some ((0 : Int32)))
else
(fX3_isDigit N p1).bind fun r2 =>
(if r2 = 0 then
some ((0 : Int32))
else
(if p0 = (48 : Int32) then
some ((1 : Int32))
else
(if (53 : Int32) < p1 then
some ((0 : Int32))
else
some ((1 : Int32))))))
def fX3_isAllowed (N : Nat) (p1 : Int32) (g : z_R) : Option Int32 :=
(fX3_code N p1 g).bind fun r1 =>
(if (3 : Int32) ≤ p1 then
(if p1 < (147 : Int32) then
(if ((p1 - (3 : Int32)) - (p1 - (3 : Int32)) / (9 : Int32) * (9 : Int32)) = (0 : Int32) then
(if r1 = (111 : Int32) then
some ((1 : Int32))
else
some ((0 : Int32)))
else
(if ((p1 - (3 : Int32)) - (p1 - (3 : Int32)) / (9 : Int32) * (9 : Int32)) = (1 : Int32) then
(if r1 < (48 : Int32) then
some ((0 : Int32))
else
(if (52 : Int32) ≤ r1 then
some ((0 : Int32))
else
some ((1 : Int32))))
else
(if ((p1 - (3 : Int32)) - (p1 - (3 : Int32)) / (9 : Int32) * (9 : Int32)) = (2 : Int32) then
(if r1 < (49 : Int32) then
some ((0 : Int32))
else
(if (57 : Int32) < r1 then
some ((0 : Int32))
else
some ((1 : Int32))))
else
(if ((p1 - (3 : Int32)) - (p1 - (3 : Int32)) / (9 : Int32) * (9 : Int32)) = (3 : Int32) then
(if r1 = (48 : Int32) then
some ((1 : Int32))
else
(if r1 = (49 : Int32) then
some ((1 : Int32))
else
(if r1 = (45 : Int32) then
some ((1 : Int32))
else
some ((0 : Int32)))))
else
(if ((p1 - (3 : Int32)) - (p1 - (3 : Int32)) / (9 : Int32) * (9 : Int32)) = (4 : Int32) then
(fX3_code N (p1 - (1 : Int32)) g).bind fun r13 =>
(fX3_endsLink N r13 r1).bind fun r14 =>
z_ck (z_bo r14) <|
some (r14)
else
(if ((p1 - (3 : Int32)) - (p1 - (3 : Int32)) / (9 : Int32) * (9 : Int32)) = (5 : Int32) then
(if r1 = (48 : Int32) then
some ((1 : Int32))
else
(if r1 = (49 : Int32) then
some ((1 : Int32))
else
(if r1 = (45 : Int32) then
some ((1 : Int32))
else
some ((0 : Int32)))))
else
(if ((p1 - (3 : Int32)) - (p1 - (3 : Int32)) / (9 : Int32) * (9 : Int32)) = (6 : Int32) then
(fX3_code N (p1 - (1 : Int32)) g).bind fun r19 =>
(fX3_endsLink N r19 r1).bind fun r20 =>
z_ck (z_bo r20) <|
some (r20)
else
(fX3_isDigit N r1).bind fun r22 =>
z_ck (z_bo r22) <|
some (r22))))))))
else
some ((0 : Int32)))
else
(fX3_isAllowedInHead N p1 r1 g).bind fun r24 =>
z_ck (z_bo r24) <|
some (r24))
def lX3_firstError_2 (N : Nat) (g : z_R) : Nat → Int32 → Option Int32
  | 0, _ => none
  | fu + 1, x1 => (if (g 0 0) ≤ x1 then
(if (g 0 0) < (3 : Int32) then
some ((g 0 0))
else
(if (((g 0 0) - (3 : Int32)) - ((g 0 0) - (3 : Int32)) / (9 : Int32) * (9 : Int32)) = 0 then
some ((-1 : Int32))
else
some ((g 0 0))))
else
(fX3_isAllowed N x1 g).bind fun r4 =>
(if r4 = 0 then
some (x1)
else
(lX3_firstError_2 N g fu (x1 + (1 : Int32)))))
def fX3_firstError (N : Nat) (g : z_R) : Option Int32 :=
(lX3_firstError_2 N g N (0 : Int32))
def fX3_digit (N : Nat) (p1 : Int32) (g : z_R) : Option Int32 :=
(fX3_code N p1 g).bind fun r1 =>
some ((r1 - (48 : Int32)))
def fX3_pair (N : Nat) (p1 : Int32) (g : z_R) : Option Int32 :=
(fX3_code N p1 g).bind fun r1 =>
(if r1 = (45 : Int32) then
some ((-1 : Int32))
else
(fX3_digit N p1 g).bind fun r3 =>
(fX3_digit N (p1 + (1 : Int32)) g).bind fun r4 =>
some ((((10 : Int32) * r3) + r4)))
def fX4_isWork (N : Nat) (p0 : Int32) : Option Int32 :=
(if p0 < (1 : Int32) then
some ((0 : Int32))
else
(if (9 : Int32) < p0 then
some ((0 : Int32))
else
some ((1 : Int32))))
def fX4_isLink (N : Nat) (p0 : Int32) : Option Int32 :=
(if p0 = (-1 : Int32) then
some ((1 : Int32))
else
(if p0 < 0 then
some ((0 : Int32))
else
(if (16 : Int32) ≤ p0 then
some ((0 : Int32))
else
some ((1 : Int32)))))
def fX4_isBribe (N : Nat) (p0 : Int32) : Option Int32 :=
(if p0 < 0 then
some ((0 : Int32))
else
(if (99 : Int32) < p0 then
some ((0 : Int32))
else
some ((1 : Int32))))
def fX4_isTurn (N : Nat) (p0 : Int32) : Option Int32 :=
(if p0 < (1 : Int32) then
some ((0 : Int32))
else
(if (99 : Int32) < p0 then
some ((0 : Int32))
else
some ((1 : Int32))))
def fX4_isNumberOfOrder (N : Nat) (p0 : Int32) (p1 : Int32) : Option Int32 :=
(if p0 = (0 : Int32) then
(fX4_isAuthor N p1).bind fun r2 =>
z_ck (z_bo r2) <|
some (r2)
else
(if p0 = (1 : Int32) then
(fX4_isWork N p1).bind fun r4 =>
z_ck (z_bo r4) <|
some (r4)
else
(if p0 = (2 : Int32) then
(fX4_isLink N p1).bind fun r6 =>
z_ck (z_bo r6) <|
some (r6)
else
(if p0 = (3 : Int32) then
(fX4_isLink N p1).bind fun r8 =>
z_ck (z_bo r8) <|
some (r8)
else
(if p0 = (4 : Int32) then
(fX4_isBribe N p1).bind fun r10 =>
z_ck (z_bo r10) <|
some (r10)
else
some ((0 : Int32)))))))
def lX4_sum_4 (N : Nat) (ln : Nat) (f : (Nat → Int32)) : Nat → Int32 → Int32 → Option Int32
  | 0, _, _ => none
  | fu + 1, x1, x2 => (if (Int32.ofNat ln) ≤ x2 then
some (x1)
else
z_ck (z_in x2 ln) <|
(lX4_sum_4 N ln f fu (x1 + (f (x2).toNatClampNeg)) (x2 + (1 : Int32))))
def fX4_sum (N : Nat) (ln : Nat) (f : (Nat → Int32)) : Option Int32 :=
(lX4_sum_4 N ln f N (0 : Int32) (0 : Int32))
def lX4_withoutLast_5 (N : Nat) (x0 : Int32) : Nat → Int64 → Int32 → Option Int64
  | 0, _, _ => none
  | fu + 1, x3, x5 => (if x0 ≤ x5 then
some (x3)
else
(lX4_withoutLast_5 N x0 fu (x3 / (100000 : Int64)) (x5 + (1 : Int32))))
def fX4_withoutLast (N : Nat) (p0 : Int32) (p1 : Int64) : Option Int64 :=
(lX4_withoutLast_5 N p0 N p1 (0 : Int32))
def fX5_thrown (N : Nat) (g : z_R) : Option Int32 :=
some ((g 0 0))
def lX5_copy_3 (N : Nat) (ln lk : Nat) (f : Nat → Int32) (x1 : Int32) (x3 : Int32) : Nat → Int32 → (Nat → Int32) → Option ((Nat → Int32))
  | 0, _, _ => none
  | fu + 1, x4, h => (if (925 : Int32) ≤ x4 then
some h
else
z_ck (z_in (x1 + x4) ln) <|
z_ck (z_in (x3 + x4) lk) <|
z_lt (upd h ((x3 + x4)).toNatClampNeg (f ((x1 + x4)).toNatClampNeg)) fun h4 =>
(lX5_copy_3 N ln lk f x1 x3 fu (x4 + (1 : Int32)) h4))
def fX5_copy (N : Nat) (ln lk : Nat) (f : Nat → Int32) (p1 : Int32) (p3 : Int32) (h : (Nat → Int32)) : Option ((Nat → Int32)) :=
(lX5_copy_3 N ln lk f p1 p3 N (0 : Int32) h)
def fX5_within (N : Nat) (p0 : Int32) (p1 : Int32) (p2 : Int32) : Option Int32 :=
(if p0 < p1 then
some ((0 : Int32))
else
(if p2 < p0 then
some ((0 : Int32))
else
some ((1 : Int32))))
def fX5_append (N : Nat) (p1 : Int32) (g : z_R) : Option (Int32 × z_R) :=
(fX5_within N p1 (0 : Int32) (255 : Int32)).bind fun r1 =>
(if r1 = 0 then
z_lt (z_u2 g 0 0 (1 : Int32)) fun g14 =>
(if (g14 0 0) ≤ 0 then
z_ck (z_in (g14 0 2) 160) <|
z_lt (z_u2 g14 8 ((g14 0 2)).toNatClampNeg p1) fun g17 =>
z_lt (z_u2 g17 0 2 ((g17 0 2) + (1 : Int32))) fun g18 =>
some ((g18 0 2), g18)
else
some ((0 : Int32), g14))
else
(if (g 0 2) = (160 : Int32) then
z_lt (z_u2 g 0 0 (2 : Int32)) fun g9 =>
(if (g9 0 0) ≤ 0 then
z_ck (z_in (g9 0 2) 160) <|
z_lt (z_u2 g9 8 ((g9 0 2)).toNatClampNeg p1) fun g12 =>
z_lt (z_u2 g12 0 2 ((g12 0 2) + (1 : Int32))) fun g13 =>
some ((g13 0 2), g13)
else
some ((0 : Int32), g9))
else
z_lt (z_u2 g 0 0 (0 : Int32)) fun g4 =>
(if (g4 0 0) ≤ 0 then
z_ck (z_in (g4 0 2) 160) <|
z_lt (z_u2 g4 8 ((g4 0 2)).toNatClampNeg p1) fun g7 =>
z_lt (z_u2 g7 0 2 ((g7 0 2) + (1 : Int32))) fun g8 =>
some ((g8 0 2), g8)
else
some ((0 : Int32), g4))))
def fX5_clearText (N : Nat) (g : z_R) : Option (Int32 × z_R) :=
z_lt (z_u2 g 0 0 (0 : Int32)) fun g1 =>
z_lt (z_u2 g1 0 2 (0 : Int32)) fun g2 =>
some ((g1 0 2), g2)
def fX5_digit (N : Nat) (p1 : Int32) (g : z_R) : Option Int32 :=
(if (g 0 2) ≤ p1 then
some ((-1 : Int32))
else
z_ck (z_in p1 160) <|
(fX5_within N (g 8 (p1).toNatClampNeg) (48 : Int32) (57 : Int32)).bind fun r3 =>
(if r3 = 0 then
some ((-1 : Int32))
else
z_ck (z_in p1 160) <|
some (((g 8 (p1).toNatClampNeg) - (48 : Int32)))))
def fX5_isMinus (N : Nat) (p1 : Int32) (g : z_R) : Option Int32 :=
(if (g 0 2) ≤ p1 then
some ((0 : Int32))
else
z_ck (z_in p1 160) <|
(if (g 8 (p1).toNatClampNeg) = (45 : Int32) then
some ((1 : Int32))
else
some ((0 : Int32))))
def fX5_behindLink (N : Nat) (p1 : Int32) (g : z_R) : Option Int32 :=
(fX5_digit N p1 g).bind fun r1 =>
(fX5_isMinus N p1 g).bind fun r2 =>
(if r2 = 0 then
(fX5_within N r1 (0 : Int32) (1 : Int32)).bind fun r13 =>
(if r13 = 0 then
some (p1)
else
(if 0 ≤ r1 then
(fX5_digit N (p1 + (1 : Int32)) g).bind fun r16 =>
(if r1 = 0 then
(fX5_within N r16 (0 : Int32) (9 : Int32)).bind fun r20 =>
(if r20 = 0 then
some ((p1 + (1 : Int32)))
else
some ((p1 + (2 : Int32))))
else
(fX5_within N r16 (0 : Int32) (5 : Int32)).bind fun r18 =>
(if r18 = 0 then
some ((p1 + (1 : Int32)))
else
some ((p1 + (2 : Int32)))))
else
(fX5_isMinus N (p1 + (1 : Int32)) g).bind fun r22 =>
(if r22 = 0 then
some ((p1 + (1 : Int32)))
else
some ((p1 + (2 : Int32))))))
else
(if 0 ≤ r1 then
(fX5_digit N (p1 + (1 : Int32)) g).bind fun r5 =>
(if r1 = 0 then
(fX5_within N r5 (0 : Int32) (9 : Int32)).bind fun r9 =>
(if r9 = 0 then
some ((p1 + (1 : Int32)))
else
some ((p1 + (2 : Int32))))
else
(fX5_within N r5 (0 : Int32) (5 : Int32)).bind fun r7 =>
(if r7 = 0 then
some ((p1 + (1 : Int32)))
else
some ((p1 + (2 : Int32)))))
else
(fX5_isMinus N (p1 + (1 : Int32)) g).bind fun r11 =>
(if r11 = 0 then
some ((p1 + (1 : Int32)))
else
some ((p1 + (2 : Int32))))))
def fX5_link (N : Nat) (p1 : Int32) (g : z_R) : Option Int32 :=
(fX5_isMinus N p1 g).bind fun r1 =>
(if r1 = 0 then
(fX5_digit N p1 g).bind fun r3 =>
(fX5_digit N (p1 + (1 : Int32)) g).bind fun r4 =>
some ((((10 : Int32) * r3) + r4))
else
some ((-1 : Int32)))
def fX5_readOrder (N : Nat) (p1 : Int32) (g : z_R) : Option (Int32 × z_R) :=
z_ck (z_in p1 160) <|
(if (g 8 (p1).toNatClampNeg) = (111 : Int32) then
(if (g 4 ((2 : Int32)).toNatClampNeg) = (16 : Int32) then
some (p1, g)
else
(fX5_digit N (p1 + (1 : Int32)) g).bind fun r4 =>
(fX5_within N r4 (0 : Int32) (3 : Int32)).bind fun r5 =>
(if r5 = 0 then
some ((p1 + (1 : Int32)), g)
else
(fX5_digit N (p1 + (2 : Int32)) g).bind fun r7 =>
(fX5_within N r7 (1 : Int32) (9 : Int32)).bind fun r8 =>
(if r8 = 0 then
some ((p1 + (2 : Int32)), g)
else
(fX5_behindLink N (p1 + (3 : Int32)) g).bind fun r10 =>
(if (p1 + (5 : Int32)) ≤ r10 then
(fX5_behindLink N (p1 + (5 : Int32)) g).bind fun r12 =>
(if (p1 + (7 : Int32)) ≤ r12 then
(fX5_digit N (p1 + (7 : Int32)) g).bind fun r14 =>
(if r14 < 0 then
(fX5_digit N (p1 + (7 : Int32)) g).bind fun r16 =>
(if 0 ≤ r16 then
some ((p1 + (8 : Int32)), g)
else
some ((p1 + (7 : Int32)), g))
else
(fX5_digit N (p1 + (8 : Int32)) g).bind fun r18 =>
(if 0 ≤ r18 then
(fX5_digit N (p1 + (1 : Int32)) g).bind fun r20 =>
z_ck (z_in (((13 : Int32) + ((9 : Int32) * (g 4 ((2 : Int32)).toNatClampNeg))) + (0 : Int32)) 925) <|
z_lt (z_u2 g 4 ((((13 : Int32) + ((9 : Int32) * (g 4 ((2 : Int32)).toNatClampNeg))) + (0 : Int32))).toNatClampNeg r20) fun g22 =>
(fX5_digit N (p1 + (2 : Int32)) g22).bind fun r23 =>
z_ck (z_in (((13 : Int32) + ((9 : Int32) * (g 4 ((2 : Int32)).toNatClampNeg))) + (1 : Int32)) 925) <|
z_lt (z_u2 g22 4 ((((13 : Int32) + ((9 : Int32) * (g 4 ((2 : Int32)).toNatClampNeg))) + (1 : Int32))).toNatClampNeg r23) fun g25 =>
(fX5_link N (p1 + (3 : Int32)) g25).bind fun r26 =>
z_ck (z_in (((13 : Int32) + ((9 : Int32) * (g 4 ((2 : Int32)).toNatClampNeg))) + (2 : Int32)) 925) <|
z_lt (z_u2 g25 4 ((((13 : Int32) + ((9 : Int32) * (g 4 ((2 : Int32)).toNatClampNeg))) + (2 : Int32))).toNatClampNeg r26) fun g28 =>
(fX5_link N (p1 + (5 : Int32)) g28).bind fun r29 =>
z_ck (z_in (((13 : Int32) + ((9 : Int32) * (g 4 ((2 : Int32)).toNatClampNeg))) + (3 : Int32)) 925) <|
z_lt (z_u2 g28 4 ((((13 : Int32) + ((9 : Int32) * (g 4 ((2 : Int32)).toNatClampNeg))) + (3 : Int32))).toNatClampNeg r29) fun g31 =>
(fX5_digit N (p1 + (7 : Int32)) g31).bind fun r32 =>
(fX5_digit N (p1 + (8 : Int32)) g31).bind fun r33 =>
z_ck (z_in (((13 : Int32) + ((9 : Int32) * (g 4 ((2 : Int32)).toNatClampNeg))) + (4 : Int32)) 925) <|
z_lt (z_u2 g31 4 ((((13 : Int32) + ((9 : Int32) * (g 4 ((2 : Int32)).toNatClampNeg))) + (4 : Int32))).toNatClampNeg (((10 : Int32) * r32) + r33)) fun g35 =>
z_ck (z_in (((13 : Int32) + ((9 : Int32) * (g 4 ((2 : Int32)).toNatClampNeg))) + (5 : Int32)) 925) <|
z_lt (z_u2 g35 4 ((((13 : Int32) + ((9 : Int32) * (g 4 ((2 : Int32)).toNatClampNeg))) + (5 : Int32))).toNatClampNeg (-1 : Int32)) fun g37 =>
z_ck (z_in (((13 : Int32) + ((9 : Int32) * (g 4 ((2 : Int32)).toNatClampNeg))) + (6 : Int32)) 925) <|
z_lt (z_u2 g37 4 ((((13 : Int32) + ((9 : Int32) * (g 4 ((2 : Int32)).toNatClampNeg))) + (6 : Int32))).toNatClampNeg (-1 : Int32)) fun g39 =>
z_ck (z_in (((13 : Int32) + ((9 : Int32) * (g 4 ((2 : Int32)).toNatClampNeg))) + (7 : Int32)) 925) <|
z_lt (z_u2 g39 4 ((((13 : Int32) + ((9 : Int32) * (g 4 ((2 : Int32)).toNatClampNeg))) + (7 : Int32))).toNatClampNeg (0 : Int32)) fun g41 =>
z_ck (z_in (((13 : Int32) + ((9 : Int32) * (g 4 ((2 : Int32)).toNatClampNeg))) + (8 : Int32)) 925) <|
z_lt (z_u2 g41 4 ((((13 : Int32) + ((9 : Int32) * (g 4 ((2 : Int32)).toNatClampNeg))) + (8 : Int32))).toNatClampNeg (-1 : Int32)) fun g43 =>
z_lt (z_u2 g43 4 ((2 : Int32)).toNatClampNeg ((g43 4 ((2 : Int32)).toNatClampNeg) + (1 : Int32))) fun g44 =>
some ((-1 : Int32), g44)
else
(fX5_digit N (p1 + (7 : Int32)) g).bind fun r45 =>
(if 0 ≤ r45 then
some ((p1 + (8 : Int32)), g)
else
some ((p1 + (7 : Int32)), g))))
else
some (r12, g))
else
some (r10, g)))))
else
some (p1, g))
def lX5_readText_118 (N : Nat) : Nat → Int32 → z_R → Option (Int32 × z_R)
  | 0, _, _ => none
  | fu + 1, x2, g => (if (g 0 2) ≤ x2 then
some ((-1 : Int32), g)
else
z_b2 (fX5_readOrder N x2 g) fun r16 g16 =>
(if r16 = (-1 : Int32) then
(lX5_readText_118 N fu (x2 + (9 : Int32)) g16)
else
some (r16, g16)))
def lX5_readText_2 (N : Nat) : Nat → Int32 → z_R → Option (Int32 × z_R)
  | 0, _, _ => none
  | fu + 1, x1, g => (if (925 : Int32) ≤ x1 then
z_lt (z_u2 g 4 ((4 : Int32)).toNatClampNeg (-1 : Int32)) fun g2 =>
(if (g2 0 2) = 0 then
some ((0 : Int32), g2)
else
(if (g2 8 ((0 : Int32)).toNatClampNeg) = (68 : Int32) then
(fX5_digit N (1 : Int32) g2).bind fun r5 =>
(fX5_within N r5 (0 : Int32) (4 : Int32)).bind fun r6 =>
(if r6 = 0 then
some ((1 : Int32), g2)
else
(fX5_digit N (2 : Int32) g2).bind fun r8 =>
(if r5 = 0 then
(if r5 = (4 : Int32) then
(fX5_within N r8 (6 : Int32) (0 : Int32)).bind fun r27 =>
(if r27 = 0 then
some ((2 : Int32), g2)
else
(fX5_digit N (2 : Int32) g2).bind fun r29 =>
z_lt (z_u2 g2 4 ((0 : Int32)).toNatClampNeg (((10 : Int32) * r5) + r29)) fun g30 =>
(lX5_readText_118 N N (3 : Int32) g30))
else
(fX5_within N r8 (6 : Int32) (9 : Int32)).bind fun r23 =>
(if r23 = 0 then
some ((2 : Int32), g2)
else
(fX5_digit N (2 : Int32) g2).bind fun r25 =>
z_lt (z_u2 g2 4 ((0 : Int32)).toNatClampNeg (((10 : Int32) * r5) + r25)) fun g26 =>
(lX5_readText_118 N N (3 : Int32) g26)))
else
(if r5 = (4 : Int32) then
(fX5_within N r8 (0 : Int32) (0 : Int32)).bind fun r18 =>
(if r18 = 0 then
some ((2 : Int32), g2)
else
(fX5_digit N (2 : Int32) g2).bind fun r20 =>
z_lt (z_u2 g2 4 ((0 : Int32)).toNatClampNeg (((10 : Int32) * r5) + r20)) fun g21 =>
(lX5_readText_118 N N (3 : Int32) g21))
else
(fX5_within N r8 (0 : Int32) (9 : Int32)).bind fun r11 =>
(if r11 = 0 then
some ((2 : Int32), g2)
else
(fX5_digit N (2 : Int32) g2).bind fun r13 =>
z_lt (z_u2 g2 4 ((0 : Int32)).toNatClampNeg (((10 : Int32) * r5) + r13)) fun g14 =>
(lX5_readText_118 N N (3 : Int32) g14)))))
else
some ((0 : Int32), g2)))
else
z_ck (z_in x1 925) <|
z_lt (z_u2 g 4 (x1).toNatClampNeg (0 : Int32)) fun g32 =>
(lX5_readText_2 N fu (x1 + (1 : Int32)) g32))
def fX5_readText (N : Nat) (g : z_R) : Option (Int32 × z_R) :=
(lX5_readText_2 N N (0 : Int32) g)
def fX5_errorPosition (N : Nat) (g : z_R) : Option (Int32 × z_R) :=
z_lt (z_u2 g 0 0 (0 : Int32)) fun g1 =>
z_b2 (fX5_readText N  g1) fun r2 g2 =>
some (r2, g2)
def fX5_load (N : Nat) (g : z_R) : Option (Int32 × z_R) :=
z_b2 (fX5_readText N  g) fun r1 g1 =>
(if r1 = (-1 : Int32) then
z_lt (z_u2 g1 0 0 (0 : Int32)) fun g9 =>
(if (g9 0 0) ≤ 0 then
(fX5_copy N 925 925 (g9 4) (0 : Int32) (0 : Int32) (g9 1)).bind fun u11 =>
z_lt (z_uR g9 1 u11) fun g11 =>
z_lt (z_u2 g11 0 1 (0 : Int32)) fun g12 =>
z_lt (z_u2 g12 7 ((0 : Int32)).toNatClampNeg (0 : Int32)) fun g13 =>
z_lt (z_u2 g13 7 ((1 : Int32)).toNatClampNeg (0 : Int32)) fun g14 =>
some ((g14 1 ((2 : Int32)).toNatClampNeg), g14)
else
some ((0 : Int32), g9))
else
z_lt (z_u2 g1 0 0 (1 : Int32)) fun g3 =>
(if (g3 0 0) ≤ 0 then
(fX5_copy N 925 925 (g3 4) (0 : Int32) (0 : Int32) (g3 1)).bind fun u5 =>
z_lt (z_uR g3 1 u5) fun g5 =>
z_lt (z_u2 g5 0 1 (0 : Int32)) fun g6 =>
z_lt (z_u2 g6 7 ((0 : Int32)).toNatClampNeg (0 : Int32)) fun g7 =>
z_lt (z_u2 g7 7 ((1 : Int32)).toNatClampNeg (0 : Int32)) fun g8 =>
some ((g8 1 ((2 : Int32)).toNatClampNeg), g8)
else
some ((0 : Int32), g3)))
def fX5_isOrder (N : Nat) (p1 : Int32) (g : z_R) : Option Int32 :=
(fX5_within N p1 (0 : Int32) ((g 1 ((2 : Int32)).toNatClampNeg) - (1 : Int32))).bind fun r1 =>
z_ck (z_bo r1) <|
some (r1)
def fX5_isPlace (N : Nat) (p1 : Int32) (g : z_R) : Option Int32 :=
(fX5_within N p1 (0 : Int32) ((g 1 ((0 : Int32)).toNatClampNeg) - (1 : Int32))).bind fun r1 =>
z_ck (z_bo r1) <|
some (r1)
def fX5_part (N : Nat) (p1 : Int32) (p2 : Int32) (g : z_R) : Option Int32 :=
z_ck (z_in (((13 : Int32) + ((9 : Int32) * p1)) + p2) 925) <|
some ((g 1 ((((13 : Int32) + ((9 : Int32) * p1)) + p2)).toNatClampNeg))
def fX5_setPart (N : Nat) (p1 : Int32) (p2 : Int32) (p3 : Int32) (g : z_R) : Option (z_R) :=
z_ck (z_in (((13 : Int32) + ((9 : Int32) * p1)) + p2) 925) <|
z_lt (z_u2 g 1 ((((13 : Int32) + ((9 : Int32) * p1)) + p2)).toNatClampNeg p3) fun g2 =>
some g2
def lX5_standing_4 (N : Nat) (x1 : Int32) (g : z_R) : Nat → Int32 → Int32 → Option Int32
  | 0, _, _ => none
  | fu + 1, x2, x3 => (if (g 1 ((2 : Int32)).toNatClampNeg) ≤ x3 then
some (x2)
else
(fX5_part N x3 (5 : Int32) g).bind fun r2 =>
(if r2 = x1 then
(lX5_standing_4 N x1 g fu x3 (x3 + (1 : Int32)))
else
(lX5_standing_4 N x1 g fu x2 (x3 + (1 : Int32)))))
def fX5_standing (N : Nat) (p1 : Int32) (g : z_R) : Option Int32 :=
(lX5_standing_4 N p1 g N (-1 : Int32) (0 : Int32))
def fX5_comingBy (N : Nat) (g : z_R) : Option Int32 :=
z_ck (z_nz (g 1 ((0 : Int32)).toNatClampNeg)) <|
some (((g 1 ((1 : Int32)).toNatClampNeg) - (g 1 ((1 : Int32)).toNatClampNeg) / (g 1 ((0 : Int32)).toNatClampNeg) * (g 1 ((0 : Int32)).toNatClampNeg)))
def lX5_refundedAll_4 (N : Nat) (g : z_R) : Nat → Int32 → Int32 → Option Int32
  | 0, _, _ => none
  | fu + 1, x1, x2 => (if (4 : Int32) ≤ x2 then
some (x1)
else
z_ck (z_in ((9 : Int32) + x2) 925) <|
(lX5_refundedAll_4 N g fu (x1 + (g 1 (((9 : Int32) + x2)).toNatClampNeg)) (x2 + (1 : Int32))))
def fX5_refundedAll (N : Nat) (g : z_R) : Option Int32 :=
(lX5_refundedAll_4 N g N (0 : Int32) (0 : Int32))
def lX5_about_79 (N : Nat) (x1 : Int32) (x2 : Int32) (x3 : Int32) (g : z_R) : Nat → Int32 → Int32 → Option (Int32 × z_R)
  | 0, _, _ => none
  | fu + 1, x4, x5 => (if (4 : Int32) ≤ x5 then
(if x1 = (0 : Int32) then
some ((g 1 ((0 : Int32)).toNatClampNeg), g)
else
(if x1 = (1 : Int32) then
some ((g 1 ((2 : Int32)).toNatClampNeg), g)
else
(if x1 = (2 : Int32) then
some ((g 1 ((1 : Int32)).toNatClampNeg), g)
else
(if x1 = (3 : Int32) then
(fX5_comingBy N  g).bind fun r7 =>
some (r7, g)
else
(if x1 = (4 : Int32) then
some (x2, g)
else
(if x1 = (5 : Int32) then
some (x4, g)
else
(if x1 = (6 : Int32) then
(fX5_refundedAll N  g).bind fun r8 =>
some (r8, g)
else
(if x1 = (7 : Int32) then
some (x3, g)
else
(if x1 = (8 : Int32) then
some ((g 1 ((3 : Int32)).toNatClampNeg), g)
else
(if x1 = (9 : Int32) then
some ((g 1 ((4 : Int32)).toNatClampNeg), g)
else
some ((0 : Int32), g)))))))))))
else
z_ck (z_in ((5 : Int32) + x5) 925) <|
(lX5_about_79 N x1 x2 x3 g fu (x4 + (g 1 (((5 : Int32) + x5)).toNatClampNeg)) (x5 + (1 : Int32))))
def lX5_about_26 (N : Nat) (x1 : Int32) (g : z_R) : Nat → Int32 → Int32 → Int32 → Option (Int32 × z_R)
  | 0, _, _, _ => none
  | fu + 1, x2, x3, x4 => (if (g 1 ((2 : Int32)).toNatClampNeg) ≤ x4 then
(lX5_about_79 N x1 x2 x3 g N (0 : Int32) (0 : Int32))
else
(fX5_part N x4 (5 : Int32) g).bind fun r10 =>
(if r10 = (-1 : Int32) then
(fX5_part N x4 (7 : Int32) g).bind fun r13 =>
(lX5_about_26 N x1 g fu (x2 + (0 : Int32)) (x3 + r13) (x4 + (1 : Int32)))
else
(fX5_part N x4 (7 : Int32) g).bind fun r12 =>
(lX5_about_26 N x1 g fu (x2 + (1 : Int32)) (x3 + r12) (x4 + (1 : Int32)))))
def fX5_about (N : Nat) (p1 : Int32) (g : z_R) : Option (Int32 × z_R) :=
(fX5_within N p1 (0 : Int32) (9 : Int32)).bind fun r1 =>
(if r1 = 0 then
z_lt (z_u2 g 0 0 (1 : Int32)) fun g3 =>
(lX5_about_26 N p1 g3 N (0 : Int32) (0 : Int32) (0 : Int32))
else
z_lt (z_u2 g 0 0 (0 : Int32)) fun g14 =>
(lX5_about_26 N p1 g14 N (0 : Int32) (0 : Int32) (0 : Int32)))
def fX5_order (N : Nat) (p1 : Int32) (p2 : Int32) (g : z_R) : Option (Int32 × z_R) :=
(fX5_isOrder N p1 g).bind fun r1 =>
(if r1 = 0 then
z_lt (z_u2 g 0 0 (1 : Int32)) fun g11 =>
(if (g11 0 0) ≤ 0 then
(fX5_part N p1 p2 g11).bind fun r13 =>
some (r13, g11)
else
some ((0 : Int32), g11))
else
(fX5_within N p2 (0 : Int32) (8 : Int32)).bind fun r3 =>
(if r3 = 0 then
z_lt (z_u2 g 0 0 (2 : Int32)) fun g5 =>
(if (g5 0 0) ≤ 0 then
(fX5_part N p1 p2 g5).bind fun r7 =>
some (r7, g5)
else
some ((0 : Int32), g5))
else
z_lt (z_u2 g 0 0 (0 : Int32)) fun g8 =>
(if (g8 0 0) ≤ 0 then
(fX5_part N p1 p2 g8).bind fun r10 =>
some (r10, g8)
else
some ((0 : Int32), g8))))
def fX5_isAuthor (N : Nat) (p0 : Int32) : Option Int32 :=
(fX5_within N p0 (0 : Int32) (3 : Int32)).bind fun r1 =>
z_ck (z_bo r1) <|
some (r1)
def lX5_author_43 (N : Nat) (x1 : Int32) (x2 : Int32) (g : z_R) : Nat → Int32 → Int32 → Option (Int32 × z_R)
  | 0, _, _ => none
  | fu + 1, x3, x4 => (if (g 1 ((2 : Int32)).toNatClampNeg) ≤ x4 then
(if x2 = 0 then
some (x3, g)
else
(if x2 = (1 : Int32) then
z_ck (z_in ((5 : Int32) + x1) 925) <|
some ((g 1 (((5 : Int32) + x1)).toNatClampNeg), g)
else
z_ck (z_in ((9 : Int32) + x1) 925) <|
some ((g 1 (((9 : Int32) + x1)).toNatClampNeg), g)))
else
(fX5_part N x4 (0 : Int32) g).bind fun r12 =>
(if r12 = x1 then
(lX5_author_43 N x1 x2 g fu (x3 + (1 : Int32)) (x4 + (1 : Int32)))
else
(lX5_author_43 N x1 x2 g fu (x3 + (0 : Int32)) (x4 + (1 : Int32)))))
def fX5_author (N : Nat) (p1 : Int32) (p2 : Int32) (g : z_R) : Option (Int32 × z_R) :=
(fX5_isAuthor N p1).bind fun r1 =>
(if r1 = 0 then
z_lt (z_u2 g 0 0 (1 : Int32)) fun g16 =>
(if (g16 0 0) ≤ 0 then
(lX5_author_43 N p1 p2 g16 N (0 : Int32) (0 : Int32))
else
some ((0 : Int32), g16))
else
(fX5_within N p2 (0 : Int32) (2 : Int32)).bind fun r3 =>
(if r3 = 0 then
z_lt (z_u2 g 0 0 (2 : Int32)) fun g5 =>
(if (g5 0 0) ≤ 0 then
(lX5_author_43 N p1 p2 g5 N (0 : Int32) (0 : Int32))
else
some ((0 : Int32), g5))
else
z_lt (z_u2 g 0 0 (0 : Int32)) fun g14 =>
(if (g14 0 0) ≤ 0 then
(lX5_author_43 N p1 p2 g14 N (0 : Int32) (0 : Int32))
else
some ((0 : Int32), g14))))
def fX5_at (N : Nat) (p1 : Int32) (g : z_R) : Option (Int32 × z_R) :=
(fX5_isPlace N p1 g).bind fun r1 =>
(if r1 = 0 then
z_lt (z_u2 g 0 0 (1 : Int32)) fun g3 =>
(if (g3 0 0) ≤ 0 then
(fX5_standing N p1 g3).bind fun r5 =>
some (r5, g3)
else
some ((0 : Int32), g3))
else
z_lt (z_u2 g 0 0 (0 : Int32)) fun g6 =>
(if (g6 0 0) ≤ 0 then
(fX5_standing N p1 g6).bind fun r8 =>
some (r8, g6)
else
some ((0 : Int32), g6)))
def fX5_jump (N : Nat) (p1 : Int32) (p2 : Int32) (g : z_R) : Option (Int32 × z_R) :=
(if p1 < 0 then
z_lt (z_u2 g 0 0 (1 : Int32)) fun g2 =>
(if (g2 0 0) ≤ 0 then
(if (g2 1 ((3 : Int32)).toNatClampNeg) ≤ p1 then
some ((-1 : Int32), g2)
else
z_ck (z_in (((157 : Int32) + ((3 : Int32) * p1)) + p2) 925) <|
some ((g2 1 ((((157 : Int32) + ((3 : Int32) * p1)) + p2)).toNatClampNeg), g2))
else
some ((0 : Int32), g2))
else
(fX5_within N p2 (0 : Int32) (2 : Int32)).bind fun r6 =>
(if r6 = 0 then
z_lt (z_u2 g 0 0 (1 : Int32)) fun g12 =>
(if (g12 0 0) ≤ 0 then
(if (g12 1 ((3 : Int32)).toNatClampNeg) ≤ p1 then
some ((-1 : Int32), g12)
else
z_ck (z_in (((157 : Int32) + ((3 : Int32) * p1)) + p2) 925) <|
some ((g12 1 ((((157 : Int32) + ((3 : Int32) * p1)) + p2)).toNatClampNeg), g12))
else
some ((0 : Int32), g12))
else
z_lt (z_u2 g 0 0 (0 : Int32)) fun g8 =>
(if (g8 0 0) ≤ 0 then
(if (g8 1 ((3 : Int32)).toNatClampNeg) ≤ p1 then
some ((-1 : Int32), g8)
else
z_ck (z_in (((157 : Int32) + ((3 : Int32) * p1)) + p2) 925) <|
some ((g8 1 ((((157 : Int32) + ((3 : Int32) * p1)) + p2)).toNatClampNeg), g8))
else
some ((0 : Int32), g8))))
def lX5_goAlong_23 (N : Nat) (k : Int32 → z_R → Option (Int32 × z_R)) : Nat → Int32 → z_R → Option (Int32 × z_R)
  | 0, _, _ => none
  | fu + 1, x2, g => (fX5_isOrder N x2 g).bind fun r2 =>
(if r2 = 0 then
(k x2 g)
else
z_ck (z_in x2 16) <|
(if (g 9 (x2).toNatClampNeg) = 0 then
z_ck (z_in x2 16) <|
z_lt (z_u2 g 9 (x2).toNatClampNeg (1 : Int32)) fun g7 =>
(fX5_part N x2 (2 : Int32) g7).bind fun r8 =>
(lX5_goAlong_23 N k fu r8 g7)
else
(k x2 g)))
def lX5_goAlong_2 (N : Nat) (x1 : Int32) : Nat → Int32 → z_R → Option (Int32 × z_R)
  | 0, _, _ => none
  | fu + 1, x2, g => (if (16 : Int32) ≤ x2 then
(lX5_goAlong_23 N (fun x2_23 g23_9 => (fX5_isOrder N x2_23 g23_9).bind fun r10 =>
(if r10 = 0 then
some ((-1 : Int32), g23_9)
else
some (x2_23, g23_9))) N x1 g)
else
z_ck (z_in x2 16) <|
z_lt (z_u2 g 9 (x2).toNatClampNeg (0 : Int32)) fun g13 =>
(lX5_goAlong_2 N x1 fu (x2 + (1 : Int32)) g13))
def fX5_goAlong (N : Nat) (p1 : Int32) (g : z_R) : Option (Int32 × z_R) :=
(lX5_goAlong_2 N p1 N (0 : Int32) g)
def lX5_chain_36 (N : Nat) (g : z_R) : Nat → Int32 → Int32 → Option (Int32 × z_R)
  | 0, _, _ => none
  | fu + 1, x2, x3 => (if (16 : Int32) ≤ x3 then
some (x2, g)
else
z_ck (z_in x3 16) <|
(lX5_chain_36 N g fu (x2 + (g 9 (x3).toNatClampNeg)) (x3 + (1 : Int32))))
def fX5_chain (N : Nat) (p1 : Int32) (g : z_R) : Option (Int32 × z_R) :=
(fX5_isOrder N p1 g).bind fun r1 =>
(if r1 = 0 then
z_lt (z_u2 g 0 0 (1 : Int32)) fun g3 =>
(if (g3 0 0) ≤ 0 then
z_b2 (fX5_goAlong N p1 g3) fun r5 g5 =>
(lX5_chain_36 N g5 N (0 : Int32) (0 : Int32))
else
some ((0 : Int32), g3))
else
z_lt (z_u2 g 0 0 (0 : Int32)) fun g8 =>
(if (g8 0 0) ≤ 0 then
z_b2 (fX5_goAlong N p1 g8) fun r10 g10 =>
(lX5_chain_36 N g10 N (0 : Int32) (0 : Int32))
else
some ((0 : Int32), g8)))
def lX5_ring_49 (N : Nat) (x2 : Int32) (g : z_R) : Nat → Int32 → Int32 → Option (Int32 × z_R)
  | 0, _, _ => none
  | fu + 1, x3, x4 => (if x4 = x2 then
some (x3, g)
else
(fX5_part N x4 (2 : Int32) g).bind fun r9 =>
(lX5_ring_49 N x2 g fu (x3 + (1 : Int32)) r9))
def fX5_ring (N : Nat) (p1 : Int32) (g : z_R) : Option (Int32 × z_R) :=
(fX5_isOrder N p1 g).bind fun r1 =>
(if r1 = 0 then
z_lt (z_u2 g 0 0 (1 : Int32)) fun g3 =>
(if (g3 0 0) ≤ 0 then
z_b2 (fX5_goAlong N p1 g3) fun r5 g5 =>
(if r5 = (-1 : Int32) then
some ((0 : Int32), g5)
else
(fX5_part N r5 (2 : Int32) g5).bind fun r7 =>
(lX5_ring_49 N r5 g5 N (1 : Int32) r7))
else
some ((0 : Int32), g3))
else
z_lt (z_u2 g 0 0 (0 : Int32)) fun g10 =>
(if (g10 0 0) ≤ 0 then
z_b2 (fX5_goAlong N p1 g10) fun r12 g12 =>
(if r12 = (-1 : Int32) then
some ((0 : Int32), g12)
else
(fX5_part N r12 (2 : Int32) g12).bind fun r14 =>
(lX5_ring_49 N r12 g12 N (1 : Int32) r14))
else
some ((0 : Int32), g10)))
def lX5_remember_11 (N : Nat) : Nat → Int32 → z_R → Option (z_R)
  | 0, _, _ => none
  | fu + 1, x1, g => (if (12025 : Int32) ≤ x1 then
z_lt (z_u2 g 0 1 ((g 0 1) - (1 : Int32))) fun g5 =>
(fX5_copy N 925 12950 (g5 1) (0 : Int32) ((g5 0 1) * (925 : Int32)) (g5 5)).bind fun u6 =>
z_lt (z_uR g5 5 u6) fun g6 =>
z_lt (z_u2 g6 0 1 ((g6 0 1) + (1 : Int32))) fun g7 =>
some g7
else
z_ck (z_in (x1 + (925 : Int32)) 12950) <|
z_ck (z_in x1 12950) <|
z_lt (z_u2 g 5 (x1).toNatClampNeg (g 5 ((x1 + (925 : Int32))).toNatClampNeg)) fun g10 =>
(lX5_remember_11 N fu (x1 + (1 : Int32)) g10))
def fX5_remember (N : Nat) (g : z_R) : Option (z_R) :=
(if (g 0 1) = (14 : Int32) then
(lX5_remember_11 N N (0 : Int32) g)
else
(fX5_copy N 925 12950 (g 1) (0 : Int32) ((g 0 1) * (925 : Int32)) (g 5)).bind fun u2 =>
z_lt (z_uR g 5 u2) fun g2 =>
z_lt (z_u2 g2 0 1 ((g2 0 1) + (1 : Int32))) fun g3 =>
some g3)
def fX5_refund (N : Nat) (p1 : Int32) (g : z_R) : Option (Int32 × z_R) :=
(fX5_part N p1 (7 : Int32) g).bind fun r1 =>
(fX5_part N p1 (0 : Int32) g).bind fun r2 =>
z_ck (z_in ((9 : Int32) + r2) 925) <|
z_ck (z_in ((9 : Int32) + r2) 925) <|
z_lt (z_u2 g 1 (((9 : Int32) + r2)).toNatClampNeg ((g 1 (((9 : Int32) + r2)).toNatClampNeg) + r1)) fun g5 =>
(fX5_setPart N p1 (7 : Int32) (0 : Int32) g5).bind fun g6 =>
some (r1, g6)
def lX5_takeOff_2 (N : Nat) : Nat → Int32 → z_R → Option (z_R)
  | 0, _, _ => none
  | fu + 1, x1, g => (if (g 1 ((2 : Int32)).toNatClampNeg) ≤ x1 then
some g
else
z_b2 (fX5_refund N x1 g) fun r2 g2 =>
(fX5_setPart N x1 (5 : Int32) (-1 : Int32) g2).bind fun g3 =>
(fX5_setPart N x1 (6 : Int32) (-1 : Int32) g3).bind fun g4 =>
(lX5_takeOff_2 N fu (x1 + (1 : Int32)) g4))
def fX5_takeOff (N : Nat) (g : z_R) : Option (z_R) :=
(lX5_takeOff_2 N N (0 : Int32) g)
def fX5_setDrum (N : Nat) (p1 : Int32) (g : z_R) : Option (Int32 × z_R) :=
(fX5_within N p1 (6 : Int32) (40 : Int32)).bind fun r1 =>
(if r1 = 0 then
z_lt (z_u2 g 0 0 (1 : Int32)) fun g3 =>
(if (g3 0 0) ≤ 0 then
(fX5_remember N  g3).bind fun g5 =>
(fX5_takeOff N  g5).bind fun g6 =>
z_lt (z_u2 g6 1 ((0 : Int32)).toNatClampNeg p1) fun g7 =>
some ((g5 1 ((0 : Int32)).toNatClampNeg), g7)
else
some ((0 : Int32), g3))
else
z_lt (z_u2 g 0 0 (0 : Int32)) fun g8 =>
(if (g8 0 0) ≤ 0 then
(fX5_remember N  g8).bind fun g10 =>
(fX5_takeOff N  g10).bind fun g11 =>
z_lt (z_u2 g11 1 ((0 : Int32)).toNatClampNeg p1) fun g12 =>
some ((g10 1 ((0 : Int32)).toNatClampNeg), g12)
else
some ((0 : Int32), g8)))
def fX5_isInRange (N : Nat) (p0 : Int32) (p1 : Int32) : Option Int32 :=
(if p0 = (0 : Int32) then
(fX5_isAuthor N p1).bind fun r2 =>
z_ck (z_bo r2) <|
some (r2)
else
(if p0 = (1 : Int32) then
(fX5_within N p1 (1 : Int32) (9 : Int32)).bind fun r4 =>
z_ck (z_bo r4) <|
some (r4)
else
(if p0 = (2 : Int32) then
(fX5_within N p1 (-1 : Int32) (15 : Int32)).bind fun r6 =>
z_ck (z_bo r6) <|
some (r6)
else
(if p0 = (3 : Int32) then
(fX5_within N p1 (-1 : Int32) (15 : Int32)).bind fun r8 =>
z_ck (z_bo r8) <|
some (r8)
else
(if p0 = (4 : Int32) then
(fX5_within N p1 (0 : Int32) (99 : Int32)).bind fun r10 =>
z_ck (z_bo r10) <|
some (r10)
else
some ((0 : Int32)))))))
def fX5_addOrder (N : Nat) (p1 : Int32) (p2 : Int32) (p3 : Int32) (p4 : Int32) (p5 : Int32) (g : z_R) : Option (Int32 × z_R) :=
(fX5_isInRange N (0 : Int32) p1).bind fun r1 =>
(if r1 = 0 then
z_lt (z_u2 g 0 0 (1 : Int32)) fun g3 =>
(if (g3 0 0) ≤ 0 then
(fX5_remember N  g3).bind fun g5 =>
(fX5_setPart N (g5 1 ((2 : Int32)).toNatClampNeg) (0 : Int32) p1 g5).bind fun g6 =>
(fX5_setPart N (g5 1 ((2 : Int32)).toNatClampNeg) (1 : Int32) p2 g6).bind fun g7 =>
(fX5_setPart N (g5 1 ((2 : Int32)).toNatClampNeg) (2 : Int32) p3 g7).bind fun g8 =>
(fX5_setPart N (g5 1 ((2 : Int32)).toNatClampNeg) (3 : Int32) p4 g8).bind fun g9 =>
(fX5_setPart N (g5 1 ((2 : Int32)).toNatClampNeg) (4 : Int32) p5 g9).bind fun g10 =>
(fX5_setPart N (g5 1 ((2 : Int32)).toNatClampNeg) (5 : Int32) (-1 : Int32) g10).bind fun g11 =>
(fX5_setPart N (g5 1 ((2 : Int32)).toNatClampNeg) (6 : Int32) (-1 : Int32) g11).bind fun g12 =>
(fX5_setPart N (g5 1 ((2 : Int32)).toNatClampNeg) (7 : Int32) (0 : Int32) g12).bind fun g13 =>
(fX5_setPart N (g5 1 ((2 : Int32)).toNatClampNeg) (8 : Int32) (-1 : Int32) g13).bind fun g14 =>
z_lt (z_u2 g14 1 ((2 : Int32)).toNatClampNeg ((g14 1 ((2 : Int32)).toNatClampNeg) + (1 : Int32))) fun g15 =>
some ((g5 1 ((2 : Int32)).toNatClampNeg), g15)
else
some ((0 : Int32), g3))
else
(fX5_isInRange N (1 : Int32) p2).bind fun r16 =>
(if r16 = 0 then
z_lt (z_u2 g 0 0 (1 : Int32)) fun g18 =>
(if (g18 0 0) ≤ 0 then
(fX5_remember N  g18).bind fun g20 =>
(fX5_setPart N (g20 1 ((2 : Int32)).toNatClampNeg) (0 : Int32) p1 g20).bind fun g21 =>
(fX5_setPart N (g20 1 ((2 : Int32)).toNatClampNeg) (1 : Int32) p2 g21).bind fun g22 =>
(fX5_setPart N (g20 1 ((2 : Int32)).toNatClampNeg) (2 : Int32) p3 g22).bind fun g23 =>
(fX5_setPart N (g20 1 ((2 : Int32)).toNatClampNeg) (3 : Int32) p4 g23).bind fun g24 =>
(fX5_setPart N (g20 1 ((2 : Int32)).toNatClampNeg) (4 : Int32) p5 g24).bind fun g25 =>
(fX5_setPart N (g20 1 ((2 : Int32)).toNatClampNeg) (5 : Int32) (-1 : Int32) g25).bind fun g26 =>
(fX5_setPart N (g20 1 ((2 : Int32)).toNatClampNeg) (6 : Int32) (-1 : Int32) g26).bind fun g27 =>
(fX5_setPart N (g20 1 ((2 : Int32)).toNatClampNeg) (7 : Int32) (0 : Int32) g27).bind fun g28 =>
(fX5_setPart N (g20 1 ((2 : Int32)).toNatClampNeg) (8 : Int32) (-1 : Int32) g28).bind fun g29 =>
z_lt (z_u2 g29 1 ((2 : Int32)).toNatClampNeg ((g29 1 ((2 : Int32)).toNatClampNeg) + (1 : Int32))) fun g30 =>
some ((g20 1 ((2 : Int32)).toNatClampNeg), g30)
else
some ((0 : Int32), g18))
else
(fX5_isInRange N (2 : Int32) p3).bind fun r31 =>
(if r31 = 0 then
z_lt (z_u2 g 0 0 (1 : Int32)) fun g33 =>
(if (g33 0 0) ≤ 0 then
(fX5_remember N  g33).bind fun g35 =>
(fX5_setPart N (g35 1 ((2 : Int32)).toNatClampNeg) (0 : Int32) p1 g35).bind fun g36 =>
(fX5_setPart N (g35 1 ((2 : Int32)).toNatClampNeg) (1 : Int32) p2 g36).bind fun g37 =>
(fX5_setPart N (g35 1 ((2 : Int32)).toNatClampNeg) (2 : Int32) p3 g37).bind fun g38 =>
(fX5_setPart N (g35 1 ((2 : Int32)).toNatClampNeg) (3 : Int32) p4 g38).bind fun g39 =>
(fX5_setPart N (g35 1 ((2 : Int32)).toNatClampNeg) (4 : Int32) p5 g39).bind fun g40 =>
(fX5_setPart N (g35 1 ((2 : Int32)).toNatClampNeg) (5 : Int32) (-1 : Int32) g40).bind fun g41 =>
(fX5_setPart N (g35 1 ((2 : Int32)).toNatClampNeg) (6 : Int32) (-1 : Int32) g41).bind fun g42 =>
(fX5_setPart N (g35 1 ((2 : Int32)).toNatClampNeg) (7 : Int32) (0 : Int32) g42).bind fun g43 =>
(fX5_setPart N (g35 1 ((2 : Int32)).toNatClampNeg) (8 : Int32) (-1 : Int32) g43).bind fun g44 =>
z_lt (z_u2 g44 1 ((2 : Int32)).toNatClampNeg ((g44 1 ((2 : Int32)).toNatClampNeg) + (1 : Int32))) fun g45 =>
some ((g35 1 ((2 : Int32)).toNatClampNeg), g45)
else
some ((0 : Int32), g33))
else
(fX5_isInRange N (3 : Int32) p4).bind fun r46 =>
(if r46 = 0 then
z_lt (z_u2 g 0 0 (1 : Int32)) fun g48 =>
(if (g48 0 0) ≤ 0 then
(fX5_remember N  g48).bind fun g50 =>
(fX5_setPart N (g50 1 ((2 : Int32)).toNatClampNeg) (0 : Int32) p1 g50).bind fun g51 =>
(fX5_setPart N (g50 1 ((2 : Int32)).toNatClampNeg) (1 : Int32) p2 g51).bind fun g52 =>
(fX5_setPart N (g50 1 ((2 : Int32)).toNatClampNeg) (2 : Int32) p3 g52).bind fun g53 =>
(fX5_setPart N (g50 1 ((2 : Int32)).toNatClampNeg) (3 : Int32) p4 g53).bind fun g54 =>
(fX5_setPart N (g50 1 ((2 : Int32)).toNatClampNeg) (4 : Int32) p5 g54).bind fun g55 =>
(fX5_setPart N (g50 1 ((2 : Int32)).toNatClampNeg) (5 : Int32) (-1 : Int32) g55).bind fun g56 =>
(fX5_setPart N (g50 1 ((2 : Int32)).toNatClampNeg) (6 : Int32) (-1 : Int32) g56).bind fun g57 =>
(fX5_setPart N (g50 1 ((2 : Int32)).toNatClampNeg) (7 : Int32) (0 : Int32) g57).bind fun g58 =>
(fX5_setPart N (g50 1 ((2 : Int32)).toNatClampNeg) (8 : Int32) (-1 : Int32) g58).bind fun g59 =>
z_lt (z_u2 g59 1 ((2 : Int32)).toNatClampNeg ((g59 1 ((2 : Int32)).toNatClampNeg) + (1 : Int32))) fun g60 =>
some ((g50 1 ((2 : Int32)).toNatClampNeg), g60)
else
some ((0 : Int32), g48))
else
(fX5_isInRange N (4 : Int32) p5).bind fun r61 =>
(if r61 = 0 then
z_lt (z_u2 g 0 0 (1 : Int32)) fun g63 =>
(if (g63 0 0) ≤ 0 then
(fX5_remember N  g63).bind fun g65 =>
(fX5_setPart N (g65 1 ((2 : Int32)).toNatClampNeg) (0 : Int32) p1 g65).bind fun g66 =>
(fX5_setPart N (g65 1 ((2 : Int32)).toNatClampNeg) (1 : Int32) p2 g66).bind fun g67 =>
(fX5_setPart N (g65 1 ((2 : Int32)).toNatClampNeg) (2 : Int32) p3 g67).bind fun g68 =>
(fX5_setPart N (g65 1 ((2 : Int32)).toNatClampNeg) (3 : Int32) p4 g68).bind fun g69 =>
(fX5_setPart N (g65 1 ((2 : Int32)).toNatClampNeg) (4 : Int32) p5 g69).bind fun g70 =>
(fX5_setPart N (g65 1 ((2 : Int32)).toNatClampNeg) (5 : Int32) (-1 : Int32) g70).bind fun g71 =>
(fX5_setPart N (g65 1 ((2 : Int32)).toNatClampNeg) (6 : Int32) (-1 : Int32) g71).bind fun g72 =>
(fX5_setPart N (g65 1 ((2 : Int32)).toNatClampNeg) (7 : Int32) (0 : Int32) g72).bind fun g73 =>
(fX5_setPart N (g65 1 ((2 : Int32)).toNatClampNeg) (8 : Int32) (-1 : Int32) g73).bind fun g74 =>
z_lt (z_u2 g74 1 ((2 : Int32)).toNatClampNeg ((g74 1 ((2 : Int32)).toNatClampNeg) + (1 : Int32))) fun g75 =>
some ((g65 1 ((2 : Int32)).toNatClampNeg), g75)
else
some ((0 : Int32), g63))
else
(if (g 1 ((2 : Int32)).toNatClampNeg) = (16 : Int32) then
z_lt (z_u2 g 0 0 (2 : Int32)) fun g90 =>
(if (g90 0 0) ≤ 0 then
(fX5_remember N  g90).bind fun g92 =>
(fX5_setPart N (g92 1 ((2 : Int32)).toNatClampNeg) (0 : Int32) p1 g92).bind fun g93 =>
(fX5_setPart N (g92 1 ((2 : Int32)).toNatClampNeg) (1 : Int32) p2 g93).bind fun g94 =>
(fX5_setPart N (g92 1 ((2 : Int32)).toNatClampNeg) (2 : Int32) p3 g94).bind fun g95 =>
(fX5_setPart N (g92 1 ((2 : Int32)).toNatClampNeg) (3 : Int32) p4 g95).bind fun g96 =>
(fX5_setPart N (g92 1 ((2 : Int32)).toNatClampNeg) (4 : Int32) p5 g96).bind fun g97 =>
(fX5_setPart N (g92 1 ((2 : Int32)).toNatClampNeg) (5 : Int32) (-1 : Int32) g97).bind fun g98 =>
(fX5_setPart N (g92 1 ((2 : Int32)).toNatClampNeg) (6 : Int32) (-1 : Int32) g98).bind fun g99 =>
(fX5_setPart N (g92 1 ((2 : Int32)).toNatClampNeg) (7 : Int32) (0 : Int32) g99).bind fun g100 =>
(fX5_setPart N (g92 1 ((2 : Int32)).toNatClampNeg) (8 : Int32) (-1 : Int32) g100).bind fun g101 =>
z_lt (z_u2 g101 1 ((2 : Int32)).toNatClampNeg ((g101 1 ((2 : Int32)).toNatClampNeg) + (1 : Int32))) fun g102 =>
some ((g92 1 ((2 : Int32)).toNatClampNeg), g102)
else
some ((0 : Int32), g90))
else
z_lt (z_u2 g 0 0 (0 : Int32)) fun g77 =>
(if (g77 0 0) ≤ 0 then
(fX5_remember N  g77).bind fun g79 =>
(fX5_setPart N (g79 1 ((2 : Int32)).toNatClampNeg) (0 : Int32) p1 g79).bind fun g80 =>
(fX5_setPart N (g79 1 ((2 : Int32)).toNatClampNeg) (1 : Int32) p2 g80).bind fun g81 =>
(fX5_setPart N (g79 1 ((2 : Int32)).toNatClampNeg) (2 : Int32) p3 g81).bind fun g82 =>
(fX5_setPart N (g79 1 ((2 : Int32)).toNatClampNeg) (3 : Int32) p4 g82).bind fun g83 =>
(fX5_setPart N (g79 1 ((2 : Int32)).toNatClampNeg) (4 : Int32) p5 g83).bind fun g84 =>
(fX5_setPart N (g79 1 ((2 : Int32)).toNatClampNeg) (5 : Int32) (-1 : Int32) g84).bind fun g85 =>
(fX5_setPart N (g79 1 ((2 : Int32)).toNatClampNeg) (6 : Int32) (-1 : Int32) g85).bind fun g86 =>
(fX5_setPart N (g79 1 ((2 : Int32)).toNatClampNeg) (7 : Int32) (0 : Int32) g86).bind fun g87 =>
(fX5_setPart N (g79 1 ((2 : Int32)).toNatClampNeg) (8 : Int32) (-1 : Int32) g87).bind fun g88 =>
z_lt (z_u2 g88 1 ((2 : Int32)).toNatClampNeg ((g88 1 ((2 : Int32)).toNatClampNeg) + (1 : Int32))) fun g89 =>
some ((g79 1 ((2 : Int32)).toNatClampNeg), g89)
else
some ((0 : Int32), g77))))))))
def fX5_change (N : Nat) (p1 : Int32) (p2 : Int32) (p3 : Int32) (g : z_R) : Option (Int32 × z_R) :=
(fX5_isOrder N p1 g).bind fun r1 =>
(if r1 = 0 then
z_lt (z_u2 g 0 0 (1 : Int32)) fun g15 =>
(if (g15 0 0) ≤ 0 then
(fX5_remember N  g15).bind fun g17 =>
(fX5_part N p1 p2 g17).bind fun r18 =>
(fX5_setPart N p1 p2 p3 g17).bind fun g19 =>
some (r18, g19)
else
some ((0 : Int32), g15))
else
(fX5_isInRange N p2 p3).bind fun r3 =>
(if r3 = 0 then
z_lt (z_u2 g 0 0 (2 : Int32)) fun g5 =>
(if (g5 0 0) ≤ 0 then
(fX5_remember N  g5).bind fun g7 =>
(fX5_part N p1 p2 g7).bind fun r8 =>
(fX5_setPart N p1 p2 p3 g7).bind fun g9 =>
some (r8, g9)
else
some ((0 : Int32), g5))
else
z_lt (z_u2 g 0 0 (0 : Int32)) fun g10 =>
(if (g10 0 0) ≤ 0 then
(fX5_remember N  g10).bind fun g12 =>
(fX5_part N p1 p2 g12).bind fun r13 =>
(fX5_setPart N p1 p2 p3 g12).bind fun g14 =>
some (r13, g14)
else
some ((0 : Int32), g10))))
def fX5_whyNotMoved (N : Nat) (p1 : Int32) (p2 : Int32) (g : z_R) : Option Int32 :=
(fX5_isOrder N p1 g).bind fun r1 =>
(if r1 = 0 then
some ((1 : Int32))
else
(fX5_isPlace N p2 g).bind fun r3 =>
(if r3 = 0 then
some ((1 : Int32))
else
(fX5_standing N p2 g).bind fun r5 =>
(if r5 = (-1 : Int32) then
some ((0 : Int32))
else
(if r5 = p1 then
some ((0 : Int32))
else
some ((2 : Int32))))))
def fX5_moved (N : Nat) (p1 : Int32) (p2 : Int32) (g : z_R) : Option (Int32 × z_R) :=
(fX5_setPart N p1 (5 : Int32) p2 g).bind fun g1 =>
(fX5_setPart N p1 (6 : Int32) (-1 : Int32) g1).bind fun g2 =>
z_b2 (fX5_refund N p1 g2) fun r3 g3 =>
some (r3, g3)
def fX5_move (N : Nat) (p1 : Int32) (p2 : Int32) (g : z_R) : Option (Int32 × z_R) :=
(fX5_whyNotMoved N p1 p2 g).bind fun r1 =>
z_lt (z_u2 g 0 0 r1) fun g2 =>
(if (g2 0 0) ≤ 0 then
(fX5_remember N  g2).bind fun g4 =>
z_b2 (fX5_moved N p1 p2 g4) fun r5 g5 =>
some (r5, g5)
else
some ((0 : Int32), g2))
def lX5_wanted_53 (N : Nat) (x1 : Int32) (g : z_R) : Nat → Int32 → Int32 → Option Int32
  | 0, _, _ => none
  | fu + 1, x2, x4 => (if x4 < 0 then
z_ck (z_nz (g 1 ((0 : Int32)).toNatClampNeg)) <|
some (((x2 + ((2 : Int32) * (g 1 ((0 : Int32)).toNatClampNeg))) - (x2 + ((2 : Int32) * (g 1 ((0 : Int32)).toNatClampNeg))) / (g 1 ((0 : Int32)).toNatClampNeg) * (g 1 ((0 : Int32)).toNatClampNeg)))
else
(fX5_part N x4 (5 : Int32) g).bind fun r6 =>
(if r6 = (-1 : Int32) then
(lX5_wanted_53 N x1 g fu x2 (x4 + (-1 : Int32)))
else
(fX5_part N x4 (2 : Int32) g).bind fun r8 =>
(if r8 = x1 then
(fX5_part N x4 (5 : Int32) g).bind fun r10 =>
(fX5_part N x4 (1 : Int32) g).bind fun r11 =>
(lX5_wanted_53 N x1 g fu ((r10 + (1 : Int32)) + r11) (x4 + (-1 : Int32)))
else
(lX5_wanted_53 N x1 g fu x2 (x4 + (-1 : Int32))))))
def fX5_wanted (N : Nat) (p1 : Int32) (g : z_R) : Option Int32 :=
(fX5_part N p1 (2 : Int32) g).bind fun r1 =>
(fX5_isOrder N r1 g).bind fun r2 =>
(if r2 = 0 then
(lX5_wanted_53 N p1 g N (0 : Int32) ((g 1 ((2 : Int32)).toNatClampNeg) - (1 : Int32)))
else
(fX5_part N r1 (5 : Int32) g).bind fun r12 =>
(if r12 = (-1 : Int32) then
(lX5_wanted_53 N p1 g N (0 : Int32) ((g 1 ((2 : Int32)).toNatClampNeg) - (1 : Int32)))
else
(fX5_part N r1 (5 : Int32) g).bind fun r14 =>
(fX5_part N p1 (1 : Int32) g).bind fun r15 =>
(lX5_wanted_53 N p1 g N ((r14 - (1 : Int32)) - r15) ((g 1 ((2 : Int32)).toNatClampNeg) - (1 : Int32)))))
def lX5_laid_45 (N : Nat) (x1 : Int32) (x2 : Int32) (x3 : Int32) (x4 : Int32) (g : z_R) (k : Int32 → Option (Int32 × z_R)) : Nat → Int32 → Option (Int32 × z_R)
  | 0, _ => none
  | fu + 1, x5 => (if (g 1 ((0 : Int32)).toNatClampNeg) ≤ x5 then
(k x5)
else
z_ck (z_nz (g 1 ((0 : Int32)).toNatClampNeg)) <|
(fX5_standing N ((x4 + x5) - (x4 + x5) / (g 1 ((0 : Int32)).toNatClampNeg) * (g 1 ((0 : Int32)).toNatClampNeg)) g).bind fun r9 =>
(if r9 = (-1 : Int32) then
(k x5)
else
(lX5_laid_45 N x1 x2 x3 x4 g k fu (x5 + (1 : Int32)))))
def lX5_laid_15 (N : Nat) (x2 : Int32) (k : Int32 → z_R → Option (Int32 × z_R)) : Nat → Int32 → Int32 → z_R → Option (Int32 × z_R)
  | 0, _, _, _ => none
  | fu + 1, x1, x3, g => (if (g 1 ((2 : Int32)).toNatClampNeg) ≤ x3 then
(k x1 g)
else
(fX5_part N x3 (4 : Int32) g).bind fun r4 =>
(if r4 = x2 then
(fX5_wanted N x3 g).bind fun r6 =>
(lX5_laid_45 N x1 x2 x3 r6 g (fun x5_45 => (if (g 1 ((0 : Int32)).toNatClampNeg) ≤ x5_45 then
(lX5_laid_15 N x2 k fu x1 (x3 + (1 : Int32)) g)
else
z_ck (z_nz (g 1 ((0 : Int32)).toNatClampNeg)) <|
(fX5_setPart N x3 (5 : Int32) ((r6 + x5_45) - (r6 + x5_45) / (g 1 ((0 : Int32)).toNatClampNeg) * (g 1 ((0 : Int32)).toNatClampNeg)) g).bind fun g13 =>
(fX5_setPart N x3 (6 : Int32) x5_45 g13).bind fun g14 =>
(fX5_setPart N x3 (7 : Int32) x2 g14).bind fun g15 =>
(fX5_part N x3 (0 : Int32) g15).bind fun r16 =>
z_ck (z_in ((5 : Int32) + r16) 925) <|
z_ck (z_in ((5 : Int32) + r16) 925) <|
z_lt (z_u2 g15 1 (((5 : Int32) + r16)).toNatClampNeg ((g15 1 (((5 : Int32) + r16)).toNatClampNeg) + x2)) fun g19 =>
(lX5_laid_15 N x2 k fu (x1 + x5_45) (x3 + (1 : Int32)) g19))) N (0 : Int32))
else
(lX5_laid_15 N x2 k fu x1 (x3 + (1 : Int32)) g)))
def lX5_laid_9 (N : Nat) : Nat → Int32 → Int32 → z_R → Option (Int32 × z_R)
  | 0, _, _, _ => none
  | fu + 1, x1, x2, g => (if x2 < 0 then
some (x1, g)
else
(lX5_laid_15 N x2 (fun x1_15 g15_20 => (lX5_laid_9 N fu x1_15 (x2 + (-1 : Int32)) g15_20)) N x1 (0 : Int32) g))
def fX5_laid (N : Nat) (g : z_R) : Option (Int32 × z_R) :=
(fX5_takeOff N  g).bind fun g1 =>
(lX5_laid_9 N N (0 : Int32) (99 : Int32) g1)
def fX5_lay (N : Nat) (g : z_R) : Option (Int32 × z_R) :=
z_lt (z_u2 g 0 0 (0 : Int32)) fun g1 =>
(fX5_remember N  g1).bind fun g2 =>
z_b2 (fX5_laid N  g2) fun r3 g3 =>
some (r3, g3)
def lX5_noteJump_2 (N : Nat) (x1 : Int32) (x2 : Int32) (g : z_R) (k : Int32 → Option (z_R)) : Nat → Int32 → Option (z_R)
  | 0, _ => none
  | fu + 1, x3 => (if (g 1 ((3 : Int32)).toNatClampNeg) ≤ x3 then
(k x3)
else
z_ck (z_in ((157 : Int32) + ((3 : Int32) * x3)) 925) <|
(if (g 1 (((157 : Int32) + ((3 : Int32) * x3))).toNatClampNeg) = x1 then
z_ck (z_in (((157 : Int32) + ((3 : Int32) * x3)) + (1 : Int32)) 925) <|
(if (g 1 ((((157 : Int32) + ((3 : Int32) * x3)) + (1 : Int32))).toNatClampNeg) = x2 then
(k x3)
else
(lX5_noteJump_2 N x1 x2 g k fu (x3 + (1 : Int32))))
else
(lX5_noteJump_2 N x1 x2 g k fu (x3 + (1 : Int32)))))
def fX5_noteJump (N : Nat) (p1 : Int32) (p2 : Int32) (g : z_R) : Option (z_R) :=
(lX5_noteJump_2 N p1 p2 g (fun x3_2 => (if x3_2 = (g 1 ((3 : Int32)).toNatClampNeg) then
z_ck (z_in ((157 : Int32) + ((3 : Int32) * x3_2)) 925) <|
z_lt (z_u2 g 1 (((157 : Int32) + ((3 : Int32) * x3_2))).toNatClampNeg p1) fun g11 =>
z_ck (z_in (((157 : Int32) + ((3 : Int32) * x3_2)) + (1 : Int32)) 925) <|
z_lt (z_u2 g11 1 ((((157 : Int32) + ((3 : Int32) * x3_2)) + (1 : Int32))).toNatClampNeg p2) fun g13 =>
z_ck (z_in (((157 : Int32) + ((3 : Int32) * x3_2)) + (2 : Int32)) 925) <|
z_lt (z_u2 g13 1 ((((157 : Int32) + ((3 : Int32) * x3_2)) + (2 : Int32))).toNatClampNeg (0 : Int32)) fun g15 =>
z_lt (z_u2 g15 1 ((3 : Int32)).toNatClampNeg ((g15 1 ((3 : Int32)).toNatClampNeg) + (1 : Int32))) fun g16 =>
z_ck (z_in (((157 : Int32) + ((3 : Int32) * x3_2)) + (2 : Int32)) 925) <|
z_ck (z_in (((157 : Int32) + ((3 : Int32) * x3_2)) + (2 : Int32)) 925) <|
z_lt (z_u2 g16 1 ((((157 : Int32) + ((3 : Int32) * x3_2)) + (2 : Int32))).toNatClampNeg ((g16 1 ((((157 : Int32) + ((3 : Int32) * x3_2)) + (2 : Int32))).toNatClampNeg) + (1 : Int32))) fun g19 =>
some g19
else
z_ck (z_in (((157 : Int32) + ((3 : Int32) * x3_2)) + (2 : Int32)) 925) <|
z_ck (z_in (((157 : Int32) + ((3 : Int32) * x3_2)) + (2 : Int32)) 925) <|
z_lt (z_u2 g 1 ((((157 : Int32) + ((3 : Int32) * x3_2)) + (2 : Int32))).toNatClampNeg ((g 1 ((((157 : Int32) + ((3 : Int32) * x3_2)) + (2 : Int32))).toNatClampNeg) + (1 : Int32))) fun g9 =>
some g9)) N (0 : Int32))
def fX5_waitOf (N : Nat) (p1 : Int32) (g : z_R) : Option Int32 :=
(fX5_part N p1 (5 : Int32) g).bind fun r1 =>
(fX5_comingBy N  g).bind fun r2 =>
z_ck (z_nz (g 1 ((0 : Int32)).toNatClampNeg)) <|
some ((((r1 + (g 1 ((0 : Int32)).toNatClampNeg)) - r2) - ((r1 + (g 1 ((0 : Int32)).toNatClampNeg)) - r2) / (g 1 ((0 : Int32)).toNatClampNeg) * (g 1 ((0 : Int32)).toNatClampNeg)))
def fX5_reads (N : Nat) (p1 : Int32) (p2 : Int32) (g : z_R) : Option (z_R) :=
(fX5_waitOf N p1 g).bind fun r1 =>
z_lt (z_u2 g 1 ((1 : Int32)).toNatClampNeg ((g 1 ((1 : Int32)).toNatClampNeg) + r1)) fun g2 =>
(fX5_setPart N p1 (8 : Int32) r1 g2).bind fun g3 =>
(if p2 = 0 then
(if p2 = 0 then
(fX5_part N p1 (1 : Int32) g3).bind fun r6 =>
z_lt (z_u2 g3 1 ((1 : Int32)).toNatClampNeg ((g3 1 ((1 : Int32)).toNatClampNeg) + ((1 : Int32) + r6))) fun g7 =>
some g7
else
(fX5_setPart N p1 (7 : Int32) (0 : Int32) g3).bind fun g8 =>
(fX5_part N p1 (1 : Int32) g8).bind fun r9 =>
z_lt (z_u2 g8 1 ((1 : Int32)).toNatClampNeg ((g8 1 ((1 : Int32)).toNatClampNeg) + ((1 : Int32) + r9))) fun g10 =>
some g10)
else
(if r1 ≤ 0 then
(if p2 = 0 then
(fX5_part N p1 (1 : Int32) g3).bind fun r13 =>
z_lt (z_u2 g3 1 ((1 : Int32)).toNatClampNeg ((g3 1 ((1 : Int32)).toNatClampNeg) + ((1 : Int32) + r13))) fun g14 =>
some g14
else
(fX5_setPart N p1 (7 : Int32) (0 : Int32) g3).bind fun g15 =>
(fX5_part N p1 (1 : Int32) g15).bind fun r16 =>
z_lt (z_u2 g15 1 ((1 : Int32)).toNatClampNeg ((g15 1 ((1 : Int32)).toNatClampNeg) + ((1 : Int32) + r16))) fun g17 =>
some g17)
else
z_b2 (fX5_refund N p1 g3) fun r18 g18 =>
(if p2 = 0 then
(fX5_part N p1 (1 : Int32) g18).bind fun r20 =>
z_lt (z_u2 g18 1 ((1 : Int32)).toNatClampNeg ((g18 1 ((1 : Int32)).toNatClampNeg) + ((1 : Int32) + r20))) fun g21 =>
some g21
else
(fX5_setPart N p1 (7 : Int32) (0 : Int32) g18).bind fun g22 =>
(fX5_part N p1 (1 : Int32) g22).bind fun r23 =>
z_lt (z_u2 g22 1 ((1 : Int32)).toNatClampNeg ((g22 1 ((1 : Int32)).toNatClampNeg) + ((1 : Int32) + r23))) fun g24 =>
some g24)))
def lX5_runs_10 (N : Nat) : Nat → Int32 → Int32 → Int32 → Int32 → z_R → Option (Int32 × z_R)
  | 0, _, _, _, _, _ => none
  | fu + 1, x2, x3, x4, x5, g => (if x4 = (-1 : Int32) then
(fX5_isOrder N x2 g).bind fun r3 =>
(if r3 = 0 then
(lX5_runs_10 N fu x2 x3 (3 : Int32) x5 g)
else
(fX5_part N x2 (5 : Int32) g).bind fun r5 =>
(if r5 = (-1 : Int32) then
(lX5_runs_10 N fu x2 x3 (3 : Int32) x5 g)
else
(if x3 = (-1 : Int32) then
(if x5 = (99 : Int32) then
(lX5_runs_10 N fu x2 x3 (2 : Int32) x5 g)
else
(if x3 = (-1 : Int32) then
(fX5_reads N x2 (0 : Int32) g).bind fun g10 =>
(fX5_part N x2 (2 : Int32) g10).bind fun r11 =>
(if r11 = (-1 : Int32) then
(lX5_runs_10 N fu r11 x2 (0 : Int32) (x5 + (1 : Int32)) g10)
else
(fX5_noteJump N x2 r11 g10).bind fun g13 =>
(lX5_runs_10 N fu r11 x2 x4 (x5 + (1 : Int32)) g13))
else
(fX5_reads N x2 (1 : Int32) g).bind fun g14 =>
(fX5_part N x2 (2 : Int32) g14).bind fun r15 =>
(if r15 = (-1 : Int32) then
(lX5_runs_10 N fu r15 x2 (0 : Int32) (x5 + (1 : Int32)) g14)
else
(fX5_noteJump N x2 r15 g14).bind fun g17 =>
(lX5_runs_10 N fu r15 x2 x4 (x5 + (1 : Int32)) g17))))
else
(fX5_part N x2 (3 : Int32) g).bind fun r18 =>
(if r18 = (-1 : Int32) then
(if x5 = (99 : Int32) then
(lX5_runs_10 N fu x2 x3 (2 : Int32) x5 g)
else
(if x3 = (-1 : Int32) then
(fX5_reads N x2 (0 : Int32) g).bind fun g22 =>
(fX5_part N x2 (2 : Int32) g22).bind fun r23 =>
(if r23 = (-1 : Int32) then
(lX5_runs_10 N fu r23 x2 (0 : Int32) (x5 + (1 : Int32)) g22)
else
(fX5_noteJump N x2 r23 g22).bind fun g25 =>
(lX5_runs_10 N fu r23 x2 x4 (x5 + (1 : Int32)) g25))
else
(fX5_reads N x2 (1 : Int32) g).bind fun g26 =>
(fX5_part N x2 (2 : Int32) g26).bind fun r27 =>
(if r27 = (-1 : Int32) then
(lX5_runs_10 N fu r27 x2 (0 : Int32) (x5 + (1 : Int32)) g26)
else
(fX5_noteJump N x2 r27 g26).bind fun g29 =>
(lX5_runs_10 N fu r27 x2 x4 (x5 + (1 : Int32)) g29))))
else
(fX5_part N x2 (3 : Int32) g).bind fun r30 =>
(if r30 = x3 then
(if x5 = (99 : Int32) then
(lX5_runs_10 N fu x2 x3 (2 : Int32) x5 g)
else
(if x3 = (-1 : Int32) then
(fX5_reads N x2 (0 : Int32) g).bind fun g34 =>
(fX5_part N x2 (2 : Int32) g34).bind fun r35 =>
(if r35 = (-1 : Int32) then
(lX5_runs_10 N fu r35 x2 (0 : Int32) (x5 + (1 : Int32)) g34)
else
(fX5_noteJump N x2 r35 g34).bind fun g37 =>
(lX5_runs_10 N fu r35 x2 x4 (x5 + (1 : Int32)) g37))
else
(fX5_reads N x2 (1 : Int32) g).bind fun g38 =>
(fX5_part N x2 (2 : Int32) g38).bind fun r39 =>
(if r39 = (-1 : Int32) then
(lX5_runs_10 N fu r39 x2 (0 : Int32) (x5 + (1 : Int32)) g38)
else
(fX5_noteJump N x2 r39 g38).bind fun g41 =>
(lX5_runs_10 N fu r39 x2 x4 (x5 + (1 : Int32)) g41))))
else
(lX5_runs_10 N fu x2 x3 (1 : Int32) x5 g))))))
else
z_lt (z_u2 g 1 ((4 : Int32)).toNatClampNeg x4) fun g2 =>
some (x4, g2))
def fX5_runs (N : Nat) (p1 : Int32) (g : z_R) : Option (Int32 × z_R) :=
(lX5_runs_10 N N p1 (-1 : Int32) (-1 : Int32) (0 : Int32) g)
def fX5_run (N : Nat) (p1 : Int32) (g : z_R) : Option (Int32 × z_R) :=
(fX5_isOrder N p1 g).bind fun r1 =>
(if r1 = 0 then
z_lt (z_u2 g 0 0 (1 : Int32)) fun g3 =>
(if (g3 0 0) ≤ 0 then
(fX5_remember N  g3).bind fun g5 =>
z_b2 (fX5_runs N p1 g5) fun r6 g6 =>
some (r6, g6)
else
some ((0 : Int32), g3))
else
z_lt (z_u2 g 0 0 (0 : Int32)) fun g7 =>
(if (g7 0 0) ≤ 0 then
(fX5_remember N  g7).bind fun g9 =>
z_b2 (fX5_runs N p1 g9) fun r10 g10 =>
some (r10, g10)
else
some ((0 : Int32), g7)))
def fX5_turn (N : Nat) (p1 : Int32) (g : z_R) : Option (Int32 × z_R) :=
(fX5_within N p1 (1 : Int32) (99 : Int32)).bind fun r1 =>
(if r1 = 0 then
z_lt (z_u2 g 0 0 (1 : Int32)) fun g3 =>
(if (g3 0 0) ≤ 0 then
(fX5_remember N  g3).bind fun g5 =>
z_lt (z_u2 g5 1 ((1 : Int32)).toNatClampNeg ((g5 1 ((1 : Int32)).toNatClampNeg) + p1)) fun g6 =>
(fX5_comingBy N  g6).bind fun r7 =>
some (r7, g6)
else
some ((0 : Int32), g3))
else
z_lt (z_u2 g 0 0 (0 : Int32)) fun g8 =>
(if (g8 0 0) ≤ 0 then
(fX5_remember N  g8).bind fun g10 =>
z_lt (z_u2 g10 1 ((1 : Int32)).toNatClampNeg ((g10 1 ((1 : Int32)).toNatClampNeg) + p1)) fun g11 =>
(fX5_comingBy N  g11).bind fun r12 =>
some (r12, g11)
else
some ((0 : Int32), g8)))
def fX5_undo (N : Nat) (g : z_R) : Option (Int32 × z_R) :=
(if (g 0 1) ≤ 0 then
z_lt (z_u2 g 0 0 (1 : Int32)) fun g2 =>
(if (g2 0 0) ≤ 0 then
z_lt (z_u2 g2 0 1 ((g2 0 1) - (1 : Int32))) fun g4 =>
(fX5_copy N 12950 925 (g4 5) ((g4 0 1) * (925 : Int32)) (0 : Int32) (g4 1)).bind fun u5 =>
z_lt (z_uR g4 1 u5) fun g5 =>
some ((g5 0 1), g5)
else
some ((0 : Int32), g2))
else
z_lt (z_u2 g 0 0 (0 : Int32)) fun g6 =>
(if (g6 0 0) ≤ 0 then
z_lt (z_u2 g6 0 1 ((g6 0 1) - (1 : Int32))) fun g8 =>
(fX5_copy N 12950 925 (g8 5) ((g8 0 1) * (925 : Int32)) (0 : Int32) (g8 1)).bind fun u9 =>
z_lt (z_uR g8 1 u9) fun g9 =>
some ((g9 0 1), g9)
else
some ((0 : Int32), g6)))
def fX5_waits (N : Nat) (p1 : Int32) (g : z_R) : Option (Int32 × z_R) :=
(fX5_isOrder N p1 g).bind fun r1 =>
(if r1 = 0 then
z_lt (z_u2 g 0 0 (1 : Int32)) fun g3 =>
(if (g3 0 0) ≤ 0 then
(fX5_part N p1 (5 : Int32) g3).bind fun r5 =>
(if r5 = (-1 : Int32) then
some ((-1 : Int32), g3)
else
(fX5_waitOf N p1 g3).bind fun r7 =>
some (r7, g3))
else
some ((0 : Int32), g3))
else
z_lt (z_u2 g 0 0 (0 : Int32)) fun g8 =>
(if (g8 0 0) ≤ 0 then
(fX5_part N p1 (5 : Int32) g8).bind fun r10 =>
(if r10 = (-1 : Int32) then
some ((-1 : Int32), g8)
else
(fX5_waitOf N p1 g8).bind fun r12 =>
some (r12, g8))
else
some ((0 : Int32), g8)))
def fX5_ticksOf (N : Nat) (p1 : Int32) (g : z_R) : Option (Int32 × z_R) :=
(fX5_copy N 925 925 (g 1) (0 : Int32) (0 : Int32) (g 2)).bind fun u1 =>
z_lt (z_uR g 2 u1) fun g1 =>
z_b2 (fX5_runs N p1 g1) fun r2 g2 =>
z_lt (z_u2 g2 0 3 (g2 1 ((4 : Int32)).toNatClampNeg)) fun g3 =>
(fX5_copy N 925 925 (g3 2) (0 : Int32) (0 : Int32) (g3 1)).bind fun u4 =>
z_lt (z_uR g3 1 u4) fun g4 =>
some (((g2 1 ((1 : Int32)).toNatClampNeg) - (g2 2 ((1 : Int32)).toNatClampNeg)), g4)
def fX5_time (N : Nat) (p1 : Int32) (g : z_R) : Option (Int32 × z_R) :=
(fX5_isOrder N p1 g).bind fun r1 =>
(if r1 = 0 then
z_lt (z_u2 g 0 0 (1 : Int32)) fun g3 =>
(if (g3 0 0) ≤ 0 then
z_b2 (fX5_ticksOf N p1 g3) fun r5 g5 =>
some (r5, g5)
else
some ((0 : Int32), g3))
else
z_lt (z_u2 g 0 0 (0 : Int32)) fun g6 =>
(if (g6 0 0) ≤ 0 then
z_b2 (fX5_ticksOf N p1 g6) fun r8 g8 =>
some (r8, g8)
else
some ((0 : Int32), g6)))
def lX5_bestPlace_50 (N : Nat) (x1 : Int32) (x2 : Int32) (x3 : Int32) : Nat → Int32 → Int32 → Int32 → z_R → Option (Int32 × z_R)
  | 0, _, _, _, _ => none
  | fu + 1, x4, x5, x6, g => (if (g 1 ((0 : Int32)).toNatClampNeg) ≤ x6 then
some (x4, g)
else
(fX5_standing N x6 g).bind fun r7 =>
(if r7 = (-1 : Int32) then
(fX5_setPart N x1 (5 : Int32) x6 g).bind fun g9 =>
z_b2 (fX5_ticksOf N x2 g9) fun r10 g10 =>
(fX5_setPart N x1 (5 : Int32) x3 g10).bind fun g11 =>
(if x4 = (-1 : Int32) then
(lX5_bestPlace_50 N x1 x2 x3 fu x6 r10 (x6 + (1 : Int32)) g11)
else
(if x5 ≤ r10 then
(lX5_bestPlace_50 N x1 x2 x3 fu x4 x5 (x6 + (1 : Int32)) g11)
else
(lX5_bestPlace_50 N x1 x2 x3 fu x6 r10 (x6 + (1 : Int32)) g11)))
else
(if x6 = x3 then
(fX5_setPart N x1 (5 : Int32) x6 g).bind fun g15 =>
z_b2 (fX5_ticksOf N x2 g15) fun r16 g16 =>
(fX5_setPart N x1 (5 : Int32) x3 g16).bind fun g17 =>
(if x4 = (-1 : Int32) then
(lX5_bestPlace_50 N x1 x2 x3 fu x6 r16 (x6 + (1 : Int32)) g17)
else
(if x5 ≤ r16 then
(lX5_bestPlace_50 N x1 x2 x3 fu x4 x5 (x6 + (1 : Int32)) g17)
else
(lX5_bestPlace_50 N x1 x2 x3 fu x6 r16 (x6 + (1 : Int32)) g17)))
else
(lX5_bestPlace_50 N x1 x2 x3 fu x4 x5 (x6 + (1 : Int32)) g))))
def fX5_bestPlace (N : Nat) (p1 : Int32) (p2 : Int32) (g : z_R) : Option (Int32 × z_R) :=
(fX5_isOrder N p1 g).bind fun r1 =>
(if r1 = 0 then
z_lt (z_u2 g 0 0 (1 : Int32)) fun g3 =>
(if (g3 0 0) ≤ 0 then
(fX5_part N p1 (5 : Int32) g3).bind fun r5 =>
(lX5_bestPlace_50 N p1 p2 r5 N (-1 : Int32) (0 : Int32) (0 : Int32) g3)
else
some ((0 : Int32), g3))
else
(fX5_isOrder N p2 g).bind fun r20 =>
(if r20 = 0 then
z_lt (z_u2 g 0 0 (1 : Int32)) fun g22 =>
(if (g22 0 0) ≤ 0 then
(fX5_part N p1 (5 : Int32) g22).bind fun r24 =>
(lX5_bestPlace_50 N p1 p2 r24 N (-1 : Int32) (0 : Int32) (0 : Int32) g22)
else
some ((0 : Int32), g22))
else
z_lt (z_u2 g 0 0 (0 : Int32)) fun g25 =>
(if (g25 0 0) ≤ 0 then
(fX5_part N p1 (5 : Int32) g25).bind fun r27 =>
(lX5_bestPlace_50 N p1 p2 r27 N (-1 : Int32) (0 : Int32) (0 : Int32) g25)
else
some ((0 : Int32), g25))))
def lX5_leastBribe_43 (N : Nat) (x1 : Int32) : Nat → Int32 → Int32 → z_R → Option (Int32 × z_R)
  | 0, _, _, _ => none
  | fu + 1, x2, x3, g => (if (99 : Int32) < x3 then
some (x2, g)
else
(if x2 = (-1 : Int32) then
(fX5_setPart N x1 (4 : Int32) x3 g).bind fun g8 =>
z_b2 (fX5_laid N  g8) fun r9 g9 =>
(fX5_part N x1 (6 : Int32) g9).bind fun r10 =>
(if r10 = 0 then
(fX5_copy N 925 925 (g9 2) (0 : Int32) (0 : Int32) (g9 1)).bind fun u13 =>
z_lt (z_uR g9 1 u13) fun g13 =>
(lX5_leastBribe_43 N x1 fu x3 (x3 + (1 : Int32)) g13)
else
(fX5_copy N 925 925 (g9 2) (0 : Int32) (0 : Int32) (g9 1)).bind fun u12 =>
z_lt (z_uR g9 1 u12) fun g12 =>
(lX5_leastBribe_43 N x1 fu (-1 : Int32) (x3 + (1 : Int32)) g12))
else
some (x2, g)))
def fX5_leastBribe (N : Nat) (p1 : Int32) (g : z_R) : Option (Int32 × z_R) :=
(fX5_isOrder N p1 g).bind fun r1 =>
(if r1 = 0 then
z_lt (z_u2 g 0 0 (1 : Int32)) fun g3 =>
(if (g3 0 0) ≤ 0 then
(fX5_copy N 925 925 (g3 1) (0 : Int32) (0 : Int32) (g3 2)).bind fun u5 =>
z_lt (z_uR g3 2 u5) fun g5 =>
(lX5_leastBribe_43 N p1 N (-1 : Int32) (0 : Int32) g5)
else
some ((0 : Int32), g3))
else
z_lt (z_u2 g 0 0 (0 : Int32)) fun g14 =>
(if (g14 0 0) ≤ 0 then
(fX5_copy N 925 925 (g14 1) (0 : Int32) (0 : Int32) (g14 2)).bind fun u16 =>
z_lt (z_uR g14 2 u16) fun g16 =>
(lX5_leastBribe_43 N p1 N (-1 : Int32) (0 : Int32) g16)
else
some ((0 : Int32), g14)))
def fX5_saves (N : Nat) (p1 : Int32) (g : z_R) : Option (Int32 × z_R) :=
(fX5_isOrder N p1 g).bind fun r1 =>
(if r1 = 0 then
z_lt (z_u2 g 0 0 (1 : Int32)) fun g3 =>
(if (g3 0 0) ≤ 0 then
z_b2 (fX5_ticksOf N p1 g3) fun r5 g5 =>
(fX5_copy N 925 925 (g5 1) (0 : Int32) (0 : Int32) (g5 2)).bind fun u6 =>
z_lt (z_uR g5 2 u6) fun g6 =>
z_b2 (fX5_laid N  g6) fun r7 g7 =>
z_b2 (fX5_runs N p1 g7) fun r8 g8 =>
(fX5_copy N 925 925 (g8 2) (0 : Int32) (0 : Int32) (g8 1)).bind fun u9 =>
z_lt (z_uR g8 1 u9) fun g9 =>
some ((r5 - ((g8 1 ((1 : Int32)).toNatClampNeg) - (g7 1 ((1 : Int32)).toNatClampNeg))), g9)
else
some ((0 : Int32), g3))
else
z_lt (z_u2 g 0 0 (0 : Int32)) fun g10 =>
(if (g10 0 0) ≤ 0 then
z_b2 (fX5_ticksOf N p1 g10) fun r12 g12 =>
(fX5_copy N 925 925 (g12 1) (0 : Int32) (0 : Int32) (g12 2)).bind fun u13 =>
z_lt (z_uR g12 2 u13) fun g13 =>
z_b2 (fX5_laid N  g13) fun r14 g14 =>
z_b2 (fX5_runs N p1 g14) fun r15 g15 =>
(fX5_copy N 925 925 (g15 2) (0 : Int32) (0 : Int32) (g15 1)).bind fun u16 =>
z_lt (z_uR g15 1 u16) fun g16 =>
some ((r12 - ((g15 1 ((1 : Int32)).toNatClampNeg) - (g14 1 ((1 : Int32)).toNatClampNeg))), g16)
else
some ((0 : Int32), g10)))
def fX5_changes (N : Nat) (p1 : Int32) (p2 : Int32) (p3 : Int32) (g : z_R) : Option (Int32 × z_R) :=
(fX5_isOrder N p1 g).bind fun r1 =>
(if r1 = 0 then
some ((0 : Int32), g)
else
(fX5_isInRange N p2 p3).bind fun r3 =>
(if r3 = 0 then
some ((0 : Int32), g)
else
(fX5_setPart N p1 p2 p3 g).bind fun g5 =>
some ((1 : Int32), g5)))
def fX5_moves (N : Nat) (p1 : Int32) (p2 : Int32) (g : z_R) : Option (Int32 × z_R) :=
(fX5_whyNotMoved N p1 p2 g).bind fun r1 =>
(if r1 = 0 then
z_b2 (fX5_moved N p1 p2 g) fun r3 g3 =>
some ((1 : Int32), g3)
else
some ((0 : Int32), g))
def fX5_runsFrom (N : Nat) (p1 : Int32) (g : z_R) : Option (Int32 × z_R) :=
(fX5_isOrder N p1 g).bind fun r1 =>
(if r1 = 0 then
z_ck (z_bo r1) <|
some (r1, g)
else
z_b2 (fX5_runs N p1 g) fun r4 g4 =>
z_ck (z_bo r1) <|
some (r1, g4))
def fX5_lays (N : Nat) (g : z_R) : Option (Int32 × z_R) :=
z_b2 (fX5_laid N  g) fun r1 g1 =>
some ((1 : Int32), g1)
def fX5_turns (N : Nat) (p1 : Int32) (g : z_R) : Option (Int32 × z_R) :=
z_lt (z_u2 g 1 ((1 : Int32)).toNatClampNeg ((g 1 ((1 : Int32)).toNatClampNeg) + p1)) fun g1 =>
(if p1 ≤ 0 then
some ((0 : Int32), g1)
else
some ((1 : Int32), g1))
def fX5_isSoon (N : Nat) (p1 : Int32) (p2 : Int32) (g : z_R) : Option Int32 :=
(fX5_isOrder N p1 g).bind fun r1 =>
(if r1 = 0 then
some ((0 : Int32))
else
(fX5_part N p1 (5 : Int32) g).bind fun r3 =>
(if r3 = (-1 : Int32) then
some ((0 : Int32))
else
(fX5_waitOf N p1 g).bind fun r5 =>
(if p2 < r5 then
some ((0 : Int32))
else
some ((1 : Int32)))))
def fX5_isQuick (N : Nat) (p1 : Int32) (p2 : Int32) (g : z_R) : Option (Int32 × z_R) :=
(fX5_isOrder N p1 g).bind fun r1 =>
(if r1 = 0 then
some ((0 : Int32), g)
else
z_b2 (fX5_ticksOf N p1 g) fun r3 g3 =>
(if p2 < r3 then
some ((0 : Int32), g3)
else
(if (g3 0 3) = 0 then
some ((1 : Int32), g3)
else
some ((0 : Int32), g3))))
def fX5_commands (N : Nat) (p1 : Int32) (g : z_R) : Option (Int32 × z_R) :=
(if (p1 / (10000 : Int32)) = (1 : Int32) then
(if (p1 - p1 / (100 : Int32) * (100 : Int32)) = 0 then
z_b2 (fX5_runsFrom N ((p1 / (100 : Int32)) - (p1 / (100 : Int32)) / (100 : Int32) * (100 : Int32)) g) fun r3 g3 =>
(if r3 = 0 then
some ((0 : Int32), g3)
else
some ((1 : Int32), g3))
else
some ((0 : Int32), g))
else
(if (p1 / (10000 : Int32)) = (2 : Int32) then
(if ((p1 / (100 : Int32)) - (p1 / (100 : Int32)) / (100 : Int32) * (100 : Int32)) = 0 then
(if (p1 - p1 / (100 : Int32) * (100 : Int32)) = 0 then
z_b2 (fX5_lays N  g) fun r7 g7 =>
(if r7 = 0 then
some ((0 : Int32), g7)
else
some ((1 : Int32), g7))
else
some ((0 : Int32), g))
else
some ((0 : Int32), g))
else
(if (p1 / (10000 : Int32)) = (3 : Int32) then
z_b2 (fX5_moves N ((p1 / (100 : Int32)) - (p1 / (100 : Int32)) / (100 : Int32) * (100 : Int32)) (p1 - p1 / (100 : Int32) * (100 : Int32)) g) fun r9 g9 =>
z_ck (z_bo r9) <|
some (r9, g9)
else
(if (p1 / (10000 : Int32)) = (4 : Int32) then
(if ((p1 / (100 : Int32)) - (p1 / (100 : Int32)) / (100 : Int32) * (100 : Int32)) = 0 then
z_b2 (fX5_turns N (p1 - p1 / (100 : Int32) * (100 : Int32)) g) fun r12 g12 =>
(if r12 = 0 then
some ((0 : Int32), g12)
else
some ((1 : Int32), g12))
else
some ((0 : Int32), g))
else
(if (p1 / (10000 : Int32)) = (5 : Int32) then
z_b2 (fX5_changes N ((p1 / (100 : Int32)) - (p1 / (100 : Int32)) / (100 : Int32) * (100 : Int32)) (4 : Int32) (p1 - p1 / (100 : Int32) * (100 : Int32)) g) fun r14 g14 =>
z_ck (z_bo r14) <|
some (r14, g14)
else
(if (p1 / (10000 : Int32)) = (6 : Int32) then
(if (p1 - p1 / (100 : Int32) * (100 : Int32)) = (99 : Int32) then
z_b2 (fX5_changes N ((p1 / (100 : Int32)) - (p1 / (100 : Int32)) / (100 : Int32) * (100 : Int32)) (2 : Int32) (-1 : Int32) g) fun r19 g19 =>
z_ck (z_bo r19) <|
some (r19, g19)
else
z_b2 (fX5_changes N ((p1 / (100 : Int32)) - (p1 / (100 : Int32)) / (100 : Int32) * (100 : Int32)) (2 : Int32) (p1 - p1 / (100 : Int32) * (100 : Int32)) g) fun r17 g17 =>
z_ck (z_bo r17) <|
some (r17, g17))
else
(if (p1 / (10000 : Int32)) = (7 : Int32) then
(fX5_isSoon N ((p1 / (100 : Int32)) - (p1 / (100 : Int32)) / (100 : Int32) * (100 : Int32)) (p1 - p1 / (100 : Int32) * (100 : Int32)) g).bind fun r21 =>
z_ck (z_bo r21) <|
some (r21, g)
else
(if (p1 / (10000 : Int32)) = (8 : Int32) then
z_b2 (fX5_isQuick N ((p1 / (100 : Int32)) - (p1 / (100 : Int32)) / (100 : Int32) * (100 : Int32)) ((10 : Int32) * (p1 - p1 / (100 : Int32) * (100 : Int32))) g) fun r23 g23 =>
z_ck (z_bo r23) <|
some (r23, g23)
else
(if (p1 / (10000 : Int32)) = (9 : Int32) then
(fX5_isAuthor N (((p1 / (100 : Int32)) - (p1 / (100 : Int32)) / (100 : Int32) * (100 : Int32)) / (10 : Int32))).bind fun r25 =>
(if r25 = 0 then
some ((0 : Int32), g)
else
z_ck (z_in ((9 : Int32) + (((p1 / (100 : Int32)) - (p1 / (100 : Int32)) / (100 : Int32) * (100 : Int32)) / (10 : Int32))) 925) <|
(if (p1 - p1 / (1000 : Int32) * (1000 : Int32)) < (g 1 (((9 : Int32) + (((p1 / (100 : Int32)) - (p1 / (100 : Int32)) / (100 : Int32) * (100 : Int32)) / (10 : Int32)))).toNatClampNeg) then
some ((0 : Int32), g)
else
some ((1 : Int32), g)))
else
some ((0 : Int32), g))))))))))
def lX5_runScript_95 (N : Nat) (x1 : Int32) (x2 : Int64) (k : Int32 → z_R → Option (Int32 × z_R)) : Nat → Int32 → Int64 → Int32 → z_R → Option (Int32 × z_R)
  | 0, _, _, _, _ => none
  | fu + 1, x6, x7, x9, g => (if x1 ≤ x9 then
(k x6 g)
else
(if x6 = (-1 : Int32) then
z_ck (z_nzL x7) <|
z_b2 (fX5_commands N (((x2 / x7) - (x2 / x7) / (100000 : Int64) * (100000 : Int64))).toInt32 g) fun r10 g10 =>
(if r10 = 0 then
(lX5_runScript_95 N x1 x2 k fu x9 (x7 / (100000 : Int64)) (x9 + (1 : Int32)) g10)
else
(lX5_runScript_95 N x1 x2 k fu (-1 : Int32) (x7 / (100000 : Int64)) (x9 + (1 : Int32)) g10))
else
(k x6 g)))
def fX5_runScript (N : Nat) (p1 : Int32) (p2 : Int64) (g : z_R) : Option (Int32 × z_R) :=
(if p1 = (1 : Int32) then
(if p1 < (1 : Int32) then
z_lt (z_u2 g 0 0 (1 : Int32)) fun g67 =>
(if (g67 0 0) ≤ 0 then
(fX5_copy N 925 925 (g67 1) (0 : Int32) (0 : Int32) (g67 3)).bind fun u69 =>
z_lt (z_uR g67 3 u69) fun g69 =>
(lX5_runScript_95 N p1 p2 (fun x6_95 g95_70 => (fX5_copy N 925 925 (g95_70 3) (0 : Int32) (0 : Int32) (g95_70 1)).bind fun u71 =>
z_lt (z_uR g95_70 1 u71) fun g71 =>
some (x6_95, g71)) N (-1 : Int32) ((100000 : Int64) / (100000 : Int64)) (0 : Int32) g69)
else
some ((0 : Int32), g67))
else
(if (3 : Int32) < p1 then
z_lt (z_u2 g 0 0 (1 : Int32)) fun g73 =>
(if (g73 0 0) ≤ 0 then
(fX5_copy N 925 925 (g73 1) (0 : Int32) (0 : Int32) (g73 3)).bind fun u75 =>
z_lt (z_uR g73 3 u75) fun g75 =>
(lX5_runScript_95 N p1 p2 (fun x6_95 g95_76 => (fX5_copy N 925 925 (g95_76 3) (0 : Int32) (0 : Int32) (g95_76 1)).bind fun u77 =>
z_lt (z_uR g95_76 1 u77) fun g77 =>
some (x6_95, g77)) N (-1 : Int32) ((100000 : Int64) / (100000 : Int64)) (0 : Int32) g75)
else
some ((0 : Int32), g73))
else
(if (lg_cmp p2 (0 : Int64)) < 0 then
z_lt (z_u2 g 0 0 (1 : Int32)) fun g79 =>
(if (g79 0 0) ≤ 0 then
(fX5_copy N 925 925 (g79 1) (0 : Int32) (0 : Int32) (g79 3)).bind fun u81 =>
z_lt (z_uR g79 3 u81) fun g81 =>
(lX5_runScript_95 N p1 p2 (fun x6_95 g95_82 => (fX5_copy N 925 925 (g95_82 3) (0 : Int32) (0 : Int32) (g95_82 1)).bind fun u83 =>
z_lt (z_uR g95_82 1 u83) fun g83 =>
some (x6_95, g83)) N (-1 : Int32) ((100000 : Int64) / (100000 : Int64)) (0 : Int32) g81)
else
some ((0 : Int32), g79))
else
(if (lg_cmp p2 (100000 : Int64)) < 0 then
z_lt (z_u2 g 0 0 (0 : Int32)) fun g85 =>
(if (g85 0 0) ≤ 0 then
(fX5_copy N 925 925 (g85 1) (0 : Int32) (0 : Int32) (g85 3)).bind fun u87 =>
z_lt (z_uR g85 3 u87) fun g87 =>
(lX5_runScript_95 N p1 p2 (fun x6_95 g95_88 => (fX5_copy N 925 925 (g95_88 3) (0 : Int32) (0 : Int32) (g95_88 1)).bind fun u89 =>
z_lt (z_uR g95_88 1 u89) fun g89 =>
some (x6_95, g89)) N (-1 : Int32) ((100000 : Int64) / (100000 : Int64)) (0 : Int32) g87)
else
some ((0 : Int32), g85))
else
z_lt (z_u2 g 0 0 (1 : Int32)) fun g90 =>
(if (g90 0 0) ≤ 0 then
(fX5_copy N 925 925 (g90 1) (0 : Int32) (0 : Int32) (g90 3)).bind fun u92 =>
z_lt (z_uR g90 3 u92) fun g92 =>
(lX5_runScript_95 N p1 p2 (fun x6_95 g95_93 => (fX5_copy N 925 925 (g95_93 3) (0 : Int32) (0 : Int32) (g95_93 1)).bind fun u94 =>
z_lt (z_uR g95_93 1 u94) fun g94 =>
some (x6_95, g94)) N (-1 : Int32) ((100000 : Int64) / (100000 : Int64)) (0 : Int32) g92)
else
some ((0 : Int32), g90))))))
else
(if p1 = (2 : Int32) then
(if p1 < (1 : Int32) then
z_lt (z_u2 g 0 0 (1 : Int32)) fun g38 =>
(if (g38 0 0) ≤ 0 then
(fX5_copy N 925 925 (g38 1) (0 : Int32) (0 : Int32) (g38 3)).bind fun u40 =>
z_lt (z_uR g38 3 u40) fun g40 =>
(lX5_runScript_95 N p1 p2 (fun x6_95 g95_41 => (fX5_copy N 925 925 (g95_41 3) (0 : Int32) (0 : Int32) (g95_41 1)).bind fun u42 =>
z_lt (z_uR g95_41 1 u42) fun g42 =>
some (x6_95, g42)) N (-1 : Int32) ((10000000000 : Int64) / (100000 : Int64)) (0 : Int32) g40)
else
some ((0 : Int32), g38))
else
(if (3 : Int32) < p1 then
z_lt (z_u2 g 0 0 (1 : Int32)) fun g44 =>
(if (g44 0 0) ≤ 0 then
(fX5_copy N 925 925 (g44 1) (0 : Int32) (0 : Int32) (g44 3)).bind fun u46 =>
z_lt (z_uR g44 3 u46) fun g46 =>
(lX5_runScript_95 N p1 p2 (fun x6_95 g95_47 => (fX5_copy N 925 925 (g95_47 3) (0 : Int32) (0 : Int32) (g95_47 1)).bind fun u48 =>
z_lt (z_uR g95_47 1 u48) fun g48 =>
some (x6_95, g48)) N (-1 : Int32) ((10000000000 : Int64) / (100000 : Int64)) (0 : Int32) g46)
else
some ((0 : Int32), g44))
else
(if (lg_cmp p2 (0 : Int64)) < 0 then
z_lt (z_u2 g 0 0 (1 : Int32)) fun g50 =>
(if (g50 0 0) ≤ 0 then
(fX5_copy N 925 925 (g50 1) (0 : Int32) (0 : Int32) (g50 3)).bind fun u52 =>
z_lt (z_uR g50 3 u52) fun g52 =>
(lX5_runScript_95 N p1 p2 (fun x6_95 g95_53 => (fX5_copy N 925 925 (g95_53 3) (0 : Int32) (0 : Int32) (g95_53 1)).bind fun u54 =>
z_lt (z_uR g95_53 1 u54) fun g54 =>
some (x6_95, g54)) N (-1 : Int32) ((10000000000 : Int64) / (100000 : Int64)) (0 : Int32) g52)
else
some ((0 : Int32), g50))
else
(if (lg_cmp p2 (10000000000 : Int64)) < 0 then
z_lt (z_u2 g 0 0 (0 : Int32)) fun g56 =>
(if (g56 0 0) ≤ 0 then
(fX5_copy N 925 925 (g56 1) (0 : Int32) (0 : Int32) (g56 3)).bind fun u58 =>
z_lt (z_uR g56 3 u58) fun g58 =>
(lX5_runScript_95 N p1 p2 (fun x6_95 g95_59 => (fX5_copy N 925 925 (g95_59 3) (0 : Int32) (0 : Int32) (g95_59 1)).bind fun u60 =>
z_lt (z_uR g95_59 1 u60) fun g60 =>
some (x6_95, g60)) N (-1 : Int32) ((10000000000 : Int64) / (100000 : Int64)) (0 : Int32) g58)
else
some ((0 : Int32), g56))
else
z_lt (z_u2 g 0 0 (1 : Int32)) fun g61 =>
(if (g61 0 0) ≤ 0 then
(fX5_copy N 925 925 (g61 1) (0 : Int32) (0 : Int32) (g61 3)).bind fun u63 =>
z_lt (z_uR g61 3 u63) fun g63 =>
(lX5_runScript_95 N p1 p2 (fun x6_95 g95_64 => (fX5_copy N 925 925 (g95_64 3) (0 : Int32) (0 : Int32) (g95_64 1)).bind fun u65 =>
z_lt (z_uR g95_64 1 u65) fun g65 =>
some (x6_95, g65)) N (-1 : Int32) ((10000000000 : Int64) / (100000 : Int64)) (0 : Int32) g63)
else
some ((0 : Int32), g61))))))
else
(if p1 < (1 : Int32) then
z_lt (z_u2 g 0 0 (1 : Int32)) fun g4 =>
(if (g4 0 0) ≤ 0 then
(fX5_copy N 925 925 (g4 1) (0 : Int32) (0 : Int32) (g4 3)).bind fun u6 =>
z_lt (z_uR g4 3 u6) fun g6 =>
(lX5_runScript_95 N p1 p2 (fun x6_95 g95_12 => (fX5_copy N 925 925 (g95_12 3) (0 : Int32) (0 : Int32) (g95_12 1)).bind fun u13 =>
z_lt (z_uR g95_12 1 u13) fun g13 =>
some (x6_95, g13)) N (-1 : Int32) ((1000000000000000 : Int64) / (100000 : Int64)) (0 : Int32) g6)
else
some ((0 : Int32), g4))
else
(if (3 : Int32) < p1 then
z_lt (z_u2 g 0 0 (1 : Int32)) fun g15 =>
(if (g15 0 0) ≤ 0 then
(fX5_copy N 925 925 (g15 1) (0 : Int32) (0 : Int32) (g15 3)).bind fun u17 =>
z_lt (z_uR g15 3 u17) fun g17 =>
(lX5_runScript_95 N p1 p2 (fun x6_95 g95_18 => (fX5_copy N 925 925 (g95_18 3) (0 : Int32) (0 : Int32) (g95_18 1)).bind fun u19 =>
z_lt (z_uR g95_18 1 u19) fun g19 =>
some (x6_95, g19)) N (-1 : Int32) ((1000000000000000 : Int64) / (100000 : Int64)) (0 : Int32) g17)
else
some ((0 : Int32), g15))
else
(if (lg_cmp p2 (0 : Int64)) < 0 then
z_lt (z_u2 g 0 0 (1 : Int32)) fun g21 =>
(if (g21 0 0) ≤ 0 then
(fX5_copy N 925 925 (g21 1) (0 : Int32) (0 : Int32) (g21 3)).bind fun u23 =>
z_lt (z_uR g21 3 u23) fun g23 =>
(lX5_runScript_95 N p1 p2 (fun x6_95 g95_24 => (fX5_copy N 925 925 (g95_24 3) (0 : Int32) (0 : Int32) (g95_24 1)).bind fun u25 =>
z_lt (z_uR g95_24 1 u25) fun g25 =>
some (x6_95, g25)) N (-1 : Int32) ((1000000000000000 : Int64) / (100000 : Int64)) (0 : Int32) g23)
else
some ((0 : Int32), g21))
else
(if (lg_cmp p2 (1000000000000000 : Int64)) < 0 then
z_lt (z_u2 g 0 0 (0 : Int32)) fun g27 =>
(if (g27 0 0) ≤ 0 then
(fX5_copy N 925 925 (g27 1) (0 : Int32) (0 : Int32) (g27 3)).bind fun u29 =>
z_lt (z_uR g27 3 u29) fun g29 =>
(lX5_runScript_95 N p1 p2 (fun x6_95 g95_30 => (fX5_copy N 925 925 (g95_30 3) (0 : Int32) (0 : Int32) (g95_30 1)).bind fun u31 =>
z_lt (z_uR g95_30 1 u31) fun g31 =>
some (x6_95, g31)) N (-1 : Int32) ((1000000000000000 : Int64) / (100000 : Int64)) (0 : Int32) g29)
else
some ((0 : Int32), g27))
else
z_lt (z_u2 g 0 0 (1 : Int32)) fun g32 =>
(if (g32 0 0) ≤ 0 then
(fX5_copy N 925 925 (g32 1) (0 : Int32) (0 : Int32) (g32 3)).bind fun u34 =>
z_lt (z_uR g32 3 u34) fun g34 =>
(lX5_runScript_95 N p1 p2 (fun x6_95 g95_35 => (fX5_copy N 925 925 (g95_35 3) (0 : Int32) (0 : Int32) (g95_35 1)).bind fun u36 =>
z_lt (z_uR g95_35 1 u36) fun g36 =>
some (x6_95, g36)) N (-1 : Int32) ((1000000000000000 : Int64) / (100000 : Int64)) (0 : Int32) g34)
else
some ((0 : Int32), g32))))))))
def lX5_simulate_50 (N : Nat) (x3 : Int32) (k : Int32 → z_R → Option (Int32 × z_R)) : Nat → Int64 → Int32 → Int32 → z_R → Option (Int32 × z_R)
  | 0, _, _, _, _ => none
  | fu + 1, x4, x6, x7, g => (if x3 ≤ x7 then
(k x6 g)
else
(if (g 1 ((2 : Int32)).toNatClampNeg) ≤ 0 then
(k x6 g)
else
z_ck (z_nz (g 1 ((2 : Int32)).toNatClampNeg)) <|
(fX5_setPart N (((((((x4 * (6364136223846793005 : Int64)) + (1442695040888963407 : Int64))).toUInt64 >>> (((33 : Int32)).toInt64.toUInt64 &&& Int64.toUInt64 63)).toInt64).toInt32 / (16 : Int32)) - ((((((x4 * (6364136223846793005 : Int64)) + (1442695040888963407 : Int64))).toUInt64 >>> (((33 : Int32)).toInt64.toUInt64 &&& Int64.toUInt64 63)).toInt64).toInt32 / (16 : Int32)) / (g 1 ((2 : Int32)).toNatClampNeg) * (g 1 ((2 : Int32)).toNatClampNeg)) (4 : Int32) (((((((x4 * (6364136223846793005 : Int64)) + (1442695040888963407 : Int64))).toUInt64 >>> (((33 : Int32)).toInt64.toUInt64 &&& Int64.toUInt64 63)).toInt64).toInt32 / (1024 : Int32)) - ((((((x4 * (6364136223846793005 : Int64)) + (1442695040888963407 : Int64))).toUInt64 >>> (((33 : Int32)).toInt64.toUInt64 &&& Int64.toUInt64 63)).toInt64).toInt32 / (1024 : Int32)) / (100 : Int32) * (100 : Int32)) g).bind fun g9 =>
(if ((((((x4 * (6364136223846793005 : Int64)) + (1442695040888963407 : Int64))).toUInt64 >>> (((33 : Int32)).toInt64.toUInt64 &&& Int64.toUInt64 63)).toInt64).toInt32 - (((((x4 * (6364136223846793005 : Int64)) + (1442695040888963407 : Int64))).toUInt64 >>> (((33 : Int32)).toInt64.toUInt64 &&& Int64.toUInt64 63)).toInt64).toInt32 / (4 : Int32) * (4 : Int32)) = 0 then
z_b2 (fX5_laid N  g9) fun r14 g14 =>
z_ck (z_nz (g14 1 ((2 : Int32)).toNatClampNeg)) <|
z_b2 (fX5_runs N (((((((x4 * (6364136223846793005 : Int64)) + (1442695040888963407 : Int64))).toUInt64 >>> (((33 : Int32)).toInt64.toUInt64 &&& Int64.toUInt64 63)).toInt64).toInt32 / (256 : Int32)) - ((((((x4 * (6364136223846793005 : Int64)) + (1442695040888963407 : Int64))).toUInt64 >>> (((33 : Int32)).toInt64.toUInt64 &&& Int64.toUInt64 63)).toInt64).toInt32 / (256 : Int32)) / (g14 1 ((2 : Int32)).toNatClampNeg) * (g14 1 ((2 : Int32)).toNatClampNeg)) g14) fun r16 g16 =>
(if r16 = 0 then
(lX5_simulate_50 N x3 k fu ((x4 * (6364136223846793005 : Int64)) + (1442695040888963407 : Int64)) (x6 + (1 : Int32)) (x7 + (1 : Int32)) g16)
else
(lX5_simulate_50 N x3 k fu ((x4 * (6364136223846793005 : Int64)) + (1442695040888963407 : Int64)) (x6 + (0 : Int32)) (x7 + (1 : Int32)) g16))
else
z_ck (z_nz (g9 1 ((2 : Int32)).toNatClampNeg)) <|
z_b2 (fX5_runs N (((((((x4 * (6364136223846793005 : Int64)) + (1442695040888963407 : Int64))).toUInt64 >>> (((33 : Int32)).toInt64.toUInt64 &&& Int64.toUInt64 63)).toInt64).toInt32 / (256 : Int32)) - ((((((x4 * (6364136223846793005 : Int64)) + (1442695040888963407 : Int64))).toUInt64 >>> (((33 : Int32)).toInt64.toUInt64 &&& Int64.toUInt64 63)).toInt64).toInt32 / (256 : Int32)) / (g9 1 ((2 : Int32)).toNatClampNeg) * (g9 1 ((2 : Int32)).toNatClampNeg)) g9) fun r12 g12 =>
(if r12 = 0 then
(lX5_simulate_50 N x3 k fu ((x4 * (6364136223846793005 : Int64)) + (1442695040888963407 : Int64)) (x6 + (1 : Int32)) (x7 + (1 : Int32)) g12)
else
(lX5_simulate_50 N x3 k fu ((x4 * (6364136223846793005 : Int64)) + (1442695040888963407 : Int64)) (x6 + (0 : Int32)) (x7 + (1 : Int32)) g12)))))
def fX5_simulate (N : Nat) (p1 : Int64) (p3 : Int32) (g : z_R) : Option (Int32 × z_R) :=
(fX5_within N p3 (1 : Int32) (50 : Int32)).bind fun r1 =>
(if r1 = 0 then
z_lt (z_u2 g 0 0 (1 : Int32)) fun g3 =>
(if (g3 0 0) ≤ 0 then
(fX5_copy N 925 925 (g3 1) (0 : Int32) (0 : Int32) (g3 3)).bind fun u5 =>
z_lt (z_uR g3 3 u5) fun g5 =>
(lX5_simulate_50 N p3 (fun x6_50 g50_18 => (fX5_refundedAll N  g50_18).bind fun r19 =>
(fX5_copy N 925 925 (g50_18 3) (0 : Int32) (0 : Int32) (g50_18 1)).bind fun u20 =>
z_lt (z_uR g50_18 1 u20) fun g20 =>
(fX5_refundedAll N  g20).bind fun r21 =>
(if (999 : Int32) ≤ (r19 - r21) then
some ((((1000 : Int32) * x6_50) + (999 : Int32)), g20)
else
some ((((1000 : Int32) * x6_50) + (r19 - r21)), g20))) N p1 (0 : Int32) (0 : Int32) g5)
else
some ((0 : Int32), g3))
else
z_lt (z_u2 g 0 0 (0 : Int32)) fun g23 =>
(if (g23 0 0) ≤ 0 then
(fX5_copy N 925 925 (g23 1) (0 : Int32) (0 : Int32) (g23 3)).bind fun u25 =>
z_lt (z_uR g23 3 u25) fun g25 =>
(lX5_simulate_50 N p3 (fun x6_50 g50_26 => (fX5_refundedAll N  g50_26).bind fun r27 =>
(fX5_copy N 925 925 (g50_26 3) (0 : Int32) (0 : Int32) (g50_26 1)).bind fun u28 =>
z_lt (z_uR g50_26 1 u28) fun g28 =>
(fX5_refundedAll N  g28).bind fun r29 =>
(if (999 : Int32) ≤ (r27 - r29) then
some ((((1000 : Int32) * x6_50) + (999 : Int32)), g28)
else
some ((((1000 : Int32) * x6_50) + (r27 - r29)), g28))) N p1 (0 : Int32) (0 : Int32) g25)
else
some ((0 : Int32), g23)))
def fX5_isSlot (N : Nat) (p0 : Int32) : Option Int32 :=
(if p0 = 0 then
some ((1 : Int32))
else
(if p0 = (1 : Int32) then
some ((1 : Int32))
else
some ((0 : Int32))))
def fX5_save (N : Nat) (p1 : Int32) (g : z_R) : Option (Int32 × z_R) :=
(fX5_isSlot N p1).bind fun r1 =>
(if r1 = 0 then
z_lt (z_u2 g 0 0 (1 : Int32)) fun g3 =>
(if (g3 0 0) ≤ 0 then
(fX5_copy N 925 1850 (g3 1) (0 : Int32) ((925 : Int32) * p1) (g3 6)).bind fun u5 =>
z_lt (z_uR g3 6 u5) fun g5 =>
z_ck (z_in p1 2) <|
z_lt (z_u2 g5 7 (p1).toNatClampNeg (1 : Int32)) fun g7 =>
some ((g7 1 ((2 : Int32)).toNatClampNeg), g7)
else
some ((0 : Int32), g3))
else
z_lt (z_u2 g 0 0 (0 : Int32)) fun g8 =>
(if (g8 0 0) ≤ 0 then
(fX5_copy N 925 1850 (g8 1) (0 : Int32) ((925 : Int32) * p1) (g8 6)).bind fun u10 =>
z_lt (z_uR g8 6 u10) fun g10 =>
z_ck (z_in p1 2) <|
z_lt (z_u2 g10 7 (p1).toNatClampNeg (1 : Int32)) fun g12 =>
some ((g12 1 ((2 : Int32)).toNatClampNeg), g12)
else
some ((0 : Int32), g8)))
def fX5_restore (N : Nat) (p1 : Int32) (g : z_R) : Option (Int32 × z_R) :=
(fX5_isSlot N p1).bind fun r1 =>
(if r1 = 0 then
z_lt (z_u2 g 0 0 (1 : Int32)) fun g13 =>
(if (g13 0 0) ≤ 0 then
(fX5_copy N 1850 925 (g13 6) ((925 : Int32) * p1) (0 : Int32) (g13 1)).bind fun u15 =>
z_lt (z_uR g13 1 u15) fun g15 =>
z_lt (z_u2 g15 0 1 (0 : Int32)) fun g16 =>
some ((g16 1 ((2 : Int32)).toNatClampNeg), g16)
else
some ((0 : Int32), g13))
else
z_ck (z_in p1 2) <|
(if (g 7 (p1).toNatClampNeg) = (1 : Int32) then
z_lt (z_u2 g 0 0 (0 : Int32)) fun g9 =>
(if (g9 0 0) ≤ 0 then
(fX5_copy N 1850 925 (g9 6) ((925 : Int32) * p1) (0 : Int32) (g9 1)).bind fun u11 =>
z_lt (z_uR g9 1 u11) fun g11 =>
z_lt (z_u2 g11 0 1 (0 : Int32)) fun g12 =>
some ((g12 1 ((2 : Int32)).toNatClampNeg), g12)
else
some ((0 : Int32), g9))
else
z_lt (z_u2 g 0 0 (2 : Int32)) fun g5 =>
(if (g5 0 0) ≤ 0 then
(fX5_copy N 1850 925 (g5 6) ((925 : Int32) * p1) (0 : Int32) (g5 1)).bind fun u7 =>
z_lt (z_uR g5 1 u7) fun g7 =>
z_lt (z_u2 g7 0 1 (0 : Int32)) fun g8 =>
some ((g8 1 ((2 : Int32)).toNatClampNeg), g8)
else
some ((0 : Int32), g5))))
def fJ9_min_7cf53 (N : Nat) (p0 : Int32) (p1 : Int32) : Option Int32 :=
(if p1 < p0 then
some (p1)
else
some (p0))
