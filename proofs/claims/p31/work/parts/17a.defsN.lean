def nX4_about (N : Nat) (p1 : Int32) (X : z_X) : Option Int32 :=
(if p1 = (0 : Int32) then
some ((X.2.2 0 0 0))
else
(if p1 = (1 : Int32) then
some ((X.2.2 0 0 1))
else
(if p1 = (2 : Int32) then
some ((X.2.2 0 0 2))
else
(if p1 = (3 : Int32) then
(fX2_around N (X.2.2 0 0 2) (X.2.2 0)).bind fun r2 =>
some (r2)
else
(if p1 = (4 : Int32) then
(fX2_laidOrders N  (X.2.2 0)).bind fun r3 =>
some (r3)
else
(if p1 = (5 : Int32) then
(fX4_sum N 4 (X.2.2 0 10)).bind fun r4 =>
some (r4)
else
(if p1 = (6 : Int32) then
(fX4_sum N 4 (X.2.2 0 11)).bind fun r5 =>
some (r5)
else
(if p1 = (7 : Int32) then
(fX4_sum N 16 (X.2.2 0 8)).bind fun r6 =>
some (r6)
else
(if p1 = (8 : Int32) then
some ((X.2.2 0 0 4))
else
(if p1 = (9 : Int32) then
some ((X.2.2 0 0 3))
else
none))))))))))
def nX4_order (N : Nat) (p1 : Int32) (p2 : Int32) (X : z_X) : Option Int32 :=
(fX2_has N p1 (X.2.2 0)).bind fun r1 =>
(if r1 = 0 then
none
else
(if p2 = (0 : Int32) then
z_ck (z_in p1 16) <|
some ((X.2.2 0 1 (p1).toNatClampNeg))
else
(if p2 = (1 : Int32) then
z_ck (z_in p1 16) <|
some ((X.2.2 0 2 (p1).toNatClampNeg))
else
(if p2 = (2 : Int32) then
z_ck (z_in p1 16) <|
some ((X.2.2 0 3 (p1).toNatClampNeg))
else
(if p2 = (3 : Int32) then
z_ck (z_in p1 16) <|
some ((X.2.2 0 4 (p1).toNatClampNeg))
else
(if p2 = (4 : Int32) then
z_ck (z_in p1 16) <|
some ((X.2.2 0 5 (p1).toNatClampNeg))
else
(if p2 = (5 : Int32) then
z_ck (z_in p1 16) <|
some ((X.2.2 0 6 (p1).toNatClampNeg))
else
(if p2 = (6 : Int32) then
z_ck (z_in p1 16) <|
some ((X.2.2 0 7 (p1).toNatClampNeg))
else
(if p2 = (7 : Int32) then
z_ck (z_in p1 16) <|
some ((X.2.2 0 8 (p1).toNatClampNeg))
else
(if p2 = (8 : Int32) then
z_ck (z_in p1 16) <|
some ((X.2.2 0 9 (p1).toNatClampNeg))
else
none))))))))))
def nX4_author (N : Nat) (p1 : Int32) (p2 : Int32) (X : z_X) : Option Int32 :=
(fX4_isAuthor N p1).bind fun r1 =>
(if r1 = 0 then
none
else
(if p2 = (0 : Int32) then
(fX2_ordersOf N p1 (X.2.2 0)).bind fun r4 =>
some (r4)
else
(if p2 = (1 : Int32) then
z_ck (z_in p1 4) <|
some ((X.2.2 0 10 (p1).toNatClampNeg))
else
(if p2 = (2 : Int32) then
z_ck (z_in p1 4) <|
some ((X.2.2 0 11 (p1).toNatClampNeg))
else
none))))
def nX4_at (N : Nat) (p1 : Int32) (X : z_X) : Option Int32 :=
(fX2_hasPlace N p1 (X.2.2 0)).bind fun r1 =>
(if r1 = 0 then
none
else
(fX2_orderOn N p1 (X.2.2 0)).bind fun r3 =>
some (r3))
def nX4_jump (N : Nat) (p1 : Int32) (p2 : Int32) (X : z_X) : Option Int32 :=
(if p1 < 0 then
none
else
(if p2 < 0 then
none
else
(if p2 ≤ (2 : Int32) then
(fX0_number N p1 p2 (X.2.2 0)).bind fun r4 =>
some (r4)
else
none)))
def nX4_setDrum (N : Nat) (p1 : Int32) (X : z_X) : Option (Int32 × z_X) :=
(if p1 < (6 : Int32) then
none
else
(if p1 ≤ (40 : Int32) then
(fX1_remember N  X).bind fun X3 =>
(fX2_takeAllOff N  (X3.2.2 0)).bind fun u4 =>
z_lt ((X3.1, X3.2.1, z_u3 X3.2.2 0 u4)) fun X5 =>
z_lt ((X5.1, X5.2.1, z_u3 X5.2.2 0 (z_u2 (X5.2.2 0) 0 0 p1))) fun X6 =>
some ((X3.2.2 0 0 0), X6)
else
none))
def nX4_addOrder (N : Nat) (p1 : Int32) (p2 : Int32) (p3 : Int32) (p4 : Int32) (p5 : Int32) (X : z_X) : Option (Int32 × z_X) :=
(fX4_isAuthor N p1).bind fun r1 =>
(if r1 = 0 then
none
else
(fX4_isWork N p2).bind fun r3 =>
(if r3 = 0 then
none
else
(fX4_isLink N p3).bind fun r5 =>
(if r5 = 0 then
none
else
(fX4_isLink N p4).bind fun r7 =>
(if r7 = 0 then
none
else
(fX4_isBribe N p5).bind fun r9 =>
(if r9 = 0 then
none
else
(if (X.2.2 0 0 1) < (16 : Int32) then
(fX1_remember N  X).bind fun X12 =>
z_b2 (fX2_addNew N p1 p2 p3 p4 p5 (X12.2.2 0)) fun r13 u13 =>
z_lt ((X12.1, X12.2.1, z_u3 X12.2.2 0 u13)) fun X14 =>
some (r13, X14)
else
none))))))
def nX4_change (N : Nat) (p1 : Int32) (p2 : Int32) (p3 : Int32) (X : z_X) : Option (Int32 × z_X) :=
(fX2_has N p1 (X.2.2 0)).bind fun r1 =>
(if r1 = 0 then
none
else
(fX4_isNumberOfOrder N p2 p3).bind fun r3 =>
(if r3 = 0 then
none
else
(fX1_remember N  X).bind fun X5 =>
z_b2 (fX2_replace N p1 p2 p3 (X5.2.2 0)) fun r6 u6 =>
z_lt ((X5.1, X5.2.1, z_u3 X5.2.2 0 u6)) fun X7 =>
some (r6, X7)))
def nX4_run (N : Nat) (p1 : Int32) (X : z_X) : Option (Int32 × z_X) :=
(fX2_has N p1 (X.2.2 0)).bind fun r1 =>
(if r1 = 0 then
none
else
(fX1_remember N  X).bind fun X3 =>
z_b2 (fX2_runFrom N p1 (X3.2.2 0)) fun r4 u4 =>
z_lt ((X3.1, X3.2.1, z_u3 X3.2.2 0 u4)) fun X5 =>
some (r4, X5))
def nX4_turn (N : Nat) (p1 : Int32) (X : z_X) : Option (Int32 × z_X) :=
(fX4_isTurn N p1).bind fun r1 =>
(if r1 = 0 then
none
else
(fX1_remember N  X).bind fun X3 =>
z_lt ((X3.1, X3.2.1, z_u3 X3.2.2 0 (z_u2 (X3.2.2 0) 0 2 ((X3.2.2 0 0 2) + p1)))) fun X4 =>
(fX2_around N (X4.2.2 0 0 2) (X4.2.2 0)).bind fun r5 =>
some (r5, X4))
def nX4_waits (N : Nat) (p1 : Int32) (X : z_X) : Option Int32 :=
(fX2_has N p1 (X.2.2 0)).bind fun r1 =>
(if r1 = 0 then
none
else
(fX2_waitFor N p1 (X.2.2 0)).bind fun r3 =>
some (r3))
def nX4_time (N : Nat) (p1 : Int32) (X : z_X) : Option (Int32 × z_X) :=
(fX2_has N p1 (X.2.2 0)).bind fun r1 =>
(if r1 = 0 then
none
else
z_b2 (fX4_ticksOfRun N 0 p1 X) fun r3 X3 =>
some (r3, X3))
def nlX4_bestPlace_51 (N : Nat) (x1 : Int32) (x2 : Int32) : Nat → Int32 → Int32 → Int32 → z_X → Option (Int32 × z_X)
  | 0, _, _, _, _ => none
  | fu + 1, x3, x4, x5, X => (if (X.2.2 0 0 0) ≤ x5 then
some (x3, X)
else
(fX2_isFreeFor N x1 x5 (X.2.2 0)).bind fun r8 =>
(if r8 = 0 then
(nlX4_bestPlace_51 N x1 x2 fu x3 x4 (x5 + (1 : Int32)) X)
else
z_ck (z_in x1 16) <|
z_lt ((X.1, X.2.1, z_u3 X.2.2 1 (z_u2 (X.2.2 1) 6 (x1).toNatClampNeg x5))) fun X11 =>
z_b2 (fX4_ticksOfRun N 1 x2 X11) fun r12 X12 =>
(if x3 = (-1 : Int32) then
(nlX4_bestPlace_51 N x1 x2 fu x5 r12 (x5 + (1 : Int32)) X12)
else
(if x4 ≤ r12 then
(nlX4_bestPlace_51 N x1 x2 fu x3 x4 (x5 + (1 : Int32)) X12)
else
(nlX4_bestPlace_51 N x1 x2 fu x5 r12 (x5 + (1 : Int32)) X12)))))
def nX4_bestPlace (N : Nat) (p1 : Int32) (p2 : Int32) (X : z_X) : Option (Int32 × z_X) :=
(fX2_has N p1 (X.2.2 0)).bind fun r1 =>
(if r1 = 0 then
none
else
(fX2_has N p2 (X.2.2 0)).bind fun r3 =>
(if r3 = 0 then
none
else
(fX2_copyFrom N (X.2.2 0) (X.2.2 1)).bind fun u5 =>
z_lt ((X.1, X.2.1, z_u3 X.2.2 1 u5)) fun X6 =>
(nlX4_bestPlace_51 N p1 p2 N (-1 : Int32) (0 : Int32) (0 : Int32) X6)))
def nlX4_leastBribe_34 (N : Nat) (x1 : Int32) : Nat → Int32 → z_X → Option (Int32 × z_X)
  | 0, _, _ => none
  | fu + 1, x2, X => (if (99 : Int32) < x2 then
some ((-1 : Int32), X)
else
z_ck (z_in x1 16) <|
z_lt ((X.1, X.2.1, z_u3 X.2.2 1 (z_u2 (X.2.2 1) 5 (x1).toNatClampNeg x2))) fun X7 =>
z_b2 (fX2_layAll N  (X7.2.2 1)) fun r8 u8 =>
z_lt ((X7.1, X7.2.1, z_u3 X7.2.2 1 u8)) fun X9 =>
z_ck (z_in x1 16) <|
(if (X9.2.2 1 7 (x1).toNatClampNeg) = 0 then
some (x2, X9)
else
(nlX4_leastBribe_34 N x1 fu (x2 + (1 : Int32)) X9)))
def nX4_leastBribe (N : Nat) (p1 : Int32) (X : z_X) : Option (Int32 × z_X) :=
(fX2_has N p1 (X.2.2 0)).bind fun r1 =>
(if r1 = 0 then
none
else
(fX2_copyFrom N (X.2.2 0) (X.2.2 1)).bind fun u3 =>
z_lt ((X.1, X.2.1, z_u3 X.2.2 1 u3)) fun X4 =>
(nlX4_leastBribe_34 N p1 N (0 : Int32) X4))
def nX4_saves (N : Nat) (p1 : Int32) (X : z_X) : Option (Int32 × z_X) :=
(fX2_has N p1 (X.2.2 0)).bind fun r1 =>
(if r1 = 0 then
none
else
(fX2_copyFrom N (X.2.2 0) (X.2.2 1)).bind fun u3 =>
z_lt ((X.1, X.2.1, z_u3 X.2.2 1 u3)) fun X4 =>
z_b2 (fX2_layAll N  (X4.2.2 1)) fun r5 u5 =>
z_lt ((X4.1, X4.2.1, z_u3 X4.2.2 1 u5)) fun X6 =>
z_b2 (fX4_ticksOfRun N 0 p1 X6) fun r7 X7 =>
z_b2 (fX4_ticksOfRun N 1 p1 X7) fun r8 X8 =>
some ((r7 - r8), X8))
