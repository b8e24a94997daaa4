def fX1_forget (N : Nat) (X : z_X) : Option (z_X) :=
z_lt ((X.1, z_u2 X.2.1 0 0 (0 : Int32), X.2.2)) fun X1 =>
z_lt ((X1.1, z_u2 X1.2.1 0 1 (0 : Int32), X1.2.2)) fun X2 =>
some X2
def fX1_remember (N : Nat) (X : z_X) : Option (z_X) :=
z_ck (z_in (((X.2.1 0 0) + (X.2.1 0 1)) - ((X.2.1 0 0) + (X.2.1 0 1)) / (14 : Int32) * (14 : Int32)) 14) <|
(fX2_copyFrom N (X.2.2 0) (X.2.2 (((((X.2.1 0 0) + (X.2.1 0 1)) - ((X.2.1 0 0) + (X.2.1 0 1)) / (14 : Int32) * (14 : Int32))).toNatClampNeg + 3))).bind fun u2 =>
z_lt ((X.1, X.2.1, z_u3 X.2.2 (((((X.2.1 0 0) + (X.2.1 0 1)) - ((X.2.1 0 0) + (X.2.1 0 1)) / (14 : Int32) * (14 : Int32))).toNatClampNeg + 3) u2)) fun X3 =>
(if (14 : Int32) ≤ (X3.2.1 0 1) then
z_lt ((X3.1, z_u2 X3.2.1 0 0 (((X3.2.1 0 0) + (1 : Int32)) - ((X3.2.1 0 0) + (1 : Int32)) / (14 : Int32) * (14 : Int32)), X3.2.2)) fun X5 =>
some X5
else
z_lt ((X3.1, z_u2 X3.2.1 0 1 ((X3.2.1 0 1) + (1 : Int32)), X3.2.2)) fun X6 =>
some X6)
def fX1_bringBack (N : Nat) (X : z_X) : Option (z_X) :=
(if (1 : Int32) ≤ (X.2.1 0 1) then
z_lt ((X.1, z_u2 X.2.1 0 1 ((X.2.1 0 1) - (1 : Int32)), X.2.2)) fun X2 =>
z_ck (z_in (((X2.2.1 0 0) + (X2.2.1 0 1)) - ((X2.2.1 0 0) + (X2.2.1 0 1)) / (14 : Int32) * (14 : Int32)) 14) <|
(fX2_copyFrom N (X2.2.2 (((((X2.2.1 0 0) + (X2.2.1 0 1)) - ((X2.2.1 0 0) + (X2.2.1 0 1)) / (14 : Int32) * (14 : Int32))).toNatClampNeg + 3)) (X2.2.2 0)).bind fun u4 =>
z_lt ((X2.1, X2.2.1, z_u3 X2.2.2 0 u4)) fun X5 =>
some X5
else
some X)
def lX3_fill_11 (N : Nat) : Nat → Int32 → z_X → Option (z_X)
  | 0, _, _ => none
  | fu + 1, x2, X => (if (X.1 0 0) ≤ x2 then
some X
else
(fX3_digit N (x2 + (1 : Int32)) X.1).bind fun r5 =>
(fX3_digit N (x2 + (2 : Int32)) X.1).bind fun r6 =>
(fX3_pair N (x2 + (3 : Int32)) X.1).bind fun r7 =>
(fX3_pair N (x2 + (5 : Int32)) X.1).bind fun r8 =>
(fX3_pair N (x2 + (7 : Int32)) X.1).bind fun r9 =>
z_b2 (fX2_addNew N r5 r6 r7 r8 r9 (X.2.2 0)) fun r10 u10 =>
z_lt ((X.1, X.2.1, z_u3 X.2.2 0 u10)) fun X11 =>
(lX3_fill_11 N fu (x2 + (9 : Int32)) X11))
def fX3_fill (N : Nat) (X : z_X) : Option (z_X) :=
(fX3_pair N (1 : Int32) X.1).bind fun r1 =>
(fX2_reset N r1 (X.2.2 0)).bind fun u2 =>
z_lt ((X.1, X.2.1, z_u3 X.2.2 0 u2)) fun X3 =>
(lX3_fill_11 N N (3 : Int32) X3)
def fX4_append (N : Nat) (p1 : Int32) (X : z_X) : Option ((Int32 ⊕ Nat) × z_X) :=
(if p1 < 0 then
some (.inr 1, X)
else
(if p1 ≤ (255 : Int32) then
(fX3_isFull N  X.1).bind fun r3 =>
(if r3 = 0 then
z_b2 (fX3_add N p1 X.1) fun r5 u5 =>
z_lt ((u5, X.2.1, X.2.2)) fun X6 =>
some (.inl r5, X6)
else
some (.inr 2, X))
else
some (.inr 1, X)))
def fX4_clearText (N : Nat) (X : z_X) : Option (Int32 × z_X) :=
z_b2 (fX3_empty N  X.1) fun r1 u1 =>
z_lt ((u1, X.2.1, X.2.2)) fun X2 =>
some (r1, X2)
def fX4_errorPosition (N : Nat) (X : z_X) : Option Int32 :=
(fX3_firstError N  X.1).bind fun r1 =>
some (r1)
def lX4_load_41 (N : Nat) : Nat → Int32 → z_X → Option ((Int32 ⊕ Nat) × z_X)
  | 0, _, _ => none
  | fu + 1, x1, X => (if (2 : Int32) ≤ x1 then
some (.inl (X.2.2 0 0 1), X)
else
z_ck (z_in x1 2) <|
z_lt ((X.1, z_u2 X.2.1 1 (x1).toNatClampNeg (0 : Int32), X.2.2)) fun X7 =>
(lX4_load_41 N fu (x1 + (1 : Int32)) X7))
def fX4_load (N : Nat) (X : z_X) : Option ((Int32 ⊕ Nat) × z_X) :=
(fX3_firstError N  X.1).bind fun r1 =>
(if r1 = (-1 : Int32) then
(fX3_fill N  X).bind fun X3 =>
(fX1_forget N  X3).bind fun X4 =>
(lX4_load_41 N N (0 : Int32) X4)
else
some (.inr 2, X))
def fX4_about (N : Nat) (p1 : Int32) (X : z_X) : Option ((Int32 ⊕ Nat) × z_X) :=
(if p1 = (0 : Int32) then
some (.inl (X.2.2 0 0 0), X)
else
(if p1 = (1 : Int32) then
some (.inl (X.2.2 0 0 1), X)
else
(if p1 = (2 : Int32) then
some (.inl (X.2.2 0 0 2), X)
else
(if p1 = (3 : Int32) then
(fX2_around N (X.2.2 0 0 2) (X.2.2 0)).bind fun r2 =>
some (.inl r2, X)
else
(if p1 = (4 : Int32) then
(fX2_laidOrders N  (X.2.2 0)).bind fun r3 =>
some (.inl r3, X)
else
(if p1 = (5 : Int32) then
(fX4_sum N 4 (X.2.2 0 10)).bind fun r4 =>
some (.inl r4, X)
else
(if p1 = (6 : Int32) then
(fX4_sum N 4 (X.2.2 0 11)).bind fun r5 =>
some (.inl r5, X)
else
(if p1 = (7 : Int32) then
(fX4_sum N 16 (X.2.2 0 8)).bind fun r6 =>
some (.inl r6, X)
else
(if p1 = (8 : Int32) then
some (.inl (X.2.2 0 0 4), X)
else
(if p1 = (9 : Int32) then
some (.inl (X.2.2 0 0 3), X)
else
some (.inr 1, X)))))))))))
def fX4_order (N : Nat) (p1 : Int32) (p2 : Int32) (X : z_X) : Option ((Int32 ⊕ Nat) × z_X) :=
(fX2_has N p1 (X.2.2 0)).bind fun r1 =>
(if r1 = 0 then
some (.inr 3, X)
else
(if p2 = (0 : Int32) then
z_ck (z_in p1 16) <|
some (.inl (X.2.2 0 1 (p1).toNatClampNeg), X)
else
(if p2 = (1 : Int32) then
z_ck (z_in p1 16) <|
some (.inl (X.2.2 0 2 (p1).toNatClampNeg), X)
else
(if p2 = (2 : Int32) then
z_ck (z_in p1 16) <|
some (.inl (X.2.2 0 3 (p1).toNatClampNeg), X)
else
(if p2 = (3 : Int32) then
z_ck (z_in p1 16) <|
some (.inl (X.2.2 0 4 (p1).toNatClampNeg), X)
else
(if p2 = (4 : Int32) then
z_ck (z_in p1 16) <|
some (.inl (X.2.2 0 5 (p1).toNatClampNeg), X)
else
(if p2 = (5 : Int32) then
z_ck (z_in p1 16) <|
some (.inl (X.2.2 0 6 (p1).toNatClampNeg), X)
else
(if p2 = (6 : Int32) then
z_ck (z_in p1 16) <|
some (.inl (X.2.2 0 7 (p1).toNatClampNeg), X)
else
(if p2 = (7 : Int32) then
z_ck (z_in p1 16) <|
some (.inl (X.2.2 0 8 (p1).toNatClampNeg), X)
else
(if p2 = (8 : Int32) then
z_ck (z_in p1 16) <|
some (.inl (X.2.2 0 9 (p1).toNatClampNeg), X)
else
some (.inr 1, X)))))))))))
def fX4_author (N : Nat) (p1 : Int32) (p2 : Int32) (X : z_X) : Option ((Int32 ⊕ Nat) × z_X) :=
(fX4_isAuthor N p1).bind fun r1 =>
(if r1 = 0 then
some (.inr 3, X)
else
(if p2 = (0 : Int32) then
(fX2_ordersOf N p1 (X.2.2 0)).bind fun r4 =>
some (.inl r4, X)
else
(if p2 = (1 : Int32) then
z_ck (z_in p1 4) <|
some (.inl (X.2.2 0 10 (p1).toNatClampNeg), X)
else
(if p2 = (2 : Int32) then
z_ck (z_in p1 4) <|
some (.inl (X.2.2 0 11 (p1).toNatClampNeg), X)
else
some (.inr 1, X)))))
def fX4_at (N : Nat) (p1 : Int32) (X : z_X) : Option ((Int32 ⊕ Nat) × z_X) :=
(fX2_hasPlace N p1 (X.2.2 0)).bind fun r1 =>
(if r1 = 0 then
some (.inr 3, X)
else
(fX2_orderOn N p1 (X.2.2 0)).bind fun r3 =>
some (.inl r3, X))
def fX4_jump (N : Nat) (p1 : Int32) (p2 : Int32) (X : z_X) : Option ((Int32 ⊕ Nat) × z_X) :=
(if p1 < 0 then
some (.inr 1, X)
else
(if p2 < 0 then
some (.inr 1, X)
else
(if p2 ≤ (2 : Int32) then
(fX0_number N p1 p2 (X.2.2 0)).bind fun r4 =>
some (.inl r4, X)
else
some (.inr 1, X))))
def fX4_chain (N : Nat) (p1 : Int32) (X : z_X) : Option ((Int32 ⊕ Nat) × z_X) :=
(fX2_has N p1 (X.2.2 0)).bind fun r1 =>
(if r1 = 0 then
some (.inr 3, X)
else
(fX2_chainLength N p1 (X.2.2 0)).bind fun r3 =>
some (.inl r3, X))
def fX4_ring (N : Nat) (p1 : Int32) (X : z_X) : Option ((Int32 ⊕ Nat) × z_X) :=
(fX2_has N p1 (X.2.2 0)).bind fun r1 =>
(if r1 = 0 then
some (.inr 3, X)
else
(fX2_ringLength N p1 (X.2.2 0)).bind fun r3 =>
some (.inl r3, X))
def fX4_setDrum (N : Nat) (p1 : Int32) (X : z_X) : Option ((Int32 ⊕ Nat) × z_X) :=
(if p1 < (6 : Int32) then
some (.inr 1, X)
else
(if p1 ≤ (40 : Int32) then
(fX1_remember N  X).bind fun X3 =>
(fX2_takeAllOff N  (X3.2.2 0)).bind fun u4 =>
z_lt ((X3.1, X3.2.1, z_u3 X3.2.2 0 u4)) fun X5 =>
z_lt ((X5.1, X5.2.1, z_u3 X5.2.2 0 (z_u2 (X5.2.2 0) 0 0 p1))) fun X6 =>
some (.inl (X3.2.2 0 0 0), X6)
else
some (.inr 1, X)))
def fX4_addOrder (N : Nat) (p1 : Int32) (p2 : Int32) (p3 : Int32) (p4 : Int32) (p5 : Int32) (X : z_X) : Option ((Int32 ⊕ Nat) × z_X) :=
(fX4_isAuthor N p1).bind fun r1 =>
(if r1 = 0 then
some (.inr 1, X)
else
(fX4_isWork N p2).bind fun r3 =>
(if r3 = 0 then
some (.inr 1, X)
else
(fX4_isLink N p3).bind fun r5 =>
(if r5 = 0 then
some (.inr 1, X)
else
(fX4_isLink N p4).bind fun r7 =>
(if r7 = 0 then
some (.inr 1, X)
else
(fX4_isBribe N p5).bind fun r9 =>
(if r9 = 0 then
some (.inr 1, X)
else
(if (X.2.2 0 0 1) < (16 : Int32) then
(fX1_remember N  X).bind fun X12 =>
z_b2 (fX2_addNew N p1 p2 p3 p4 p5 (X12.2.2 0)) fun r13 u13 =>
z_lt ((X12.1, X12.2.1, z_u3 X12.2.2 0 u13)) fun X14 =>
some (.inl r13, X14)
else
some (.inr 2, X)))))))
def fX4_change (N : Nat) (p1 : Int32) (p2 : Int32) (p3 : Int32) (X : z_X) : Option ((Int32 ⊕ Nat) × z_X) :=
(fX2_has N p1 (X.2.2 0)).bind fun r1 =>
(if r1 = 0 then
some (.inr 3, X)
else
(fX4_isNumberOfOrder N p2 p3).bind fun r3 =>
(if r3 = 0 then
some (.inr 1, X)
else
(fX1_remember N  X).bind fun X5 =>
z_b2 (fX2_replace N p1 p2 p3 (X5.2.2 0)) fun r6 u6 =>
z_lt ((X5.1, X5.2.1, z_u3 X5.2.2 0 u6)) fun X7 =>
some (.inl r6, X7)))
def fX4_move (N : Nat) (p1 : Int32) (p2 : Int32) (X : z_X) : Option ((Int32 ⊕ Nat) × z_X) :=
(fX2_has N p1 (X.2.2 0)).bind fun r1 =>
(if r1 = 0 then
some (.inr 3, X)
else
(fX2_hasPlace N p2 (X.2.2 0)).bind fun r3 =>
(if r3 = 0 then
some (.inr 3, X)
else
(fX2_isFreeFor N p1 p2 (X.2.2 0)).bind fun r5 =>
(if r5 = 0 then
some (.inr 2, X)
else
(fX1_remember N  X).bind fun X7 =>
z_b2 (fX2_put N p1 p2 (X7.2.2 0)) fun r8 u8 =>
z_lt ((X7.1, X7.2.1, z_u3 X7.2.2 0 u8)) fun X9 =>
some (.inl r8, X9))))
def fX4_lay (N : Nat) (X : z_X) : Option (Int32 × z_X) :=
(fX1_remember N  X).bind fun X1 =>
z_b2 (fX2_layAll N  (X1.2.2 0)) fun r2 u2 =>
z_lt ((X1.1, X1.2.1, z_u3 X1.2.2 0 u2)) fun X3 =>
some (r2, X3)
def fX4_run (N : Nat) (p1 : Int32) (X : z_X) : Option ((Int32 ⊕ Nat) × z_X) :=
(fX2_has N p1 (X.2.2 0)).bind fun r1 =>
(if r1 = 0 then
some (.inr 3, X)
else
(fX1_remember N  X).bind fun X3 =>
z_b2 (fX2_runFrom N p1 (X3.2.2 0)) fun r4 u4 =>
z_lt ((X3.1, X3.2.1, z_u3 X3.2.2 0 u4)) fun X5 =>
some (.inl r4, X5))
def fX4_turn (N : Nat) (p1 : Int32) (X : z_X) : Option ((Int32 ⊕ Nat) × z_X) :=
(fX4_isTurn N p1).bind fun r1 =>
(if r1 = 0 then
some (.inr 1, X)
else
(fX1_remember N  X).bind fun X3 =>
z_lt ((X3.1, X3.2.1, z_u3 X3.2.2 0 (z_u2 (X3.2.2 0) 0 2 ((X3.2.2 0 0 2) + p1)))) fun X4 =>
(fX2_around N (X4.2.2 0 0 2) (X4.2.2 0)).bind fun r5 =>
some (.inl r5, X4))
def fX4_undo (N : Nat) (X : z_X) : Option ((Int32 ⊕ Nat) × z_X) :=
(if (1 : Int32) ≤ (X.2.1 0 1) then
(fX1_bringBack N  X).bind fun X2 =>
some (.inl (X2.2.1 0 1), X2)
else
some (.inr 2, X))
def fX4_waits (N : Nat) (p1 : Int32) (X : z_X) : Option ((Int32 ⊕ Nat) × z_X) :=
(fX2_has N p1 (X.2.2 0)).bind fun r1 =>
(if r1 = 0 then
some (.inr 3, X)
else
(fX2_waitFor N p1 (X.2.2 0)).bind fun r3 =>
some (.inl r3, X))
def fX4_ticksOfRun (N : Nat) (j1 : Nat) (p2 : Int32) (X : z_X) : Option (Int32 × z_X) :=
(fX2_copyFrom N (X.2.2 j1) (X.2.2 2)).bind fun u1 =>
z_lt ((X.1, X.2.1, z_u3 X.2.2 2 u1)) fun X2 =>
z_b2 (fX2_runFrom N p2 (X2.2.2 2)) fun r3 u3 =>
z_lt ((X2.1, X2.2.1, z_u3 X2.2.2 2 u3)) fun X4 =>
some (((X4.2.2 2 0 2) - (X4.2.2 j1 0 2)), X4)
def fX4_time (N : Nat) (p1 : Int32) (X : z_X) : Option ((Int32 ⊕ Nat) × z_X) :=
(fX2_has N p1 (X.2.2 0)).bind fun r1 =>
(if r1 = 0 then
some (.inr 3, X)
else
z_b2 (fX4_ticksOfRun N 0 p1 X) fun r3 X3 =>
some (.inl r3, X3))
def lX4_bestPlace_51 (N : Nat) (x1 : Int32) (x2 : Int32) : Nat → Int32 → Int32 → Int32 → z_X → Option ((Int32 ⊕ Nat) × z_X)
  | 0, _, _, _, _ => none
  | fu + 1, x3, x4, x5, X => (if (X.2.2 0 0 0) ≤ x5 then
some (.inl x3, X)
else
(fX2_isFreeFor N x1 x5 (X.2.2 0)).bind fun r8 =>
(if r8 = 0 then
(lX4_bestPlace_51 N x1 x2 fu x3 x4 (x5 + (1 : Int32)) X)
else
z_ck (z_in x1 16) <|
z_lt ((X.1, X.2.1, z_u3 X.2.2 1 (z_u2 (X.2.2 1) 6 (x1).toNatClampNeg x5))) fun X11 =>
z_b2 (fX4_ticksOfRun N 1 x2 X11) fun r12 X12 =>
(if x3 = (-1 : Int32) then
(lX4_bestPlace_51 N x1 x2 fu x5 r12 (x5 + (1 : Int32)) X12)
else
(if x4 ≤ r12 then
(lX4_bestPlace_51 N x1 x2 fu x3 x4 (x5 + (1 : Int32)) X12)
else
(lX4_bestPlace_51 N x1 x2 fu x5 r12 (x5 + (1 : Int32)) X12)))))
def fX4_bestPlace (N : Nat) (p1 : Int32) (p2 : Int32) (X : z_X) : Option ((Int32 ⊕ Nat) × z_X) :=
(fX2_has N p1 (X.2.2 0)).bind fun r1 =>
(if r1 = 0 then
some (.inr 3, X)
else
(fX2_has N p2 (X.2.2 0)).bind fun r3 =>
(if r3 = 0 then
some (.inr 3, X)
else
(fX2_copyFrom N (X.2.2 0) (X.2.2 1)).bind fun u5 =>
z_lt ((X.1, X.2.1, z_u3 X.2.2 1 u5)) fun X6 =>
(lX4_bestPlace_51 N p1 p2 N (-1 : Int32) (0 : Int32) (0 : Int32) X6)))
def lX4_leastBribe_34 (N : Nat) (x1 : Int32) : Nat → Int32 → z_X → Option ((Int32 ⊕ Nat) × z_X)
  | 0, _, _ => none
  | fu + 1, x2, X => (if (99 : Int32) < x2 then
some (.inl (-1 : Int32), X)
else
z_ck (z_in x1 16) <|
z_lt ((X.1, X.2.1, z_u3 X.2.2 1 (z_u2 (X.2.2 1) 5 (x1).toNatClampNeg x2))) fun X7 =>
z_b2 (fX2_layAll N  (X7.2.2 1)) fun r8 u8 =>
z_lt ((X7.1, X7.2.1, z_u3 X7.2.2 1 u8)) fun X9 =>
z_ck (z_in x1 16) <|
(if (X9.2.2 1 7 (x1).toNatClampNeg) = 0 then
some (.inl x2, X9)
else
(lX4_leastBribe_34 N x1 fu (x2 + (1 : Int32)) X9)))
def fX4_leastBribe (N : Nat) (p1 : Int32) (X : z_X) : Option ((Int32 ⊕ Nat) × z_X) :=
(fX2_has N p1 (X.2.2 0)).bind fun r1 =>
(if r1 = 0 then
some (.inr 3, X)
else
(fX2_copyFrom N (X.2.2 0) (X.2.2 1)).bind fun u3 =>
z_lt ((X.1, X.2.1, z_u3 X.2.2 1 u3)) fun X4 =>
(lX4_leastBribe_34 N p1 N (0 : Int32) X4))
def fX4_saves (N : Nat) (p1 : Int32) (X : z_X) : Option ((Int32 ⊕ Nat) × z_X) :=
(fX2_has N p1 (X.2.2 0)).bind fun r1 =>
(if r1 = 0 then
some (.inr 3, X)
else
(fX2_copyFrom N (X.2.2 0) (X.2.2 1)).bind fun u3 =>
z_lt ((X.1, X.2.1, z_u3 X.2.2 1 u3)) fun X4 =>
z_b2 (fX2_layAll N  (X4.2.2 1)) fun r5 u5 =>
z_lt ((X4.1, X4.2.1, z_u3 X4.2.2 1 u5)) fun X6 =>
z_b2 (fX4_ticksOfRun N 0 p1 X6) fun r7 X7 =>
z_b2 (fX4_ticksOfRun N 1 p1 X7) fun r8 X8 =>
some (.inl (r7 - r8), X8))
def fX4_runsOnTrial (N : Nat) (p1 : Int32) (X : z_X) : Option (Int32 × z_X) :=
(fX2_has N p1 (X.2.2 1)).bind fun r1 =>
(if r1 = 0 then
some ((0 : Int32), X)
else
z_b2 (fX2_runFrom N p1 (X.2.2 1)) fun r3 u3 =>
z_lt ((X.1, X.2.1, z_u3 X.2.2 1 u3)) fun X4 =>
some ((1 : Int32), X4))
def fX4_movesOnTrial (N : Nat) (p1 : Int32) (p2 : Int32) (X : z_X) : Option (Int32 × z_X) :=
(fX2_has N p1 (X.2.2 1)).bind fun r1 =>
(if r1 = 0 then
some ((0 : Int32), X)
else
(fX2_hasPlace N p2 (X.2.2 1)).bind fun r3 =>
(if r3 = 0 then
some ((0 : Int32), X)
else
(fX2_isFreeFor N p1 p2 (X.2.2 1)).bind fun r5 =>
(if r5 = 0 then
some ((0 : Int32), X)
else
z_b2 (fX2_put N p1 p2 (X.2.2 1)) fun r7 u7 =>
z_lt ((X.1, X.2.1, z_u3 X.2.2 1 u7)) fun X8 =>
some ((1 : Int32), X8))))
def fX4_turnsOnTrial (N : Nat) (p1 : Int32) (X : z_X) : Option (Int32 × z_X) :=
(fX4_isTurn N p1).bind fun r1 =>
(if r1 = 0 then
some ((0 : Int32), X)
else
z_lt ((X.1, X.2.1, z_u3 X.2.2 1 (z_u2 (X.2.2 1) 0 2 ((X.2.2 1 0 2) + p1)))) fun X3 =>
some ((1 : Int32), X3))
def fX4_changesOnTrial (N : Nat) (p1 : Int32) (p2 : Int32) (p3 : Int32) (X : z_X) : Option (Int32 × z_X) :=
(fX2_has N p1 (X.2.2 1)).bind fun r1 =>
(if r1 = 0 then
some ((0 : Int32), X)
else
(fX4_isNumberOfOrder N p2 p3).bind fun r3 =>
(if r3 = 0 then
some ((0 : Int32), X)
else
z_b2 (fX2_replace N p1 p2 p3 (X.2.2 1)) fun r5 u5 =>
z_lt ((X.1, X.2.1, z_u3 X.2.2 1 u5)) fun X6 =>
some ((1 : Int32), X6)))
def fX4_isSoonOnTrial (N : Nat) (p1 : Int32) (p2 : Int32) (X : z_X) : Option Int32 :=
(fX2_isOnDrum N p1 (X.2.2 1)).bind fun r1 =>
(if r1 = 0 then
some ((0 : Int32))
else
(fX2_waitFor N p1 (X.2.2 1)).bind fun r3 =>
(if p2 < r3 then
some ((0 : Int32))
else
some ((1 : Int32))))
def fX4_isShortOnTrial (N : Nat) (p1 : Int32) (p2 : Int32) (X : z_X) : Option (Int32 × z_X) :=
(fX2_has N p1 (X.2.2 1)).bind fun r1 =>
(if r1 = 0 then
some ((0 : Int32), X)
else
(fX2_copyFrom N (X.2.2 1) (X.2.2 2)).bind fun u3 =>
z_lt ((X.1, X.2.1, z_u3 X.2.2 2 u3)) fun X4 =>
z_b2 (fX2_runFrom N p1 (X4.2.2 2)) fun r5 u5 =>
z_lt ((X4.1, X4.2.1, z_u3 X4.2.2 2 u5)) fun X6 =>
(if r5 = 0 then
(if p2 < ((X6.2.2 2 0 2) - (X6.2.2 1 0 2)) then
some ((0 : Int32), X6)
else
some ((1 : Int32), X6))
else
some ((0 : Int32), X6)))
def fX4_isCheapOnTrial (N : Nat) (p1 : Int32) (p2 : Int32) (X : z_X) : Option Int32 :=
(fX4_isAuthor N p1).bind fun r1 =>
(if r1 = 0 then
some ((0 : Int32))
else
z_ck (z_in p1 4) <|
(if p2 < (X.2.2 1 11 (p1).toNatClampNeg) then
some ((0 : Int32))
else
some ((1 : Int32))))
def fX4_succeeds (N : Nat) (p1 : Int32) (X : z_X) : Option (Int32 × z_X) :=
(if (p1 / (10000 : Int32)) = (1 : Int32) then
(if (p1 - p1 / (100 : Int32) * (100 : Int32)) = 0 then
z_b2 (fX4_runsOnTrial N ((p1 / (100 : Int32)) - (p1 / (100 : Int32)) / (100 : Int32) * (100 : Int32)) X) fun r3 X3 =>
(if r3 = 0 then
some ((0 : Int32), X3)
else
some ((1 : Int32), X3))
else
some ((0 : Int32), X))
else
(if (p1 / (10000 : Int32)) = (2 : Int32) then
(if ((p1 / (100 : Int32)) - (p1 / (100 : Int32)) / (100 : Int32) * (100 : Int32)) = 0 then
(if (p1 - p1 / (100 : Int32) * (100 : Int32)) = 0 then
z_b2 (fX2_layAll N  (X.2.2 1)) fun r7 u7 =>
z_lt ((X.1, X.2.1, z_u3 X.2.2 1 u7)) fun X8 =>
some ((1 : Int32), X8)
else
some ((0 : Int32), X))
else
some ((0 : Int32), X))
else
(if (p1 / (10000 : Int32)) = (3 : Int32) then
z_b2 (fX4_movesOnTrial N ((p1 / (100 : Int32)) - (p1 / (100 : Int32)) / (100 : Int32) * (100 : Int32)) (p1 - p1 / (100 : Int32) * (100 : Int32)) X) fun r9 X9 =>
z_ck (z_bo r9) <|
some (r9, X9)
else
(if (p1 / (10000 : Int32)) = (4 : Int32) then
(if ((p1 / (100 : Int32)) - (p1 / (100 : Int32)) / (100 : Int32) * (100 : Int32)) = 0 then
z_b2 (fX4_turnsOnTrial N (p1 - p1 / (100 : Int32) * (100 : Int32)) X) fun r12 X12 =>
(if r12 = 0 then
some ((0 : Int32), X12)
else
some ((1 : Int32), X12))
else
some ((0 : Int32), X))
else
(if (p1 / (10000 : Int32)) = (5 : Int32) then
z_b2 (fX4_changesOnTrial N ((p1 / (100 : Int32)) - (p1 / (100 : Int32)) / (100 : Int32) * (100 : Int32)) (4 : Int32) (p1 - p1 / (100 : Int32) * (100 : Int32)) X) fun r14 X14 =>
z_ck (z_bo r14) <|
some (r14, X14)
else
(if (p1 / (10000 : Int32)) = (6 : Int32) then
(if (p1 - p1 / (100 : Int32) * (100 : Int32)) = (99 : Int32) then
z_b2 (fX4_changesOnTrial N ((p1 / (100 : Int32)) - (p1 / (100 : Int32)) / (100 : Int32) * (100 : Int32)) (2 : Int32) (-1 : Int32) X) fun r19 X19 =>
z_ck (z_bo r19) <|
some (r19, X19)
else
z_b2 (fX4_changesOnTrial N ((p1 / (100 : Int32)) - (p1 / (100 : Int32)) / (100 : Int32) * (100 : Int32)) (2 : Int32) (p1 - p1 / (100 : Int32) * (100 : Int32)) X) fun r17 X17 =>
z_ck (z_bo r17) <|
some (r17, X17))
else
(if (p1 / (10000 : Int32)) = (7 : Int32) then
(fX4_isSoonOnTrial N ((p1 / (100 : Int32)) - (p1 / (100 : Int32)) / (100 : Int32) * (100 : Int32)) (p1 - p1 / (100 : Int32) * (100 : Int32)) X).bind fun r21 =>
z_ck (z_bo r21) <|
some (r21, X)
else
(if (p1 / (10000 : Int32)) = (8 : Int32) then
z_b2 (fX4_isShortOnTrial N ((p1 / (100 : Int32)) - (p1 / (100 : Int32)) / (100 : Int32) * (100 : Int32)) ((10 : Int32) * (p1 - p1 / (100 : Int32) * (100 : Int32))) X) fun r23 X23 =>
z_ck (z_bo r23) <|
some (r23, X23)
else
(if (p1 / (10000 : Int32)) = (9 : Int32) then
(fX4_isCheapOnTrial N ((p1 / (1000 : Int32)) - (p1 / (1000 : Int32)) / (10 : Int32) * (10 : Int32)) (p1 - p1 / (1000 : Int32) * (1000 : Int32)) X).bind fun r25 =>
z_ck (z_bo r25) <|
some (r25, X)
else
some ((0 : Int32), X))))))))))
def lX4_runScript_51 (N : Nat) (x1 : Int32) (x2 : Int64) : Nat → Int32 → z_X → Option ((Int32 ⊕ Nat) × z_X)
  | 0, _, _ => none
  | fu + 1, x4, X => (if x1 ≤ x4 then
some (.inl (-1 : Int32), X)
else
(fX4_withoutLast N ((x1 - (1 : Int32)) - x4) x2).bind fun r9 =>
z_b2 (fX4_succeeds N ((r9 - r9 / (100000 : Int64) * (100000 : Int64))).toInt32 X) fun r10 X10 =>
(if r10 = 0 then
some (.inl x4, X10)
else
(lX4_runScript_51 N x1 x2 fu (x4 + (1 : Int32)) X10)))
def fX4_runScript (N : Nat) (p1 : Int32) (p2 : Int64) (X : z_X) : Option ((Int32 ⊕ Nat) × z_X) :=
(if p1 < (1 : Int32) then
some (.inr 1, X)
else
(if (3 : Int32) < p1 then
some (.inr 1, X)
else
(if (lg_cmp p2 (0 : Int64)) < 0 then
some (.inr 1, X)
else
(fX4_withoutLast N p1 p2).bind fun r4 =>
(if (lg_cmp r4 (0 : Int64)) ≤ 0 then
(fX2_copyFrom N (X.2.2 0) (X.2.2 1)).bind fun u6 =>
z_lt ((X.1, X.2.1, z_u3 X.2.2 1 u6)) fun X7 =>
(lX4_runScript_51 N p1 p2 N (0 : Int32) X7)
else
some (.inr 1, X)))))
def fX4_simulateRun (N : Nat) (p1 : Int32) (X : z_X) : Option (Int32 × z_X) :=
(if (X.2.2 1 0 1) < (1 : Int32) then
some ((-1 : Int32), X)
else
(if 0 ≤ p1 then
z_ck (z_nz (X.2.2 1 0 1)) <|
z_b2 (fX2_replace N ((p1 / (16 : Int32)) - (p1 / (16 : Int32)) / (X.2.2 1 0 1) * (X.2.2 1 0 1)) (4 : Int32) ((p1 / (1024 : Int32)) - (p1 / (1024 : Int32)) / (100 : Int32) * (100 : Int32)) (X.2.2 1)) fun r4 u4 =>
z_lt ((X.1, X.2.1, z_u3 X.2.2 1 u4)) fun X5 =>
(if (p1 - p1 / (4 : Int32) * (4 : Int32)) = 0 then
z_b2 (fX2_layAll N  (X5.2.2 1)) fun r10 u10 =>
z_lt ((X5.1, X5.2.1, z_u3 X5.2.2 1 u10)) fun X11 =>
z_ck (z_nz (X.2.2 1 0 1)) <|
z_b2 (fX2_runFrom N ((p1 / (256 : Int32)) - (p1 / (256 : Int32)) / (X.2.2 1 0 1) * (X.2.2 1 0 1)) (X11.2.2 1)) fun r13 u13 =>
z_lt ((X11.1, X11.2.1, z_u3 X11.2.2 1 u13)) fun X14 =>
some (r13, X14)
else
z_ck (z_nz (X.2.2 1 0 1)) <|
z_b2 (fX2_runFrom N ((p1 / (256 : Int32)) - (p1 / (256 : Int32)) / (X.2.2 1 0 1) * (X.2.2 1 0 1)) (X5.2.2 1)) fun r8 u8 =>
z_lt ((X5.1, X5.2.1, z_u3 X5.2.2 1 u8)) fun X9 =>
some (r8, X9))
else
some ((-1 : Int32), X)))
def lX4_simulate_42 (N : Nat) (x3 : Int32) : Nat → Int64 → Int32 → Int32 → z_X → Option ((Int32 ⊕ Nat) × z_X)
  | 0, _, _, _, _ => none
  | fu + 1, x4, x6, x7, X => (if x3 ≤ x7 then
(fX4_sum N 4 (X.2.2 1 11)).bind fun r6 =>
(fX4_sum N 4 (X.2.2 0 11)).bind fun r7 =>
some (.inl (((1000 : Int32) * x6) + (if (999 : Int32) < (r6 - r7) then (999 : Int32) else (r6 - r7))), X)
else
z_b2 (fX4_simulateRun N (((((x4 * (6364136223846793005 : Int64)) + (1442695040888963407 : Int64))).toUInt64 >>> (((33 : Int32)).toInt64.toUInt64 &&& Int64.toUInt64 63)).toInt64).toInt32 X) fun r8 X8 =>
(if r8 = 0 then
(lX4_simulate_42 N x3 fu ((x4 * (6364136223846793005 : Int64)) + (1442695040888963407 : Int64)) (x6 + (1 : Int32)) (x7 + (1 : Int32)) X8)
else
(lX4_simulate_42 N x3 fu ((x4 * (6364136223846793005 : Int64)) + (1442695040888963407 : Int64)) x6 (x7 + (1 : Int32)) X8)))
def fX4_simulate (N : Nat) (p1 : Int64) (p3 : Int32) (X : z_X) : Option ((Int32 ⊕ Nat) × z_X) :=
(if p3 < (1 : Int32) then
some (.inr 1, X)
else
(if p3 ≤ (50 : Int32) then
(fX2_copyFrom N (X.2.2 0) (X.2.2 1)).bind fun u3 =>
z_lt ((X.1, X.2.1, z_u3 X.2.2 1 u3)) fun X4 =>
(lX4_simulate_42 N p3 N p1 (0 : Int32) (0 : Int32) X4)
else
some (.inr 1, X)))
def fX4_isSlot (N : Nat) (p1 : Int32) (X : z_X) : Option Int32 :=
(if p1 < 0 then
some ((0 : Int32))
else
(if (2 : Int32) ≤ p1 then
some ((0 : Int32))
else
(if (2 : Int32) ≤ p1 then
some ((0 : Int32))
else
some ((1 : Int32)))))
def fX4_save (N : Nat) (p1 : Int32) (X : z_X) : Option ((Int32 ⊕ Nat) × z_X) :=
(fX4_isSlot N p1 X).bind fun r1 =>
(if r1 = 0 then
some (.inr 3, X)
else
z_ck (z_in p1 2) <|
(fX2_copyFrom N (X.2.2 0) (X.2.2 ((p1).toNatClampNeg + 17))).bind fun u4 =>
z_lt ((X.1, X.2.1, z_u3 X.2.2 ((p1).toNatClampNeg + 17) u4)) fun X5 =>
z_ck (z_in p1 2) <|
z_lt ((X5.1, z_u2 X5.2.1 1 (p1).toNatClampNeg (1 : Int32), X5.2.2)) fun X7 =>
some (.inl (X7.2.2 0 0 1), X7))
def fX4_restore (N : Nat) (p1 : Int32) (X : z_X) : Option ((Int32 ⊕ Nat) × z_X) :=
(fX4_isSlot N p1 X).bind fun r1 =>
(if r1 = 0 then
some (.inr 3, X)
else
z_ck (z_in p1 2) <|
z_ck (z_in p1 2) <|
(if (X.2.1 1 (p1).toNatClampNeg) = 0 then
some (.inr 2, X)
else
(fX2_copyFrom N (X.2.2 ((p1).toNatClampNeg + 17)) (X.2.2 0)).bind fun u6 =>
z_lt ((X.1, X.2.1, z_u3 X.2.2 0 u6)) fun X7 =>
(fX1_forget N  X7).bind fun X8 =>
some (.inl (X8.2.2 0 0 1), X8)))
