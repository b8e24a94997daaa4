def fL_append (N : Nat) (p1 : Int32) (Y : z_H) : Option (Int32 × z_H) :=
z_b2 (fX4_append N p1 Y.1) fun o1 X1 =>
z_lt ((X1, Y.2)) fun Y1 =>
(z_sm o1 (fun r1 =>
z_lt ((Y1.1, vp_updL Y1.2 ((0 : Int32)).toNatClampNeg (r1).toInt64)) fun Y2 =>
some ((0 : Int32), Y2)) (fun k =>
(if k = 1 then
some ((1 : Int32), Y1)
else
(if k = 2 then
some ((2 : Int32), Y1)
else
none))))
def fL_load (N : Nat) (Y : z_H) : Option (Int32 × z_H) :=
z_b2 (fX4_load N  Y.1) fun o1 X1 =>
z_lt ((X1, Y.2)) fun Y1 =>
(z_sm o1 (fun r1 =>
z_lt ((Y1.1, vp_updL Y1.2 ((0 : Int32)).toNatClampNeg (r1).toInt64)) fun Y2 =>
some ((0 : Int32), Y2)) (fun k =>
(if k = 2 then
some ((1 : Int32), Y1)
else
none)))
def fL_about (N : Nat) (p1 : Int32) (Y : z_H) : Option (Int32 × z_H) :=
z_b2 (fX4_about N p1 Y.1) fun o1 X1 =>
z_lt ((X1, Y.2)) fun Y1 =>
(z_sm o1 (fun r1 =>
z_lt ((Y1.1, vp_updL Y1.2 ((0 : Int32)).toNatClampNeg (r1).toInt64)) fun Y2 =>
some ((0 : Int32), Y2)) (fun k =>
(if k = 1 then
some ((1 : Int32), Y1)
else
none)))
def fL_order (N : Nat) (p1 : Int32) (p2 : Int32) (Y : z_H) : Option (Int32 × z_H) :=
z_b2 (fX4_order N p1 p2 Y.1) fun o1 X1 =>
z_lt ((X1, Y.2)) fun Y1 =>
(z_sm o1 (fun r1 =>
z_lt ((Y1.1, vp_updL Y1.2 ((0 : Int32)).toNatClampNeg (r1).toInt64)) fun Y2 =>
some ((0 : Int32), Y2)) (fun k =>
(if k = 3 then
some ((1 : Int32), Y1)
else
(if k = 1 then
some ((2 : Int32), Y1)
else
none))))
def fL_author (N : Nat) (p1 : Int32) (p2 : Int32) (Y : z_H) : Option (Int32 × z_H) :=
z_b2 (fX4_author N p1 p2 Y.1) fun o1 X1 =>
z_lt ((X1, Y.2)) fun Y1 =>
(z_sm o1 (fun r1 =>
z_lt ((Y1.1, vp_updL Y1.2 ((0 : Int32)).toNatClampNeg (r1).toInt64)) fun Y2 =>
some ((0 : Int32), Y2)) (fun k =>
(if k = 3 then
some ((1 : Int32), Y1)
else
(if k = 1 then
some ((2 : Int32), Y1)
else
none))))
def fL_at (N : Nat) (p1 : Int32) (Y : z_H) : Option (Int32 × z_H) :=
z_b2 (fX4_at N p1 Y.1) fun o1 X1 =>
z_lt ((X1, Y.2)) fun Y1 =>
(z_sm o1 (fun r1 =>
z_lt ((Y1.1, vp_updL Y1.2 ((0 : Int32)).toNatClampNeg (r1).toInt64)) fun Y2 =>
some ((0 : Int32), Y2)) (fun k =>
(if k = 3 then
some ((1 : Int32), Y1)
else
none)))
def fL_jump (N : Nat) (p1 : Int32) (p2 : Int32) (Y : z_H) : Option (Int32 × z_H) :=
z_b2 (fX4_jump N p1 p2 Y.1) fun o1 X1 =>
z_lt ((X1, Y.2)) fun Y1 =>
(z_sm o1 (fun r1 =>
z_lt ((Y1.1, vp_updL Y1.2 ((0 : Int32)).toNatClampNeg (r1).toInt64)) fun Y2 =>
some ((0 : Int32), Y2)) (fun k =>
(if k = 1 then
some ((1 : Int32), Y1)
else
none)))
def fL_chain (N : Nat) (p1 : Int32) (Y : z_H) : Option (Int32 × z_H) :=
z_b2 (fX4_chain N p1 Y.1) fun o1 X1 =>
z_lt ((X1, Y.2)) fun Y1 =>
(z_sm o1 (fun r1 =>
z_lt ((Y1.1, vp_updL Y1.2 ((0 : Int32)).toNatClampNeg (r1).toInt64)) fun Y2 =>
some ((0 : Int32), Y2)) (fun k =>
(if k = 3 then
some ((1 : Int32), Y1)
else
none)))
def fL_ring (N : Nat) (p1 : Int32) (Y : z_H) : Option (Int32 × z_H) :=
z_b2 (fX4_ring N p1 Y.1) fun o1 X1 =>
z_lt ((X1, Y.2)) fun Y1 =>
(z_sm o1 (fun r1 =>
z_lt ((Y1.1, vp_updL Y1.2 ((0 : Int32)).toNatClampNeg (r1).toInt64)) fun Y2 =>
some ((0 : Int32), Y2)) (fun k =>
(if k = 3 then
some ((1 : Int32), Y1)
else
none)))
def fL_setDrum (N : Nat) (p1 : Int32) (Y : z_H) : Option (Int32 × z_H) :=
z_b2 (fX4_setDrum N p1 Y.1) fun o1 X1 =>
z_lt ((X1, Y.2)) fun Y1 =>
(z_sm o1 (fun r1 =>
z_lt ((Y1.1, vp_updL Y1.2 ((0 : Int32)).toNatClampNeg (r1).toInt64)) fun Y2 =>
some ((0 : Int32), Y2)) (fun k =>
(if k = 1 then
some ((1 : Int32), Y1)
else
none)))
def fL_addOrder (N : Nat) (p1 : Int32) (p2 : Int32) (p3 : Int32) (p4 : Int32) (p5 : Int32) (Y : z_H) : Option (Int32 × z_H) :=
z_b2 (fX4_addOrder N p1 p2 p3 p4 p5 Y.1) fun o1 X1 =>
z_lt ((X1, Y.2)) fun Y1 =>
(z_sm o1 (fun r1 =>
z_lt ((Y1.1, vp_updL Y1.2 ((0 : Int32)).toNatClampNeg (r1).toInt64)) fun Y2 =>
some ((0 : Int32), Y2)) (fun k =>
(if k = 1 then
some ((1 : Int32), Y1)
else
(if k = 2 then
some ((2 : Int32), Y1)
else
none))))
def fL_change (N : Nat) (p1 : Int32) (p2 : Int32) (p3 : Int32) (Y : z_H) : Option (Int32 × z_H) :=
z_b2 (fX4_change N p1 p2 p3 Y.1) fun o1 X1 =>
z_lt ((X1, Y.2)) fun Y1 =>
(z_sm o1 (fun r1 =>
z_lt ((Y1.1, vp_updL Y1.2 ((0 : Int32)).toNatClampNeg (r1).toInt64)) fun Y2 =>
some ((0 : Int32), Y2)) (fun k =>
(if k = 3 then
some ((1 : Int32), Y1)
else
(if k = 1 then
some ((2 : Int32), Y1)
else
none))))
def fL_move (N : Nat) (p1 : Int32) (p2 : Int32) (Y : z_H) : Option (Int32 × z_H) :=
z_b2 (fX4_move N p1 p2 Y.1) fun o1 X1 =>
z_lt ((X1, Y.2)) fun Y1 =>
(z_sm o1 (fun r1 =>
z_lt ((Y1.1, vp_updL Y1.2 ((0 : Int32)).toNatClampNeg (r1).toInt64)) fun Y2 =>
some ((0 : Int32), Y2)) (fun k =>
(if k = 3 then
some ((1 : Int32), Y1)
else
(if k = 2 then
some ((2 : Int32), Y1)
else
none))))
def fL_run (N : Nat) (p1 : Int32) (Y : z_H) : Option (Int32 × z_H) :=
z_b2 (fX4_run N p1 Y.1) fun o1 X1 =>
z_lt ((X1, Y.2)) fun Y1 =>
(z_sm o1 (fun r1 =>
z_lt ((Y1.1, vp_updL Y1.2 ((0 : Int32)).toNatClampNeg (r1).toInt64)) fun Y2 =>
some ((0 : Int32), Y2)) (fun k =>
(if k = 3 then
some ((1 : Int32), Y1)
else
none)))
def fL_turn (N : Nat) (p1 : Int32) (Y : z_H) : Option (Int32 × z_H) :=
z_b2 (fX4_turn N p1 Y.1) fun o1 X1 =>
z_lt ((X1, Y.2)) fun Y1 =>
(z_sm o1 (fun r1 =>
z_lt ((Y1.1, vp_updL Y1.2 ((0 : Int32)).toNatClampNeg (r1).toInt64)) fun Y2 =>
some ((0 : Int32), Y2)) (fun k =>
(if k = 1 then
some ((1 : Int32), Y1)
else
none)))
def fL_undo (N : Nat) (Y : z_H) : Option (Int32 × z_H) :=
z_b2 (fX4_undo N  Y.1) fun o1 X1 =>
z_lt ((X1, Y.2)) fun Y1 =>
(z_sm o1 (fun r1 =>
z_lt ((Y1.1, vp_updL Y1.2 ((0 : Int32)).toNatClampNeg (r1).toInt64)) fun Y2 =>
some ((0 : Int32), Y2)) (fun k =>
(if k = 2 then
some ((1 : Int32), Y1)
else
none)))
def fL_waits (N : Nat) (p1 : Int32) (Y : z_H) : Option (Int32 × z_H) :=
z_b2 (fX4_waits N p1 Y.1) fun o1 X1 =>
z_lt ((X1, Y.2)) fun Y1 =>
(z_sm o1 (fun r1 =>
z_lt ((Y1.1, vp_updL Y1.2 ((0 : Int32)).toNatClampNeg (r1).toInt64)) fun Y2 =>
some ((0 : Int32), Y2)) (fun k =>
(if k = 3 then
some ((1 : Int32), Y1)
else
none)))
def fL_time (N : Nat) (p1 : Int32) (Y : z_H) : Option (Int32 × z_H) :=
z_b2 (fX4_time N p1 Y.1) fun o1 X1 =>
z_lt ((X1, Y.2)) fun Y1 =>
(z_sm o1 (fun r1 =>
z_lt ((Y1.1, vp_updL Y1.2 ((0 : Int32)).toNatClampNeg (r1).toInt64)) fun Y2 =>
some ((0 : Int32), Y2)) (fun k =>
(if k = 3 then
some ((1 : Int32), Y1)
else
none)))
def fL_bestPlace (N : Nat) (p1 : Int32) (p2 : Int32) (Y : z_H) : Option (Int32 × z_H) :=
z_b2 (fX4_bestPlace N p1 p2 Y.1) fun o1 X1 =>
z_lt ((X1, Y.2)) fun Y1 =>
(z_sm o1 (fun r1 =>
z_lt ((Y1.1, vp_updL Y1.2 ((0 : Int32)).toNatClampNeg (r1).toInt64)) fun Y2 =>
some ((0 : Int32), Y2)) (fun k =>
(if k = 3 then
some ((1 : Int32), Y1)
else
none)))
def fL_leastBribe (N : Nat) (p1 : Int32) (Y : z_H) : Option (Int32 × z_H) :=
z_b2 (fX4_leastBribe N p1 Y.1) fun o1 X1 =>
z_lt ((X1, Y.2)) fun Y1 =>
(z_sm o1 (fun r1 =>
z_lt ((Y1.1, vp_updL Y1.2 ((0 : Int32)).toNatClampNeg (r1).toInt64)) fun Y2 =>
some ((0 : Int32), Y2)) (fun k =>
(if k = 3 then
some ((1 : Int32), Y1)
else
none)))
def fL_saves (N : Nat) (p1 : Int32) (Y : z_H) : Option (Int32 × z_H) :=
z_b2 (fX4_saves N p1 Y.1) fun o1 X1 =>
z_lt ((X1, Y.2)) fun Y1 =>
(z_sm o1 (fun r1 =>
z_lt ((Y1.1, vp_updL Y1.2 ((0 : Int32)).toNatClampNeg (r1).toInt64)) fun Y2 =>
some ((0 : Int32), Y2)) (fun k =>
(if k = 3 then
some ((1 : Int32), Y1)
else
none)))
def fL_runScript (N : Nat) (p1 : Int32) (p2 : Int64) (Y : z_H) : Option (Int32 × z_H) :=
z_b2 (fX4_runScript N p1 p2 Y.1) fun o1 X1 =>
z_lt ((X1, Y.2)) fun Y1 =>
(z_sm o1 (fun r1 =>
z_lt ((Y1.1, vp_updL Y1.2 ((0 : Int32)).toNatClampNeg (r1).toInt64)) fun Y2 =>
some ((0 : Int32), Y2)) (fun k =>
(if k = 1 then
some ((1 : Int32), Y1)
else
none)))
def fL_simulate (N : Nat) (p1 : Int64) (p3 : Int32) (Y : z_H) : Option (Int32 × z_H) :=
z_b2 (fX4_simulate N p1 p3 Y.1) fun o1 X1 =>
z_lt ((X1, Y.2)) fun Y1 =>
(z_sm o1 (fun r1 =>
z_lt ((Y1.1, vp_updL Y1.2 ((0 : Int32)).toNatClampNeg (r1).toInt64)) fun Y2 =>
some ((0 : Int32), Y2)) (fun k =>
(if k = 1 then
some ((1 : Int32), Y1)
else
none)))
def fL_save (N : Nat) (p1 : Int32) (Y : z_H) : Option (Int32 × z_H) :=
z_b2 (fX4_save N p1 Y.1) fun o1 X1 =>
z_lt ((X1, Y.2)) fun Y1 =>
(z_sm o1 (fun r1 =>
z_lt ((Y1.1, vp_updL Y1.2 ((0 : Int32)).toNatClampNeg (r1).toInt64)) fun Y2 =>
some ((0 : Int32), Y2)) (fun k =>
(if k = 3 then
some ((1 : Int32), Y1)
else
none)))
def fL_restore (N : Nat) (p1 : Int32) (Y : z_H) : Option (Int32 × z_H) :=
z_b2 (fX4_restore N p1 Y.1) fun o1 X1 =>
z_lt ((X1, Y.2)) fun Y1 =>
(z_sm o1 (fun r1 =>
z_lt ((Y1.1, vp_updL Y1.2 ((0 : Int32)).toNatClampNeg (r1).toInt64)) fun Y2 =>
some ((0 : Int32), Y2)) (fun k =>
(if k = 3 then
some ((1 : Int32), Y1)
else
(if k = 2 then
some ((2 : Int32), Y1)
else
none))))
def lL_law_23 (N L : Nat) (xs : Nat → Int32) : Nat → Int32 → z_Y → Option Int32
  | 0, _, _ => none
  | fu + 1, x4, Y => (if ((Int32.ofNat L) - (6 : Int32)) < x4 then
some (1 : Int32)
else
z_ck (z_in x4 L) <|
(if ((xs (x4).toNatClampNeg) &&& (31 : Int32)) = (0 : Int32) then
z_ck (z_in (x4 + (1 : Int32)) L) <|
z_b2 (fL_append N (xs ((x4 + (1 : Int32))).toNatClampNeg) (Y.1, Y.2.2)) fun r5 Z5 =>
z_lt ((Z5.1, Y.2.1, Z5.2)) fun Y5 =>
z_ck (z_in (x4 + (1 : Int32)) L) <|
z_b2 (fX5_append N (xs ((x4 + (1 : Int32))).toNatClampNeg) Y5.2.1) fun r7 u7 =>
z_lt ((Y5.1, u7, Y5.2.2)) fun Y7 =>
(fX5_thrown N  Y7.2.1).bind fun r8 =>
(if r8 = r5 then
(if r5 = 0 then
(if (lg_cmp (Y7.2.2 ((0 : Int32)).toNatClampNeg) (r7).toInt64) = 0 then
(lL_law_23 N L xs fu (x4 + (6 : Int32)) Y7)
else
some (0 : Int32))
else
(lL_law_23 N L xs fu (x4 + (6 : Int32)) Y7))
else
some (0 : Int32))
else
(if ((xs (x4).toNatClampNeg) &&& (31 : Int32)) = (1 : Int32) then
z_b2 (fX4_clearText N  Y.1) fun r12 u12 =>
z_lt ((u12, Y.2.1, Y.2.2)) fun Y12 =>
z_b2 (fX5_clearText N  Y12.2.1) fun r13 u13 =>
z_lt ((Y12.1, u13, Y12.2.2)) fun Y13 =>
(if r12 = r13 then
(lL_law_23 N L xs fu (x4 + (6 : Int32)) Y13)
else
some (0 : Int32))
else
(if ((xs (x4).toNatClampNeg) &&& (31 : Int32)) = (2 : Int32) then
(fX4_errorPosition N  Y.1).bind fun r15 =>
z_b2 (fX5_errorPosition N  Y.2.1) fun r16 u16 =>
z_lt ((Y.1, u16, Y.2.2)) fun Y16 =>
(if r15 = r16 then
(lL_law_23 N L xs fu (x4 + (6 : Int32)) Y16)
else
some (0 : Int32))
else
(if ((xs (x4).toNatClampNeg) &&& (31 : Int32)) = (3 : Int32) then
z_b2 (fL_load N  (Y.1, Y.2.2)) fun r18 Z18 =>
z_lt ((Z18.1, Y.2.1, Z18.2)) fun Y18 =>
z_b2 (fX5_load N  Y18.2.1) fun r19 u19 =>
z_lt ((Y18.1, u19, Y18.2.2)) fun Y19 =>
(fX5_thrown N  Y19.2.1).bind fun r20 =>
(if r20 = r18 then
(if r18 = 0 then
(if (lg_cmp (Y19.2.2 ((0 : Int32)).toNatClampNeg) (r19).toInt64) = 0 then
(lL_law_23 N L xs fu (x4 + (6 : Int32)) Y19)
else
some (0 : Int32))
else
(lL_law_23 N L xs fu (x4 + (6 : Int32)) Y19))
else
some (0 : Int32))
else
(if ((xs (x4).toNatClampNeg) &&& (31 : Int32)) = (4 : Int32) then
z_ck (z_in (x4 + (1 : Int32)) L) <|
z_b2 (fL_about N (xs ((x4 + (1 : Int32))).toNatClampNeg) (Y.1, Y.2.2)) fun r25 Z25 =>
z_lt ((Z25.1, Y.2.1, Z25.2)) fun Y25 =>
z_ck (z_in (x4 + (1 : Int32)) L) <|
z_b2 (fX5_about N (xs ((x4 + (1 : Int32))).toNatClampNeg) Y25.2.1) fun r27 u27 =>
z_lt ((Y25.1, u27, Y25.2.2)) fun Y27 =>
(fX5_thrown N  Y27.2.1).bind fun r28 =>
(if r28 = r25 then
(if r25 = 0 then
(if (lg_cmp (Y27.2.2 ((0 : Int32)).toNatClampNeg) (r27).toInt64) = 0 then
(lL_law_23 N L xs fu (x4 + (6 : Int32)) Y27)
else
some (0 : Int32))
else
(lL_law_23 N L xs fu (x4 + (6 : Int32)) Y27))
else
some (0 : Int32))
else
(if ((xs (x4).toNatClampNeg) &&& (31 : Int32)) = (5 : Int32) then
z_ck (z_in (x4 + (1 : Int32)) L) <|
z_ck (z_in (x4 + (2 : Int32)) L) <|
z_b2 (fL_order N (xs ((x4 + (1 : Int32))).toNatClampNeg) (xs ((x4 + (2 : Int32))).toNatClampNeg) (Y.1, Y.2.2)) fun r34 Z34 =>
z_lt ((Z34.1, Y.2.1, Z34.2)) fun Y34 =>
z_ck (z_in (x4 + (1 : Int32)) L) <|
z_ck (z_in (x4 + (2 : Int32)) L) <|
z_b2 (fX5_order N (xs ((x4 + (1 : Int32))).toNatClampNeg) (xs ((x4 + (2 : Int32))).toNatClampNeg) Y34.2.1) fun r37 u37 =>
z_lt ((Y34.1, u37, Y34.2.2)) fun Y37 =>
(fX5_thrown N  Y37.2.1).bind fun r38 =>
(if r38 = r34 then
(if r34 = 0 then
(if (lg_cmp (Y37.2.2 ((0 : Int32)).toNatClampNeg) (r37).toInt64) = 0 then
(lL_law_23 N L xs fu (x4 + (6 : Int32)) Y37)
else
some (0 : Int32))
else
(lL_law_23 N L xs fu (x4 + (6 : Int32)) Y37))
else
some (0 : Int32))
else
(if ((xs (x4).toNatClampNeg) &&& (31 : Int32)) = (6 : Int32) then
z_ck (z_in (x4 + (1 : Int32)) L) <|
z_ck (z_in (x4 + (2 : Int32)) L) <|
z_b2 (fL_author N (xs ((x4 + (1 : Int32))).toNatClampNeg) (xs ((x4 + (2 : Int32))).toNatClampNeg) (Y.1, Y.2.2)) fun r44 Z44 =>
z_lt ((Z44.1, Y.2.1, Z44.2)) fun Y44 =>
z_ck (z_in (x4 + (1 : Int32)) L) <|
z_ck (z_in (x4 + (2 : Int32)) L) <|
z_b2 (fX5_author N (xs ((x4 + (1 : Int32))).toNatClampNeg) (xs ((x4 + (2 : Int32))).toNatClampNeg) Y44.2.1) fun r47 u47 =>
z_lt ((Y44.1, u47, Y44.2.2)) fun Y47 =>
(fX5_thrown N  Y47.2.1).bind fun r48 =>
(if r48 = r44 then
(if r44 = 0 then
(if (lg_cmp (Y47.2.2 ((0 : Int32)).toNatClampNeg) (r47).toInt64) = 0 then
(lL_law_23 N L xs fu (x4 + (6 : Int32)) Y47)
else
some (0 : Int32))
else
(lL_law_23 N L xs fu (x4 + (6 : Int32)) Y47))
else
some (0 : Int32))
else
(if ((xs (x4).toNatClampNeg) &&& (31 : Int32)) = (7 : Int32) then
z_ck (z_in (x4 + (1 : Int32)) L) <|
z_b2 (fL_at N (xs ((x4 + (1 : Int32))).toNatClampNeg) (Y.1, Y.2.2)) fun r53 Z53 =>
z_lt ((Z53.1, Y.2.1, Z53.2)) fun Y53 =>
z_ck (z_in (x4 + (1 : Int32)) L) <|
z_b2 (fX5_at N (xs ((x4 + (1 : Int32))).toNatClampNeg) Y53.2.1) fun r55 u55 =>
z_lt ((Y53.1, u55, Y53.2.2)) fun Y55 =>
(fX5_thrown N  Y55.2.1).bind fun r56 =>
(if r56 = r53 then
(if r53 = 0 then
(if (lg_cmp (Y55.2.2 ((0 : Int32)).toNatClampNeg) (r55).toInt64) = 0 then
(lL_law_23 N L xs fu (x4 + (6 : Int32)) Y55)
else
some (0 : Int32))
else
(lL_law_23 N L xs fu (x4 + (6 : Int32)) Y55))
else
some (0 : Int32))
else
(if ((xs (x4).toNatClampNeg) &&& (31 : Int32)) = (8 : Int32) then
z_ck (z_in (x4 + (1 : Int32)) L) <|
z_ck (z_in (x4 + (2 : Int32)) L) <|
z_b2 (fL_jump N (xs ((x4 + (1 : Int32))).toNatClampNeg) (xs ((x4 + (2 : Int32))).toNatClampNeg) (Y.1, Y.2.2)) fun r62 Z62 =>
z_lt ((Z62.1, Y.2.1, Z62.2)) fun Y62 =>
z_ck (z_in (x4 + (1 : Int32)) L) <|
z_ck (z_in (x4 + (2 : Int32)) L) <|
z_b2 (fX5_jump N (xs ((x4 + (1 : Int32))).toNatClampNeg) (xs ((x4 + (2 : Int32))).toNatClampNeg) Y62.2.1) fun r65 u65 =>
z_lt ((Y62.1, u65, Y62.2.2)) fun Y65 =>
(fX5_thrown N  Y65.2.1).bind fun r66 =>
(if r66 = r62 then
(if r62 = 0 then
(if (lg_cmp (Y65.2.2 ((0 : Int32)).toNatClampNeg) (r65).toInt64) = 0 then
(lL_law_23 N L xs fu (x4 + (6 : Int32)) Y65)
else
some (0 : Int32))
else
(lL_law_23 N L xs fu (x4 + (6 : Int32)) Y65))
else
some (0 : Int32))
else
(if ((xs (x4).toNatClampNeg) &&& (31 : Int32)) = (9 : Int32) then
z_ck (z_in (x4 + (1 : Int32)) L) <|
z_b2 (fL_chain N (xs ((x4 + (1 : Int32))).toNatClampNeg) (Y.1, Y.2.2)) fun r71 Z71 =>
z_lt ((Z71.1, Y.2.1, Z71.2)) fun Y71 =>
z_ck (z_in (x4 + (1 : Int32)) L) <|
z_b2 (fX5_chain N (xs ((x4 + (1 : Int32))).toNatClampNeg) Y71.2.1) fun r73 u73 =>
z_lt ((Y71.1, u73, Y71.2.2)) fun Y73 =>
(fX5_thrown N  Y73.2.1).bind fun r74 =>
(if r74 = r71 then
(if r71 = 0 then
(if (lg_cmp (Y73.2.2 ((0 : Int32)).toNatClampNeg) (r73).toInt64) = 0 then
(lL_law_23 N L xs fu (x4 + (6 : Int32)) Y73)
else
some (0 : Int32))
else
(lL_law_23 N L xs fu (x4 + (6 : Int32)) Y73))
else
some (0 : Int32))
else
(if ((xs (x4).toNatClampNeg) &&& (31 : Int32)) = (10 : Int32) then
z_ck (z_in (x4 + (1 : Int32)) L) <|
z_b2 (fL_ring N (xs ((x4 + (1 : Int32))).toNatClampNeg) (Y.1, Y.2.2)) fun r79 Z79 =>
z_lt ((Z79.1, Y.2.1, Z79.2)) fun Y79 =>
z_ck (z_in (x4 + (1 : Int32)) L) <|
z_b2 (fX5_ring N (xs ((x4 + (1 : Int32))).toNatClampNeg) Y79.2.1) fun r81 u81 =>
z_lt ((Y79.1, u81, Y79.2.2)) fun Y81 =>
(fX5_thrown N  Y81.2.1).bind fun r82 =>
(if r82 = r79 then
(if r79 = 0 then
(if (lg_cmp (Y81.2.2 ((0 : Int32)).toNatClampNeg) (r81).toInt64) = 0 then
(lL_law_23 N L xs fu (x4 + (6 : Int32)) Y81)
else
some (0 : Int32))
else
(lL_law_23 N L xs fu (x4 + (6 : Int32)) Y81))
else
some (0 : Int32))
else
(if ((xs (x4).toNatClampNeg) &&& (31 : Int32)) = (11 : Int32) then
z_ck (z_in (x4 + (1 : Int32)) L) <|
z_b2 (fL_setDrum N (xs ((x4 + (1 : Int32))).toNatClampNeg) (Y.1, Y.2.2)) fun r87 Z87 =>
z_lt ((Z87.1, Y.2.1, Z87.2)) fun Y87 =>
z_ck (z_in (x4 + (1 : Int32)) L) <|
z_b2 (fX5_setDrum N (xs ((x4 + (1 : Int32))).toNatClampNeg) Y87.2.1) fun r89 u89 =>
z_lt ((Y87.1, u89, Y87.2.2)) fun Y89 =>
(fX5_thrown N  Y89.2.1).bind fun r90 =>
(if r90 = r87 then
(if r87 = 0 then
(if (lg_cmp (Y89.2.2 ((0 : Int32)).toNatClampNeg) (r89).toInt64) = 0 then
(lL_law_23 N L xs fu (x4 + (6 : Int32)) Y89)
else
some (0 : Int32))
else
(lL_law_23 N L xs fu (x4 + (6 : Int32)) Y89))
else
some (0 : Int32))
else
(if ((xs (x4).toNatClampNeg) &&& (31 : Int32)) = (12 : Int32) then
z_ck (z_in (x4 + (1 : Int32)) L) <|
z_ck (z_in (x4 + (2 : Int32)) L) <|
z_ck (z_in (x4 + (3 : Int32)) L) <|
z_ck (z_in (x4 + (4 : Int32)) L) <|
z_ck (z_in (x4 + (5 : Int32)) L) <|
z_b2 (fL_addOrder N (xs ((x4 + (1 : Int32))).toNatClampNeg) (xs ((x4 + (2 : Int32))).toNatClampNeg) (xs ((x4 + (3 : Int32))).toNatClampNeg) (xs ((x4 + (4 : Int32))).toNatClampNeg) (xs ((x4 + (5 : Int32))).toNatClampNeg) (Y.1, Y.2.2)) fun r99 Z99 =>
z_lt ((Z99.1, Y.2.1, Z99.2)) fun Y99 =>
z_ck (z_in (x4 + (1 : Int32)) L) <|
z_ck (z_in (x4 + (2 : Int32)) L) <|
z_ck (z_in (x4 + (3 : Int32)) L) <|
z_ck (z_in (x4 + (4 : Int32)) L) <|
z_ck (z_in (x4 + (5 : Int32)) L) <|
z_b2 (fX5_addOrder N (xs ((x4 + (1 : Int32))).toNatClampNeg) (xs ((x4 + (2 : Int32))).toNatClampNeg) (xs ((x4 + (3 : Int32))).toNatClampNeg) (xs ((x4 + (4 : Int32))).toNatClampNeg) (xs ((x4 + (5 : Int32))).toNatClampNeg) Y99.2.1) fun r105 u105 =>
z_lt ((Y99.1, u105, Y99.2.2)) fun Y105 =>
(fX5_thrown N  Y105.2.1).bind fun r106 =>
(if r106 = r99 then
(if r99 = 0 then
(if (lg_cmp (Y105.2.2 ((0 : Int32)).toNatClampNeg) (r105).toInt64) = 0 then
(lL_law_23 N L xs fu (x4 + (6 : Int32)) Y105)
else
some (0 : Int32))
else
(lL_law_23 N L xs fu (x4 + (6 : Int32)) Y105))
else
some (0 : Int32))
else
(if ((xs (x4).toNatClampNeg) &&& (31 : Int32)) = (13 : Int32) then
z_ck (z_in (x4 + (1 : Int32)) L) <|
z_ck (z_in (x4 + (2 : Int32)) L) <|
z_ck (z_in (x4 + (3 : Int32)) L) <|
z_b2 (fL_change N (xs ((x4 + (1 : Int32))).toNatClampNeg) (xs ((x4 + (2 : Int32))).toNatClampNeg) (xs ((x4 + (3 : Int32))).toNatClampNeg) (Y.1, Y.2.2)) fun r113 Z113 =>
z_lt ((Z113.1, Y.2.1, Z113.2)) fun Y113 =>
z_ck (z_in (x4 + (1 : Int32)) L) <|
z_ck (z_in (x4 + (2 : Int32)) L) <|
z_ck (z_in (x4 + (3 : Int32)) L) <|
z_b2 (fX5_change N (xs ((x4 + (1 : Int32))).toNatClampNeg) (xs ((x4 + (2 : Int32))).toNatClampNeg) (xs ((x4 + (3 : Int32))).toNatClampNeg) Y113.2.1) fun r117 u117 =>
z_lt ((Y113.1, u117, Y113.2.2)) fun Y117 =>
(fX5_thrown N  Y117.2.1).bind fun r118 =>
(if r118 = r113 then
(if r113 = 0 then
(if (lg_cmp (Y117.2.2 ((0 : Int32)).toNatClampNeg) (r117).toInt64) = 0 then
(lL_law_23 N L xs fu (x4 + (6 : Int32)) Y117)
else
some (0 : Int32))
else
(lL_law_23 N L xs fu (x4 + (6 : Int32)) Y117))
else
some (0 : Int32))
else
(if ((xs (x4).toNatClampNeg) &&& (31 : Int32)) = (14 : Int32) then
z_ck (z_in (x4 + (1 : Int32)) L) <|
z_ck (z_in (x4 + (2 : Int32)) L) <|
z_b2 (fL_move N (xs ((x4 + (1 : Int32))).toNatClampNeg) (xs ((x4 + (2 : Int32))).toNatClampNeg) (Y.1, Y.2.2)) fun r124 Z124 =>
z_lt ((Z124.1, Y.2.1, Z124.2)) fun Y124 =>
z_ck (z_in (x4 + (1 : Int32)) L) <|
z_ck (z_in (x4 + (2 : Int32)) L) <|
z_b2 (fX5_move N (xs ((x4 + (1 : Int32))).toNatClampNeg) (xs ((x4 + (2 : Int32))).toNatClampNeg) Y124.2.1) fun r127 u127 =>
z_lt ((Y124.1, u127, Y124.2.2)) fun Y127 =>
(fX5_thrown N  Y127.2.1).bind fun r128 =>
(if r128 = r124 then
(if r124 = 0 then
(if (lg_cmp (Y127.2.2 ((0 : Int32)).toNatClampNeg) (r127).toInt64) = 0 then
(lL_law_23 N L xs fu (x4 + (6 : Int32)) Y127)
else
some (0 : Int32))
else
(lL_law_23 N L xs fu (x4 + (6 : Int32)) Y127))
else
some (0 : Int32))
else
(if ((xs (x4).toNatClampNeg) &&& (31 : Int32)) = (15 : Int32) then
z_b2 (fX4_lay N  Y.1) fun r132 u132 =>
z_lt ((u132, Y.2.1, Y.2.2)) fun Y132 =>
z_b2 (fX5_lay N  Y132.2.1) fun r133 u133 =>
z_lt ((Y132.1, u133, Y132.2.2)) fun Y133 =>
(if r132 = r133 then
(lL_law_23 N L xs fu (x4 + (6 : Int32)) Y133)
else
some (0 : Int32))
else
(if ((xs (x4).toNatClampNeg) &&& (31 : Int32)) = (16 : Int32) then
z_ck (z_in (x4 + (1 : Int32)) L) <|
z_b2 (fL_run N (xs ((x4 + (1 : Int32))).toNatClampNeg) (Y.1, Y.2.2)) fun r136 Z136 =>
z_lt ((Z136.1, Y.2.1, Z136.2)) fun Y136 =>
z_ck (z_in (x4 + (1 : Int32)) L) <|
z_b2 (fX5_run N (xs ((x4 + (1 : Int32))).toNatClampNeg) Y136.2.1) fun r138 u138 =>
z_lt ((Y136.1, u138, Y136.2.2)) fun Y138 =>
(fX5_thrown N  Y138.2.1).bind fun r139 =>
(if r139 = r136 then
(if r136 = 0 then
(if (lg_cmp (Y138.2.2 ((0 : Int32)).toNatClampNeg) (r138).toInt64) = 0 then
(lL_law_23 N L xs fu (x4 + (6 : Int32)) Y138)
else
some (0 : Int32))
else
(lL_law_23 N L xs fu (x4 + (6 : Int32)) Y138))
else
some (0 : Int32))
else
(if ((xs (x4).toNatClampNeg) &&& (31 : Int32)) = (17 : Int32) then
z_ck (z_in (x4 + (1 : Int32)) L) <|
z_b2 (fL_turn N (xs ((x4 + (1 : Int32))).toNatClampNeg) (Y.1, Y.2.2)) fun r144 Z144 =>
z_lt ((Z144.1, Y.2.1, Z144.2)) fun Y144 =>
z_ck (z_in (x4 + (1 : Int32)) L) <|
z_b2 (fX5_turn N (xs ((x4 + (1 : Int32))).toNatClampNeg) Y144.2.1) fun r146 u146 =>
z_lt ((Y144.1, u146, Y144.2.2)) fun Y146 =>
(fX5_thrown N  Y146.2.1).bind fun r147 =>
(if r147 = r144 then
(if r144 = 0 then
(if (lg_cmp (Y146.2.2 ((0 : Int32)).toNatClampNeg) (r146).toInt64) = 0 then
(lL_law_23 N L xs fu (x4 + (6 : Int32)) Y146)
else
some (0 : Int32))
else
(lL_law_23 N L xs fu (x4 + (6 : Int32)) Y146))
else
some (0 : Int32))
else
(if ((xs (x4).toNatClampNeg) &&& (31 : Int32)) = (18 : Int32) then
z_b2 (fL_undo N  (Y.1, Y.2.2)) fun r151 Z151 =>
z_lt ((Z151.1, Y.2.1, Z151.2)) fun Y151 =>
z_b2 (fX5_undo N  Y151.2.1) fun r152 u152 =>
z_lt ((Y151.1, u152, Y151.2.2)) fun Y152 =>
(fX5_thrown N  Y152.2.1).bind fun r153 =>
(if r153 = r151 then
(if r151 = 0 then
(if (lg_cmp (Y152.2.2 ((0 : Int32)).toNatClampNeg) (r152).toInt64) = 0 then
(lL_law_23 N L xs fu (x4 + (6 : Int32)) Y152)
else
some (0 : Int32))
else
(lL_law_23 N L xs fu (x4 + (6 : Int32)) Y152))
else
some (0 : Int32))
else
(if ((xs (x4).toNatClampNeg) &&& (31 : Int32)) = (19 : Int32) then
z_ck (z_in (x4 + (1 : Int32)) L) <|
z_b2 (fL_waits N (xs ((x4 + (1 : Int32))).toNatClampNeg) (Y.1, Y.2.2)) fun r158 Z158 =>
z_lt ((Z158.1, Y.2.1, Z158.2)) fun Y158 =>
z_ck (z_in (x4 + (1 : Int32)) L) <|
z_b2 (fX5_waits N (xs ((x4 + (1 : Int32))).toNatClampNeg) Y158.2.1) fun r160 u160 =>
z_lt ((Y158.1, u160, Y158.2.2)) fun Y160 =>
(fX5_thrown N  Y160.2.1).bind fun r161 =>
(if r161 = r158 then
(if r158 = 0 then
(if (lg_cmp (Y160.2.2 ((0 : Int32)).toNatClampNeg) (r160).toInt64) = 0 then
(lL_law_23 N L xs fu (x4 + (6 : Int32)) Y160)
else
some (0 : Int32))
else
(lL_law_23 N L xs fu (x4 + (6 : Int32)) Y160))
else
some (0 : Int32))
else
(if ((xs (x4).toNatClampNeg) &&& (31 : Int32)) = (20 : Int32) then
z_ck (z_in (x4 + (1 : Int32)) L) <|
z_b2 (fL_time N (xs ((x4 + (1 : Int32))).toNatClampNeg) (Y.1, Y.2.2)) fun r166 Z166 =>
z_lt ((Z166.1, Y.2.1, Z166.2)) fun Y166 =>
z_ck (z_in (x4 + (1 : Int32)) L) <|
z_b2 (fX5_time N (xs ((x4 + (1 : Int32))).toNatClampNeg) Y166.2.1) fun r168 u168 =>
z_lt ((Y166.1, u168, Y166.2.2)) fun Y168 =>
(fX5_thrown N  Y168.2.1).bind fun r169 =>
(if r169 = r166 then
(if r166 = 0 then
(if (lg_cmp (Y168.2.2 ((0 : Int32)).toNatClampNeg) (r168).toInt64) = 0 then
(lL_law_23 N L xs fu (x4 + (6 : Int32)) Y168)
else
some (0 : Int32))
else
(lL_law_23 N L xs fu (x4 + (6 : Int32)) Y168))
else
some (0 : Int32))
else
(if ((xs (x4).toNatClampNeg) &&& (31 : Int32)) = (21 : Int32) then
z_ck (z_in (x4 + (1 : Int32)) L) <|
z_ck (z_in (x4 + (2 : Int32)) L) <|
z_b2 (fL_bestPlace N (xs ((x4 + (1 : Int32))).toNatClampNeg) (xs ((x4 + (2 : Int32))).toNatClampNeg) (Y.1, Y.2.2)) fun r175 Z175 =>
z_lt ((Z175.1, Y.2.1, Z175.2)) fun Y175 =>
z_ck (z_in (x4 + (1 : Int32)) L) <|
z_ck (z_in (x4 + (2 : Int32)) L) <|
z_b2 (fX5_bestPlace N (xs ((x4 + (1 : Int32))).toNatClampNeg) (xs ((x4 + (2 : Int32))).toNatClampNeg) Y175.2.1) fun r178 u178 =>
z_lt ((Y175.1, u178, Y175.2.2)) fun Y178 =>
(fX5_thrown N  Y178.2.1).bind fun r179 =>
(if r179 = r175 then
(if r175 = 0 then
(if (lg_cmp (Y178.2.2 ((0 : Int32)).toNatClampNeg) (r178).toInt64) = 0 then
(lL_law_23 N L xs fu (x4 + (6 : Int32)) Y178)
else
some (0 : Int32))
else
(lL_law_23 N L xs fu (x4 + (6 : Int32)) Y178))
else
some (0 : Int32))
else
(if ((xs (x4).toNatClampNeg) &&& (31 : Int32)) = (22 : Int32) then
z_ck (z_in (x4 + (1 : Int32)) L) <|
z_b2 (fL_leastBribe N (xs ((x4 + (1 : Int32))).toNatClampNeg) (Y.1, Y.2.2)) fun r184 Z184 =>
z_lt ((Z184.1, Y.2.1, Z184.2)) fun Y184 =>
z_ck (z_in (x4 + (1 : Int32)) L) <|
z_b2 (fX5_leastBribe N (xs ((x4 + (1 : Int32))).toNatClampNeg) Y184.2.1) fun r186 u186 =>
z_lt ((Y184.1, u186, Y184.2.2)) fun Y186 =>
(fX5_thrown N  Y186.2.1).bind fun r187 =>
(if r187 = r184 then
(if r184 = 0 then
(if (lg_cmp (Y186.2.2 ((0 : Int32)).toNatClampNeg) (r186).toInt64) = 0 then
(lL_law_23 N L xs fu (x4 + (6 : Int32)) Y186)
else
some (0 : Int32))
else
(lL_law_23 N L xs fu (x4 + (6 : Int32)) Y186))
else
some (0 : Int32))
else
(if ((xs (x4).toNatClampNeg) &&& (31 : Int32)) = (23 : Int32) then
z_ck (z_in (x4 + (1 : Int32)) L) <|
z_b2 (fL_saves N (xs ((x4 + (1 : Int32))).toNatClampNeg) (Y.1, Y.2.2)) fun r192 Z192 =>
z_lt ((Z192.1, Y.2.1, Z192.2)) fun Y192 =>
z_ck (z_in (x4 + (1 : Int32)) L) <|
z_b2 (fX5_saves N (xs ((x4 + (1 : Int32))).toNatClampNeg) Y192.2.1) fun r194 u194 =>
z_lt ((Y192.1, u194, Y192.2.2)) fun Y194 =>
(fX5_thrown N  Y194.2.1).bind fun r195 =>
(if r195 = r192 then
(if r192 = 0 then
(if (lg_cmp (Y194.2.2 ((0 : Int32)).toNatClampNeg) (r194).toInt64) = 0 then
(lL_law_23 N L xs fu (x4 + (6 : Int32)) Y194)
else
some (0 : Int32))
else
(lL_law_23 N L xs fu (x4 + (6 : Int32)) Y194))
else
some (0 : Int32))
else
(if ((xs (x4).toNatClampNeg) &&& (31 : Int32)) = (24 : Int32) then
z_ck (z_in (x4 + (1 : Int32)) L) <|
z_ck (z_in (x4 + (2 : Int32)) L) <|
z_ck (z_in (x4 + (3 : Int32)) L) <|
z_b2 (fL_runScript N (xs ((x4 + (1 : Int32))).toNatClampNeg) ((((xs ((x4 + (2 : Int32))).toNatClampNeg)).toInt64 <<< ((32 : Int32).toInt64 &&& 63)) ||| (((xs ((x4 + (3 : Int32))).toNatClampNeg)).toInt64 &&& (4294967295 : Int64))) (Y.1, Y.2.2)) fun r202 Z202 =>
z_lt ((Z202.1, Y.2.1, Z202.2)) fun Y202 =>
z_ck (z_in (x4 + (1 : Int32)) L) <|
z_ck (z_in (x4 + (2 : Int32)) L) <|
z_ck (z_in (x4 + (3 : Int32)) L) <|
z_b2 (fX5_runScript N (xs ((x4 + (1 : Int32))).toNatClampNeg) ((((xs ((x4 + (2 : Int32))).toNatClampNeg)).toInt64 <<< ((32 : Int32).toInt64 &&& 63)) ||| (((xs ((x4 + (3 : Int32))).toNatClampNeg)).toInt64 &&& (4294967295 : Int64))) Y202.2.1) fun r206 u206 =>
z_lt ((Y202.1, u206, Y202.2.2)) fun Y206 =>
(fX5_thrown N  Y206.2.1).bind fun r207 =>
(if r207 = r202 then
(if r202 = 0 then
(if (lg_cmp (Y206.2.2 ((0 : Int32)).toNatClampNeg) (r206).toInt64) = 0 then
(lL_law_23 N L xs fu (x4 + (6 : Int32)) Y206)
else
some (0 : Int32))
else
(lL_law_23 N L xs fu (x4 + (6 : Int32)) Y206))
else
some (0 : Int32))
else
(if ((xs (x4).toNatClampNeg) &&& (31 : Int32)) = (25 : Int32) then
z_ck (z_in (x4 + (1 : Int32)) L) <|
z_ck (z_in (x4 + (2 : Int32)) L) <|
z_ck (z_in (x4 + (3 : Int32)) L) <|
z_b2 (fL_simulate N ((((xs ((x4 + (1 : Int32))).toNatClampNeg)).toInt64 <<< ((32 : Int32).toInt64 &&& 63)) ||| (((xs ((x4 + (2 : Int32))).toNatClampNeg)).toInt64 &&& (4294967295 : Int64))) (xs ((x4 + (3 : Int32))).toNatClampNeg) (Y.1, Y.2.2)) fun r214 Z214 =>
z_lt ((Z214.1, Y.2.1, Z214.2)) fun Y214 =>
z_ck (z_in (x4 + (1 : Int32)) L) <|
z_ck (z_in (x4 + (2 : Int32)) L) <|
z_ck (z_in (x4 + (3 : Int32)) L) <|
z_b2 (fX5_simulate N ((((xs ((x4 + (1 : Int32))).toNatClampNeg)).toInt64 <<< ((32 : Int32).toInt64 &&& 63)) ||| (((xs ((x4 + (2 : Int32))).toNatClampNeg)).toInt64 &&& (4294967295 : Int64))) (xs ((x4 + (3 : Int32))).toNatClampNeg) Y214.2.1) fun r218 u218 =>
z_lt ((Y214.1, u218, Y214.2.2)) fun Y218 =>
(fX5_thrown N  Y218.2.1).bind fun r219 =>
(if r219 = r214 then
(if r214 = 0 then
(if (lg_cmp (Y218.2.2 ((0 : Int32)).toNatClampNeg) (r218).toInt64) = 0 then
(lL_law_23 N L xs fu (x4 + (6 : Int32)) Y218)
else
some (0 : Int32))
else
(lL_law_23 N L xs fu (x4 + (6 : Int32)) Y218))
else
some (0 : Int32))
else
(if ((xs (x4).toNatClampNeg) &&& (31 : Int32)) = (26 : Int32) then
z_ck (z_in (x4 + (1 : Int32)) L) <|
z_b2 (fL_save N (xs ((x4 + (1 : Int32))).toNatClampNeg) (Y.1, Y.2.2)) fun r224 Z224 =>
z_lt ((Z224.1, Y.2.1, Z224.2)) fun Y224 =>
z_ck (z_in (x4 + (1 : Int32)) L) <|
z_b2 (fX5_save N (xs ((x4 + (1 : Int32))).toNatClampNeg) Y224.2.1) fun r226 u226 =>
z_lt ((Y224.1, u226, Y224.2.2)) fun Y226 =>
(fX5_thrown N  Y226.2.1).bind fun r227 =>
(if r227 = r224 then
(if r224 = 0 then
(if (lg_cmp (Y226.2.2 ((0 : Int32)).toNatClampNeg) (r226).toInt64) = 0 then
(lL_law_23 N L xs fu (x4 + (6 : Int32)) Y226)
else
some (0 : Int32))
else
(lL_law_23 N L xs fu (x4 + (6 : Int32)) Y226))
else
some (0 : Int32))
else
(if ((xs (x4).toNatClampNeg) &&& (31 : Int32)) = (27 : Int32) then
z_ck (z_in (x4 + (1 : Int32)) L) <|
z_b2 (fL_restore N (xs ((x4 + (1 : Int32))).toNatClampNeg) (Y.1, Y.2.2)) fun r232 Z232 =>
z_lt ((Z232.1, Y.2.1, Z232.2)) fun Y232 =>
z_ck (z_in (x4 + (1 : Int32)) L) <|
z_b2 (fX5_restore N (xs ((x4 + (1 : Int32))).toNatClampNeg) Y232.2.1) fun r234 u234 =>
z_lt ((Y232.1, u234, Y232.2.2)) fun Y234 =>
(fX5_thrown N  Y234.2.1).bind fun r235 =>
(if r235 = r232 then
(if r232 = 0 then
(if (lg_cmp (Y234.2.2 ((0 : Int32)).toNatClampNeg) (r234).toInt64) = 0 then
(lL_law_23 N L xs fu (x4 + (6 : Int32)) Y234)
else
some (0 : Int32))
else
(lL_law_23 N L xs fu (x4 + (6 : Int32)) Y234))
else
some (0 : Int32))
else
(lL_law_23 N L xs fu (x4 + (6 : Int32)) Y))))))))))))))))))))))))))))))
