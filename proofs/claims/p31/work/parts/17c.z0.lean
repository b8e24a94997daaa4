def z_0 : z_R := fun _ _ => 0
def z_s0 : z_R := fun r => match r with
  | 0 => fun k => match k with
    | 0 => 12
    | 3 => -1
    | _ => 0
  | _ => fun _ => 0
def z_m0 : z_R := fun r => match r with
  | 1 => upd (upd (fun _ => 0) ((0 : Int32)).toNatClampNeg (12 : Int32)) ((4 : Int32)).toNatClampNeg (-1 : Int32)
  | _ => fun _ => 0
def z_X0 : z_X := (z_0, z_0, fun _ => z_s0)
