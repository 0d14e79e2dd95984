/-! ===== the pure side: what the functions f_.. are ===== -/
def mu0 : Mm
  | 0 => fun j => match j with
    | 4 => 50
    | _ => 0
  | _ => fun _ => 0
def nu0 : Mm
  | 0 => fun j => match j with
    | 16 => 50
    | _ => 0
  | _ => fun _ => 0
