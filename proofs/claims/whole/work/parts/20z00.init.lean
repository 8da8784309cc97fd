/-! ===== constructors ===== -/
def iT5 : TS := fun k => if k = 0 then (fun _ => (4 : Int32)) else if k = 6 then (fun _ => (1 : Int32)) else (fun _ => 0)
def iG3 : TS := fun k => if k = 0 then (upd (upd (upd (upd (upd (upd (upd (upd (fun _ => 0) (0 : Int32).toNatClampNeg (-1 : Int32)) (1 : Int32).toNatClampNeg (-1 : Int32)) (2 : Int32).toNatClampNeg (-1 : Int32)) (3 : Int32).toNatClampNeg (-1 : Int32)) (4 : Int32).toNatClampNeg (-1 : Int32)) (5 : Int32).toNatClampNeg (-1 : Int32)) (6 : Int32).toNatClampNeg (-1 : Int32)) (7 : Int32).toNatClampNeg (-1 : Int32)) else (fun _ => 0)
def iR3 : LTS := fun _ _ => 0
def iP4 : TS := fun _ _ => 0
def iO1 : TS := fun k => if k = 5 then (fun _ => (-1 : Int32)) else (fun _ => 0)
def iB1 : TS := fun _ _ => 0
def iZ6 : TS := fun _ _ => 0
def iU7 : TS := fun k => if k = 9 then (fun _ => (4 : Int32)) else if k = 19 then (fun _ => (1 : Int32)) else (fun _ => 0)
def iV7 : TS := fun _ _ => 0
def iM7 : LTS := fun _ _ => 0
def iR7 : LTS := fun _ _ => 0

