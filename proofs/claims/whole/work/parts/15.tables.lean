/-! STUB while the little machine is made -/
def j_cl : List vw_C := []
def j_all : List Cond := lw_tbl.filter goodWord
def j_ty : List FieldType := [.int]
def j_nm : List (String × Nat × MethodName × String) := []
def j_ao : List String := []
