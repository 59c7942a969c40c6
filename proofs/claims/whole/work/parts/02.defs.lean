/-! PRINTED by wip/whole/tool/gen.py: the methods as blocks -/
def mm_defs (c : Nat) : List Value := match c with
  | 0 => [.null, .null, .int 0, .null, .null]
  | 1 => [.int 0, .null, .int 0, .null, .null]
  | 2 => [.null, .null, .int 0, .int 0]
  | 3 => [.null, .int 0, .int 0]
  | 4 => [.null, .int 0, .int 0, .int 0, .int 0, .int 0, .int 0, .int 0, .long 0, .null, .null, .int 0]
  | 5 => [.int 0]
  | 6 => [.int 0, .null, .int 0, .int 0, .int 0]
  | 7 => [.null, .null]
  | 8 => [.null, .null, .null, .int 0]
  | 9 => [.null, .null]
  | 10 => [.int 0, .null, .int 0, .int 0, .int 0, .null, .null, .null, .null, .int 0, .int 0, .int 0, .null, .null, .null, .null, .int 0, .null]
  | _ => []
