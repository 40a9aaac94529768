/-! the program as lists, written by wip/gen/prog.py out of the printed names -/
def P_ow : Nat → String := fun o => match o with
  | 0 => RX0
  | 1 => RX1
  | 2 => RX2
  | 3 => RX3
  | 4 => RX4
  | 5 => RX5
  | 6 => RX6
  | 7 => RX7
  | 8 => RX8
  | 9 => RX9
  | 10 => RX10
  | 11 => RX11
  | 12 => RX12
  | 13 => RL
  | 26 => RJ6
  | 27 => RJ7
  | 29 => RJ9
  | _ => ""
abbrev cf_T : Type := List (Nat × Instr × Nat)
abbrev cl_T : Type := List cf_T
