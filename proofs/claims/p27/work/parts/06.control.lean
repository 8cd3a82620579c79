/-! CONTROL: the same start, the second class still in the table, but RULE_FIRST's cell of the class that is found as "[I": after as many steps the law is under way, and no throw is on its stack: the throw above comes of that cell's class alone -/
def rf_c : State := { rf_s with heap := rf_s0.heap }
def rf_calm (fs : List Frame) : Bool := fs.all fun
  | .throwing _ => false
  | .thenThrow _ => false
  | .throwNew .. => false
  | _ => true
set_option maxRecDepth 16384 in
theorem rf_control : rf_go start1.p0.tables start1.e0 (fun s => decide (s.status = .running) && rf_calm s.frames && rf_fr s.frames) 100 rf_c = true := by decide +kernel
