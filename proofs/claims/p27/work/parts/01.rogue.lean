/-! A start that meets every premise of the Statement and from which the law throws: the cell that CrowdOut.RULE_FIRST holds is of a second class of the kind 'array of int' -/
def rf_cls : Class := { start1.cArr "[I'" 19 .int with methods := #[Lib.HandJ.method "clone" "()Ljava/lang/Object;" [] (some (.object "java/lang/Object")) 0x1 1 ⟨#[0x2a, 0xbf]⟩] }
def rf_s0 : State := start1.aboutOf #[]
def rf_s : State := { rf_s0 with vm := { rf_s0.vm with classes := rf_s0.vm.classes.push rf_cls }, heap := rf_s0.heap.setIfInBounds 2 { cls := 32, slots := #[.int (150), .int (100), .int (5)], vm := .none } }
