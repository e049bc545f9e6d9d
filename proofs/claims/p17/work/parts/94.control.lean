set_option maxRecDepth 16384
/-- the control: the same start, the same two classes more, but AT_FIRST's cell of the class named "[I", as every JVM has it -/
def zr_c : State := { start1.aboutOf #[] with vm := zr_vm }
def zr_past (s : State) : Bool := match s.frames with
  | .java f :: _ => f.method.cls == 4 && f.method.idx == 0 && f.pc == 11
  | _ => false
/-- there the machine goes on behind the clone (at 11), within eight steps -/
theorem zr_control : ((List.range 8).any fun k => zr_past (stepsAlone start1.p0.tables start1.e0 (32 + k) zr_c)) = true := by decide +kernel
