set_option maxRecDepth 100000 in
theorem bd_walk : bd_chk start1.p0.tables start1.e0 120 bd_s = true := by decide +kernel
set_option maxRecDepth 100000 in
theorem bd_walk0 : (stepsAlone start1.p0.tables start1.e0 120 start1.about).status = .running := by decide +kernel
set_option maxRecDepth 100000 in
theorem bd_walk1 : (stepsAlone start1.p0.tables start1.e0 400 start1.about).status = .running := by decide +kernel
def bd_where (s : State) : Nat × Nat × Nat := match s.frames with
  | .java g :: _ => (g.method.cls, g.method.idx, g.pc)
  | _ => (9999, 0, 0)
set_option maxRecDepth 100000 in
theorem bd_at : bd_where (stepsAlone start1.p0.tables start1.e0 120 bd_s) = (17, 0, 0) := by decide +kernel
set_option maxRecDepth 100000 in
theorem bd_st : (stepsAlone start1.p0.tables start1.e0 120 bd_s).status = .stopped (.illTyped "the pc is at no instruction") := by decide +kernel
