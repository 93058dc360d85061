/-! both constructors, run -/
def in_r1 : am_R := am_call tb_P 2000 0 [.ref 0] (am_new ([], (fun _ _ => 0), (fun _ _ => 0)) 11 10)
def in_G1 : am_G := match in_r1 with
  | some r => r.2
  | none => ([], (fun _ _ => 0), (fun _ _ => 0))
def in_r2 : am_R := am_call tb_P 2000 19 [.ref 73] (am_new in_G1 12 86)
def in_G2 : am_G := match in_r2 with
  | some r => r.2
  | none => ([], (fun _ _ => 0), (fun _ _ => 0))
set_option maxRecDepth 100000 in
theorem in_s1 : in_r1.map (fun r => (r.1, r.2.1.length, am_sz r.2.1)) = some (none, 73, 286321) := by decide +kernel
set_option maxRecDepth 100000 in
theorem in_s2 : in_r2.map (fun r => (r.1, r.2.1)) = some (none, pr_S) := by decide +kernel
