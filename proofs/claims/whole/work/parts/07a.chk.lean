def tb_ck (a : Nat) : Bool := match tb_M[a]? with
  | some (y, bytes, mL, rt, _) => am_okm (tb_mem y.cls) tb_Nb tb_cl tb_ty tb_M y.cls bytes mL rt (decide (y.name = "<init>")) (tb_P a).2 && decide ((tb_P a).1 = mL)
  | none => false
def tb_mg (a : Nat) : Bool := match tb_M[a]? with
  | some (y, bytes, mL, rt, n) => goodWord (.code y bytes mL rt) && (tb_mem "" 10 a (.initialized y.cls) && (decide (y.cls ≠ "java/lang/invoke/MethodHandle" ∧ y.cls ≠ "java/lang/invoke/VarHandle" ∧ (parseMethodDescriptor y.desc).map (fun d => d.parameters.length) = some n) && (decide (mL ≤ 21) && plainName y.cls)))
  | none => false
def tb_cg (ci : Nat) : Bool := match tb_cl[ci]? with
  | some q => (List.range q.2.2).all (fun k => decide (tb_at ((tb_lay.getD ci []).getD k 0) = some (u_lay q.1 q.2.1 k)) && goodWord (u_lay q.1 q.2.1 k)) && ((List.range q.2.2).all (fun k => decide (parseFieldDescriptor (q.2.1 k).2.2.1 = some (tb_ty ci k))) && (List.range q.2.2).all fun a => (List.range q.2.2).all fun b => decide (a = b) || decide ((q.2.1 a).2.1 ≠ (q.2.1 b).2.1))
  | none => false
