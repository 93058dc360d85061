abbrev am_M : Type := MethodName × ByteArray × Nat × Option FieldType × Nat
/-- the fixed side of a walk: the machine, the code, the tables' words, the class tables, the frame -/
def am_Fx (p : Program) (R : Room) (s : State) (m : MethodId) (args : Array Value) (meth : Method) (c : Code) (Tb : List Jvm.Cond) (Nb : List (String × Nat × MethodName × String)) (D : va_G) (cl : List vw_C) (ty : Nat → Nat → FieldType) (cA : Nat → ClassId) (B c0 : Nat) (own : String) (cc : ByteArray) (nL : Nat) (ret : Option FieldType) (ini : Bool) : Prop :=
  p.tables.exec = Jvm.exec ∧ c.code = cc ∧ c.maxLocals = nL ∧ s.vm.findClass own = some m.cls ∧ (∀ w ∈ Tb, w.before args s = true) ∧ (∀ q ∈ Nb, va_Nw (.methodLinkNest q.1 q.2.1 q.2.2.1 q.2.2.2) s) ∧ va_K D cl (am_tys cA) s ∧ meth.locks = false ∧ meth.sig.returnType = ret ∧ (ini = true → meth.name = "<init>") ∧ s.heap.size = B + c0 ∧ 1 ≤ R.frames ∧ 40 ≤ R.locals
/-- the class table: its words are among the tables', its types are its descriptors', its names are apart -/
def am_Cg (Tb : List Jvm.Cond) (cl : List vw_C) (ty : Nat → Nat → FieldType) : Prop := ∀ (ci : Nat) (q : vw_C), cl[ci]? = some q → (∀ w ∈ u_ws q.1 q.2.1 q.2.2, w ∈ Tb) ∧ (∀ k, k < q.2.2 → parseFieldDescriptor (q.2.1 k).2.2.1 = some (ty ci k)) ∧ (∀ a, a < q.2.2 → ∀ b, b < q.2.2 → a ≠ b → (q.2.1 a).2.1 ≠ (q.2.1 b).2.1)
/-- the walk from here on: it comes to Q, with nE cells of zE slots at most -/
def am_Cl (p : Program) (l : Launch) (e : Env) (R : Room) (s : State) (m : MethodId) (args : Array Value) (below : List Frame) (meth : Method) (c : Code) (nL : Nat) (D : va_G) (cl : List vw_C) (ty : Nat → Nat → FieldType) (cA : Nat → ClassId) (B c0 z0 : Nat) (pc : Nat) (ls : am_L) (st : List Value) (G : am_G) (Q : State → Prop) (nE zE : Nat) : Prop :=
  (G.1.length ≤ nE ∧ am_sz G.1 ≤ zE) ∧ ∀ (H : Heap) (locs : List Loc) (lsR : Array Slot), va_P D cl (am_w ty cA B G) H → va_S (fun q => B ≤ q) s.heap H locs → lv_has lsR nL (am_ml B ls) → c0 ≤ G.1.length → z0 ≤ am_sz G.1 → nE ≤ c0 + R.cells → zE ≤ z0 + R.slots →
    W p l e R s m args below meth c H locs (G.1.length - c0) (am_sz G.1 - z0) Q (F0 m pc lsR (am_ms B st))
def am_P (D : va_G) (cl : List vw_C) (ty : Nat → Nat → FieldType) (cA : Nat → ClassId) (B : Nat) (Nb : List (String × Nat × MethodName × String)) (as : List Value) (G : am_G) : Array Value → State → Prop :=
  va_Pc (as.map (am_rv B)) fun U => (U.heap.size = B + G.1.length ∧ va_P D cl (am_w ty cA B G) U.heap) ∧ va_K D cl (am_tys cA) U ∧ ∀ q ∈ Nb, va_Nw (.methodLinkNest q.1 q.2.1 q.2.2.1 q.2.2.2) U
/-- what a callee's runs give -/
def am_Cs (l : Launch) (R : Room) (Tb : List Jvm.Cond) (Nb : List (String × Nat × MethodName × String)) (D : va_G) (cl : List vw_C) (ty : Nat → Nat → FieldType) (cA : Nat → ClassId) (B : Nat) (M : List am_M) (C : am_C) : Prop := ∀ (a : Nat) (as : List Value) (G : am_G) (v : Option Value) (G' : am_G), C a as G = some (v, G') →
  (G.1.length ≤ G'.1.length ∧ am_sz G.1 ≤ am_sz G'.1) ∧ ∀ (y : MethodName) (bytes : ByteArray) (mL : Nat) (rt : Option FieldType) (n : Nat), M[a]? = some (y, bytes, mL, rt, n) → ∃ rm : Room, rm.cells = G'.1.length - G.1.length ∧ rm.slots = am_sz G'.1 - am_sz G.1 ∧ rm.frames + 1 ≤ R.frames ∧ 40 + rm.locals ≤ R.locals ∧
    Met l y (.code y bytes mL rt :: Tb) rm (am_P D cl ty cA B Nb as G) (am_Q D cl ty cA B v G') (G'.1.length - G.1.length) (am_sz G'.1 - am_sz G.1) (fun q => B ≤ q)

section AMS
variable {p : Program} {l : Launch} {e : Env} {R : Room} {s : State} {m : MethodId} {args : Array Value} {below : List Frame} {meth : Method} {c : Code} {Tb : List Jvm.Cond} {Nb : List (String × Nat × MethodName × String)} {cl : List vw_C} {ty : Nat → Nat → FieldType} {cA : Nat → ClassId} {D : va_G} {M : List am_M} {own : String} {cc : ByteArray} {nL : Nat} {ret : Option FieldType} {ini : Bool} {B c0 z0 : Nat} {pc : Nat} {ls : am_L} {st rest : List Value} {G G' : am_G} {v : Option Value} {Q : State → Prop} {nE zE : Nat}
theorem am_t_iconst (F : am_Fx p R s m args meth c Tb Nb D cl ty cA B c0 own cc nL ret ini) {n : Int} {x : Int32} (hv : Int32.ofInt n = x) (hd : decode cc pc = .ok (.iconst n, 1)) (k : am_Cl p l e R s m args below meth c nL D cl ty cA B c0 z0 (pc + 1) ls (.int x :: rest) G Q nE zE) : am_Cl p l e R s m args below meth c nL D cl ty cA B c0 z0 pc ls rest G Q nE zE := ⟨k.1, fun H locs lsR a1 a3 a4 a5 a6 a7 a8 => lv_iconst F.1 F.2.1 hd hv (k.2 H locs lsR a1 a3 a4 a5 a6 a7 a8)⟩
theorem am_t_bipush (F : am_Fx p R s m args meth c Tb Nb D cl ty cA B c0 own cc nL ret ini) {n : Int} {x : Int32} (hv : (Int8.ofInt n).toInt32 = x) (hd : decode cc pc = .ok (.bipush n, 2)) (k : am_Cl p l e R s m args below meth c nL D cl ty cA B c0 z0 (pc + 2) ls (.int x :: rest) G Q nE zE) : am_Cl p l e R s m args below meth c nL D cl ty cA B c0 z0 pc ls rest G Q nE zE := ⟨k.1, fun H locs lsR a1 a3 a4 a5 a6 a7 a8 => lv_bipush F.1 F.2.1 hd hv (k.2 H locs lsR a1 a3 a4 a5 a6 a7 a8)⟩
theorem am_t_sipush (F : am_Fx p R s m args meth c Tb Nb D cl ty cA B c0 own cc nL ret ini) {n : Int} {x : Int32} (hv : (Int16.ofInt n).toInt32 = x) (hd : decode cc pc = .ok (.sipush n, 3)) (k : am_Cl p l e R s m args below meth c nL D cl ty cA B c0 z0 (pc + 3) ls (.int x :: rest) G Q nE zE) : am_Cl p l e R s m args below meth c nL D cl ty cA B c0 z0 pc ls rest G Q nE zE := ⟨k.1, fun H locs lsR a1 a3 a4 a5 a6 a7 a8 => lv_sipush F.1 F.2.1 hd hv (k.2 H locs lsR a1 a3 a4 a5 a6 a7 a8)⟩
theorem am_t_lconst (F : am_Fx p R s m args meth c Tb Nb D cl ty cA B c0 own cc nL ret ini) {n : Fin 2} {x : Int64} (hv : Int64.ofNat (n : Nat) = x) (hd : decode cc pc = .ok (.lconst n, 1)) (k : am_Cl p l e R s m args below meth c nL D cl ty cA B c0 z0 (pc + 1) ls (.long x :: rest) G Q nE zE) : am_Cl p l e R s m args below meth c nL D cl ty cA B c0 z0 pc ls rest G Q nE zE := ⟨k.1, fun H locs lsR a1 a3 a4 a5 a6 a7 a8 => lv_lconst F.1 F.2.1 hd hv (k.2 H locs lsR a1 a3 a4 a5 a6 a7 a8)⟩
theorem am_t_ldc (F : am_Fx p R s m args meth c Tb Nb D cl ty cA B c0 own cc nL ret ini) {n : Nat} {x : Int32} (hv : Jvm.Cond.constant own n x ∈ Tb) (hd : decode cc pc = .ok (.ldc n, 2)) (k : am_Cl p l e R s m args below meth c nL D cl ty cA B c0 z0 (pc + 2) ls (.int x :: rest) G Q nE zE) : am_Cl p l e R s m args below meth c nL D cl ty cA B c0 z0 pc ls rest G Q nE zE := ⟨k.1, fun H locs lsR a1 a3 a4 a5 a6 a7 a8 => lv_ldc F.1 F.2.1 F.2.2.2.1 (F.2.2.2.2.1 _ hv) hd (k.2 H locs lsR a1 a3 a4 a5 a6 a7 a8)⟩
theorem am_t_ldcw (F : am_Fx p R s m args meth c Tb Nb D cl ty cA B c0 own cc nL ret ini) {n : Nat} {x : Int32} (hv : Jvm.Cond.constant own n x ∈ Tb) (hd : decode cc pc = .ok (.ldc_w n, 3)) (k : am_Cl p l e R s m args below meth c nL D cl ty cA B c0 z0 (pc + 3) ls (.int x :: rest) G Q nE zE) : am_Cl p l e R s m args below meth c nL D cl ty cA B c0 z0 pc ls rest G Q nE zE := ⟨k.1, fun H locs lsR a1 a3 a4 a5 a6 a7 a8 => lv_ldcw F.1 F.2.1 F.2.2.2.1 (F.2.2.2.2.1 _ hv) hd (k.2 H locs lsR a1 a3 a4 a5 a6 a7 a8)⟩
theorem am_t_ldc2 (F : am_Fx p R s m args meth c Tb Nb D cl ty cA B c0 own cc nL ret ini) {n : Nat} {x : Int64} (hv : Jvm.Cond.constantLong own n x ∈ Tb) (hd : decode cc pc = .ok (.ldc2_w n, 3)) (k : am_Cl p l e R s m args below meth c nL D cl ty cA B c0 z0 (pc + 3) ls (.long x :: rest) G Q nE zE) : am_Cl p l e R s m args below meth c nL D cl ty cA B c0 z0 pc ls rest G Q nE zE := ⟨k.1, fun H locs lsR a1 a3 a4 a5 a6 a7 a8 => lv_ldc2 F.1 F.2.1 F.2.2.2.1 (F.2.2.2.2.1 _ hv) hd (k.2 H locs lsR a1 a3 a4 a5 a6 a7 a8)⟩
theorem am_t_iload (F : am_Fx p R s m args meth c Tb Nb D cl ty cA B c0 own cc nL ret ini) {i : Nat} {x : Int32} (hg : am_get ls i = some (.int x)) (hd : decode cc pc = .ok (.iload i, 2)) (k : am_Cl p l e R s m args below meth c nL D cl ty cA B c0 z0 (pc + 2) ls (.int x :: rest) G Q nE zE) : am_Cl p l e R s m args below meth c nL D cl ty cA B c0 z0 pc ls rest G Q nE zE := ⟨k.1, fun H locs lsR a1 a3 a4 a5 a6 a7 a8 => lv_iload F.1 F.2.1 hd (am_get_real hg a4) (k.2 H locs lsR a1 a3 a4 a5 a6 a7 a8)⟩
theorem am_t_iloadn (F : am_Fx p R s m args meth c Tb Nb D cl ty cA B c0 own cc nL ret ini) {i : Fin 4} {x : Int32} (hg : am_get ls i.val = some (.int x)) (hd : decode cc pc = .ok (.iload_n i, 1)) (k : am_Cl p l e R s m args below meth c nL D cl ty cA B c0 z0 (pc + 1) ls (.int x :: rest) G Q nE zE) : am_Cl p l e R s m args below meth c nL D cl ty cA B c0 z0 pc ls rest G Q nE zE := ⟨k.1, fun H locs lsR a1 a3 a4 a5 a6 a7 a8 => lv_iload_n F.1 F.2.1 hd rfl (am_get_real hg a4) (k.2 H locs lsR a1 a3 a4 a5 a6 a7 a8)⟩
theorem am_t_lload (F : am_Fx p R s m args meth c Tb Nb D cl ty cA B c0 own cc nL ret ini) {i : Nat} {x : Int64} (hg : am_get ls i = some (.long x)) (hd : decode cc pc = .ok (.lload i, 2)) (k : am_Cl p l e R s m args below meth c nL D cl ty cA B c0 z0 (pc + 2) ls (.long x :: rest) G Q nE zE) : am_Cl p l e R s m args below meth c nL D cl ty cA B c0 z0 pc ls rest G Q nE zE := ⟨k.1, fun H locs lsR a1 a3 a4 a5 a6 a7 a8 => lv_lload F.1 F.2.1 hd (am_get_real hg a4) (k.2 H locs lsR a1 a3 a4 a5 a6 a7 a8)⟩
theorem am_t_lloadn (F : am_Fx p R s m args meth c Tb Nb D cl ty cA B c0 own cc nL ret ini) {i : Fin 4} {x : Int64} (hg : am_get ls i.val = some (.long x)) (hd : decode cc pc = .ok (.lload_n i, 1)) (k : am_Cl p l e R s m args below meth c nL D cl ty cA B c0 z0 (pc + 1) ls (.long x :: rest) G Q nE zE) : am_Cl p l e R s m args below meth c nL D cl ty cA B c0 z0 pc ls rest G Q nE zE := ⟨k.1, fun H locs lsR a1 a3 a4 a5 a6 a7 a8 => lv_lload_n F.1 F.2.1 hd rfl (am_get_real hg a4) (k.2 H locs lsR a1 a3 a4 a5 a6 a7 a8)⟩
theorem am_t_aload (F : am_Fx p R s m args meth c Tb Nb D cl ty cA B c0 own cc nL ret ini) {i : Nat} {x : Nat} (hg : am_get ls i = some (.ref x)) (hd : decode cc pc = .ok (.aload i, 2)) (k : am_Cl p l e R s m args below meth c nL D cl ty cA B c0 z0 (pc + 2) ls (.ref x :: rest) G Q nE zE) : am_Cl p l e R s m args below meth c nL D cl ty cA B c0 z0 pc ls rest G Q nE zE := ⟨k.1, fun H locs lsR a1 a3 a4 a5 a6 a7 a8 => lv_aload F.1 F.2.1 hd (am_get_real hg a4) (k.2 H locs lsR a1 a3 a4 a5 a6 a7 a8)⟩
theorem am_t_aloadn (F : am_Fx p R s m args meth c Tb Nb D cl ty cA B c0 own cc nL ret ini) {i : Fin 4} {x : Nat} (hg : am_get ls i.val = some (.ref x)) (hd : decode cc pc = .ok (.aload_n i, 1)) (k : am_Cl p l e R s m args below meth c nL D cl ty cA B c0 z0 (pc + 1) ls (.ref x :: rest) G Q nE zE) : am_Cl p l e R s m args below meth c nL D cl ty cA B c0 z0 pc ls rest G Q nE zE := ⟨k.1, fun H locs lsR a1 a3 a4 a5 a6 a7 a8 => lv_aload_n F.1 F.2.1 hd rfl (am_get_real hg a4) (k.2 H locs lsR a1 a3 a4 a5 a6 a7 a8)⟩
theorem am_t_istore (F : am_Fx p R s m args meth c Tb Nb D cl ty cA B c0 own cc nL ret ini) {i : Nat} {x : Int32} (hn : i < nL) (hd : decode cc pc = .ok (.istore i, 2)) (k : am_Cl p l e R s m args below meth c nL D cl ty cA B c0 z0 (pc + 2) (am_put ls i (.int x)) rest G Q nE zE) : am_Cl p l e R s m args below meth c nL D cl ty cA B c0 z0 pc ls (.int x :: rest) G Q nE zE := ⟨k.1, fun H locs lsR a1 a3 a4 a5 a6 a7 a8 => lv_istore F.1 F.2.1 hd a4 hn (am_put_real B ls i (.int x)) (fun lsR' a4' => k.2 H locs lsR' a1 a3 a4' a5 a6 a7 a8)⟩
theorem am_t_istoren (F : am_Fx p R s m args meth c Tb Nb D cl ty cA B c0 own cc nL ret ini) {i : Fin 4} {x : Int32} (hn : i.val < nL) (hd : decode cc pc = .ok (.istore_n i, 1)) (k : am_Cl p l e R s m args below meth c nL D cl ty cA B c0 z0 (pc + 1) (am_put ls i.val (.int x)) rest G Q nE zE) : am_Cl p l e R s m args below meth c nL D cl ty cA B c0 z0 pc ls (.int x :: rest) G Q nE zE := ⟨k.1, fun H locs lsR a1 a3 a4 a5 a6 a7 a8 => lv_istore_n F.1 F.2.1 hd rfl a4 hn (am_put_real B ls i.val (.int x)) (fun lsR' a4' => k.2 H locs lsR' a1 a3 a4' a5 a6 a7 a8)⟩
theorem am_t_lstore (F : am_Fx p R s m args meth c Tb Nb D cl ty cA B c0 own cc nL ret ini) {i : Nat} {x : Int64} (hn : i + 1 < nL) (hd : decode cc pc = .ok (.lstore i, 2)) (k : am_Cl p l e R s m args below meth c nL D cl ty cA B c0 z0 (pc + 2) (am_put2 ls i (.long x)) rest G Q nE zE) : am_Cl p l e R s m args below meth c nL D cl ty cA B c0 z0 pc ls (.long x :: rest) G Q nE zE := ⟨k.1, fun H locs lsR a1 a3 a4 a5 a6 a7 a8 => lv_lstore F.1 F.2.1 hd a4 hn (am_put2_real B ls i (.long x)) (fun lsR' a4' => k.2 H locs lsR' a1 a3 a4' a5 a6 a7 a8)⟩
theorem am_t_lstoren (F : am_Fx p R s m args meth c Tb Nb D cl ty cA B c0 own cc nL ret ini) {i : Fin 4} {x : Int64} (hn : i.val + 1 < nL) (hd : decode cc pc = .ok (.lstore_n i, 1)) (k : am_Cl p l e R s m args below meth c nL D cl ty cA B c0 z0 (pc + 1) (am_put2 ls i.val (.long x)) rest G Q nE zE) : am_Cl p l e R s m args below meth c nL D cl ty cA B c0 z0 pc ls (.long x :: rest) G Q nE zE := ⟨k.1, fun H locs lsR a1 a3 a4 a5 a6 a7 a8 => lv_lstore_n F.1 F.2.1 hd rfl a4 hn (am_put2_real B ls i.val (.long x)) (fun lsR' a4' => k.2 H locs lsR' a1 a3 a4' a5 a6 a7 a8)⟩
theorem am_t_astore (F : am_Fx p R s m args meth c Tb Nb D cl ty cA B c0 own cc nL ret ini) {i : Nat} {x : Nat} (hn : i < nL) (hd : decode cc pc = .ok (.astore i, 2)) (k : am_Cl p l e R s m args below meth c nL D cl ty cA B c0 z0 (pc + 2) (am_put ls i (.ref x)) rest G Q nE zE) : am_Cl p l e R s m args below meth c nL D cl ty cA B c0 z0 pc ls (.ref x :: rest) G Q nE zE := ⟨k.1, fun H locs lsR a1 a3 a4 a5 a6 a7 a8 => lv_astore F.1 F.2.1 hd a4 hn (am_put_real B ls i (.ref x)) (fun lsR' a4' => k.2 H locs lsR' a1 a3 a4' a5 a6 a7 a8)⟩
theorem am_t_astoren (F : am_Fx p R s m args meth c Tb Nb D cl ty cA B c0 own cc nL ret ini) {i : Fin 4} {x : Nat} (hn : i.val < nL) (hd : decode cc pc = .ok (.astore_n i, 1)) (k : am_Cl p l e R s m args below meth c nL D cl ty cA B c0 z0 (pc + 1) (am_put ls i.val (.ref x)) rest G Q nE zE) : am_Cl p l e R s m args below meth c nL D cl ty cA B c0 z0 pc ls (.ref x :: rest) G Q nE zE := ⟨k.1, fun H locs lsR a1 a3 a4 a5 a6 a7 a8 => lv_astore_n F.1 F.2.1 hd rfl a4 hn (am_put_real B ls i.val (.ref x)) (fun lsR' a4' => k.2 H locs lsR' a1 a3 a4' a5 a6 a7 a8)⟩
theorem am_t_iinc (F : am_Fx p R s m args meth c Tb Nb D cl ty cA B c0 own cc nL ret ini) {i : Nat} {n : Int} {x y : Int32} (hn : i < nL) (hv : Int32.ofInt n = y) (hg : am_get ls i = some (.int x)) (hd : decode cc pc = .ok (.iinc i n, 3)) (k : am_Cl p l e R s m args below meth c nL D cl ty cA B c0 z0 (pc + 3) (am_put ls i (.int (x + y))) rest G Q nE zE) : am_Cl p l e R s m args below meth c nL D cl ty cA B c0 z0 pc ls rest G Q nE zE := ⟨k.1, fun H locs lsR a1 a3 a4 a5 a6 a7 a8 => by
  obtain ⟨j, hj⟩ := List.getElem?_of_mem (am_get_mem hg)
  refine lv_iinc F.1 F.2.1 (k := j) hd a4 (by simp only [am_ml, List.getElem?_map, hj, Option.map_some]; rfl) (by rw [hv]) hn (am_put_real B ls i (.int (x + y))) (fun lsR' a4' => k.2 H locs lsR' a1 a3 a4' a5 a6 a7 a8)⟩
theorem am_t_iadd (F : am_Fx p R s m args meth c Tb Nb D cl ty cA B c0 own cc nL ret ini) {x y : Int32} (hd : decode cc pc = .ok (.iadd, 1)) (k : am_Cl p l e R s m args below meth c nL D cl ty cA B c0 z0 (pc + 1) ls (.int (x + y) :: rest) G Q nE zE) : am_Cl p l e R s m args below meth c nL D cl ty cA B c0 z0 pc ls (.int y :: .int x :: rest) G Q nE zE := ⟨k.1, fun H locs lsR a1 a3 a4 a5 a6 a7 a8 => lv_iadd F.1 F.2.1 hd (k.2 H locs lsR a1 a3 a4 a5 a6 a7 a8)⟩
theorem am_t_isub (F : am_Fx p R s m args meth c Tb Nb D cl ty cA B c0 own cc nL ret ini) {x y : Int32} (hd : decode cc pc = .ok (.isub, 1)) (k : am_Cl p l e R s m args below meth c nL D cl ty cA B c0 z0 (pc + 1) ls (.int (x - y) :: rest) G Q nE zE) : am_Cl p l e R s m args below meth c nL D cl ty cA B c0 z0 pc ls (.int y :: .int x :: rest) G Q nE zE := ⟨k.1, fun H locs lsR a1 a3 a4 a5 a6 a7 a8 => lv_isub F.1 F.2.1 hd (k.2 H locs lsR a1 a3 a4 a5 a6 a7 a8)⟩
theorem am_t_imul (F : am_Fx p R s m args meth c Tb Nb D cl ty cA B c0 own cc nL ret ini) {x y : Int32} (hd : decode cc pc = .ok (.imul, 1)) (k : am_Cl p l e R s m args below meth c nL D cl ty cA B c0 z0 (pc + 1) ls (.int (x * y) :: rest) G Q nE zE) : am_Cl p l e R s m args below meth c nL D cl ty cA B c0 z0 pc ls (.int y :: .int x :: rest) G Q nE zE := ⟨k.1, fun H locs lsR a1 a3 a4 a5 a6 a7 a8 => lv_imul F.1 F.2.1 hd (k.2 H locs lsR a1 a3 a4 a5 a6 a7 a8)⟩
theorem am_t_iand (F : am_Fx p R s m args meth c Tb Nb D cl ty cA B c0 own cc nL ret ini) {x y : Int32} (hd : decode cc pc = .ok (.iand, 1)) (k : am_Cl p l e R s m args below meth c nL D cl ty cA B c0 z0 (pc + 1) ls (.int (x &&& y) :: rest) G Q nE zE) : am_Cl p l e R s m args below meth c nL D cl ty cA B c0 z0 pc ls (.int y :: .int x :: rest) G Q nE zE := ⟨k.1, fun H locs lsR a1 a3 a4 a5 a6 a7 a8 => lv_iand F.1 F.2.1 hd (k.2 H locs lsR a1 a3 a4 a5 a6 a7 a8)⟩
theorem am_t_ishr (F : am_Fx p R s m args meth c Tb Nb D cl ty cA B c0 own cc nL ret ini) {x y : Int32} (hd : decode cc pc = .ok (.ishr, 1)) (k : am_Cl p l e R s m args below meth c nL D cl ty cA B c0 z0 (pc + 1) ls (.int (x >>> (y &&& 31)) :: rest) G Q nE zE) : am_Cl p l e R s m args below meth c nL D cl ty cA B c0 z0 pc ls (.int y :: .int x :: rest) G Q nE zE := ⟨k.1, fun H locs lsR a1 a3 a4 a5 a6 a7 a8 => lv_ishr F.1 F.2.1 hd (k.2 H locs lsR a1 a3 a4 a5 a6 a7 a8)⟩
theorem am_t_idiv (F : am_Fx p R s m args meth c Tb Nb D cl ty cA B c0 own cc nL ret ini) {x y : Int32} (hne : ¬ y = 0) (hd : decode cc pc = .ok (.idiv, 1)) (k : am_Cl p l e R s m args below meth c nL D cl ty cA B c0 z0 (pc + 1) ls (.int (x / y) :: rest) G Q nE zE) : am_Cl p l e R s m args below meth c nL D cl ty cA B c0 z0 pc ls (.int y :: .int x :: rest) G Q nE zE := ⟨k.1, fun H locs lsR a1 a3 a4 a5 a6 a7 a8 => lv_idiv F.1 F.2.1 hd hne (k.2 H locs lsR a1 a3 a4 a5 a6 a7 a8)⟩
theorem am_t_irem (F : am_Fx p R s m args meth c Tb Nb D cl ty cA B c0 own cc nL ret ini) {x y : Int32} (hne : ¬ y = 0) (hd : decode cc pc = .ok (.irem, 1)) (k : am_Cl p l e R s m args below meth c nL D cl ty cA B c0 z0 (pc + 1) ls (.int (x - x / y * y) :: rest) G Q nE zE) : am_Cl p l e R s m args below meth c nL D cl ty cA B c0 z0 pc ls (.int y :: .int x :: rest) G Q nE zE := ⟨k.1, fun H locs lsR a1 a3 a4 a5 a6 a7 a8 => lv_irem F.1 F.2.1 hd hne (k.2 H locs lsR a1 a3 a4 a5 a6 a7 a8)⟩
theorem am_t_land (F : am_Fx p R s m args meth c Tb Nb D cl ty cA B c0 own cc nL ret ini) {x y : Int64} (hd : decode cc pc = .ok (.land, 1)) (k : am_Cl p l e R s m args below meth c nL D cl ty cA B c0 z0 (pc + 1) ls (.long (x &&& y) :: rest) G Q nE zE) : am_Cl p l e R s m args below meth c nL D cl ty cA B c0 z0 pc ls (.long y :: .long x :: rest) G Q nE zE := ⟨k.1, fun H locs lsR a1 a3 a4 a5 a6 a7 a8 => lv_land F.1 F.2.1 hd (k.2 H locs lsR a1 a3 a4 a5 a6 a7 a8)⟩
theorem am_t_lor (F : am_Fx p R s m args meth c Tb Nb D cl ty cA B c0 own cc nL ret ini) {x y : Int64} (hd : decode cc pc = .ok (.lor, 1)) (k : am_Cl p l e R s m args below meth c nL D cl ty cA B c0 z0 (pc + 1) ls (.long (x ||| y) :: rest) G Q nE zE) : am_Cl p l e R s m args below meth c nL D cl ty cA B c0 z0 pc ls (.long y :: .long x :: rest) G Q nE zE := ⟨k.1, fun H locs lsR a1 a3 a4 a5 a6 a7 a8 => lv_lor F.1 F.2.1 hd (k.2 H locs lsR a1 a3 a4 a5 a6 a7 a8)⟩
theorem am_t_lshl (F : am_Fx p R s m args meth c Tb Nb D cl ty cA B c0 own cc nL ret ini) {x : Int64} {y : Int32} (hd : decode cc pc = .ok (.lshl, 1)) (k : am_Cl p l e R s m args below meth c nL D cl ty cA B c0 z0 (pc + 1) ls (.long (x <<< (y.toInt64 &&& 63)) :: rest) G Q nE zE) : am_Cl p l e R s m args below meth c nL D cl ty cA B c0 z0 pc ls (.int y :: .long x :: rest) G Q nE zE := ⟨k.1, fun H locs lsR a1 a3 a4 a5 a6 a7 a8 => lv_lshl F.1 F.2.1 hd rfl (k.2 H locs lsR a1 a3 a4 a5 a6 a7 a8)⟩
theorem am_t_lshr (F : am_Fx p R s m args meth c Tb Nb D cl ty cA B c0 own cc nL ret ini) {x : Int64} {y : Int32} (hd : decode cc pc = .ok (.lshr, 1)) (k : am_Cl p l e R s m args below meth c nL D cl ty cA B c0 z0 (pc + 1) ls (.long (x >>> (y.toInt64 &&& 63)) :: rest) G Q nE zE) : am_Cl p l e R s m args below meth c nL D cl ty cA B c0 z0 pc ls (.int y :: .long x :: rest) G Q nE zE := ⟨k.1, fun H locs lsR a1 a3 a4 a5 a6 a7 a8 => lv_lshr F.1 F.2.1 hd rfl (k.2 H locs lsR a1 a3 a4 a5 a6 a7 a8)⟩
theorem am_t_lushr (F : am_Fx p R s m args meth c Tb Nb D cl ty cA B c0 own cc nL ret ini) {x : Int64} {y : Int32} (hd : decode cc pc = .ok (.lushr, 1)) (k : am_Cl p l e R s m args below meth c nL D cl ty cA B c0 z0 (pc + 1) ls (.long (x.toUInt64 >>> (y.toInt64.toUInt64 &&& Int64.toUInt64 63)).toInt64 :: rest) G Q nE zE) : am_Cl p l e R s m args below meth c nL D cl ty cA B c0 z0 pc ls (.int y :: .long x :: rest) G Q nE zE := ⟨k.1, fun H locs lsR a1 a3 a4 a5 a6 a7 a8 => lv_lushr F.1 F.2.1 hd rfl (k.2 H locs lsR a1 a3 a4 a5 a6 a7 a8)⟩
theorem am_t_lcmp (F : am_Fx p R s m args meth c Tb Nb D cl ty cA B c0 own cc nL ret ini) {x y : Int64} (hd : decode cc pc = .ok (.lcmp, 1)) (k : am_Cl p l e R s m args below meth c nL D cl ty cA B c0 z0 (pc + 1) ls (.int (lg_cmp x y) :: rest) G Q nE zE) : am_Cl p l e R s m args below meth c nL D cl ty cA B c0 z0 pc ls (.long y :: .long x :: rest) G Q nE zE := ⟨k.1, fun H locs lsR a1 a3 a4 a5 a6 a7 a8 => W.lcmp F.1 F.2.1 hd (k.2 H locs lsR a1 a3 a4 a5 a6 a7 a8)⟩
theorem am_t_i2l (F : am_Fx p R s m args meth c Tb Nb D cl ty cA B c0 own cc nL ret ini) {x : Int32} (hd : decode cc pc = .ok (.i2l, 1)) (k : am_Cl p l e R s m args below meth c nL D cl ty cA B c0 z0 (pc + 1) ls (.long x.toInt64 :: rest) G Q nE zE) : am_Cl p l e R s m args below meth c nL D cl ty cA B c0 z0 pc ls (.int x :: rest) G Q nE zE := ⟨k.1, fun H locs lsR a1 a3 a4 a5 a6 a7 a8 => lv_i2l F.1 F.2.1 hd rfl (k.2 H locs lsR a1 a3 a4 a5 a6 a7 a8)⟩
theorem am_t_l2i (F : am_Fx p R s m args meth c Tb Nb D cl ty cA B c0 own cc nL ret ini) {x : Int64} (hd : decode cc pc = .ok (.l2i, 1)) (k : am_Cl p l e R s m args below meth c nL D cl ty cA B c0 z0 (pc + 1) ls (.int x.toInt32 :: rest) G Q nE zE) : am_Cl p l e R s m args below meth c nL D cl ty cA B c0 z0 pc ls (.long x :: rest) G Q nE zE := ⟨k.1, fun H locs lsR a1 a3 a4 a5 a6 a7 a8 => lv_l2i F.1 F.2.1 hd rfl (k.2 H locs lsR a1 a3 a4 a5 a6 a7 a8)⟩
theorem am_t_i2b (F : am_Fx p R s m args meth c Tb Nb D cl ty cA B c0 own cc nL ret ini) {x : Int32} (hd : decode cc pc = .ok (.i2b, 1)) (k : am_Cl p l e R s m args below meth c nL D cl ty cA B c0 z0 (pc + 1) ls (.int x.toInt8.toInt32 :: rest) G Q nE zE) : am_Cl p l e R s m args below meth c nL D cl ty cA B c0 z0 pc ls (.int x :: rest) G Q nE zE := ⟨k.1, fun H locs lsR a1 a3 a4 a5 a6 a7 a8 => lv_i2b F.1 F.2.1 hd rfl (k.2 H locs lsR a1 a3 a4 a5 a6 a7 a8)⟩
theorem am_t_dup (F : am_Fx p R s m args meth c Tb Nb D cl ty cA B c0 own cc nL ret ini) {x : Value} (hc : x.category = 1) (hd : decode cc pc = .ok (.dup, 1)) (k : am_Cl p l e R s m args below meth c nL D cl ty cA B c0 z0 (pc + 1) ls (x :: x :: rest) G Q nE zE) : am_Cl p l e R s m args below meth c nL D cl ty cA B c0 z0 pc ls (x :: rest) G Q nE zE := ⟨k.1, fun H locs lsR a1 a3 a4 a5 a6 a7 a8 => lv_dup F.1 F.2.1 hd ((am_rv_cat B x).trans hc) (k.2 H locs lsR a1 a3 a4 a5 a6 a7 a8)⟩
theorem am_t_pop (F : am_Fx p R s m args meth c Tb Nb D cl ty cA B c0 own cc nL ret ini) {x : Value} (hc : x.category = 1) (hd : decode cc pc = .ok (.pop, 1)) (k : am_Cl p l e R s m args below meth c nL D cl ty cA B c0 z0 (pc + 1) ls rest G Q nE zE) : am_Cl p l e R s m args below meth c nL D cl ty cA B c0 z0 pc ls (x :: rest) G Q nE zE := ⟨k.1, fun H locs lsR a1 a3 a4 a5 a6 a7 a8 => lv_pop F.1 F.2.1 hd ((am_rv_cat B x).trans hc) (k.2 H locs lsR a1 a3 a4 a5 a6 a7 a8)⟩
theorem am_t_dup2 (F : am_Fx p R s m args meth c Tb Nb D cl ty cA B c0 own cc nL ret ini) {x y : Value} (hc : x.category = 1) (hc2 : y.category = 1) (hd : decode cc pc = .ok (.dup2, 1)) (k : am_Cl p l e R s m args below meth c nL D cl ty cA B c0 z0 (pc + 1) ls (x :: y :: x :: y :: rest) G Q nE zE) : am_Cl p l e R s m args below meth c nL D cl ty cA B c0 z0 pc ls (x :: y :: rest) G Q nE zE := ⟨k.1, fun H locs lsR a1 a3 a4 a5 a6 a7 a8 => lv_dup2_11 F.1 F.2.1 hd ((am_rv_cat B x).trans hc) ((am_rv_cat B y).trans hc2) (k.2 H locs lsR a1 a3 a4 a5 a6 a7 a8)⟩
theorem am_t_goto (F : am_Fx p R s m args meth c Tb Nb D cl ty cA B c0 own cc nL ret ini) {off : Int} {t : Nat} (ht : (pc : Int) + off = (t : Int)) (hd : decode cc pc = .ok (.goto off, 3)) (k : am_Cl p l e R s m args below meth c nL D cl ty cA B c0 z0 t ls rest G Q nE zE) : am_Cl p l e R s m args below meth c nL D cl ty cA B c0 z0 pc ls rest G Q nE zE := ⟨k.1, fun H locs lsR a1 a3 a4 a5 a6 a7 a8 => lv_goto F.1 F.2.1 hd ht (k.2 H locs lsR a1 a3 a4 a5 a6 a7 a8)⟩
theorem am_t_icmp_eq (F : am_Fx p R s m args meth c Tb Nb D cl ty cA B c0 own cc nL ret ini) {off : Int} {t : Nat} {x y : Int32} (ht : (pc : Int) + off = (t : Int)) (hd : decode cc pc = .ok (.if_icmp .eq off, 3)) (kt : x = y → am_Cl p l e R s m args below meth c nL D cl ty cA B c0 z0 t ls rest G Q nE zE) (kf : ¬ (x = y) → am_Cl p l e R s m args below meth c nL D cl ty cA B c0 z0 (pc + 3) ls rest G Q nE zE) : am_Cl p l e R s m args below meth c nL D cl ty cA B c0 z0 pc ls (.int y :: .int x :: rest) G Q nE zE := ⟨by by_cases hc : x = y; exact (kt hc).1; exact (kf hc).1, fun H locs lsR a1 a3 a4 a5 a6 a7 a8 => lv_icmp_eq F.1 F.2.1 hd ht (fun hc => (kt hc).2 H locs lsR a1 a3 a4 a5 a6 a7 a8) (fun hc => (kf hc).2 H locs lsR a1 a3 a4 a5 a6 a7 a8)⟩
theorem am_t_if_eq (F : am_Fx p R s m args meth c Tb Nb D cl ty cA B c0 own cc nL ret ini) {off : Int} {t : Nat} {x : Int32} (ht : (pc : Int) + off = (t : Int)) (hd : decode cc pc = .ok (.ifCond .eq off, 3)) (kt : x = 0 → am_Cl p l e R s m args below meth c nL D cl ty cA B c0 z0 t ls rest G Q nE zE) (kf : ¬ (x = 0) → am_Cl p l e R s m args below meth c nL D cl ty cA B c0 z0 (pc + 3) ls rest G Q nE zE) : am_Cl p l e R s m args below meth c nL D cl ty cA B c0 z0 pc ls (.int x :: rest) G Q nE zE := ⟨by by_cases hc : x = 0; exact (kt hc).1; exact (kf hc).1, fun H locs lsR a1 a3 a4 a5 a6 a7 a8 => lv_if_eq F.1 F.2.1 hd ht (fun hc => (kt hc).2 H locs lsR a1 a3 a4 a5 a6 a7 a8) (fun hc => (kf hc).2 H locs lsR a1 a3 a4 a5 a6 a7 a8)⟩
theorem am_t_icmp_ne (F : am_Fx p R s m args meth c Tb Nb D cl ty cA B c0 own cc nL ret ini) {off : Int} {t : Nat} {x y : Int32} (ht : (pc : Int) + off = (t : Int)) (hd : decode cc pc = .ok (.if_icmp .ne off, 3)) (kt : x ≠ y → am_Cl p l e R s m args below meth c nL D cl ty cA B c0 z0 t ls rest G Q nE zE) (kf : ¬ (x ≠ y) → am_Cl p l e R s m args below meth c nL D cl ty cA B c0 z0 (pc + 3) ls rest G Q nE zE) : am_Cl p l e R s m args below meth c nL D cl ty cA B c0 z0 pc ls (.int y :: .int x :: rest) G Q nE zE := ⟨by by_cases hc : x ≠ y; exact (kt hc).1; exact (kf hc).1, fun H locs lsR a1 a3 a4 a5 a6 a7 a8 => lv_icmp_ne F.1 F.2.1 hd ht (fun hc => (kt hc).2 H locs lsR a1 a3 a4 a5 a6 a7 a8) (fun hc => (kf (fun h => h hc)).2 H locs lsR a1 a3 a4 a5 a6 a7 a8)⟩
theorem am_t_if_ne (F : am_Fx p R s m args meth c Tb Nb D cl ty cA B c0 own cc nL ret ini) {off : Int} {t : Nat} {x : Int32} (ht : (pc : Int) + off = (t : Int)) (hd : decode cc pc = .ok (.ifCond .ne off, 3)) (kt : x ≠ 0 → am_Cl p l e R s m args below meth c nL D cl ty cA B c0 z0 t ls rest G Q nE zE) (kf : ¬ (x ≠ 0) → am_Cl p l e R s m args below meth c nL D cl ty cA B c0 z0 (pc + 3) ls rest G Q nE zE) : am_Cl p l e R s m args below meth c nL D cl ty cA B c0 z0 pc ls (.int x :: rest) G Q nE zE := ⟨by by_cases hc : x ≠ 0; exact (kt hc).1; exact (kf hc).1, fun H locs lsR a1 a3 a4 a5 a6 a7 a8 => lv_if_ne F.1 F.2.1 hd ht (fun hc => (kt hc).2 H locs lsR a1 a3 a4 a5 a6 a7 a8) (fun hc => (kf (fun h => h hc)).2 H locs lsR a1 a3 a4 a5 a6 a7 a8)⟩
theorem am_t_icmp_lt (F : am_Fx p R s m args meth c Tb Nb D cl ty cA B c0 own cc nL ret ini) {off : Int} {t : Nat} {x y : Int32} (ht : (pc : Int) + off = (t : Int)) (hd : decode cc pc = .ok (.if_icmp .lt off, 3)) (kt : x < y → am_Cl p l e R s m args below meth c nL D cl ty cA B c0 z0 t ls rest G Q nE zE) (kf : ¬ (x < y) → am_Cl p l e R s m args below meth c nL D cl ty cA B c0 z0 (pc + 3) ls rest G Q nE zE) : am_Cl p l e R s m args below meth c nL D cl ty cA B c0 z0 pc ls (.int y :: .int x :: rest) G Q nE zE := ⟨by by_cases hc : x < y; exact (kt hc).1; exact (kf hc).1, fun H locs lsR a1 a3 a4 a5 a6 a7 a8 => lv_icmp_lt F.1 F.2.1 hd ht (fun hc => (kt hc).2 H locs lsR a1 a3 a4 a5 a6 a7 a8) (fun hc => (kf hc).2 H locs lsR a1 a3 a4 a5 a6 a7 a8)⟩
theorem am_t_if_lt (F : am_Fx p R s m args meth c Tb Nb D cl ty cA B c0 own cc nL ret ini) {off : Int} {t : Nat} {x : Int32} (ht : (pc : Int) + off = (t : Int)) (hd : decode cc pc = .ok (.ifCond .lt off, 3)) (kt : x < 0 → am_Cl p l e R s m args below meth c nL D cl ty cA B c0 z0 t ls rest G Q nE zE) (kf : ¬ (x < 0) → am_Cl p l e R s m args below meth c nL D cl ty cA B c0 z0 (pc + 3) ls rest G Q nE zE) : am_Cl p l e R s m args below meth c nL D cl ty cA B c0 z0 pc ls (.int x :: rest) G Q nE zE := ⟨by by_cases hc : x < 0; exact (kt hc).1; exact (kf hc).1, fun H locs lsR a1 a3 a4 a5 a6 a7 a8 => lv_if_lt F.1 F.2.1 hd ht (fun hc => (kt hc).2 H locs lsR a1 a3 a4 a5 a6 a7 a8) (fun hc => (kf hc).2 H locs lsR a1 a3 a4 a5 a6 a7 a8)⟩
theorem am_t_icmp_ge (F : am_Fx p R s m args meth c Tb Nb D cl ty cA B c0 own cc nL ret ini) {off : Int} {t : Nat} {x y : Int32} (ht : (pc : Int) + off = (t : Int)) (hd : decode cc pc = .ok (.if_icmp .ge off, 3)) (kt : y ≤ x → am_Cl p l e R s m args below meth c nL D cl ty cA B c0 z0 t ls rest G Q nE zE) (kf : ¬ (y ≤ x) → am_Cl p l e R s m args below meth c nL D cl ty cA B c0 z0 (pc + 3) ls rest G Q nE zE) : am_Cl p l e R s m args below meth c nL D cl ty cA B c0 z0 pc ls (.int y :: .int x :: rest) G Q nE zE := ⟨by by_cases hc : y ≤ x; exact (kt hc).1; exact (kf hc).1, fun H locs lsR a1 a3 a4 a5 a6 a7 a8 => lv_icmp_ge F.1 F.2.1 hd ht (fun hc => (kt hc).2 H locs lsR a1 a3 a4 a5 a6 a7 a8) (fun hc => (kf hc).2 H locs lsR a1 a3 a4 a5 a6 a7 a8)⟩
theorem am_t_if_ge (F : am_Fx p R s m args meth c Tb Nb D cl ty cA B c0 own cc nL ret ini) {off : Int} {t : Nat} {x : Int32} (ht : (pc : Int) + off = (t : Int)) (hd : decode cc pc = .ok (.ifCond .ge off, 3)) (kt : 0 ≤ x → am_Cl p l e R s m args below meth c nL D cl ty cA B c0 z0 t ls rest G Q nE zE) (kf : ¬ (0 ≤ x) → am_Cl p l e R s m args below meth c nL D cl ty cA B c0 z0 (pc + 3) ls rest G Q nE zE) : am_Cl p l e R s m args below meth c nL D cl ty cA B c0 z0 pc ls (.int x :: rest) G Q nE zE := ⟨by by_cases hc : 0 ≤ x; exact (kt hc).1; exact (kf hc).1, fun H locs lsR a1 a3 a4 a5 a6 a7 a8 => lv_if_ge F.1 F.2.1 hd ht (fun hc => (kt hc).2 H locs lsR a1 a3 a4 a5 a6 a7 a8) (fun hc => (kf hc).2 H locs lsR a1 a3 a4 a5 a6 a7 a8)⟩
theorem am_t_icmp_gt (F : am_Fx p R s m args meth c Tb Nb D cl ty cA B c0 own cc nL ret ini) {off : Int} {t : Nat} {x y : Int32} (ht : (pc : Int) + off = (t : Int)) (hd : decode cc pc = .ok (.if_icmp .gt off, 3)) (kt : y < x → am_Cl p l e R s m args below meth c nL D cl ty cA B c0 z0 t ls rest G Q nE zE) (kf : ¬ (y < x) → am_Cl p l e R s m args below meth c nL D cl ty cA B c0 z0 (pc + 3) ls rest G Q nE zE) : am_Cl p l e R s m args below meth c nL D cl ty cA B c0 z0 pc ls (.int y :: .int x :: rest) G Q nE zE := ⟨by by_cases hc : y < x; exact (kt hc).1; exact (kf hc).1, fun H locs lsR a1 a3 a4 a5 a6 a7 a8 => lv_icmp_gt F.1 F.2.1 hd ht (fun hc => (kt hc).2 H locs lsR a1 a3 a4 a5 a6 a7 a8) (fun hc => (kf hc).2 H locs lsR a1 a3 a4 a5 a6 a7 a8)⟩
theorem am_t_if_gt (F : am_Fx p R s m args meth c Tb Nb D cl ty cA B c0 own cc nL ret ini) {off : Int} {t : Nat} {x : Int32} (ht : (pc : Int) + off = (t : Int)) (hd : decode cc pc = .ok (.ifCond .gt off, 3)) (kt : 0 < x → am_Cl p l e R s m args below meth c nL D cl ty cA B c0 z0 t ls rest G Q nE zE) (kf : ¬ (0 < x) → am_Cl p l e R s m args below meth c nL D cl ty cA B c0 z0 (pc + 3) ls rest G Q nE zE) : am_Cl p l e R s m args below meth c nL D cl ty cA B c0 z0 pc ls (.int x :: rest) G Q nE zE := ⟨by by_cases hc : 0 < x; exact (kt hc).1; exact (kf hc).1, fun H locs lsR a1 a3 a4 a5 a6 a7 a8 => lv_if_gt F.1 F.2.1 hd ht (fun hc => (kt hc).2 H locs lsR a1 a3 a4 a5 a6 a7 a8) (fun hc => (kf hc).2 H locs lsR a1 a3 a4 a5 a6 a7 a8)⟩
theorem am_t_icmp_le (F : am_Fx p R s m args meth c Tb Nb D cl ty cA B c0 own cc nL ret ini) {off : Int} {t : Nat} {x y : Int32} (ht : (pc : Int) + off = (t : Int)) (hd : decode cc pc = .ok (.if_icmp .le off, 3)) (kt : x ≤ y → am_Cl p l e R s m args below meth c nL D cl ty cA B c0 z0 t ls rest G Q nE zE) (kf : ¬ (x ≤ y) → am_Cl p l e R s m args below meth c nL D cl ty cA B c0 z0 (pc + 3) ls rest G Q nE zE) : am_Cl p l e R s m args below meth c nL D cl ty cA B c0 z0 pc ls (.int y :: .int x :: rest) G Q nE zE := ⟨by by_cases hc : x ≤ y; exact (kt hc).1; exact (kf hc).1, fun H locs lsR a1 a3 a4 a5 a6 a7 a8 => lv_icmp_le F.1 F.2.1 hd ht (fun hc => (kt hc).2 H locs lsR a1 a3 a4 a5 a6 a7 a8) (fun hc => (kf hc).2 H locs lsR a1 a3 a4 a5 a6 a7 a8)⟩
theorem am_t_if_le (F : am_Fx p R s m args meth c Tb Nb D cl ty cA B c0 own cc nL ret ini) {off : Int} {t : Nat} {x : Int32} (ht : (pc : Int) + off = (t : Int)) (hd : decode cc pc = .ok (.ifCond .le off, 3)) (kt : x ≤ 0 → am_Cl p l e R s m args below meth c nL D cl ty cA B c0 z0 t ls rest G Q nE zE) (kf : ¬ (x ≤ 0) → am_Cl p l e R s m args below meth c nL D cl ty cA B c0 z0 (pc + 3) ls rest G Q nE zE) : am_Cl p l e R s m args below meth c nL D cl ty cA B c0 z0 pc ls (.int x :: rest) G Q nE zE := ⟨by by_cases hc : x ≤ 0; exact (kt hc).1; exact (kf hc).1, fun H locs lsR a1 a3 a4 a5 a6 a7 a8 => lv_if_le F.1 F.2.1 hd ht (fun hc => (kt hc).2 H locs lsR a1 a3 a4 a5 a6 a7 a8) (fun hc => (kf hc).2 H locs lsR a1 a3 a4 a5 a6 a7 a8)⟩
/-- the heap's size, from the walk's own book -/
theorem am_hsz (F : am_Fx p R s m args meth c Tb Nb D cl ty cA B c0 own cc nL ret ini) {H : Heap} {T : State} {locs : List Loc} {sl : Nat} (hT : T.heap = H) (X : Stand p l e R s m args below meth c T locs (G.1.length - c0) sl) (a1 : va_P D cl (am_w ty cA B G) H) (a3 : va_S (fun q => B ≤ q) s.heap H locs) (a5 : c0 ≤ G.1.length) : H.size = B + G.1.length := by
  have h1 := X.heapSize
  have h2 := F.2.2.2.2.2.2.2.2.2.2.1
  have h3 := a3.1
  rw [hT] at h1
  rcases Nat.eq_or_lt_of_le a5 with e | e
  · omega
  · obtain ⟨sh, hsh⟩ : ∃ sh, G.1[G.1.length - 1]? = some sh := ⟨_, List.getElem?_eq_getElem (by omega)⟩
    have h4 := (a1 _ _ (am_w_get hsh)).lt
    dsimp only at h4
    omega
theorem am_withsz (F : am_Fx p R s m args meth c Tb Nb D cl ty cA B c0 own cc nL ret ini) {H : Heap} {locs : List Loc} {sl : Nat} {Q : State → Prop} {g : JFrame} (a1 : va_P D cl (am_w ty cA B G) H) (a3 : va_S (fun q => B ≤ q) s.heap H locs) (a5 : c0 ≤ G.1.length) (k : H.size = B + G.1.length → W p l e R s m args below meth c H locs (G.1.length - c0) sl Q g) : W p l e R s m args below meth c H locs (G.1.length - c0) sl Q g := fun U hU X => k (am_hsz F hU X a1 a3 a5) U hU X
theorem am_sz_app (a : List am_Sh) (sh : am_Sh) : am_sz (a ++ [sh]) = am_sz a + sh.2.1 := by
  induction a with
  | nil => simp [am_sz]
  | cons x r ih => simp only [List.cons_append, am_sz, ih]; omega
theorem am_sz_set {a : List am_Sh} {r : Nat} {sh sh' : am_Sh} (h : a[r]? = some sh) (e : sh'.2.1 = sh.2.1) : am_sz (a.set r sh') = am_sz a := by
  induction a generalizing r with
  | nil => simp at h
  | cons x t ih =>
    cases r with
    | zero => simp at h; subst h; simp [am_sz, e]
    | succ r => simp at h; simp [am_sz, ih h]
theorem am_si_self (h : Nat → Nat → Int32) (x k : Nat) (z : Int32) : am_si h x k z x = upd (h x) k z := by funext j; simp [am_si, upd]
theorem am_si_ne {h : Nat → Nat → Int32} {x k : Nat} {z : Int32} {i : Nat} (hi : i ≠ x) : am_si h x k z i = h i := by funext j; simp [am_si, hi]
theorem am_sl_self (h : Nat → Nat → Int64) (x k : Nat) (z : Int64) : am_sl h x k z x = vp_updL (h x) k z := by funext j; simp [am_sl, vp_updL]
theorem am_sl_ne {h : Nat → Nat → Int64} {x k : Nat} {z : Int64} {i : Nat} (hi : i ≠ x) : am_sl h x k z i = h i := by funext j; simp [am_sl, hi]
theorem am_sr_self (h : Nat → Nat → Int32) (x : Nat) (f : Nat → Int32) : am_sr h x f x = f := by funext j; simp [am_sr]
theorem am_sr_ne {h : Nat → Nat → Int32} {x : Nat} {f : Nat → Int32} {i : Nat} (hi : i ≠ x) : am_sr h x f i = h i := by funext j; simp [am_sr, hi]
theorem am_srl_self (h : Nat → Nat → Int64) (x : Nat) (f : Nat → Int64) : am_srl h x f x = f := by funext j; simp [am_srl]
theorem am_srl_ne {h : Nat → Nat → Int64} {x : Nat} {f : Nat → Int64} {i : Nat} (hi : i ≠ x) : am_srl h x f i = h i := by funext j; simp [am_srl, hi]
theorem am_ent_congr {G G1 : am_G} {i : Nat} {sh : am_Sh} (h1 : G1.2.1 i = G.2.1 i) (h2 : G1.2.2 i = G.2.2 i) : am_ent ty cA B G1 i sh = am_ent ty cA B G i sh := by
  unfold am_ent
  rw [h1, h2]
/-- one cell's numbers changed -/
theorem am_w_num {G G1 : am_G} {x : Nat} {sh : am_Sh} (h : G.1[x]? = some sh) (h0 : G1.1 = G.1) (h1 : ∀ i, i ≠ x → G1.2.1 i = G.2.1 i) (h2 : ∀ i, i ≠ x → G1.2.2 i = G.2.2 i) : am_w ty cA B G1 = (am_w ty cA B G).set x (B + x, am_ent ty cA B G1 x sh) := by
  refine am_w_set (am_w_get (by rw [h0]; exact h)) (by rw [h0]) (fun i hi => ?_)
  simp only [am_w, List.getElem?_mapIdx, h0]
  cases G.1[i]? with
  | none => rfl
  | some t => simp only [Option.map_some]; rw [am_ent_congr (h1 i hi) (h2 i hi)]
theorem am_fset {f g : Nat → Value} {n k : Nat} {w : Value} (hk : k < n) (h1 : ∀ j, j ≠ k → g j = f j) (h2 : g k = w) : (List.range n).map g = ((List.range n).map f).set k w := by
  apply List.ext_getElem?
  intro j
  by_cases hj : j = k
  · subst hj
    rw [List.getElem?_set_self (by simpa using hk), List.getElem?_map, List.getElem?_range hk, Option.map_some, h2]
  · rw [List.getElem?_set_ne (Ne.symm hj), List.getElem?_map, List.getElem?_map]
    cases hq : (List.range n)[j]? with
    | none => rfl
    | some q =>
      have : q = j := by
        have := List.getElem?_eq_some_iff.mp hq
        obtain ⟨a, b⟩ := this
        rw [← b, List.getElem_range]
      rw [this, Option.map_some, Option.map_some, h1 j hj]
/-- an object's cell, and an array's -/
theorem am_ent_o {G : am_G} {x : Nat} {sh : am_Sh} (h : sh.1 < 100) : am_ent ty cA B G x sh = .inr (sh.1, (List.range sh.2.1).map fun k => am_fval B (ty sh.1 k) (G.2.1 x k) (G.2.2 x k) (sh.2.2.getD k 0)) := by
  unfold am_ent
  rw [if_pos h]
theorem am_ent_l {G : am_G} {x : Nat} {sh : am_Sh} (h : sh.1 = 101) : am_ent ty cA B G x sh = .inl (cA 101, sh.2.1, .inr (.inl (G.2.2 x))) := by
  unfold am_ent
  rw [if_neg (by omega), if_pos h]
theorem am_ent_i {G : am_G} {x : Nat} {sh : am_Sh} (h : 100 ≤ sh.1) (h2 : sh.1 ≠ 101) : am_ent ty cA B G x sh = .inl (cA sh.1, sh.2.1, .inl (G.2.1 x)) := by
  unfold am_ent
  rw [if_neg (by omega), if_neg h2]
theorem am_fval_i {t : FieldType} (h : am_sort t = 0 ∨ am_sort t = 3) (B : Nat) (a : Int32) (b : Int64) (q : Nat) : am_fval B t a b q = .int a := by
  unfold am_fval
  rcases h with h | h <;> rw [h] <;> rfl
theorem am_fval_l {t : FieldType} (h : am_sort t = 1) (B : Nat) (a : Int32) (b : Int64) (q : Nat) : am_fval B t a b q = .long b := by
  unfold am_fval
  rw [h]
  rfl
theorem am_fval_r {t : FieldType} (h : am_sort t = 2) (B : Nat) (a : Int32) (b : Int64) (q : Nat) : am_fval B t a b (q + 1) = .ref (B + q) := by
  unfold am_fval
  rw [h]
  rfl
theorem am_fval_n {t : FieldType} (h : am_sort t ≠ 9) (B : Nat) : am_fval B t 0 0 0 = defaultValue t := by
  cases t <;> first | rfl | exact absurd rfl h
theorem am_t_getf (F : am_Fx p R s m args meth c Tb Nb D cl ty cA B c0 own cc nL ret ini) (hg : am_Cg Tb cl ty) {index ci k x : Nat} {q : vw_C} {sh : am_Sh} {w : Value} (hcl : cl[ci]? = some q) (hk : k < q.2.2) (hlk : Jvm.Cond.fieldLink own index (q.2.1 k).1 (q.2.1 k).2.1 (q.2.1 k).2.2.1 ∈ Tb) (hci : ci < 100) (hsh : G.1[x]? = some sh) (hs1 : sh.1 = ci) (hs2 : k < sh.2.1) (hw : am_fval B (ty ci k) (G.2.1 x k) (G.2.2 x k) (sh.2.2.getD k 0) = am_rv B w) (hd : decode cc pc = .ok (.getfield index, 3)) (k1 : am_Cl p l e R s m args below meth c nL D cl ty cA B c0 z0 (pc + 3) ls (w :: rest) G Q nE zE) : am_Cl p l e R s m args below meth c nL D cl ty cA B c0 z0 pc ls (.ref x :: rest) G Q nE zE := by
  obtain ⟨C, T, N⟩ := q
  subst hs1
  refine ⟨k1.1, fun H locs lsR a1 a3 a4 a5 a6 a7 a8 => ?_⟩
  have he := am_w_get (ty := ty) (cA := cA) (B := B) hsh
  rw [am_ent_o hci] at he
  refine va_get F.1 F.2.1 F.2.2.2.2.1 (hg _ _ hcl).1 F.2.2.2.1 F.2.2.2.2.2.2.1 a1 x he hcl k hk (F.2.2.2.2.1 _ hlk) (fun _ h => h) (v := am_rv B w) ?_ hd (k1.2 H locs lsR a1 a3 a4 a5 a6 a7 a8)
  rw [List.getElem?_map, List.getElem?_range hs2, Option.map_some, hw]
theorem am_t_putf (F : am_Fx p R s m args meth c Tb Nb D cl ty cA B c0 own cc nL ret ini) (hg : am_Cg Tb cl ty) {index ci k x : Nat} {q : vw_C} {sh : am_Sh} {w : Value} {G1 : am_G} (hcl : cl[ci]? = some q) (hk : k < q.2.2) (hlk : Jvm.Cond.fieldLink own index (q.2.1 k).1 (q.2.1 k).2.1 (q.2.1 k).2.2.1 ∈ Tb) (hci : ci < 100) (hsh : G.1[x]? = some sh) (hs1 : sh.1 = ci) (hs2 : k < sh.2.1) (hfin : (q.2.1 k).2.2.2 = false ∨ ((q.2.1 k).2.2.2 = true ∧ ini = true ∧ (q.2.1 k).1 = own)) (hn : narrow (ty ci k) (am_rv B w) = am_rv B w) (hf : fits (ty ci k) (am_rv B w) = true) (hset : am_w ty cA B G1 = (am_w ty cA B G).set x (B + x, .inr (ci, ((List.range sh.2.1).map fun k => am_fval B (ty sh.1 k) (G.2.1 x k) (G.2.2 x k) (sh.2.2.getD k 0)).set k (am_rv B w)))) (hlen : G1.1.length = G.1.length) (hsz : am_sz G1.1 = am_sz G.1) (hd : decode cc pc = .ok (.putfield index, 3)) (k1 : am_Cl p l e R s m args below meth c nL D cl ty cA B c0 z0 (pc + 3) ls rest G1 Q nE zE) : am_Cl p l e R s m args below meth c nL D cl ty cA B c0 z0 pc ls (w :: .ref x :: rest) G Q nE zE := by
  obtain ⟨C, T, N⟩ := q
  subst hs1
  have k2 := k1.2
  rw [hlen, hsz] at k2
  refine ⟨by rw [← hlen, ← hsz]; exact k1.1, fun H locs lsR a1 a3 a4 a5 a6 a7 a8 => ?_⟩
  have he := am_w_get (ty := ty) (cA := cA) (B := B) hsh
  rw [am_ent_o hci] at he
  rcases hfin with hfin | ⟨hfin, hini, hown⟩
  · refine va_put F.1 F.2.1 F.2.2.2.2.1 (hg _ _ hcl).1 (ty sh.1) (hg _ _ hcl).2.1 (hg _ _ hcl).2.2 F.2.2.2.1 F.2.2.2.2.2.2.1 a1 (am_w_D ty cA B G) a3 x he hcl k hk (F.2.2.2.2.1 _ hlk) (fun _ h => h) hfin ((hg _ _ hcl).2.1 k hk) hn hf (by simpa using hs2) hd (fun H1 locs1 b1 b2 b3 => ?_)
    exact k2 H1 locs1 lsR (by rw [hset]; exact b1) b3 a4 a5 a6 a7 a8
  · refine va_putF F.1 F.2.1 F.2.2.2.2.1 (hg _ _ hcl).1 (ty sh.1) (hg _ _ hcl).2.1 (hg _ _ hcl).2.2 F.2.2.2.1 F.2.2.2.2.2.2.1 a1 (am_w_D ty cA B G) a3 x he hcl k hk (F.2.2.2.2.1 _ hlk) (fun _ h => h) hfin (F.2.2.2.2.2.2.2.2.2.1 hini) hown ((hg _ _ hcl).2.1 k hk) hn hf (by simpa using hs2) hd (fun H1 locs1 b1 b2 b3 => ?_)
    exact k2 H1 locs1 lsR (by rw [hset]; exact b1) b3 a4 a5 a6 a7 a8
theorem am_t_iald (F : am_Fx p R s m args meth c Tb Nb D cl ty cA B c0 own cc nL ret ini) {x : Nat} {i : Int32} {sh : am_Sh} (hsh : G.1[x]? = some sh) (hs1 : sh.1 = 100) (hin : ¬ am_bad i sh.2.1) (hd : decode cc pc = .ok (.iaload, 1)) (k : am_Cl p l e R s m args below meth c nL D cl ty cA B c0 z0 (pc + 1) ls (.int (G.2.1 x i.toNatClampNeg) :: rest) G Q nE zE) : am_Cl p l e R s m args below meth c nL D cl ty cA B c0 z0 pc ls (.int i :: .ref x :: rest) G Q nE zE := by
  refine ⟨k.1, fun H locs lsR a1 a3 a4 a5 a6 a7 a8 => ?_⟩
  have he := am_w_get (ty := ty) (cA := cA) (B := B) hsh
  rw [am_ent_i (by omega) (by omega)] at he
  rw [hs1] at he
  exact va_iald F.1 F.2.1 F.2.2.2.2.2.2.1 a1 x 0 he rfl hin hd (k.2 H locs lsR a1 a3 a4 a5 a6 a7 a8)
theorem am_t_bald (F : am_Fx p R s m args meth c Tb Nb D cl ty cA B c0 own cc nL ret ini) {x : Nat} {i : Int32} {sh : am_Sh} (hsh : G.1[x]? = some sh) (hs1 : sh.1 = 102) (hin : ¬ am_bad i sh.2.1) (hd : decode cc pc = .ok (.baload, 1)) (k : am_Cl p l e R s m args below meth c nL D cl ty cA B c0 z0 (pc + 1) ls (.int (G.2.1 x i.toNatClampNeg) :: rest) G Q nE zE) : am_Cl p l e R s m args below meth c nL D cl ty cA B c0 z0 pc ls (.int i :: .ref x :: rest) G Q nE zE := by
  refine ⟨k.1, fun H locs lsR a1 a3 a4 a5 a6 a7 a8 => ?_⟩
  have he := am_w_get (ty := ty) (cA := cA) (B := B) hsh
  rw [am_ent_i (by omega) (by omega)] at he
  rw [hs1] at he
  exact va_bald F.1 F.2.1 F.2.2.2.2.2.2.1 a1 x 2 he rfl hin hd (k.2 H locs lsR a1 a3 a4 a5 a6 a7 a8)
theorem am_t_zald (F : am_Fx p R s m args meth c Tb Nb D cl ty cA B c0 own cc nL ret ini) {x : Nat} {i : Int32} {sh : am_Sh} (hsh : G.1[x]? = some sh) (hs1 : sh.1 = 103) (hin : ¬ am_bad i sh.2.1) (hd : decode cc pc = .ok (.baload, 1)) (k : am_Cl p l e R s m args below meth c nL D cl ty cA B c0 z0 (pc + 1) ls (.int (G.2.1 x i.toNatClampNeg) :: rest) G Q nE zE) : am_Cl p l e R s m args below meth c nL D cl ty cA B c0 z0 pc ls (.int i :: .ref x :: rest) G Q nE zE := by
  refine ⟨k.1, fun H locs lsR a1 a3 a4 a5 a6 a7 a8 => ?_⟩
  have he := am_w_get (ty := ty) (cA := cA) (B := B) hsh
  rw [am_ent_i (by omega) (by omega)] at he
  rw [hs1] at he
  exact va_zald F.1 F.2.1 F.2.2.2.2.2.2.1 a1 x 3 he rfl hin hd (k.2 H locs lsR a1 a3 a4 a5 a6 a7 a8)
theorem am_t_lald (F : am_Fx p R s m args meth c Tb Nb D cl ty cA B c0 own cc nL ret ini) {x : Nat} {i : Int32} {sh : am_Sh} (hsh : G.1[x]? = some sh) (hs1 : sh.1 = 101) (hin : ¬ am_bad i sh.2.1) (hd : decode cc pc = .ok (.laload, 1)) (k : am_Cl p l e R s m args below meth c nL D cl ty cA B c0 z0 (pc + 1) ls (.long (G.2.2 x i.toNatClampNeg) :: rest) G Q nE zE) : am_Cl p l e R s m args below meth c nL D cl ty cA B c0 z0 pc ls (.int i :: .ref x :: rest) G Q nE zE := by
  refine ⟨k.1, fun H locs lsR a1 a3 a4 a5 a6 a7 a8 => ?_⟩
  have he := am_w_get (ty := ty) (cA := cA) (B := B) hsh
  rw [am_ent_l hs1] at he
  
  exact va_lald F.1 F.2.1 F.2.2.2.2.2.2.1 a1 x 1 he rfl hin hd (k.2 H locs lsR a1 a3 a4 a5 a6 a7 a8)
theorem am_t_iast (F : am_Fx p R s m args meth c Tb Nb D cl ty cA B c0 own cc nL ret ini) {x : Nat} {i : Int32} {z : Int32} {sh : am_Sh} (hsh : G.1[x]? = some sh) (hs1 : sh.1 = 100) (hin : ¬ am_bad i sh.2.1) (hd : decode cc pc = .ok (.iastore, 1)) (k : am_Cl p l e R s m args below meth c nL D cl ty cA B c0 z0 (pc + 1) ls rest (G.1, am_si G.2.1 x i.toNatClampNeg z, G.2.2) Q nE zE) : am_Cl p l e R s m args below meth c nL D cl ty cA B c0 z0 pc ls (.int z :: .int i :: .ref x :: rest) G Q nE zE := by
  refine ⟨k.1, fun H locs lsR a1 a3 a4 a5 a6 a7 a8 => ?_⟩
  have he := am_w_get (ty := ty) (cA := cA) (B := B) hsh
  have hw := am_w_num (ty := ty) (cA := cA) (B := B) (G1 := (G.1, am_si G.2.1 x i.toNatClampNeg z, G.2.2)) hsh rfl (fun _ hi => am_si_ne hi) (fun _ _ => rfl)
  rw [am_ent_i (by omega) (by omega)] at he hw
  rw [hs1] at he hw
  dsimp only at hw
  rw [am_si_self] at hw
  refine va_iast F.1 F.2.1 F.2.2.2.2.2.2.1 a1 (am_w_D ty cA B G) a3 x 0 he rfl hin hd (fun H1 locs1 b1 b2 b3 => ?_)
  exact k.2 H1 locs1 lsR (by rw [hw]; exact b1) b3 a4 a5 a6 a7 a8
theorem am_t_bast (F : am_Fx p R s m args meth c Tb Nb D cl ty cA B c0 own cc nL ret ini) {x : Nat} {i : Int32} {z : Int32} {sh : am_Sh} (hsh : G.1[x]? = some sh) (hs1 : sh.1 = 102) (hin : ¬ am_bad i sh.2.1) (hd : decode cc pc = .ok (.bastore, 1)) (k : am_Cl p l e R s m args below meth c nL D cl ty cA B c0 z0 (pc + 1) ls rest (G.1, am_si G.2.1 x i.toNatClampNeg (vp_nar .byte z), G.2.2) Q nE zE) : am_Cl p l e R s m args below meth c nL D cl ty cA B c0 z0 pc ls (.int z :: .int i :: .ref x :: rest) G Q nE zE := by
  refine ⟨k.1, fun H locs lsR a1 a3 a4 a5 a6 a7 a8 => ?_⟩
  have he := am_w_get (ty := ty) (cA := cA) (B := B) hsh
  have hw := am_w_num (ty := ty) (cA := cA) (B := B) (G1 := (G.1, am_si G.2.1 x i.toNatClampNeg (vp_nar .byte z), G.2.2)) hsh rfl (fun _ hi => am_si_ne hi) (fun _ _ => rfl)
  rw [am_ent_i (by omega) (by omega)] at he hw
  rw [hs1] at he hw
  dsimp only at hw
  rw [am_si_self] at hw
  refine va_bast F.1 F.2.1 F.2.2.2.2.2.2.1 a1 (am_w_D ty cA B G) a3 x 2 he rfl hin hd (fun H1 locs1 b1 b2 b3 => ?_)
  exact k.2 H1 locs1 lsR (by rw [hw]; exact b1) b3 a4 a5 a6 a7 a8
theorem am_t_zast (F : am_Fx p R s m args meth c Tb Nb D cl ty cA B c0 own cc nL ret ini) {x : Nat} {i : Int32} {z : Int32} {sh : am_Sh} (hsh : G.1[x]? = some sh) (hs1 : sh.1 = 103) (hin : ¬ am_bad i sh.2.1) (hd : decode cc pc = .ok (.bastore, 1)) (k : am_Cl p l e R s m args below meth c nL D cl ty cA B c0 z0 (pc + 1) ls rest (G.1, am_si G.2.1 x i.toNatClampNeg (vp_nar .boolean z), G.2.2) Q nE zE) : am_Cl p l e R s m args below meth c nL D cl ty cA B c0 z0 pc ls (.int z :: .int i :: .ref x :: rest) G Q nE zE := by
  refine ⟨k.1, fun H locs lsR a1 a3 a4 a5 a6 a7 a8 => ?_⟩
  have he := am_w_get (ty := ty) (cA := cA) (B := B) hsh
  have hw := am_w_num (ty := ty) (cA := cA) (B := B) (G1 := (G.1, am_si G.2.1 x i.toNatClampNeg (vp_nar .boolean z), G.2.2)) hsh rfl (fun _ hi => am_si_ne hi) (fun _ _ => rfl)
  rw [am_ent_i (by omega) (by omega)] at he hw
  rw [hs1] at he hw
  dsimp only at hw
  rw [am_si_self] at hw
  refine va_zast F.1 F.2.1 F.2.2.2.2.2.2.1 a1 (am_w_D ty cA B G) a3 x 3 he rfl hin hd (fun H1 locs1 b1 b2 b3 => ?_)
  exact k.2 H1 locs1 lsR (by rw [hw]; exact b1) b3 a4 a5 a6 a7 a8
theorem am_t_last (F : am_Fx p R s m args meth c Tb Nb D cl ty cA B c0 own cc nL ret ini) {x : Nat} {i : Int32} {z : Int64} {sh : am_Sh} (hsh : G.1[x]? = some sh) (hs1 : sh.1 = 101) (hin : ¬ am_bad i sh.2.1) (hd : decode cc pc = .ok (.lastore, 1)) (k : am_Cl p l e R s m args below meth c nL D cl ty cA B c0 z0 (pc + 1) ls rest (G.1, G.2.1, am_sl G.2.2 x i.toNatClampNeg z) Q nE zE) : am_Cl p l e R s m args below meth c nL D cl ty cA B c0 z0 pc ls (.long z :: .int i :: .ref x :: rest) G Q nE zE := by
  refine ⟨k.1, fun H locs lsR a1 a3 a4 a5 a6 a7 a8 => ?_⟩
  have he := am_w_get (ty := ty) (cA := cA) (B := B) hsh
  have hw := am_w_num (ty := ty) (cA := cA) (B := B) (G1 := (G.1, G.2.1, am_sl G.2.2 x i.toNatClampNeg z)) hsh rfl (fun _ _ => rfl) (fun _ hi => am_sl_ne hi)
  rw [am_ent_l hs1] at he hw
  
  dsimp only at hw
  rw [am_sl_self] at hw
  refine va_last F.1 F.2.1 F.2.2.2.2.2.2.1 a1 (am_w_D ty cA B G) a3 x 1 he rfl hin hd (fun H1 locs1 b1 b2 b3 => ?_)
  exact k.2 H1 locs1 lsR (by rw [hw]; exact b1) b3 a4 a5 a6 a7 a8
theorem am_t_alen (F : am_Fx p R s m args meth c Tb Nb D cl ty cA B c0 own cc nL ret ini) {x : Nat} {sh : am_Sh} (hsh : G.1[x]? = some sh) (hs1 : 100 ≤ sh.1) (hs2 : sh.1 ≤ 103) (hd : decode cc pc = .ok (.arraylength, 1)) (k : am_Cl p l e R s m args below meth c nL D cl ty cA B c0 z0 (pc + 1) ls (.int (Int32.ofNat sh.2.1) :: rest) G Q nE zE) : am_Cl p l e R s m args below meth c nL D cl ty cA B c0 z0 pc ls (.ref x :: rest) G Q nE zE := by
  refine ⟨k.1, fun H locs lsR a1 a3 a4 a5 a6 a7 a8 => ?_⟩
  have he := am_w_get (ty := ty) (cA := cA) (B := B) hsh
  obtain ⟨kd, n, rf⟩ := sh
  rcases (show kd = 100 ∨ kd = 101 ∨ kd = 102 ∨ kd = 103 by dsimp only at hs1 hs2; omega) with rfl | rfl | rfl | rfl
  · exact va_alen F.1 F.2.1 F.2.2.2.2.2.2.1 a1 x 0 he rfl rfl hd (k.2 H locs lsR a1 a3 a4 a5 a6 a7 a8)
  · exact va_alen F.1 F.2.1 F.2.2.2.2.2.2.1 a1 x 1 he rfl rfl hd (k.2 H locs lsR a1 a3 a4 a5 a6 a7 a8)
  · exact va_alen F.1 F.2.1 F.2.2.2.2.2.2.1 a1 x 2 he rfl rfl hd (k.2 H locs lsR a1 a3 a4 a5 a6 a7 a8)
  · exact va_alen F.1 F.2.1 F.2.2.2.2.2.2.1 a1 x 3 he rfl rfl hd (k.2 H locs lsR a1 a3 a4 a5 a6 a7 a8)
theorem am_w_push {G : am_G} (sh : am_Sh) (f : Nat → Int32) (g : Nat → Int64) : am_w ty cA B (G.1 ++ [sh], am_sr G.2.1 G.1.length f, am_srl G.2.2 G.1.length g) = am_w ty cA B G ++ [(B + G.1.length, am_ent ty cA B (G.1 ++ [sh], am_sr G.2.1 G.1.length f, am_srl G.2.2 G.1.length g) G.1.length sh)] := by
  apply List.ext_getElem?
  intro i
  by_cases hi : i < G.1.length
  · rw [List.getElem?_append_left (by rw [am_w_len]; exact hi)]
    simp only [am_w, List.getElem?_mapIdx, List.getElem?_append_left hi]
    cases G.1[i]? with
    | none => rfl
    | some t => simp only [Option.map_some]; rw [am_ent_congr (G := G) (am_sr_ne (by omega)) (am_srl_ne (by omega))]
  · rw [List.getElem?_append_right (by rw [am_w_len]; omega), am_w_len]
    simp only [am_w, List.getElem?_mapIdx]
    by_cases h2 : i = G.1.length
    · subst h2
      simp
    · rw [List.getElem?_eq_none (by simp; omega), List.getElem?_eq_none (by simp; omega)]
      rfl
/-- a row of the heap that is new: the picture behind it -/
theorem am_pushed {H H1 : Heap} {sh : am_Sh} {f : Nat → Int32} {g : Nat → Int64} (hz : H.size = B + G.1.length) (a1 : va_P D cl (am_w ty cA B G) H) (o1 : ∀ q, q < H.size → H1[q]? = H[q]?) (hn : va_at D cl (B + G.1.length, am_ent ty cA B (G.1 ++ [sh], am_sr G.2.1 G.1.length f, am_srl G.2.2 G.1.length g) G.1.length sh) H1) : va_P D cl (am_w ty cA B (G.1 ++ [sh], am_sr G.2.1 G.1.length f, am_srl G.2.2 G.1.length g)) H1 := by
  rw [am_w_push]
  refine (a1.kept (fun k x hx => o1 x.1 ((a1 k x hx).lt))).app (fun k x hx => ?_)
  have hk : k < 1 := (List.getElem?_eq_some_iff.mp hx).1
  rw [show k = 0 by omega] at hx
  cases hx
  exact hn
theorem am_t_new (F : am_Fx p R s m args meth c Tb Nb D cl ty cA B c0 own cc nL ret ini) (hg : am_Cg Tb cl ty) {index ci : Nat} {q : vw_C} (hcl : cl[ci]? = some q) (hl : Jvm.Cond.classLink own index q.1 ∈ Tb) (hi : Jvm.Cond.instantiable q.1 q.2.2 ∈ Tb) (hi2 : Jvm.Cond.initialized q.1 ∈ Tb) (hci : ci < 100) (hso : ∀ k, k < q.2.2 → am_sort (ty ci k) ≠ 9) (hd : decode cc pc = .ok (.new index, 3)) (k : am_Cl p l e R s m args below meth c nL D cl ty cA B c0 z0 (pc + 3) ls (.ref G.1.length :: rest) (am_new G ci q.2.2) Q nE zE) : am_Cl p l e R s m args below meth c nL D cl ty cA B c0 z0 pc ls rest G Q nE zE := by
  obtain ⟨C, T, N⟩ := q
  dsimp only at hl hi hi2 hso k
  have kl : (am_new G ci N).1.length = G.1.length + 1 := by simp [am_new]
  have ks : am_sz (am_new G ci N).1 = am_sz G.1 + N := am_sz_app _ _
  have k1 := k.1
  have k2 := k.2
  rw [kl, ks] at k1 k2
  refine ⟨⟨by omega, by omega⟩, fun H locs lsR a1 a3 a4 a5 a6 a7 a8 => ?_⟩
  refine am_withsz F a1 a3 a5 (fun hz => ?_)
  have hKn := (F.2.2.2.2.2.2.1).1 ci _ hcl
  refine W.newcK F.1 F.2.1 F.2.2.2.1 (F.2.2.2.2.1 _ hl) (F.2.2.2.2.1 _ hi) (F.2.2.2.2.1 _ hi2) rfl hd (by omega) (by omega) hKn.2.1 hz (fun H1 kC hkC e1 z1 o1 => ?_)
  have hp : va_P D cl (am_w ty cA B (am_new G ci N)) H1 := by
    refine am_pushed hz a1 (fun x hx => o1 x (by omega)) ?_
    rw [am_ent_o hci]
    refine ⟨_, hcl, (u_born (ty ci) F.2.2.2.2.1 (hg _ _ hcl).1 hKn hkC e1 (hg _ _ hcl).2.1).to (fun j hj => ?_)⟩
    simp only [vp_V, List.getD_eq_getElem?_getD, List.getElem?_map, List.getElem?_range hj, Option.map_some, Option.getD_some, am_sr_self, am_srl_self]
    rw [show (List.replicate N 0)[j]?.getD 0 = 0 by simp [List.getElem?_replicate, hj]]
    exact (am_fval_n (hso j hj) B).symm
  have hs : va_S (fun q => B ≤ q) s.heap H1 locs := ⟨by have := a3.1; omega, fun x h1 h2 => (o1 x (by have := a3.1; omega)).trans (a3.2.1 x h1 h2), a3.2.2⟩
  have := k2 H1 locs lsR hp hs a4 (by omega) (by omega) a7 a8
  rw [show G.1.length + 1 - c0 = G.1.length - c0 + 1 by omega, show am_sz G.1 + N - z0 = am_sz G.1 - z0 + N by omega] at this
  exact this
theorem am_t_newa (F : am_Fx p R s m args meth c Tb Nb D cl ty cA B c0 own cc nL ret ini) {at_ : ArrayType} {kd : Nat} {x : Int32} (hl : Jvm.Cond.arrayClass (newarray.typeOf at_) ∈ Tb) (hkd : (kd = 100 ∧ at_ = .int) ∨ (kd = 101 ∧ at_ = .long) ∨ (kd = 102 ∧ at_ = .byte) ∨ (kd = 103 ∧ at_ = .boolean)) (hx : ¬ x < 0) (hx2 : ¬ 60000000 < x.toNatClampNeg) (hd : decode cc pc = .ok (.newarray at_, 2)) (k : am_Cl p l e R s m args below meth c nL D cl ty cA B c0 z0 (pc + 2) ls (.ref G.1.length :: rest) (am_newa G kd x.toNatClampNeg) Q nE zE) : am_Cl p l e R s m args below meth c nL D cl ty cA B c0 z0 pc ls (.int x :: rest) G Q nE zE := by
  have kl : (am_newa G kd x.toNatClampNeg).1.length = G.1.length + 1 := by simp [am_newa]
  have ks : am_sz (am_newa G kd x.toNatClampNeg).1 = am_sz G.1 + x.toNatClampNeg := am_sz_app _ _
  have k1 := k.1
  have k2 := k.2
  rw [kl, ks] at k1 k2
  refine ⟨⟨by omega, by omega⟩, fun H locs lsR a1 a3 a4 a5 a6 a7 a8 => ?_⟩
  refine am_withsz F a1 a3 a5 (fun hz => ?_)
  have hcb : x.toNatClampNeg * componentBytes (newarray.typeOf at_) ≤ 536870912 := by
    rcases hkd with ⟨-, rfl⟩ | ⟨-, rfl⟩ | ⟨-, rfl⟩ | ⟨-, rfl⟩ <;> (simp only [newarray.typeOf, componentBytes]; omega)
  refine va_newaK F.1 F.2.1 (F.2.2.2.2.1 _ hl) rfl hd rfl hx rfl hcb (by omega) (by omega) hz (fun H1 cB e1 z1 o1 hAr hNm => ?_)
  have hp : va_P D cl (am_w ty cA B (am_newa G kd x.toNatClampNeg)) H1 := by
    refine am_pushed hz a1 (fun x hx => o1 x (by omega)) ?_
    have hK2 := (F.2.2.2.2.2.2.1).2
    rcases hkd with ⟨rfl, rfl⟩ | ⟨rfl, rfl⟩ | ⟨rfl, rfl⟩ | ⟨rfl, rfl⟩
    · have hc := (hK2 0 _ rfl).2
      have : cB = cA 100 := Option.some.inj (hNm.symm.trans hc)
      rw [am_ent_i (show 100 ≤ 100 by decide) (show 100 ≠ 101 by decide)]
      dsimp only
      rw [am_sr_self, ← this]
      exact e1
    · have hc := (hK2 1 _ rfl).2
      have : cB = cA 101 := Option.some.inj (hNm.symm.trans hc)
      rw [am_ent_l rfl]
      dsimp only
      rw [am_srl_self, ← this]
      exact e1
    · have hc := (hK2 2 _ rfl).2
      have : cB = cA 102 := Option.some.inj (hNm.symm.trans hc)
      rw [am_ent_i (show 100 ≤ 102 by decide) (show 102 ≠ 101 by decide)]
      dsimp only
      rw [am_sr_self, ← this]
      exact e1
    · have hc := (hK2 3 _ rfl).2
      have : cB = cA 103 := Option.some.inj (hNm.symm.trans hc)
      rw [am_ent_i (show 100 ≤ 103 by decide) (show 103 ≠ 101 by decide)]
      dsimp only
      rw [am_sr_self, ← this]
      exact e1
  have hs : va_S (fun q => B ≤ q) s.heap H1 locs := ⟨by have := a3.1; omega, fun x h1 h2 => (o1 x (by have := a3.1; omega)).trans (a3.2.1 x h1 h2), a3.2.2⟩
  have := k2 H1 locs lsR hp hs a4 (by omega) (by omega) a7 a8
  rw [show G.1.length + 1 - c0 = G.1.length - c0 + 1 by omega, show am_sz G.1 + x.toNatClampNeg - z0 = am_sz G.1 - z0 + x.toNatClampNeg by omega] at this
  exact this
theorem am_t_iret (F : am_Fx p R s m args meth c Tb Nb D cl ty cA B c0 own cc nL ret ini) {x : Int32} (hr : ret = some .int) (hd : decode cc pc = .ok (.ireturn, 1)) : am_Cl p l e R s m args below meth c nL D cl ty cA B c0 z0 pc ls [.int x] G (MQ below (am_Q D cl ty cA B (some (.int x)) G) args s (G.1.length - c0) (am_sz G.1 - z0) (fun q => B ≤ q)) G.1.length (am_sz G.1) := by
  refine ⟨⟨Nat.le_refl _, Nat.le_refl _⟩, fun H locs lsR a1 a3 a4 a5 a6 a7 a8 => ?_⟩
  exact W.iret F.1 F.2.1 (F.2.2.2.2.2.2.2.2.1.trans hr) (fun t ht hw => ⟨rfl, by rw [ht]; exact a1, a3.F ht⟩) a3.2.2 hd F.2.2.2.2.2.2.2.1
theorem am_t_lret (F : am_Fx p R s m args meth c Tb Nb D cl ty cA B c0 own cc nL ret ini) {x : Int64} (hr : ret = some .long) (hd : decode cc pc = .ok (.lreturn, 1)) : am_Cl p l e R s m args below meth c nL D cl ty cA B c0 z0 pc ls [.long x] G (MQ below (am_Q D cl ty cA B (some (.long x)) G) args s (G.1.length - c0) (am_sz G.1 - z0) (fun q => B ≤ q)) G.1.length (am_sz G.1) := by
  refine ⟨⟨Nat.le_refl _, Nat.le_refl _⟩, fun H locs lsR a1 a3 a4 a5 a6 a7 a8 => ?_⟩
  exact W.lret F.1 F.2.1 (F.2.2.2.2.2.2.2.2.1.trans hr) (fun t ht hw => ⟨rfl, by rw [ht]; exact a1, a3.F ht⟩) a3.2.2 hd F.2.2.2.2.2.2.2.1
theorem am_t_vret (F : am_Fx p R s m args meth c Tb Nb D cl ty cA B c0 own cc nL ret ini)  (hr : ret = none) (hd : decode cc pc = .ok (.return_, 1)) : am_Cl p l e R s m args below meth c nL D cl ty cA B c0 z0 pc ls [] G (MQ below (am_Q D cl ty cA B none G) args s (G.1.length - c0) (am_sz G.1 - z0) (fun q => B ≤ q)) G.1.length (am_sz G.1) := by
  refine ⟨⟨Nat.le_refl _, Nat.le_refl _⟩, fun H locs lsR a1 a3 a4 a5 a6 a7 a8 => ?_⟩
  exact W.vret F.1 F.2.1 (F.2.2.2.2.2.2.2.2.1.trans hr) (fun t ht hw => ⟨rfl, by rw [ht]; exact a1, a3.F ht⟩) a3.2.2 hd F.2.2.2.2.2.2.2.1
theorem am_t_zret (F : am_Fx p R s m args meth c Tb Nb D cl ty cA B c0 own cc nL ret ini) {x : Int32} (hr : ret = some .boolean) (hx : x = 0 ∨ x = 1) (hd : decode cc pc = .ok (.ireturn, 1)) : am_Cl p l e R s m args below meth c nL D cl ty cA B c0 z0 pc ls [.int x] G (MQ below (am_Q D cl ty cA B (some (.int x)) G) args s (G.1.length - c0) (am_sz G.1 - z0) (fun q => B ≤ q)) G.1.length (am_sz G.1) := by
  refine ⟨⟨Nat.le_refl _, Nat.le_refl _⟩, fun H locs lsR a1 a3 a4 a5 a6 a7 a8 => ?_⟩
  exact W.zret F.1 F.2.1 (F.2.2.2.2.2.2.2.2.1.trans hr) (by rcases hx with rfl | rfl <;> decide) (fun t ht hw => ⟨rfl, by rw [ht]; exact a1, a3.F ht⟩) a3.2.2 hd F.2.2.2.2.2.2.2.1
/-- behind a call -/
theorem am_goes {H : Heap} {locs : List Loc} {cells slots mc ms : Nat} {lsR : Array Slot} {st0 rs : List Value} {Q : State → Prop} {a : Array Value} {G1 : am_G} {x : Option Value} (hr : va_Run p l e R s m args below meth c H locs cells slots mc ms (F0 m pc lsR st0) rs (am_Q D cl ty cA B x G1 a) (fun q => B ≤ q)) (hS : va_S (fun q => B ≤ q) s.heap H locs)
    (kk : ∀ (H1 : Heap) (locs1 : List Loc), va_P D cl (am_w ty cA B G1) H1 → va_S (fun q => B ≤ q) s.heap H1 locs1 → W p l e R s m args below meth c H1 locs1 (cells + mc) (slots + ms) Q (F0 m (pc + 3) lsR ((x.map (am_rv B)).toList ++ rs))) : W p l e R s m args below meth c H locs cells slots Q (F0 m pc lsR st0) := by
  intro T hT X
  obtain ⟨v, st₀, t, T', L, h0, X', hL, e1, e2, ⟨hv, hp, hz, hk⟩, st⟩ := hr T hT X
  cases hv
  rw [h0] at hz hk
  obtain ⟨t2, a1, b1⟩ := kk T'.heap (locs ++ L) (by rw [e1]; exact hp)
    ⟨Nat.le_trans hS.1 (by rw [e1]; exact hz), fun q h1 h2 => by rw [e1, hk q (Nat.lt_of_lt_of_le h1 hS.1) h2]; exact hS.2.1 q h1 h2, fun q hq => by
      rcases List.mem_append.mp hq with h | h
      · exact hS.2.2 q h
      · exact hL q h⟩ T' rfl X'
  exact ⟨t2, st t2 a1, b1⟩
theorem am_blind {as : List Value} : FrameBlind (am_P D cl ty cA B Nb as G) := fun a U g mk h => ⟨h.1, ⟨h.2.1.1, h.2.1.2⟩, va_K.moved (u := U) (U := U.calling g mk a) (Vm.Alike.refl U.vm) h.2.2.1, fun q hq => va_Nw.same rfl (u := U) rfl (h.2.2.2 q hq)⟩
theorem am_pre (F : am_Fx p R s m args meth c Tb Nb D cl ty cA B c0 own cc nL ret ini) {H : Heap} {as : List Value} (a1 : va_P D cl (am_w ty cA B G) H) (hz : H.size = B + G.1.length) (U : State) (hU : U.heap = H) (hW : s.WarmedH U.vm) : am_P D cl ty cA B Nb as G (am_ms B as).toArray U :=
  ⟨rfl, ⟨by rw [hU]; exact hz, by rw [hU]; exact a1⟩, va_K.moved hW.alike F.2.2.2.2.2.2.1, fun q hq => va_Nw.warmM hW (F.2.2.2.2.2.1 q hq)⟩
/-- the method table: its words are among the tables', its locals are few -/
def am_Mg (Tb : List Jvm.Cond) (M : List am_M) : Prop := ∀ (a : Nat) (y : MethodName) (bytes : ByteArray) (mL : Nat) (rt : Option FieldType) (n : Nat), M[a]? = some (y, bytes, mL, rt, n) → Jvm.Cond.code y bytes mL rt ∈ Tb ∧ Jvm.Cond.initialized y.cls ∈ Tb ∧ (y.cls ≠ "java/lang/invoke/MethodHandle" ∧ y.cls ≠ "java/lang/invoke/VarHandle" ∧ (parseMethodDescriptor y.desc).map (fun d => d.parameters.length) = some n) ∧ mL ≤ 21 ∧ plainName y.cls = true
theorem am_good (hT : GoodIn Tb Tb) {w : Jvm.Cond} (hw : w ∈ Tb) : GoodIn Tb (w :: Tb) := fun x hx => by
  rcases List.mem_cons.mp hx with rfl | h
  · exact hT x hw
  · exact hT x h
theorem am_tl (x : Option Value) (st : List Value) : (x.map (am_rv B)).toList ++ am_ms B st = am_ms B (x.toList ++ st) := by cases x <;> rfl
theorem am_t_callV (F : am_Fx p R s m args meth c Tb Nb D cl ty cA B c0 own cc nL ret ini) (hT : GoodIn Tb Tb) (hM : am_Mg Tb M) {C : am_C} (hC : am_Cs l R Tb Nb D cl ty cA B M C) {index a n mL : Nat} {y : MethodName} {bytes : ByteArray} {rt : Option FieldType} {As : List Value} {x : Option Value} {G1 : am_G} (hm : M[a]? = some (y, bytes, mL, rt, n)) (hn : As.length = n) (hcat : am_cat rest ≤ 8) (hl : Jvm.Cond.methodLink own index y ∈ Tb) {z ci : Nat} {q : vw_C} {sh : am_Sh} (hcl : cl[ci]? = some q) (hq : q.1 = y.cls) (hci : ci < 100) (hsh : G.1[z]? = some sh) (hs1 : sh.1 = ci) (hi : Jvm.Cond.instanceMethod y ∈ Tb) (hse : Jvm.Cond.selects y.cls y y ∈ Tb) (hc : C a (.ref z :: As) G = some (x, G1)) (hd : decode cc pc = .ok (.invokevirtual index, 3)) (k : am_Cl p l e R s m args below meth c nL D cl ty cA B c0 z0 (pc + 3) ls (x.toList ++ rest) G1 Q nE zE) : am_Cl p l e R s m args below meth c nL D cl ty cA B c0 z0 pc ls (As.reverse ++ .ref z :: rest) G Q nE zE := by
  obtain ⟨km, kr⟩ := hC _ _ _ _ _ hc
  obtain ⟨rm, r1, r2, r3, r4, hMet⟩ := kr _ _ _ _ _ hm
  obtain ⟨g1, g2, g3, g4, g5⟩ := hM _ _ _ _ _ _ hm
  have k1 := k.1
  refine ⟨⟨by omega, by omega⟩, fun H locs lsR a1 a3 a4 a5 a6 a7 a8 => ?_⟩
  refine am_withsz F a1 a3 a5 (fun hz => ?_)
  refine am_goes (va_runV (As := am_ms B As) (rest := am_ms B rest) ⟨F.1, F.2.1, F.2.2.1, F.2.2.2.1, F.2.2.2.2.1⟩ hMet ⟨(callB_of n F.2.2.2.2.1 (am_good hT g1) rfl r1 r2 (F.2.2.2.2.1 _ g2) (F.2.2.2.2.1 _ hl) g3 ⟨r3, by omega⟩), F.2.2.2.2.1 _ hi, hq ▸ F.2.2.2.2.1 _ hse⟩ ⟨am_blind, va_recv F.2.2.2.2.2.2.1 a1 hcl (by have := am_w_get (ty := ty) (cA := cA) (B := B) hsh; rw [am_ent_o (by omega)] at this; subst hs1; exact this), fun U hU hW => am_pre F (as := .ref z :: As) a1 hz U hU hW⟩ rfl (by simpa using hn) a4.1 (by simp [am_ms, am_rv]) (lv_room (by rw [am_cat_real]; exact hcat)) hd ⟨by omega, by omega⟩) a3 (fun H1 locs1 b1 b3 => ?_)
  have := k.2 H1 locs1 lsR b1 b3 a4 (by omega) (by omega) a7 a8
  rw [am_tl, show G.1.length - c0 + (G1.1.length - G.1.length) = G1.1.length - c0 by omega, show am_sz G.1 - z0 + (am_sz G1.1 - am_sz G.1) = am_sz G1.1 - z0 by omega]
  exact this
theorem am_t_callVN (F : am_Fx p R s m args meth c Tb Nb D cl ty cA B c0 own cc nL ret ini) (hT : GoodIn Tb Tb) (hM : am_Mg Tb M) {C : am_C} (hC : am_Cs l R Tb Nb D cl ty cA B M C) {index a n mL : Nat} {y : MethodName} {bytes : ByteArray} {rt : Option FieldType} {As : List Value} {x : Option Value} {G1 : am_G} (hm : M[a]? = some (y, bytes, mL, rt, n)) (hn : As.length = n) (hcat : am_cat rest ≤ 8) {host : String} (hl : (own, index, y, host) ∈ Nb) {z ci : Nat} {q : vw_C} {sh : am_Sh} (hcl : cl[ci]? = some q) (hq : q.1 = y.cls) (hci : ci < 100) (hsh : G.1[z]? = some sh) (hs1 : sh.1 = ci) (hi : Jvm.Cond.instanceMethod y ∈ Tb) (hse : Jvm.Cond.selects y.cls y y ∈ Tb) (hc : C a (.ref z :: As) G = some (x, G1)) (hd : decode cc pc = .ok (.invokevirtual index, 3)) (k : am_Cl p l e R s m args below meth c nL D cl ty cA B c0 z0 (pc + 3) ls (x.toList ++ rest) G1 Q nE zE) : am_Cl p l e R s m args below meth c nL D cl ty cA B c0 z0 pc ls (As.reverse ++ .ref z :: rest) G Q nE zE := by
  obtain ⟨km, kr⟩ := hC _ _ _ _ _ hc
  obtain ⟨rm, r1, r2, r3, r4, hMet⟩ := kr _ _ _ _ _ hm
  obtain ⟨g1, g2, g3, g4, g5⟩ := hM _ _ _ _ _ _ hm
  have k1 := k.1
  refine ⟨⟨by omega, by omega⟩, fun H locs lsR a1 a3 a4 a5 a6 a7 a8 => ?_⟩
  refine am_withsz F a1 a3 a5 (fun hz => ?_)
  refine am_goes (va_runVN (As := am_ms B As) (rest := am_ms B rest) ⟨F.1, F.2.1, F.2.2.1, F.2.2.2.1, F.2.2.2.2.1⟩ hMet ⟨(va_cnB n F.2.2.2.2.1 (am_good hT g1) rfl r1 r2 (F.2.2.2.2.2.1 (own, index, y, host) hl) (F.2.2.2.2.1 _ g2) g3 ⟨r3, by omega⟩), F.2.2.2.2.1 _ hi, hq ▸ F.2.2.2.2.1 _ hse⟩ ⟨am_blind, va_recv F.2.2.2.2.2.2.1 a1 hcl (by have := am_w_get (ty := ty) (cA := cA) (B := B) hsh; rw [am_ent_o (by omega)] at this; subst hs1; exact this), fun U hU hW => am_pre F (as := .ref z :: As) a1 hz U hU hW⟩ rfl (by simpa using hn) a4.1 (by simp [am_ms, am_rv]) (lv_room (by rw [am_cat_real]; exact hcat)) hd ⟨by omega, by omega⟩) a3 (fun H1 locs1 b1 b3 => ?_)
  have := k.2 H1 locs1 lsR b1 b3 a4 (by omega) (by omega) a7 a8
  rw [am_tl, show G.1.length - c0 + (G1.1.length - G.1.length) = G1.1.length - c0 by omega, show am_sz G.1 - z0 + (am_sz G1.1 - am_sz G.1) = am_sz G1.1 - z0 by omega]
  exact this
theorem am_t_callS (F : am_Fx p R s m args meth c Tb Nb D cl ty cA B c0 own cc nL ret ini) (hT : GoodIn Tb Tb) (hM : am_Mg Tb M) {C : am_C} (hC : am_Cs l R Tb Nb D cl ty cA B M C) {index a n mL : Nat} {y : MethodName} {bytes : ByteArray} {rt : Option FieldType} {As : List Value} {x : Option Value} {G1 : am_G} (hm : M[a]? = some (y, bytes, mL, rt, n)) (hn : As.length = n) (hcat : am_cat rest ≤ 8) (hl : Jvm.Cond.methodLink own index y ∈ Tb) (hi : Jvm.Cond.static y ∈ Tb) (hc : C a As G = some (x, G1)) (hd : decode cc pc = .ok (.invokestatic index, 3)) (k : am_Cl p l e R s m args below meth c nL D cl ty cA B c0 z0 (pc + 3) ls (x.toList ++ rest) G1 Q nE zE) : am_Cl p l e R s m args below meth c nL D cl ty cA B c0 z0 pc ls (As.reverse ++ rest) G Q nE zE := by
  obtain ⟨km, kr⟩ := hC _ _ _ _ _ hc
  obtain ⟨rm, r1, r2, r3, r4, hMet⟩ := kr _ _ _ _ _ hm
  obtain ⟨g1, g2, g3, g4, g5⟩ := hM _ _ _ _ _ _ hm
  have k1 := k.1
  refine ⟨⟨by omega, by omega⟩, fun H locs lsR a1 a3 a4 a5 a6 a7 a8 => ?_⟩
  refine am_withsz F a1 a3 a5 (fun hz => ?_)
  refine am_goes (va_runS (As := am_ms B As) (rest := am_ms B rest) ⟨F.1, F.2.1, F.2.2.1, F.2.2.2.1, F.2.2.2.2.1⟩ hMet ⟨(callB_of n F.2.2.2.2.1 (am_good hT g1) rfl r1 r2 (F.2.2.2.2.1 _ g2) (F.2.2.2.2.1 _ hl) g3 ⟨r3, by omega⟩), F.2.2.2.2.1 _ hi⟩ ⟨am_blind, fun U hU hW => am_pre F (as := As) a1 hz U hU hW⟩ rfl (by simpa using hn) a4.1 (by simp [am_ms, am_rv]) (lv_room (by rw [am_cat_real]; exact hcat)) hd ⟨by omega, by omega⟩) a3 (fun H1 locs1 b1 b3 => ?_)
  have := k.2 H1 locs1 lsR b1 b3 a4 (by omega) (by omega) a7 a8
  rw [am_tl, show G.1.length - c0 + (G1.1.length - G.1.length) = G1.1.length - c0 by omega, show am_sz G.1 - z0 + (am_sz G1.1 - am_sz G.1) = am_sz G1.1 - z0 by omega]
  exact this
theorem am_t_callSN (F : am_Fx p R s m args meth c Tb Nb D cl ty cA B c0 own cc nL ret ini) (hT : GoodIn Tb Tb) (hM : am_Mg Tb M) {C : am_C} (hC : am_Cs l R Tb Nb D cl ty cA B M C) {index a n mL : Nat} {y : MethodName} {bytes : ByteArray} {rt : Option FieldType} {As : List Value} {x : Option Value} {G1 : am_G} (hm : M[a]? = some (y, bytes, mL, rt, n)) (hn : As.length = n) (hcat : am_cat rest ≤ 8) {host : String} (hl : (own, index, y, host) ∈ Nb) (hi : Jvm.Cond.static y ∈ Tb) (hc : C a As G = some (x, G1)) (hd : decode cc pc = .ok (.invokestatic index, 3)) (k : am_Cl p l e R s m args below meth c nL D cl ty cA B c0 z0 (pc + 3) ls (x.toList ++ rest) G1 Q nE zE) : am_Cl p l e R s m args below meth c nL D cl ty cA B c0 z0 pc ls (As.reverse ++ rest) G Q nE zE := by
  obtain ⟨km, kr⟩ := hC _ _ _ _ _ hc
  obtain ⟨rm, r1, r2, r3, r4, hMet⟩ := kr _ _ _ _ _ hm
  obtain ⟨g1, g2, g3, g4, g5⟩ := hM _ _ _ _ _ _ hm
  have k1 := k.1
  refine ⟨⟨by omega, by omega⟩, fun H locs lsR a1 a3 a4 a5 a6 a7 a8 => ?_⟩
  refine am_withsz F a1 a3 a5 (fun hz => ?_)
  refine am_goes (va_runSN (As := am_ms B As) (rest := am_ms B rest) ⟨F.1, F.2.1, F.2.2.1, F.2.2.2.1, F.2.2.2.2.1⟩ hMet ⟨(va_cnB n F.2.2.2.2.1 (am_good hT g1) rfl r1 r2 (F.2.2.2.2.2.1 (own, index, y, host) hl) (F.2.2.2.2.1 _ g2) g3 ⟨r3, by omega⟩), F.2.2.2.2.1 _ hi, trivial⟩ ⟨am_blind, fun U hU hW => am_pre F (as := As) a1 hz U hU hW⟩ rfl (by simpa using hn) a4.1 (by simp [am_ms, am_rv]) (lv_room (by rw [am_cat_real]; exact hcat)) hd ⟨by omega, by omega⟩) a3 (fun H1 locs1 b1 b3 => ?_)
  have := k.2 H1 locs1 lsR b1 b3 a4 (by omega) (by omega) a7 a8
  rw [am_tl, show G.1.length - c0 + (G1.1.length - G.1.length) = G1.1.length - c0 by omega, show am_sz G.1 - z0 + (am_sz G1.1 - am_sz G.1) = am_sz G1.1 - z0 by omega]
  exact this
theorem am_t_callI (F : am_Fx p R s m args meth c Tb Nb D cl ty cA B c0 own cc nL ret ini) (hT : GoodIn Tb Tb) (hM : am_Mg Tb M) {C : am_C} (hC : am_Cs l R Tb Nb D cl ty cA B M C) {index a n mL : Nat} {y : MethodName} {bytes : ByteArray} {rt : Option FieldType} {As : List Value} {x : Option Value} {G1 : am_G} (hm : M[a]? = some (y, bytes, mL, rt, n)) (hn : As.length = n) (hcat : am_cat rest ≤ 8) (hl : Jvm.Cond.methodLink own index y ∈ Tb) {z : Nat} (hrt : rt = none) (hy : y.name = "<init>") (hi : Jvm.Cond.instanceMethod y ∈ Tb) (hc : C a (.ref z :: As) G = some (x, G1)) (hd : decode cc pc = .ok (.invokespecial index, 3)) (k : am_Cl p l e R s m args below meth c nL D cl ty cA B c0 z0 (pc + 3) ls (x.toList ++ rest) G1 Q nE zE) : am_Cl p l e R s m args below meth c nL D cl ty cA B c0 z0 pc ls (As.reverse ++ .ref z :: rest) G Q nE zE := by
  subst hrt
  obtain ⟨km, kr⟩ := hC _ _ _ _ _ hc
  obtain ⟨rm, r1, r2, r3, r4, hMet⟩ := kr _ _ _ _ _ hm
  obtain ⟨g1, g2, g3, g4, g5⟩ := hM _ _ _ _ _ _ hm
  have k1 := k.1
  refine ⟨⟨by omega, by omega⟩, fun H locs lsR a1 a3 a4 a5 a6 a7 a8 => ?_⟩
  refine am_withsz F a1 a3 a5 (fun hz => ?_)
  refine am_goes (va_runI (As := am_ms B As) (rest := am_ms B rest) ⟨F.1, F.2.1, F.2.2.1, F.2.2.2.1, F.2.2.2.2.1⟩ hMet ⟨(callB_of n F.2.2.2.2.1 (am_good hT g1) rfl r1 r2 (F.2.2.2.2.1 _ g2) (F.2.2.2.2.1 _ hl) g3 ⟨r3, by omega⟩), hy, F.2.2.2.2.1 _ hi⟩ ⟨am_blind, fun U hU hW => am_pre F (as := .ref z :: As) a1 hz U hU hW⟩ rfl (by simpa using hn) a4.1 (by simp [am_ms, am_rv]) (lv_room (by rw [am_cat_real]; exact hcat)) hd ⟨by omega, by omega⟩) a3 (fun H1 locs1 b1 b3 => ?_)
  have := k.2 H1 locs1 lsR b1 b3 a4 (by omega) (by omega) a7 a8
  rw [am_tl, show G.1.length - c0 + (G1.1.length - G.1.length) = G1.1.length - c0 by omega, show am_sz G.1 - z0 + (am_sz G1.1 - am_sz G.1) = am_sz G1.1 - z0 by omega]
  exact this
theorem am_t_callIN (F : am_Fx p R s m args meth c Tb Nb D cl ty cA B c0 own cc nL ret ini) (hT : GoodIn Tb Tb) (hM : am_Mg Tb M) {C : am_C} (hC : am_Cs l R Tb Nb D cl ty cA B M C) {index a n mL : Nat} {y : MethodName} {bytes : ByteArray} {rt : Option FieldType} {As : List Value} {x : Option Value} {G1 : am_G} (hm : M[a]? = some (y, bytes, mL, rt, n)) (hn : As.length = n) (hcat : am_cat rest ≤ 8) {host : String} (hl : (own, index, y, host) ∈ Nb) {z : Nat} (hrt : rt = none) (hy : y.name = "<init>") (hi : Jvm.Cond.instanceMethod y ∈ Tb) (hc : C a (.ref z :: As) G = some (x, G1)) (hd : decode cc pc = .ok (.invokespecial index, 3)) (k : am_Cl p l e R s m args below meth c nL D cl ty cA B c0 z0 (pc + 3) ls (x.toList ++ rest) G1 Q nE zE) : am_Cl p l e R s m args below meth c nL D cl ty cA B c0 z0 pc ls (As.reverse ++ .ref z :: rest) G Q nE zE := by
  subst hrt
  obtain ⟨km, kr⟩ := hC _ _ _ _ _ hc
  obtain ⟨rm, r1, r2, r3, r4, hMet⟩ := kr _ _ _ _ _ hm
  obtain ⟨g1, g2, g3, g4, g5⟩ := hM _ _ _ _ _ _ hm
  have k1 := k.1
  refine ⟨⟨by omega, by omega⟩, fun H locs lsR a1 a3 a4 a5 a6 a7 a8 => ?_⟩
  refine am_withsz F a1 a3 a5 (fun hz => ?_)
  refine am_goes (va_runIN (As := am_ms B As) (rest := am_ms B rest) ⟨F.1, F.2.1, F.2.2.1, F.2.2.2.1, F.2.2.2.2.1⟩ hMet ⟨(va_cnB n F.2.2.2.2.1 (am_good hT g1) rfl r1 r2 (F.2.2.2.2.2.1 (own, index, y, host) hl) (F.2.2.2.2.1 _ g2) g3 ⟨r3, by omega⟩), hy, F.2.2.2.2.1 _ hi⟩ ⟨am_blind, fun U hU hW => am_pre F (as := .ref z :: As) a1 hz U hU hW⟩ rfl (by simpa using hn) a4.1 (by simp [am_ms, am_rv]) (lv_room (by rw [am_cat_real]; exact hcat)) hd ⟨by omega, by omega⟩) a3 (fun H1 locs1 b1 b3 => ?_)
  have := k.2 H1 locs1 lsR b1 b3 a4 (by omega) (by omega) a7 a8
  rw [am_tl, show G.1.length - c0 + (G1.1.length - G.1.length) = G1.1.length - c0 by omega, show am_sz G.1 - z0 + (am_sz G1.1 - am_sz G.1) = am_sz G1.1 - z0 by omega]
  exact this
theorem am_t_oinit (F : am_Fx p R s m args meth c Tb Nb D cl ty cA B c0 own cc nL ret ini) {index x : Nat} (hl : Jvm.Cond.methodLink own index Lib.objectInit ∈ Tb) (hi : Jvm.Cond.instanceMethod Lib.objectInit ∈ Tb) (hc : Jvm.Cond.code Lib.objectInit ⟨#[0xb1]⟩ 1 none ∈ Tb) (hcat : am_cat rest ≤ 8) (hd : decode cc pc = .ok (.invokespecial index, 3)) (k : am_Cl p l e R s m args below meth c nL D cl ty cA B c0 z0 (pc + 3) ls rest G Q nE zE) : am_Cl p l e R s m args below meth c nL D cl ty cA B c0 z0 pc ls (.ref x :: rest) G Q nE zE := ⟨k.1, fun H locs lsR a1 a3 a4 a5 a6 a7 a8 => W.objInit F.1 F.2.1 F.2.2.2.1 (F.2.2.2.2.1 _ hl) (F.2.2.2.2.1 _ hi) (F.2.2.2.2.1 _ hc) rfl (a4.1.trans F.2.2.1.symm) rfl hd F.2.2.2.2.2.2.2.2.2.2.2.1 (by have h1 := lv_room (m := m) (pc := pc) (ls := lsR) (rest := am_ms B rest) (st := am_ms B rest) (by rw [am_cat_real]; exact hcat); have h2 := F.2.2.2.2.2.2.2.2.2.2.2.2; exact Nat.le_trans (Nat.add_le_add_right h1 12) (Nat.le_trans (by decide) h2)) (k.2 H locs lsR a1 a3 a4 a5 a6 a7 a8)⟩
theorem am_t_copy (F : am_Fx p R s m args meth c Tb Nb D cl ty cA B c0 own cc nL ret ini) {index src dst : Nat} {sp dp n : Int32} {s1 s2 : am_Sh} (hl : Jvm.Cond.methodLink own index arraycopyName ∈ Tb) (hna : Jvm.Cond.native arraycopyName ∈ Tb) (hst : Jvm.Cond.static arraycopyName ∈ Tb) (hin : Jvm.Cond.initialized "java/lang/System" ∈ Tb) (h1 : G.1[src]? = some s1) (h2 : G.1[dst]? = some s2) (e1 : s1.1 = 100) (e2 : s2.1 = 100) (h3 : ¬ sp < 0) (h4 : ¬ dp < 0) (h5 : ¬ n < 0) (h6 : sp.toNatClampNeg + n.toNatClampNeg ≤ s1.2.1) (h7 : dp.toNatClampNeg + n.toNatClampNeg ≤ s2.2.1) (hcat : am_cat rest ≤ 8) (hd : decode cc pc = .ok (.invokestatic index, 3)) (k : am_Cl p l e R s m args below meth c nL D cl ty cA B c0 z0 (pc + 3) ls rest (G.1, am_sr G.2.1 dst (va_cpy (G.2.1 src) (G.2.1 dst) sp.toNatClampNeg dp.toNatClampNeg n.toNatClampNeg), G.2.2) Q nE zE) : am_Cl p l e R s m args below meth c nL D cl ty cA B c0 z0 pc ls (.int n :: .int dp :: .ref dst :: .int sp :: .ref src :: rest) G Q nE zE := by
  refine ⟨k.1, fun H locs lsR a1 a3 a4 a5 a6 a7 a8 => ?_⟩
  have q1 := am_w_get (ty := ty) (cA := cA) (B := B) h1
  have q2 := am_w_get (ty := ty) (cA := cA) (B := B) h2
  have hw := am_w_num (ty := ty) (cA := cA) (B := B) (G1 := (G.1, am_sr G.2.1 dst (va_cpy (G.2.1 src) (G.2.1 dst) sp.toNatClampNeg dp.toNatClampNeg n.toNatClampNeg), G.2.2)) h2 rfl (fun _ hi => am_sr_ne hi) (fun _ _ => rfl)
  rw [am_ent_i (by omega) (by omega), e1] at q1
  rw [am_ent_i (by omega) (by omega), e2] at q2 hw
  dsimp only at hw
  rw [am_sr_self] at hw
  have hr : ((am_ms B rest).map fun v => v.category).sum ≤ 8 := by rw [am_cat_real]; exact hcat
  have hR := F.2.2.2.2.2.2.2.2.2.2.2.2
  refine va_copyi F.1 F.2.1 (F.2.2.1.trans a4.1.symm) F.2.2.2.1 (F.2.2.2.2.1 _ hl) (F.2.2.2.2.1 _ hna) (F.2.2.2.2.1 _ hst) (F.2.2.2.2.1 _ hin) F.2.2.2.2.2.2.1 a1 (am_w_D ty cA B G) a3 src dst 0 0 q1 q2 rfl rfl rfl h3 h4 h5 h6 h7 (fun _ _ => rfl) F.2.2.2.2.2.2.2.2.2.2.2.1 (Nat.le_trans (Nat.add_le_add_right hr _) (Nat.le_trans (by decide) hR)) hd (fun H1 locs1 b1 b2 b3 => ?_)
  exact k.2 H1 locs1 lsR (by rw [hw]; exact b1) b3 a4 a5 a6 a7 a8
theorem am_t_mmax (F : am_Fx p R s m args meth c Tb Nb D cl ty cA B c0 own cc nL ret ini) {index : Nat} {x y : Int32} (hl : Jvm.Cond.methodLink own index Lib.Math.max.name ∈ Tb) (hst : Jvm.Cond.static Lib.Math.max.name ∈ Tb) (hin : Jvm.Cond.initialized "java/lang/Math" ∈ Tb) (hc : Jvm.Cond.code Lib.Math.max.name Lib.Math.max.code 2 (some .int) ∈ Tb) (hcat : am_cat rest ≤ 8) (hd : decode cc pc = .ok (.invokestatic index, 3)) (k : am_Cl p l e R s m args below meth c nL D cl ty cA B c0 z0 (pc + 3) ls (.int (if x < y then y else x) :: rest) G Q nE zE) : am_Cl p l e R s m args below meth c nL D cl ty cA B c0 z0 pc ls (.int y :: .int x :: rest) G Q nE zE := by
  have k1 := k.1
  refine ⟨k.1, fun H locs lsR a1 a3 a4 a5 a6 a7 a8 => ?_⟩
  have hr : ((am_ms B rest).map fun v => v.category).sum ≤ 8 := by rw [am_cat_real]; exact hcat
  have hR := F.2.2.2.2.2.2.2.2.2.2.2.2
  exact va_mmax F.1 F.2.1 (F.2.2.1.trans a4.1.symm) F.2.2.2.1 (F.2.2.2.2.1 _ hl) (F.2.2.2.2.1 _ hst) (F.2.2.2.2.1 _ hin) (F.2.2.2.2.1 _ hc) F.2.2.2.2.2.2.2.2.2.2.2.1 (Nat.le_trans (Nat.add_le_add_right hr _) (Nat.le_trans (by decide) hR)) (by omega) (by omega) hd (k.2 H locs lsR a1 a3 a4 a5 a6 a7 a8)
theorem am_t_mmin (F : am_Fx p R s m args meth c Tb Nb D cl ty cA B c0 own cc nL ret ini) {index : Nat} {x y : Int32} (hl : Jvm.Cond.methodLink own index Lib.Math.min.name ∈ Tb) (hst : Jvm.Cond.static Lib.Math.min.name ∈ Tb) (hin : Jvm.Cond.initialized "java/lang/Math" ∈ Tb) (hc : Jvm.Cond.code Lib.Math.min.name Lib.Math.min.code 2 (some .int) ∈ Tb) (hcat : am_cat rest ≤ 8) (hd : decode cc pc = .ok (.invokestatic index, 3)) (k : am_Cl p l e R s m args below meth c nL D cl ty cA B c0 z0 (pc + 3) ls (.int (if y < x then y else x) :: rest) G Q nE zE) : am_Cl p l e R s m args below meth c nL D cl ty cA B c0 z0 pc ls (.int y :: .int x :: rest) G Q nE zE := by
  have k1 := k.1
  refine ⟨k.1, fun H locs lsR a1 a3 a4 a5 a6 a7 a8 => ?_⟩
  have hr : ((am_ms B rest).map fun v => v.category).sum ≤ 8 := by rw [am_cat_real]; exact hcat
  have hR := F.2.2.2.2.2.2.2.2.2.2.2.2
  exact va_mmin F.1 F.2.1 (F.2.2.1.trans a4.1.symm) F.2.2.2.1 (F.2.2.2.2.1 _ hl) (F.2.2.2.2.1 _ hst) (F.2.2.2.2.1 _ hin) (F.2.2.2.2.1 _ hc) F.2.2.2.2.2.2.2.2.2.2.2.1 (Nat.le_trans (Nat.add_le_add_right hr _) (Nat.le_trans (by decide) hR)) (by omega) (by omega) hd (k.2 H locs lsR a1 a3 a4 a5 a6 a7 a8)
end AMS
