/-! AM: a small machine over decoded instructions, with an own picture of the heap. A cell is a shape (kind, size, its references) and its numbers.
    kind below 100: an object of that class number; 100 int[], 101 long[], 102 byte[], 103 boolean[]. An operation: instruction, length, a, b, c, table. -/
abbrev am_Sh : Type := Nat × Nat × List Nat
abbrev am_G : Type := List am_Sh × (Nat → Nat → Int32) × (Nat → Nat → Int64)
abbrev am_L : Type := List (Nat × Value)
abbrev am_R : Type := Option (Option Value × am_G)
abbrev am_O : Type := Instr × Nat × Nat × Nat × Nat × List (Int32 × Nat)
abbrev am_B : Type := List (Nat × List am_O)
abbrev am_J : Type := Nat → am_L → List Value → am_G → am_R
abbrev am_C : Type := Nat → List Value → am_G → am_R
abbrev am_K : Type := am_L → List Value → am_G → am_R
def am_get : am_L → Nat → Option Value
  | [], _ => none
  | (j, v) :: r, i => if j = i then some v else am_get r i
def am_put (ls : am_L) (i : Nat) (v : Value) : am_L := (i, v) :: ls.filter (fun q => !(q.1 == i) && !(q.1 + 1 == i && q.2.category == 2))
def am_put2 (ls : am_L) (i : Nat) (v : Value) : am_L := (i, v) :: ls.filter (fun q => !(q.1 == i) && (!(q.1 == i + 1) && !(q.1 + 1 == i && q.2.category == 2)))
def am_si (h : Nat → Nat → Int32) (r k : Nat) (x : Int32) : Nat → Nat → Int32 := fun c j => if c = r then (if j = k then x else h c j) else h c j
def am_sl (h : Nat → Nat → Int64) (r k : Nat) (x : Int64) : Nat → Nat → Int64 := fun c j => if c = r then (if j = k then x else h c j) else h c j
/-- a whole row -/
def am_sr (h : Nat → Nat → Int32) (r : Nat) (f : Nat → Int32) : Nat → Nat → Int32 := fun c j => if c = r then f j else h c j
def am_srl (h : Nat → Nat → Int64) (r : Nat) (f : Nat → Int64) : Nat → Nat → Int64 := fun c j => if c = r then f j else h c j
def am_cat (st : List Value) : Nat := (st.map fun v => v.category).sum
def am_k (tb : List (Int32 × Nat)) (f : Int32 → am_R) : am_R := match tb with
  | [(v, _)] => f v
  | _ => none
def am_ldi (ls : am_L) (i : Nat) (f : Int32 → am_R) : am_R := match am_get ls i with
  | some (.int x) => f x
  | _ => none
def am_ldl (ls : am_L) (i : Nat) (f : Int64 → am_R) : am_R := match am_get ls i with
  | some (.long x) => f x
  | _ => none
def am_lda (ls : am_L) (i : Nat) (f : Nat → am_R) : am_R := match am_get ls i with
  | some (.ref x) => f x
  | _ => none
def am_p1 (st : List Value) (f : Int32 → List Value → am_R) : am_R := match st with
  | .int x :: r => f x r
  | _ => none
def am_p2 (st : List Value) (f : Int32 → Int32 → List Value → am_R) : am_R := match st with
  | .int y :: .int x :: r => f x y r
  | _ => none
def am_q1 (st : List Value) (f : Int64 → List Value → am_R) : am_R := match st with
  | .long x :: r => f x r
  | _ => none
def am_q2 (st : List Value) (f : Int64 → Int64 → List Value → am_R) : am_R := match st with
  | .long y :: .long x :: r => f x y r
  | _ => none
def am_qs (st : List Value) (f : Int64 → Int32 → List Value → am_R) : am_R := match st with
  | .int y :: .long x :: r => f x y r
  | _ => none
def am_a1 (st : List Value) (f : Nat → List Value → am_R) : am_R := match st with
  | .ref x :: r => f x r
  | _ => none
/-- an array and an index -/
def am_ai (st : List Value) (f : Nat → Int32 → List Value → am_R) : am_R := match st with
  | .int i :: .ref x :: r => f x i r
  | _ => none
abbrev am_bad (i : Int32) (n : Nat) : Prop := i < 0 ∨ n ≤ i.toNatClampNeg
def am_sh (G : am_G) (r : Nat) (f : am_Sh → am_R) : am_R := match G.1[r]? with
  | some sh => f sh
  | none => none
def am_cond (k : ClassFile.Cond) (x y : Int32) (a b : am_R) : am_R := match k with
  | .eq => if x = y then a else b
  | .ne => if x ≠ y then a else b
  | .lt => if x < y then a else b
  | .ge => if y ≤ x then a else b
  | .gt => if y < x then a else b
  | .le => if x ≤ y then a else b
def am_sw (J : Nat → am_R) (x : Int32) (d : Nat) : List (Int32 × Nat) → am_R
  | [] => J d
  | (k, t) :: r => if x = k then J t else am_sw J x d r
def am_ret (x : am_R) (f : List Value → am_G → am_R) : am_R := match x with
  | some (v, G) => f v.toList G
  | none => none
def am_new (G : am_G) (ci n : Nat) : am_G := (G.1 ++ [(ci, n, List.replicate n 0)], am_sr G.2.1 G.1.length (fun _ => 0), am_srl G.2.2 G.1.length (fun _ => 0))
def am_newa (G : am_G) (kd n : Nat) : am_G := (G.1 ++ [(kd, n, [])], am_sr G.2.1 G.1.length (fun _ => 0), am_srl G.2.2 G.1.length (fun _ => 0))
def am_getf (G : am_G) (r ci k c : Nat) (f : Value → am_R) : am_R := am_sh G r fun sh => if sh.1 = ci ∧ k < sh.2.1 then (match c with
  | 0 => f (.int (G.2.1 r k))
  | 1 => f (.long (G.2.2 r k))
  | 3 => f (.int (G.2.1 r k))
  | 2 => (match sh.2.2.getD k 0 with
    | 0 => none
    | q + 1 => f (.ref q))
  | _ => none) else none
def am_putf (G : am_G) (r ci k c : Nat) (v : Value) (f : am_G → am_R) : am_R := am_sh G r fun sh => if sh.1 = ci ∧ k < sh.2.1 then (match c, v with
  | 0, .int x => f (G.1, am_si G.2.1 r k x, G.2.2)
  | 1, .long x => f (G.1, G.2.1, am_sl G.2.2 r k x)
  | 3, .int x => if x = 0 ∨ x = 1 then f (G.1, am_si G.2.1 r k x, G.2.2) else none
  | 2, .ref q => if k < sh.2.2.length then f (G.1.set r (sh.1, sh.2.1, sh.2.2.set k (q + 1)), G.2.1, G.2.2) else none
  | _, _ => none) else none
def am_copy (G : am_G) (src : Nat) (sp : Int32) (dst : Nat) (dp n : Int32) (f : am_G → am_R) : am_R := am_sh G src fun s1 => am_sh G dst fun s2 =>
  if s1.1 = 100 ∧ s2.1 = 100 ∧ ¬ sp < 0 ∧ ¬ dp < 0 ∧ ¬ n < 0 ∧ sp.toNatClampNeg + n.toNatClampNeg ≤ s1.2.1 ∧ dp.toNatClampNeg + n.toNatClampNeg ≤ s2.2.1 then
    f (G.1, am_sr G.2.1 dst (va_cpy (G.2.1 src) (G.2.1 dst) sp.toNatClampNeg dp.toNatClampNeg n.toNatClampNeg), G.2.2) else none
/-- one operation: J a jump, K what follows -/
def am_op (C : am_C) (J : am_J) (K : am_K) (o : am_O) (ls : am_L) (st : List Value) (G : am_G) : am_R :=
  match o with
  | (i, _, a, b, c, tb) => match i with
    | .iconst _ => am_k tb fun v => K ls (.int v :: st) G
    | .bipush _ => am_k tb fun v => K ls (.int v :: st) G
    | .sipush _ => am_k tb fun v => K ls (.int v :: st) G
    | .ldc _ => am_k tb fun v => K ls (.int v :: st) G
    | .ldc_w _ => am_k tb fun v => K ls (.int v :: st) G
    | .lconst _ => K ls (.long (Int64.ofNat a) :: st) G
    | .ldc2_w _ => K ls (.long (Int64.ofNat a) :: st) G
    | .iload i => am_ldi ls i fun x => K ls (.int x :: st) G
    | .iload_n i => am_ldi ls i.val fun x => K ls (.int x :: st) G
    | .lload i => am_ldl ls i fun x => K ls (.long x :: st) G
    | .lload_n i => am_ldl ls i.val fun x => K ls (.long x :: st) G
    | .aload i => am_lda ls i fun x => K ls (.ref x :: st) G
    | .aload_n i => am_lda ls i.val fun x => K ls (.ref x :: st) G
    | .istore i => am_p1 st fun x r => K (am_put ls i (.int x)) r G
    | .istore_n i => am_p1 st fun x r => K (am_put ls i.val (.int x)) r G
    | .lstore i => am_q1 st fun x r => K (am_put2 ls i (.long x)) r G
    | .lstore_n i => am_q1 st fun x r => K (am_put2 ls i.val (.long x)) r G
    | .astore i => am_a1 st fun x r => K (am_put ls i (.ref x)) r G
    | .astore_n i => am_a1 st fun x r => K (am_put ls i.val (.ref x)) r G
    | .iinc i _ => am_k tb fun v => am_ldi ls i fun x => K (am_put ls i (.int (x + v))) st G
    | .iadd => am_p2 st fun x y r => K ls (.int (x + y) :: r) G
    | .isub => am_p2 st fun x y r => K ls (.int (x - y) :: r) G
    | .imul => am_p2 st fun x y r => K ls (.int (x * y) :: r) G
    | .iand => am_p2 st fun x y r => K ls (.int (x &&& y) :: r) G
    | .ishr => am_p2 st fun x y r => K ls (.int (x >>> (y &&& 31)) :: r) G
    | .idiv => am_p2 st fun x y r => if y = 0 then none else K ls (.int (x / y) :: r) G
    | .irem => am_p2 st fun x y r => if y = 0 then none else K ls (.int (x - x / y * y) :: r) G
    | .land => am_q2 st fun x y r => K ls (.long (x &&& y) :: r) G
    | .lor => am_q2 st fun x y r => K ls (.long (x ||| y) :: r) G
    | .lshl => am_qs st fun x y r => K ls (.long (x <<< (y.toInt64 &&& 63)) :: r) G
    | .lshr => am_qs st fun x y r => K ls (.long (x >>> (y.toInt64 &&& 63)) :: r) G
    | .lushr => am_qs st fun x y r => K ls (.long (x.toUInt64 >>> (y.toInt64.toUInt64 &&& Int64.toUInt64 63)).toInt64 :: r) G
    | .lcmp => am_q2 st fun x y r => K ls (.int (lg_cmp x y) :: r) G
    | .i2l => am_p1 st fun x r => K ls (.long x.toInt64 :: r) G
    | .l2i => am_q1 st fun x r => K ls (.int x.toInt32 :: r) G
    | .i2b => am_p1 st fun x r => K ls (.int x.toInt8.toInt32 :: r) G
    | .dup => (match st with
      | v :: r => if v.category = 1 then K ls (v :: v :: r) G else none
      | _ => none)
    | .dup2 => (match st with
      | v :: w :: r => if v.category = 1 ∧ w.category = 1 then K ls (v :: w :: v :: w :: r) G else none
      | _ => none)
    | .pop => (match st with
      | v :: r => if v.category = 1 then K ls r G else none
      | _ => none)
    | .goto _ => J a ls st G
    | .ifCond k _ => am_p1 st fun x r => am_cond k x 0 (J a ls r G) (K ls r G)
    | .if_icmp k _ => am_p2 st fun x y r => am_cond k x y (J a ls r G) (K ls r G)
    | .tableswitch _ _ _ _ => am_p1 st fun x r => am_sw (fun t => J t ls r G) x a tb
    | .lookupswitch _ _ => am_p1 st fun x r => am_sw (fun t => J t ls r G) x a tb
    | .getfield _ => am_a1 st fun x r => am_getf G x a b c fun v => K ls (v :: r) G
    | .putfield _ => (match st with
      | v :: .ref x :: r => am_putf G x a b c v fun G => K ls r G
      | _ => none)
    | .iaload => am_ai st fun x i r => am_sh G x fun sh => if sh.1 = 100 then (if am_bad i sh.2.1 then none else K ls (.int (G.2.1 x i.toNatClampNeg) :: r) G) else none
    | .baload => am_ai st fun x i r => am_sh G x fun sh => if sh.1 = a then (if am_bad i sh.2.1 then none else K ls (.int (G.2.1 x i.toNatClampNeg) :: r) G) else none
    | .laload => am_ai st fun x i r => am_sh G x fun sh => if sh.1 = 101 then (if am_bad i sh.2.1 then none else K ls (.long (G.2.2 x i.toNatClampNeg) :: r) G) else none
    | .iastore => am_p1 st fun v r => am_ai r fun x i r => am_sh G x fun sh => if sh.1 = 100 then (if am_bad i sh.2.1 then none else K ls r (G.1, am_si G.2.1 x i.toNatClampNeg v, G.2.2)) else none
    | .bastore => am_p1 st fun v r => am_ai r fun x i r => am_sh G x fun sh => if sh.1 = a then (if am_bad i sh.2.1 then none else K ls r (G.1, am_si G.2.1 x i.toNatClampNeg (vp_nar (if a = 102 then .byte else .boolean) v), G.2.2)) else none
    | .lastore => am_q1 st fun v r => am_ai r fun x i r => am_sh G x fun sh => if sh.1 = 101 then (if am_bad i sh.2.1 then none else K ls r (G.1, G.2.1, am_sl G.2.2 x i.toNatClampNeg v)) else none
    | .arraylength => am_a1 st fun x r => am_sh G x fun sh => if 100 ≤ sh.1 ∧ sh.1 ≤ 103 then K ls (.int (Int32.ofNat sh.2.1) :: r) G else none
    | .new _ => K ls (.ref G.1.length :: st) (am_new G a b)
    | .newarray _ => am_p1 st fun x r => if x < 0 ∨ 60000000 < x.toNatClampNeg then none else K ls (.ref G.1.length :: r) (am_newa G a x.toNatClampNeg)
    | .invokevirtual _ => if b ≤ st.length ∧ am_cat (st.drop b) ≤ 8 then (match (st.take b).reverse with
      | .ref x :: As => am_sh G x fun sh => if sh.1 = c / 10 then am_ret (C a (.ref x :: As) G) fun v G => K ls (v ++ st.drop b) G else none
      | _ => none) else none
    | .invokestatic _ => if c = 9 then (match st with
        | .int n :: .int dp :: .ref dst :: .int sp :: .ref src :: r => if am_cat r ≤ 8 then am_copy G src sp dst dp n fun G => K ls r G else none
        | _ => none)
      else if c = 7 then am_p2 st fun x y r => if am_cat r ≤ 8 then K ls (.int (if x < y then y else x) :: r) G else none
      else if c = 6 then am_p2 st fun x y r => if am_cat r ≤ 8 then K ls (.int (if y < x then y else x) :: r) G else none
      else if b ≤ st.length ∧ am_cat (st.drop b) ≤ 8 then am_ret (C a (st.take b).reverse G) fun v G => K ls (v ++ st.drop b) G else none
    | .invokespecial _ => if c = 8 then am_a1 st fun _ r => if am_cat r ≤ 8 then K ls r G else none
      else if b ≤ st.length ∧ am_cat (st.drop b) ≤ 8 then (match (st.take b).reverse with
      | .ref x :: As => am_ret (C a (.ref x :: As) G) fun v G => K ls (v ++ st.drop b) G
      | _ => none) else none
    | .ireturn => (match st with
      | [.int v] => if a = 1 ∧ v ≠ 0 ∧ v ≠ 1 then none else some (some (.int v), G)
      | _ => none)
    | .lreturn => (match st with
      | [.long v] => some (some (.long v), G)
      | _ => none)
    | .return_ => (match st with
      | [] => some (none, G)
      | _ => none)
    | _ => none
def am_ops (C : am_C) (J : am_J) : List am_O → am_J
  | [], pc, ls, st, G => J pc ls st G
  | o :: r, pc, ls, st, G => am_op C J (fun ls st G => am_ops C J r (pc + o.2.1) ls st G) o ls st G
def am_fwd (C : am_C) (back : am_J) : am_B → am_J
  | [], pc, ls, st, G => back pc ls st G
  | (p0, ops) :: r, pc, ls, st, G => if pc = p0 then am_ops C (am_fwd C back r) ops pc ls st G else am_fwd C back r pc ls st G
def am_run (C : am_C) (full : am_B) : Nat → am_J
  | 0, _, _, _, _ => none
  | n + 1, pc, ls, st, G => am_fwd C (am_run C full n) full pc ls st G
def am_call (P : Nat → Nat × am_B) : Nat → am_C
  | 0, _, _, _ => none
  | d + 1, y, args, G => if am_cat args ≤ (P y).1 then am_run (am_call P d) (P y).2 1000000 0 (lv_args 0 args) [] G else none
/-! the picture of a heap as cells of the machine: cell r lies at B + r -/
/-- a reference is a cell of ours; a reference to a cell that isn't (the law's script) is told as .retAddr -/
def am_rv (B : Nat) : Value → Value
  | .ref k => .ref (B + k)
  | .retAddr a => .ref a
  | v => v
abbrev am_ms (B : Nat) (st : List Value) : List Value := st.map (am_rv B)
abbrev am_ml (B : Nat) (ls : am_L) : am_L := ls.map fun q => (q.1, am_rv B q.2)
def am_sort : FieldType → Nat
  | .int => 0
  | .long => 1
  | .boolean => 3
  | .array _ => 2
  | .object _ => 2
  | _ => 9
def am_fval (B : Nat) (t : FieldType) (x : Int32) (y : Int64) (q : Nat) : Value := match am_sort t with
  | 0 => .int x
  | 1 => .long y
  | 3 => .int x
  | _ => match q with
    | 0 => .null
    | q + 1 => .ref (B + q)
def am_ent (ty : Nat → Nat → FieldType) (cA : Nat → ClassId) (B : Nat) (G : am_G) (r : Nat) (sh : am_Sh) : va_E :=
  if sh.1 < 100 then .inr (sh.1, (List.range sh.2.1).map fun k => am_fval B (ty sh.1 k) (G.2.1 r k) (G.2.2 r k) (sh.2.2.getD k 0))
  else if sh.1 = 101 then .inl (cA 101, sh.2.1, .inr (.inl (G.2.2 r))) else .inl (cA sh.1, sh.2.1, .inl (G.2.1 r))
def am_w (ty : Nat → Nat → FieldType) (cA : Nat → ClassId) (B : Nat) (G : am_G) : va_W := G.1.mapIdx fun r sh => (B + r, am_ent ty cA B G r sh)
def am_sz : List am_Sh → Nat
  | [] => 0
  | sh :: r => sh.2.1 + am_sz r
abbrev am_tys (cA : Nat → ClassId) : List (ClassId × FieldType) := [(cA 100, .int), (cA 101, .long), (cA 102, .byte), (cA 103, .boolean)]
def am_Q (D : va_G) (cl : List vw_C) (ty : Nat → Nat → FieldType) (cA : Nat → ClassId) (B : Nat) (r : Option Value) (G : am_G) : Array Value → State → Outcome → State → Prop :=
  fun _ st oc t => oc = .returned (r.map (am_rv B)) ∧ va_P D cl (am_w ty cA B G) t.heap ∧ va_F (fun q => B ≤ q) st t
theorem am_get_mem {ls : am_L} {i : Nat} {v : Value} (h : am_get ls i = some v) : (i, v) ∈ ls := by
  induction ls with
  | nil => cases h
  | cons q r ih =>
    obtain ⟨j, w⟩ := q
    unfold am_get at h
    split at h
    · next e => subst e; cases h; exact List.mem_cons_self
    · exact List.mem_cons_of_mem _ (ih h)
theorem am_rv_cat (B : Nat) (v : Value) : (am_rv B v).category = v.category := by cases v <;> rfl
theorem am_get_real {ls : am_L} {i : Nat} {v : Value} {B nL : Nat} {lsR : Array Slot} (h : am_get ls i = some v) (hl : lv_has lsR nL (am_ml B ls)) : lsR[i]? = some (.val (am_rv B v)) :=
  hl.2.2 (i, am_rv B v) (List.mem_map.mpr ⟨(i, v), am_get_mem h, rfl⟩)
theorem am_put_real (B : Nat) (ls : am_L) (i : Nat) (v : Value) : (i, am_rv B v) :: (am_ml B ls).filter (fun q => !(q.1 == i) && !(q.1 + 1 == i && q.2.category == 2)) = am_ml B (am_put ls i v) := by
  simp only [am_put, am_ml, List.map_cons, List.filter_map]
  congr 2
  apply List.filter_congr
  intro q _
  simp [am_rv_cat]
theorem am_put2_real (B : Nat) (ls : am_L) (i : Nat) (v : Value) : (i, am_rv B v) :: (am_ml B ls).filter (fun q => !(q.1 == i) && (!(q.1 == i + 1) && !(q.1 + 1 == i && q.2.category == 2))) = am_ml B (am_put2 ls i v) := by
  simp only [am_put2, am_ml, List.map_cons, List.filter_map]
  congr 2
  apply List.filter_congr
  intro q _
  simp [am_rv_cat]
theorem am_cat_real (B : Nat) (st : List Value) : ((am_ms B st).map fun v => v.category).sum = am_cat st := by
  simp only [am_cat, am_ms, List.map_map]
  congr 1
  apply List.map_congr_left
  intro v _
  exact am_rv_cat B v
theorem am_args_real (B : Nat) (vs : List Value) : ∀ i, lv_args i (vs.map (am_rv B)) = am_ml B (lv_args i vs) := by
  induction vs with
  | nil => intro i; rfl
  | cons v r ih => intro i; simp only [List.map_cons, lv_args, am_ml, am_rv_cat]; rw [ih]
theorem am_w_get {ty : Nat → Nat → FieldType} {cA : Nat → ClassId} {B : Nat} {G : am_G} {r : Nat} {sh : am_Sh} (h : G.1[r]? = some sh) : (am_w ty cA B G)[r]? = some (B + r, am_ent ty cA B G r sh) := by
  simp [am_w, List.getElem?_mapIdx, h]
theorem am_w_get0 {ty : Nat → Nat → FieldType} {cA : Nat → ClassId} {B : Nat} {G : am_G} {r : Nat} {q : Nat × va_E} (h : (am_w ty cA B G)[r]? = some q) : ∃ sh, G.1[r]? = some sh ∧ q = (B + r, am_ent ty cA B G r sh) := by
  simp only [am_w, List.getElem?_mapIdx, Option.map_eq_some_iff] at h
  obtain ⟨sh, h1, h2⟩ := h
  exact ⟨sh, h1, h2.symm⟩
theorem am_w_len (ty : Nat → Nat → FieldType) (cA : Nat → ClassId) (B : Nat) (G : am_G) : (am_w ty cA B G).length = G.1.length := by simp [am_w]
theorem am_w_D (ty : Nat → Nat → FieldType) (cA : Nat → ClassId) (B : Nat) (G : am_G) : va_D (fun q => B ≤ q) (am_w ty cA B G) := by
  refine ⟨fun i j x y hx hy e => ?_, fun k x hx => ?_⟩
  · obtain ⟨_, -, rfl⟩ := am_w_get0 hx
    obtain ⟨_, -, rfl⟩ := am_w_get0 hy
    dsimp only at e
    omega
  · obtain ⟨_, -, rfl⟩ := am_w_get0 hx
    dsimp only
    omega
/-- one cell changed -/
theorem am_w_set {ty : Nat → Nat → FieldType} {cA : Nat → ClassId} {B : Nat} {G G' : am_G} {r : Nat} {e' : va_E} (hr : (am_w ty cA B G')[r]? = some (B + r, e')) (hn : G'.1.length = G.1.length) (ho : ∀ i, i ≠ r → (am_w ty cA B G')[i]? = (am_w ty cA B G)[i]?) : am_w ty cA B G' = (am_w ty cA B G).set r (B + r, e') := by
  apply List.ext_getElem?
  intro i
  by_cases hi : i = r
  · subst hi
    rw [hr, List.getElem?_set_self]
    rw [am_w_len, ← hn, ← am_w_len ty cA B G']
    exact (List.getElem?_eq_some_iff.mp hr).1
  · rw [ho i hi, List.getElem?_set_ne (Ne.symm hi)]
