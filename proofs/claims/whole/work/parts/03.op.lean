theorem am_k_e {tb : List (Int32 × Nat)} {f : Int32 → am_R} {z : Option Value × am_G} (h : am_k tb f = some z) : ∃ x t, tb = [(x, t)] ∧ f x = some z := by
  unfold am_k at h
  split at h
  · exact ⟨_, _, rfl, h⟩
  · cases h
theorem am_ldi_e {ls : am_L} {i : Nat} {f : Int32 → am_R} {z : Option Value × am_G} (h : am_ldi ls i f = some z) : ∃ x, am_get ls i = some (.int x) ∧ f x = some z := by
  unfold am_ldi at h
  split at h
  · next x e => exact ⟨x, e, h⟩
  · cases h
theorem am_ldl_e {ls : am_L} {i : Nat} {f : Int64 → am_R} {z : Option Value × am_G} (h : am_ldl ls i f = some z) : ∃ x, am_get ls i = some (.long x) ∧ f x = some z := by
  unfold am_ldl at h
  split at h
  · next x e => exact ⟨x, e, h⟩
  · cases h
theorem am_lda_e {ls : am_L} {i : Nat} {f : Nat → am_R} {z : Option Value × am_G} (h : am_lda ls i f = some z) : ∃ x, am_get ls i = some (.ref x) ∧ f x = some z := by
  unfold am_lda at h
  split at h
  · next x e => exact ⟨x, e, h⟩
  · cases h
theorem am_p1_e {st : List Value} {f : Int32 → List Value → am_R} {z : Option Value × am_G} (h : am_p1 st f = some z) : ∃ x r, st = .int x :: r ∧ f x r = some z := by
  unfold am_p1 at h
  split at h
  · exact ⟨_, _, rfl, h⟩
  · cases h
theorem am_p2_e {st : List Value} {f : Int32 → Int32 → List Value → am_R} {z : Option Value × am_G} (h : am_p2 st f = some z) : ∃ x y r, st = .int y :: .int x :: r ∧ f x y r = some z := by
  unfold am_p2 at h
  split at h
  · exact ⟨_, _, _, rfl, h⟩
  · cases h
theorem am_q1_e {st : List Value} {f : Int64 → List Value → am_R} {z : Option Value × am_G} (h : am_q1 st f = some z) : ∃ x r, st = .long x :: r ∧ f x r = some z := by
  unfold am_q1 at h
  split at h
  · exact ⟨_, _, rfl, h⟩
  · cases h
theorem am_q2_e {st : List Value} {f : Int64 → Int64 → List Value → am_R} {z : Option Value × am_G} (h : am_q2 st f = some z) : ∃ x y r, st = .long y :: .long x :: r ∧ f x y r = some z := by
  unfold am_q2 at h
  split at h
  · exact ⟨_, _, _, rfl, h⟩
  · cases h
theorem am_qs_e {st : List Value} {f : Int64 → Int32 → List Value → am_R} {z : Option Value × am_G} (h : am_qs st f = some z) : ∃ x y r, st = .int y :: .long x :: r ∧ f x y r = some z := by
  unfold am_qs at h
  split at h
  · exact ⟨_, _, _, rfl, h⟩
  · cases h
theorem am_a1_e {st : List Value} {f : Nat → List Value → am_R} {z : Option Value × am_G} (h : am_a1 st f = some z) : ∃ x r, st = .ref x :: r ∧ f x r = some z := by
  unfold am_a1 at h
  split at h
  · exact ⟨_, _, rfl, h⟩
  · cases h
theorem am_ai_e {st : List Value} {f : Nat → Int32 → List Value → am_R} {z : Option Value × am_G} (h : am_ai st f = some z) : ∃ x i r, st = .int i :: .ref x :: r ∧ f x i r = some z := by
  unfold am_ai at h
  split at h
  · exact ⟨_, _, _, rfl, h⟩
  · cases h
theorem am_sh_e {G : am_G} {r : Nat} {f : am_Sh → am_R} {z : Option Value × am_G} (h : am_sh G r f = some z) : ∃ sh, G.1[r]? = some sh ∧ f sh = some z := by
  unfold am_sh at h
  split at h
  · next sh e => exact ⟨sh, e, h⟩
  · cases h
theorem am_ret_e {x : am_R} {f : List Value → am_G → am_R} {z : Option Value × am_G} (h : am_ret x f = some z) : ∃ v G, x = some (v, G) ∧ f v.toList G = some z := by
  unfold am_ret at h
  split at h
  · exact ⟨_, _, rfl, h⟩
  · cases h
theorem am_ite_e {c : Prop} {d : Decidable c} {f : am_R} {z : Option Value × am_G} (h : (if c then f else none) = some z) : c ∧ f = some z := by
  split at h
  · next e => exact ⟨e, h⟩
  · cases h
theorem am_nite_e {c : Prop} {d : Decidable c} {f : am_R} {z : Option Value × am_G} (h : (if c then none else f) = some z) : ¬ c ∧ f = some z := by
  split at h
  · cases h
  · next e => exact ⟨e, h⟩
theorem am_getf_e {G : am_G} {r ci k c : Nat} {f : Value → am_R} {z : Option Value × am_G} (h : am_getf G r ci k c f = some z) : ∃ sh, G.1[r]? = some sh ∧ sh.1 = ci ∧ k < sh.2.1 ∧ (((c = 0 ∨ c = 3) ∧ f (.int (G.2.1 r k)) = some z) ∨ (c = 1 ∧ f (.long (G.2.2 r k)) = some z) ∨ (c = 2 ∧ ∃ q, sh.2.2.getD k 0 = q + 1 ∧ f (.ref q) = some z)) := by
  unfold am_getf at h
  obtain ⟨sh, hsh, h1⟩ := am_sh_e h
  clear h
  obtain ⟨⟨e1, e2⟩, h⟩ := am_ite_e h1
  clear h1
  refine ⟨sh, hsh, e1, e2, ?_⟩
  split at h
  · exact Or.inl ⟨Or.inl rfl, h⟩
  · exact Or.inr (Or.inl ⟨rfl, h⟩)
  · exact Or.inl ⟨Or.inr rfl, h⟩
  · split at h
    · cases h
    · next q e => exact Or.inr (Or.inr ⟨rfl, q, e, h⟩)
  · cases h
theorem am_putf_e {G : am_G} {r ci k c : Nat} {v : Value} {f : am_G → am_R} {z : Option Value × am_G} (h : am_putf G r ci k c v f = some z) : ∃ sh, G.1[r]? = some sh ∧ sh.1 = ci ∧ k < sh.2.1 ∧ ((∃ y, (c = 0 ∨ (c = 3 ∧ (y = 0 ∨ y = 1))) ∧ v = .int y ∧ f (G.1, am_si G.2.1 r k y, G.2.2) = some z) ∨ (∃ y, c = 1 ∧ v = .long y ∧ f (G.1, G.2.1, am_sl G.2.2 r k y) = some z) ∨ (∃ y, c = 2 ∧ v = .ref y ∧ k < sh.2.2.length ∧ f (G.1.set r (sh.1, sh.2.1, sh.2.2.set k (y + 1)), G.2.1, G.2.2) = some z)) := by
  unfold am_putf at h
  obtain ⟨sh, hsh, h1⟩ := am_sh_e h
  clear h
  obtain ⟨⟨e1, e2⟩, h⟩ := am_ite_e h1
  clear h1
  refine ⟨sh, hsh, e1, e2, ?_⟩
  split at h
  · exact Or.inl ⟨_, Or.inl rfl, rfl, h⟩
  · exact Or.inr (Or.inl ⟨_, rfl, rfl, h⟩)
  · obtain ⟨hy, h⟩ := am_ite_e h
    exact Or.inl ⟨_, Or.inr ⟨rfl, hy⟩, rfl, h⟩
  · obtain ⟨hy, h⟩ := am_ite_e h
    exact Or.inr (Or.inr ⟨_, rfl, rfl, hy, h⟩)
  · cases h
def am_okt (pc : Nat) : Int → List Int → List (Int32 × Nat) → Bool
  | _, [], [] => true
  | lo, off :: os, (k, t) :: r => decide (k.toInt = lo) && (decide ((pc : Int) + off = (t : Int)) && am_okt pc (lo + 1) os r)
  | _, _, _ => false
def am_okl (pc : Nat) : List (Int × Int) → List (Int32 × Nat) → Bool
  | [], [] => true
  | (i, off) :: os, (k, t) :: r => decide (k.toInt = i) && (decide ((pc : Int) + off = (t : Int)) && am_okl pc os r)
  | _, _ => false
theorem am_sw_t {J : Nat → am_R} {x : Int32} {d pc : Nat} {z : am_R} : ∀ (tb : List (Int32 × Nat)) (lo : Int) (os : List Int), am_okt pc lo os tb = true → am_sw J x d tb = z → ((x.toInt < lo ∨ lo + os.length ≤ x.toInt) ∧ J d = z) ∨ ∃ (j : Nat) (off : Int) (t : Nat), os[j]? = some off ∧ x.toInt = lo + j ∧ (pc : Int) + off = (t : Int) ∧ J t = z := by
  intro tb
  induction tb with
  | nil =>
    intro lo os h1 h2
    cases os with
    | nil => exact Or.inl ⟨by simp; omega, h2⟩
    | cons a b => simp [am_okt] at h1
  | cons q r ih =>
    obtain ⟨k, t⟩ := q
    intro lo os h1 h2
    cases os with
    | nil => simp [am_okt] at h1
    | cons off os =>
      simp only [am_okt, Bool.and_eq_true, decide_eq_true_eq] at h1
      obtain ⟨e1, e2, e3⟩ := h1
      unfold am_sw at h2
      split at h2
      · next e =>
        subst e
        exact Or.inr ⟨0, off, t, rfl, by simpa using e1, e2, h2⟩
      · next e =>
        have hne : x.toInt ≠ lo := fun h => e (Int32.toInt_inj.mp (h.trans e1.symm))
        rcases ih (lo + 1) os e3 h2 with ⟨h, hj⟩ | ⟨j, of, t', g1, g2, g3, g4⟩
        · refine Or.inl ⟨?_, hj⟩
          simp only [List.length_cons]
          omega
        · exact Or.inr ⟨j + 1, of, t', by simpa using g1, by rw [g2]; omega, g3, g4⟩
theorem am_sw_l {J : Nat → am_R} {x : Int32} {d pc : Nat} {dflt : Int} {z : am_R} (hd : (pc : Int) + dflt = (d : Int)) : ∀ (tb : List (Int32 × Nat)) (os : List (Int × Int)), am_okl pc os tb = true → am_sw J x d tb = z → ∃ (t : Nat), (pc : Int) + Op.lookupswitch.offset os dflt x.toInt = (t : Int) ∧ J t = z := by
  intro tb
  induction tb with
  | nil =>
    intro os h1 h2
    cases os with
    | nil => exact ⟨d, hd, h2⟩
    | cons a b => simp [am_okl] at h1
  | cons q r ih =>
    obtain ⟨k, t⟩ := q
    intro os h1 h2
    cases os with
    | nil => simp [am_okl] at h1
    | cons p0 os =>
      obtain ⟨i, off⟩ := p0
      simp only [am_okl, Bool.and_eq_true, decide_eq_true_eq] at h1
      obtain ⟨e1, e2, e3⟩ := h1
      unfold am_sw at h2
      rw [Op.lookupswitch.offset_cons]
      split at h2
      · next e =>
        subst e
        exact ⟨t, by rw [if_pos e1.symm]; exact e2, h2⟩
      · next e =>
        rw [if_neg (fun h => e (Int32.toInt_inj.mp (h.symm.trans e1.symm)))]
        exact ih os e3 h2
def am_okn (Nb : List (String × Nat × MethodName × String)) (own : String) (ix : Nat) (y : MethodName) : Bool := Nb.any fun q => decide (q.1 = own ∧ q.2.1 = ix ∧ q.2.2.1 = y)
theorem am_okn_e {Nb : List (String × Nat × MethodName × String)} {own : String} {ix : Nat} {y : MethodName} (h : am_okn Nb own ix y = true) : ∃ host, (own, ix, y, host) ∈ Nb := by
  obtain ⟨q, hq, h2⟩ := List.any_eq_true.mp h
  obtain ⟨rfl, rfl, rfl⟩ := of_decide_eq_true h2
  exact ⟨q.2.2.2, hq⟩
def am_okv (tb : List (Int32 × Nat)) (v : Int32) : Bool := decide (tb.map (·.1) = [v])
theorem am_okv_e {x v : Int32} {t : Nat} (h : am_okv [(x, t)] v = true) : v = x := by
  have := of_decide_eq_true h
  simp at this
  exact this.symm
def am_okf (mem : Nat → Nat → Jvm.Cond → Bool) (cl : List vw_C) (ty : Nat → Nat → FieldType) (own : String) (ini : Bool) (put : Bool) (ix a b c : Nat) : Bool := match cl[a]? with
  | some q => decide (b < q.2.2) && (decide (a < 100) && (mem 0 ix (.fieldLink own ix (q.2.1 b).1 (q.2.1 b).2.1 (q.2.1 b).2.2.1) && (decide (am_sort (ty a b) = c) && (!put || decide ((q.2.1 b).2.2.2 = false ∨ ((q.2.1 b).2.2.2 = true ∧ ini = true ∧ (q.2.1 b).1 = own))))))
  | none => false
theorem am_okf_e {Tb : List Jvm.Cond} {mem : Nat → Nat → Jvm.Cond → Bool} (hmem : ∀ k x w, mem k x w = true → w ∈ Tb) {cl : List vw_C} {ty : Nat → Nat → FieldType} {own : String} {ini put : Bool} {ix a b c : Nat} (h : am_okf mem cl ty own ini put ix a b c = true) : ∃ q, cl[a]? = some q ∧ b < q.2.2 ∧ a < 100 ∧ Jvm.Cond.fieldLink own ix (q.2.1 b).1 (q.2.1 b).2.1 (q.2.1 b).2.2.1 ∈ Tb ∧ am_sort (ty a b) = c ∧ (put = true → (q.2.1 b).2.2.2 = false ∨ ((q.2.1 b).2.2.2 = true ∧ ini = true ∧ (q.2.1 b).1 = own)) := by
  unfold am_okf at h
  split at h
  · next q e =>
    simp only [Bool.and_eq_true, decide_eq_true_eq, Bool.or_eq_true, Bool.not_eq_true'] at h
    obtain ⟨h1, h2, h3, h4, h5⟩ := h
    refine ⟨q, e, h1, h2, hmem _ _ _ h3, h4, fun hp => ?_⟩
    rcases h5 with h5 | h5
    · rw [hp] at h5; cases h5
    · exact h5
  · cases h
def am_okc (mem : Nat → Nat → Jvm.Cond → Bool) (Nb : List (String × Nat × MethodName × String)) (M : List am_M) (own : String) (ix a b rc : Nat) (nest : Bool) (f : MethodName → Option FieldType → Bool) : Bool := match M[a]? with
  | some (y, _, _, rt, n) => decide (b = n + rc) && ((if nest then am_okn Nb own ix y else mem 0 ix (.methodLink own ix y)) && f y rt)
  | none => false
theorem am_okc_e {Tb : List Jvm.Cond} {mem : Nat → Nat → Jvm.Cond → Bool} (hmem : ∀ k x w, mem k x w = true → w ∈ Tb) {Nb : List (String × Nat × MethodName × String)} {M : List am_M} {own : String} {ix a b rc : Nat} {nest : Bool} {f : MethodName → Option FieldType → Bool} (h : am_okc mem Nb M own ix a b rc nest f = true) : ∃ y bytes mL rt n, M[a]? = some (y, bytes, mL, rt, n) ∧ b = n + rc ∧ ((nest = true ∧ ∃ host, (own, ix, y, host) ∈ Nb) ∨ (nest = false ∧ Jvm.Cond.methodLink own ix y ∈ Tb)) ∧ f y rt = true := by
  unfold am_okc at h
  split at h
  · next y bytes mL rt n e =>
    simp only [Bool.and_eq_true, decide_eq_true_eq] at h
    obtain ⟨h1, h2, h3⟩ := h
    refine ⟨y, bytes, mL, rt, n, e, h1, ?_, h3⟩
    cases nest
    · exact Or.inr ⟨rfl, hmem _ _ _ h2⟩
    · exact Or.inl ⟨rfl, am_okn_e h2⟩
  · cases h
theorem am_take {st As : List Value} {b : Nat} {v : Value} (h : (st.take b).reverse = v :: As) (hb : b ≤ st.length) : st = As.reverse ++ v :: st.drop b ∧ As.length + 1 = b := by
  have h1 : st.take b = As.reverse ++ [v] := by rw [← List.reverse_reverse (st.take b), h]; simp
  refine ⟨?_, ?_⟩
  · conv => lhs; rw [← List.take_append_drop b st, h1]
    simp
  · have := congrArg List.length h1
    simp at this
    omega
theorem am_take0 {st : List Value} {b : Nat} (hb : b ≤ st.length) : st = ((st.take b).reverse).reverse ++ st.drop b ∧ (st.take b).reverse.length = b := ⟨by simp, by simp; omega⟩

def am_okb (mem : Nat → Nat → Jvm.Cond → Bool) (Nb : List (String × Nat × MethodName × String)) (cl : List vw_C) (ty : Nat → Nat → FieldType) (M : List am_M) (own : String) (cc : ByteArray) (nL : Nat) (ret : Option FieldType) (ini : Bool) (pc : Nat) (o : am_O) : Bool := decide (decode cc pc = .ok (o.1, o.2.1)) && (match o with
  | (i, n, a, b, c, tb) => match i with
    | .iconst k => decide (n = 1) && am_okv tb (Int32.ofInt k)
    | .bipush k => decide (n = 2) && am_okv tb (Int8.ofInt k).toInt32
    | .sipush k => decide (n = 3) && am_okv tb (Int16.ofInt k).toInt32
    | .ldc k => decide (n = 2) && tb.all fun q => mem 0 k (.constant own k q.1)
    | .ldc_w k => decide (n = 3) && tb.all fun q => mem 0 k (.constant own k q.1)
    | .lconst k => decide (n = 1) && decide (a = k.val)
    | .ldc2_w k => decide (n = 3) && mem 0 k (.constantLong own k (Int64.ofNat a))
    | .iload _ => decide (n = 2)
    | .iload_n _ => decide (n = 1)
    | .lload _ => decide (n = 2)
    | .lload_n _ => decide (n = 1)
    | .aload _ => decide (n = 2)
    | .aload_n _ => decide (n = 1)
    | .istore i => decide (n = 2) && decide (i < nL)
    | .istore_n i => decide (n = 1) && decide (i.val < nL)
    | .astore i => decide (n = 2) && decide (i < nL)
    | .astore_n i => decide (n = 1) && decide (i.val < nL)
    | .lstore i => decide (n = 2) && decide (i + 1 < nL)
    | .lstore_n i => decide (n = 1) && decide (i.val + 1 < nL)
    | .iinc i k => decide (n = 3) && (decide (i < nL) && am_okv tb (Int32.ofInt k))
    | .iadd => decide (n = 1)
    | .isub => decide (n = 1)
    | .imul => decide (n = 1)
    | .iand => decide (n = 1)
    | .ishr => decide (n = 1)
    | .idiv => decide (n = 1)
    | .irem => decide (n = 1)
    | .land => decide (n = 1)
    | .lor => decide (n = 1)
    | .lshl => decide (n = 1)
    | .lshr => decide (n = 1)
    | .lushr => decide (n = 1)
    | .lcmp => decide (n = 1)
    | .i2l => decide (n = 1)
    | .l2i => decide (n = 1)
    | .i2b => decide (n = 1)
    | .dup => decide (n = 1)
    | .dup2 => decide (n = 1)
    | .pop => decide (n = 1)
    | .iaload => decide (n = 1)
    | .laload => decide (n = 1)
    | .iastore => decide (n = 1)
    | .lastore => decide (n = 1)
    | .arraylength => decide (n = 1)
    | .baload => decide (n = 1) && decide (a = 102 ∨ a = 103)
    | .bastore => decide (n = 1) && decide (a = 102 ∨ a = 103)
    | .goto off => decide (n = 3) && decide ((pc : Int) + off = (a : Int))
    | .ifCond _ off => decide (n = 3) && decide ((pc : Int) + off = (a : Int))
    | .if_icmp _ off => decide (n = 3) && decide ((pc : Int) + off = (a : Int))
    | .tableswitch d lo hi os => decide ((pc : Int) + d = (a : Int)) && (decide (lo + os.toList.length = hi + 1) && am_okt pc lo os.toList tb)
    | .lookupswitch d os => decide ((pc : Int) + d = (a : Int)) && ((os.toList.zip (os.toList.drop 1)).all (fun (a, next) => a.1 < next.1) && am_okl pc os.toList tb)
    | .getfield ix => decide (n = 3) && am_okf mem cl ty own ini false ix a b c
    | .putfield ix => decide (n = 3) && am_okf mem cl ty own ini true ix a b c
    | .new ix => decide (n = 3) && (match cl[a]? with
      | some q => decide (b = q.2.2) && (decide (a < 100) && (mem 0 ix (.classLink own ix q.1) && (mem 1 a (.instantiable q.1 q.2.2) && (mem 2 a (.initialized q.1) && (List.range q.2.2).all fun k => decide (am_sort (ty a k) ≠ 9)))))
      | none => false)
    | .newarray t => decide (n = 2) && (mem 3 a (.arrayClass (newarray.typeOf t)) && decide ((a = 100 ∧ t = .int) ∨ (a = 101 ∧ t = .long) ∨ (a = 102 ∧ t = .byte) ∨ (a = 103 ∧ t = .boolean)))
    | .invokevirtual ix => decide (n = 3) && am_okc mem Nb M own ix a b 1 (c % 10 == 1) fun y _ => (match cl[c / 10]? with
      | some q => decide (q.1 = y.cls) && (decide (c / 10 < 100) && (mem 4 a (.instanceMethod y) && mem 5 a (.selects y.cls y y)))
      | none => false)
    | .invokestatic ix => decide (n = 3) && (if c = 9 then mem 0 ix (.methodLink own ix arraycopyName) && (mem 7 0 (.native arraycopyName) && (mem 7 1 (.static arraycopyName) && mem 7 2 (.initialized "java/lang/System"))) else if c = 7 then mem 0 ix (.methodLink own ix Lib.Math.max.name) && (mem 7 3 (.static Lib.Math.max.name) && (mem 7 7 (.initialized "java/lang/Math") && mem 7 4 (.code Lib.Math.max.name Lib.Math.max.code 2 (some .int)))) else if c = 6 then mem 0 ix (.methodLink own ix Lib.Math.min.name) && (mem 7 5 (.static Lib.Math.min.name) && (mem 7 7 (.initialized "java/lang/Math") && mem 7 6 (.code Lib.Math.min.name Lib.Math.min.code 2 (some .int)))) else am_okc mem Nb M own ix a b 0 (c % 10 == 1) fun y _ => mem 6 a (.static y))
    | .invokespecial ix => decide (n = 3) && (if c = 8 then mem 0 ix (.methodLink own ix Lib.objectInit) && (mem 8 0 (.instanceMethod Lib.objectInit) && mem 8 1 (.code Lib.objectInit ⟨#[0xb1]⟩ 1 none)) else am_okc mem Nb M own ix a b 1 (c % 10 == 1) fun y rt => decide (rt = none) && (decide (y.name = "<init>") && mem 4 a (.instanceMethod y)))
    | .ireturn => decide (n = 1) && decide ((a = 0 ∧ ret = some .int) ∨ (a = 1 ∧ ret = some .boolean))
    | .lreturn => decide (n = 1) && decide (ret = some .long)
    | .return_ => decide (n = 1) && decide (ret = none)
    | _ => false)
section AMO
variable {p : Program} {l : Launch} {e : Env} {R : Room} {s : State} {m : MethodId} {args : Array Value} {below : List Frame} {meth : Method} {c : Code} {Tb : List Jvm.Cond} {Nb : List (String × Nat × MethodName × String)} {cl : List vw_C} {ty : Nat → Nat → FieldType} {cA : Nat → ClassId} {D : va_G} {M : List am_M} {own : String} {cc : ByteArray} {nL : Nat} {ret : Option FieldType} {ini : Bool} {B c0 z0 : Nat} {pc : Nat} {ls : am_L} {st rest : List Value} {G G' : am_G} {v : Option Value} {Q : State → Prop} {nE zE : Nat}
set_option maxHeartbeats 8000000 in
theorem am_op_sim (F : am_Fx p R s m args meth c Tb Nb D cl ty cA B c0 own cc nL ret ini) (hg : am_Cg Tb cl ty) (hT : GoodIn Tb Tb) (hM : am_Mg Tb M) {C : am_C} (hC : am_Cs l R Tb Nb D cl ty cA B M C) {J : am_J} {K : am_K} {o : am_O} {mem : Nat → Nat → Jvm.Cond → Bool} (hmem : ∀ k x w, mem k x w = true → w ∈ Tb) (hJ : ∀ t ls st G v G', J t ls st G = some (v, G') → am_Cl p l e R s m args below meth c nL D cl ty cA B c0 z0 t ls st G (MQ below (am_Q D cl ty cA B v G') args s (G'.1.length - c0) (am_sz G'.1 - z0) (fun q => B ≤ q)) G'.1.length (am_sz G'.1)) (hK : ∀ ls st G v G', K ls st G = some (v, G') → am_Cl p l e R s m args below meth c nL D cl ty cA B c0 z0 (pc + o.2.1) ls st G (MQ below (am_Q D cl ty cA B v G') args s (G'.1.length - c0) (am_sz G'.1 - z0) (fun q => B ≤ q)) G'.1.length (am_sz G'.1)) (hok : am_okb mem Nb cl ty M own cc nL ret ini pc o = true) (h : am_op C J K o ls st G = some (v, G')) : am_Cl p l e R s m args below meth c nL D cl ty cA B c0 z0 pc ls st G (MQ below (am_Q D cl ty cA B v G') args s (G'.1.length - c0) (am_sz G'.1 - z0) (fun q => B ≤ q)) G'.1.length (am_sz G'.1) := by
  obtain ⟨i, n, a, b, c', tb⟩ := o
  unfold am_okb at hok
  rw [Bool.and_eq_true, decide_eq_true_eq] at hok
  obtain ⟨hd, hok⟩ := hok
  dsimp only at hd hok hK
  unfold am_op at h
  cases i with
  | iconst k =>
    dsimp only at h hok
    simp only [Bool.and_eq_true, decide_eq_true_eq] at hok
    obtain ⟨rfl, hv⟩ := hok
    obtain ⟨x, t, rfl, h⟩ := am_k_e h
    exact am_t_iconst F (am_okv_e hv) hd (hK _ _ _ _ _ h)
  | bipush k =>
    dsimp only at h hok
    simp only [Bool.and_eq_true, decide_eq_true_eq] at hok
    obtain ⟨rfl, hv⟩ := hok
    obtain ⟨x, t, rfl, h⟩ := am_k_e h
    exact am_t_bipush F (am_okv_e hv) hd (hK _ _ _ _ _ h)
  | sipush k =>
    dsimp only at h hok
    simp only [Bool.and_eq_true, decide_eq_true_eq] at hok
    obtain ⟨rfl, hv⟩ := hok
    obtain ⟨x, t, rfl, h⟩ := am_k_e h
    exact am_t_sipush F (am_okv_e hv) hd (hK _ _ _ _ _ h)
  | ldc k =>
    dsimp only at h hok
    simp only [Bool.and_eq_true, decide_eq_true_eq] at hok
    obtain ⟨rfl, hv⟩ := hok
    obtain ⟨x, t, rfl, h⟩ := am_k_e h
    exact am_t_ldc F (hmem _ _ _ (by simpa using hv)) hd (hK _ _ _ _ _ h)
  | ldc_w k =>
    dsimp only at h hok
    simp only [Bool.and_eq_true, decide_eq_true_eq] at hok
    obtain ⟨rfl, hv⟩ := hok
    obtain ⟨x, t, rfl, h⟩ := am_k_e h
    exact am_t_ldcw F (hmem _ _ _ (by simpa using hv)) hd (hK _ _ _ _ _ h)
  | lconst k =>
    dsimp only at h hok
    simp only [Bool.and_eq_true, decide_eq_true_eq] at hok
    obtain ⟨rfl, rfl⟩ := hok
    exact am_t_lconst F rfl hd (hK _ _ _ _ _ h)
  | ldc2_w k =>
    dsimp only at h hok
    simp only [Bool.and_eq_true, decide_eq_true_eq] at hok
    obtain ⟨rfl, hv⟩ := hok
    exact am_t_ldc2 F (hmem _ _ _ hv) hd (hK _ _ _ _ _ h)
  | iload i =>
    dsimp only at h hok
    simp only [Bool.and_eq_true, decide_eq_true_eq] at hok
    subst hok
    obtain ⟨x, hx, h⟩ := am_ldi_e h
    exact am_t_iload F hx hd (hK _ _ _ _ _ h)
  | iload_n i =>
    dsimp only at h hok
    simp only [Bool.and_eq_true, decide_eq_true_eq] at hok
    subst hok
    obtain ⟨x, hx, h⟩ := am_ldi_e h
    exact am_t_iloadn F hx hd (hK _ _ _ _ _ h)
  | lload i =>
    dsimp only at h hok
    simp only [Bool.and_eq_true, decide_eq_true_eq] at hok
    subst hok
    obtain ⟨x, hx, h⟩ := am_ldl_e h
    exact am_t_lload F hx hd (hK _ _ _ _ _ h)
  | lload_n i =>
    dsimp only at h hok
    simp only [Bool.and_eq_true, decide_eq_true_eq] at hok
    subst hok
    obtain ⟨x, hx, h⟩ := am_ldl_e h
    exact am_t_lloadn F hx hd (hK _ _ _ _ _ h)
  | aload i =>
    dsimp only at h hok
    simp only [Bool.and_eq_true, decide_eq_true_eq] at hok
    subst hok
    obtain ⟨x, hx, h⟩ := am_lda_e h
    exact am_t_aload F hx hd (hK _ _ _ _ _ h)
  | aload_n i =>
    dsimp only at h hok
    simp only [Bool.and_eq_true, decide_eq_true_eq] at hok
    subst hok
    obtain ⟨x, hx, h⟩ := am_lda_e h
    exact am_t_aloadn F hx hd (hK _ _ _ _ _ h)
  | istore i =>
    dsimp only at h hok
    simp only [Bool.and_eq_true, decide_eq_true_eq] at hok
    obtain ⟨rfl, hn⟩ := hok
    obtain ⟨x, r, rfl, h⟩ := am_p1_e h
    exact am_t_istore F hn hd (hK _ _ _ _ _ h)
  | istore_n i =>
    dsimp only at h hok
    simp only [Bool.and_eq_true, decide_eq_true_eq] at hok
    obtain ⟨rfl, hn⟩ := hok
    obtain ⟨x, r, rfl, h⟩ := am_p1_e h
    exact am_t_istoren F hn hd (hK _ _ _ _ _ h)
  | lstore i =>
    dsimp only at h hok
    simp only [Bool.and_eq_true, decide_eq_true_eq] at hok
    obtain ⟨rfl, hn⟩ := hok
    obtain ⟨x, r, rfl, h⟩ := am_q1_e h
    exact am_t_lstore F hn hd (hK _ _ _ _ _ h)
  | lstore_n i =>
    dsimp only at h hok
    simp only [Bool.and_eq_true, decide_eq_true_eq] at hok
    obtain ⟨rfl, hn⟩ := hok
    obtain ⟨x, r, rfl, h⟩ := am_q1_e h
    exact am_t_lstoren F hn hd (hK _ _ _ _ _ h)
  | astore i =>
    dsimp only at h hok
    simp only [Bool.and_eq_true, decide_eq_true_eq] at hok
    obtain ⟨rfl, hn⟩ := hok
    obtain ⟨x, r, rfl, h⟩ := am_a1_e h
    exact am_t_astore F hn hd (hK _ _ _ _ _ h)
  | astore_n i =>
    dsimp only at h hok
    simp only [Bool.and_eq_true, decide_eq_true_eq] at hok
    obtain ⟨rfl, hn⟩ := hok
    obtain ⟨x, r, rfl, h⟩ := am_a1_e h
    exact am_t_astoren F hn hd (hK _ _ _ _ _ h)
  | iinc i k =>
    dsimp only at h hok
    simp only [Bool.and_eq_true, decide_eq_true_eq] at hok
    obtain ⟨rfl, hn, hv⟩ := hok
    obtain ⟨y, t, rfl, h⟩ := am_k_e h
    obtain ⟨x, hx, h⟩ := am_ldi_e h
    exact am_t_iinc F hn (am_okv_e hv) hx hd (hK _ _ _ _ _ h)
  | iadd =>
    dsimp only at h hok
    simp only [Bool.and_eq_true, decide_eq_true_eq] at hok
    subst hok
    obtain ⟨x, y, r, rfl, h⟩ := am_p2_e h
    exact am_t_iadd F hd (hK _ _ _ _ _ h)
  | isub =>
    dsimp only at h hok
    simp only [Bool.and_eq_true, decide_eq_true_eq] at hok
    subst hok
    obtain ⟨x, y, r, rfl, h⟩ := am_p2_e h
    exact am_t_isub F hd (hK _ _ _ _ _ h)
  | imul =>
    dsimp only at h hok
    simp only [Bool.and_eq_true, decide_eq_true_eq] at hok
    subst hok
    obtain ⟨x, y, r, rfl, h⟩ := am_p2_e h
    exact am_t_imul F hd (hK _ _ _ _ _ h)
  | iand =>
    dsimp only at h hok
    simp only [Bool.and_eq_true, decide_eq_true_eq] at hok
    subst hok
    obtain ⟨x, y, r, rfl, h⟩ := am_p2_e h
    exact am_t_iand F hd (hK _ _ _ _ _ h)
  | ishr =>
    dsimp only at h hok
    simp only [Bool.and_eq_true, decide_eq_true_eq] at hok
    subst hok
    obtain ⟨x, y, r, rfl, h⟩ := am_p2_e h
    exact am_t_ishr F hd (hK _ _ _ _ _ h)
  | idiv =>
    dsimp only at h hok
    simp only [Bool.and_eq_true, decide_eq_true_eq] at hok
    subst hok
    obtain ⟨x, y, r, rfl, h⟩ := am_p2_e h
    obtain ⟨hne, h⟩ := am_nite_e h
    exact am_t_idiv F hne hd (hK _ _ _ _ _ h)
  | irem =>
    dsimp only at h hok
    simp only [Bool.and_eq_true, decide_eq_true_eq] at hok
    subst hok
    obtain ⟨x, y, r, rfl, h⟩ := am_p2_e h
    obtain ⟨hne, h⟩ := am_nite_e h
    exact am_t_irem F hne hd (hK _ _ _ _ _ h)
  | land =>
    dsimp only at h hok
    simp only [Bool.and_eq_true, decide_eq_true_eq] at hok
    subst hok
    obtain ⟨x, y, r, rfl, h⟩ := am_q2_e h
    exact am_t_land F hd (hK _ _ _ _ _ h)
  | lor =>
    dsimp only at h hok
    simp only [Bool.and_eq_true, decide_eq_true_eq] at hok
    subst hok
    obtain ⟨x, y, r, rfl, h⟩ := am_q2_e h
    exact am_t_lor F hd (hK _ _ _ _ _ h)
  | lcmp =>
    dsimp only at h hok
    simp only [Bool.and_eq_true, decide_eq_true_eq] at hok
    subst hok
    obtain ⟨x, y, r, rfl, h⟩ := am_q2_e h
    exact am_t_lcmp F hd (hK _ _ _ _ _ h)
  | lshl =>
    dsimp only at h hok
    simp only [Bool.and_eq_true, decide_eq_true_eq] at hok
    subst hok
    obtain ⟨x, y, r, rfl, h⟩ := am_qs_e h
    exact am_t_lshl F hd (hK _ _ _ _ _ h)
  | lshr =>
    dsimp only at h hok
    simp only [Bool.and_eq_true, decide_eq_true_eq] at hok
    subst hok
    obtain ⟨x, y, r, rfl, h⟩ := am_qs_e h
    exact am_t_lshr F hd (hK _ _ _ _ _ h)
  | lushr =>
    dsimp only at h hok
    simp only [Bool.and_eq_true, decide_eq_true_eq] at hok
    subst hok
    obtain ⟨x, y, r, rfl, h⟩ := am_qs_e h
    exact am_t_lushr F hd (hK _ _ _ _ _ h)
  | i2l =>
    dsimp only at h hok
    simp only [Bool.and_eq_true, decide_eq_true_eq] at hok
    subst hok
    obtain ⟨x, r, rfl, h⟩ := am_p1_e h
    exact am_t_i2l F hd (hK _ _ _ _ _ h)
  | l2i =>
    dsimp only at h hok
    simp only [Bool.and_eq_true, decide_eq_true_eq] at hok
    subst hok
    obtain ⟨x, r, rfl, h⟩ := am_q1_e h
    exact am_t_l2i F hd (hK _ _ _ _ _ h)
  | i2b =>
    dsimp only at h hok
    simp only [Bool.and_eq_true, decide_eq_true_eq] at hok
    subst hok
    obtain ⟨x, r, rfl, h⟩ := am_p1_e h
    exact am_t_i2b F hd (hK _ _ _ _ _ h)
  | dup =>
    dsimp only at h hok
    simp only [Bool.and_eq_true, decide_eq_true_eq] at hok
    subst hok
    split at h
    · obtain ⟨hc, h⟩ := am_ite_e h
      exact am_t_dup F hc hd (hK _ _ _ _ _ h)
    · cases h
  | pop =>
    dsimp only at h hok
    simp only [Bool.and_eq_true, decide_eq_true_eq] at hok
    subst hok
    split at h
    · obtain ⟨hc, h⟩ := am_ite_e h
      exact am_t_pop F hc hd (hK _ _ _ _ _ h)
    · cases h
  | dup2 =>
    dsimp only at h hok
    simp only [Bool.and_eq_true, decide_eq_true_eq] at hok
    subst hok
    split at h
    · obtain ⟨hc, h⟩ := am_ite_e h
      exact am_t_dup2 F hc.1 hc.2 hd (hK _ _ _ _ _ h)
    · cases h
  | goto off =>
    dsimp only at h hok
    simp only [Bool.and_eq_true, decide_eq_true_eq] at hok
    obtain ⟨rfl, ht⟩ := hok
    exact am_t_goto F ht hd (hJ _ _ _ _ _ _ h)
  | ifCond k off =>
    dsimp only at h hok
    simp only [Bool.and_eq_true, decide_eq_true_eq] at hok
    obtain ⟨rfl, ht⟩ := hok
    obtain ⟨x, r, rfl, h1⟩ := am_p1_e h
    unfold am_cond at h1
    clear h
    cases k with
    | eq => exact am_t_if_eq F ht hd (fun hc => hJ _ _ _ _ _ _ (by simpa only [if_pos hc] using h1)) (fun hc => hK _ _ _ _ _ (by simpa only [if_neg hc] using h1))
    | ne => exact am_t_if_ne F ht hd (fun hc => hJ _ _ _ _ _ _ (by simpa only [if_pos hc] using h1)) (fun hc => hK _ _ _ _ _ (by simpa only [if_neg hc] using h1))
    | lt => exact am_t_if_lt F ht hd (fun hc => hJ _ _ _ _ _ _ (by simpa only [if_pos hc] using h1)) (fun hc => hK _ _ _ _ _ (by simpa only [if_neg hc] using h1))
    | ge => exact am_t_if_ge F ht hd (fun hc => hJ _ _ _ _ _ _ (by simpa only [if_pos hc] using h1)) (fun hc => hK _ _ _ _ _ (by simpa only [if_neg hc] using h1))
    | gt => exact am_t_if_gt F ht hd (fun hc => hJ _ _ _ _ _ _ (by simpa only [if_pos hc] using h1)) (fun hc => hK _ _ _ _ _ (by simpa only [if_neg hc] using h1))
    | le => exact am_t_if_le F ht hd (fun hc => hJ _ _ _ _ _ _ (by simpa only [if_pos hc] using h1)) (fun hc => hK _ _ _ _ _ (by simpa only [if_neg hc] using h1))
  | if_icmp k off =>
    dsimp only at h hok
    simp only [Bool.and_eq_true, decide_eq_true_eq] at hok
    obtain ⟨rfl, ht⟩ := hok
    obtain ⟨x, y, r, rfl, h1⟩ := am_p2_e h
    unfold am_cond at h1
    clear h
    cases k with
    | eq => exact am_t_icmp_eq F ht hd (fun hc => hJ _ _ _ _ _ _ (by simpa only [if_pos hc] using h1)) (fun hc => hK _ _ _ _ _ (by simpa only [if_neg hc] using h1))
    | ne => exact am_t_icmp_ne F ht hd (fun hc => hJ _ _ _ _ _ _ (by simpa only [if_pos hc] using h1)) (fun hc => hK _ _ _ _ _ (by simpa only [if_neg hc] using h1))
    | lt => exact am_t_icmp_lt F ht hd (fun hc => hJ _ _ _ _ _ _ (by simpa only [if_pos hc] using h1)) (fun hc => hK _ _ _ _ _ (by simpa only [if_neg hc] using h1))
    | ge => exact am_t_icmp_ge F ht hd (fun hc => hJ _ _ _ _ _ _ (by simpa only [if_pos hc] using h1)) (fun hc => hK _ _ _ _ _ (by simpa only [if_neg hc] using h1))
    | gt => exact am_t_icmp_gt F ht hd (fun hc => hJ _ _ _ _ _ _ (by simpa only [if_pos hc] using h1)) (fun hc => hK _ _ _ _ _ (by simpa only [if_neg hc] using h1))
    | le => exact am_t_icmp_le F ht hd (fun hc => hJ _ _ _ _ _ _ (by simpa only [if_pos hc] using h1)) (fun hc => hK _ _ _ _ _ (by simpa only [if_neg hc] using h1))
  | tableswitch d lo hi os =>
    dsimp only at h hok
    simp only [Bool.and_eq_true, decide_eq_true_eq] at hok
    obtain ⟨h1, h2, h3⟩ := hok
    obtain ⟨x, r, rfl, h⟩ := am_p1_e h
    rcases am_sw_t tb lo os.toList h3 h with ⟨hx, hj⟩ | ⟨j, off, t, g1, g2, g3, g4⟩
    · have k := hJ _ _ _ _ _ _ hj
      exact ⟨k.1, fun H locs lsR a1 a3 a4 a5 a6 a7 a8 => lv_tableOut F.1 F.2.1 hd (by omega) h1 (k.2 H locs lsR a1 a3 a4 a5 a6 a7 a8)⟩
    · have k := hJ _ _ _ _ _ _ g4
      have hj : j < os.toList.length := (List.getElem?_eq_some_iff.mp g1).1
      exact ⟨k.1, fun H locs lsR a1 a3 a4 a5 a6 a7 a8 => lv_tableIn F.1 F.2.1 hd (by omega) (by omega) (off := off) (by rw [g2, show (lo + (j : Int) - lo).toNat = j by omega, ← Array.getElem?_toList]; exact g1) g3 (k.2 H locs lsR a1 a3 a4 a5 a6 a7 a8)⟩
  | lookupswitch d os =>
    dsimp only at h hok
    simp only [Bool.and_eq_true, decide_eq_true_eq] at hok
    obtain ⟨h1, h2, h3⟩ := hok
    obtain ⟨x, r, rfl, h⟩ := am_p1_e h
    obtain ⟨t, g1, g2⟩ := am_sw_l h1 tb os.toList h3 h
    have k := hJ _ _ _ _ _ _ g2
    exact ⟨k.1, fun H locs lsR a1 a3 a4 a5 a6 a7 a8 => lv_lookup F.1 F.2.1 hd h2 rfl g1 (k.2 H locs lsR a1 a3 a4 a5 a6 a7 a8)⟩
  | getfield ix =>
    dsimp only at h hok
    simp only [Bool.and_eq_true, decide_eq_true_eq] at hok
    obtain ⟨rfl, hf⟩ := hok
    obtain ⟨q, q1, q2, q3, q4, q5, -⟩ := am_okf_e hmem hf
    obtain ⟨x, r, rfl, h1⟩ := am_a1_e h
    clear h
    obtain ⟨sh, hsh, e1, e2, h2⟩ := am_getf_e h1
    clear h1
    rcases h2 with ⟨hc, h⟩ | ⟨hc, h⟩ | ⟨hc, q', eq, h⟩
    · exact am_t_getf F hg q1 q2 q4 q3 hsh e1 e2 (w := .int (G.2.1 x b)) (am_fval_i (by rw [q5]; exact hc) _ _ _ _) hd (hK _ _ _ _ _ h)
    · exact am_t_getf F hg q1 q2 q4 q3 hsh e1 e2 (w := .long (G.2.2 x b)) (am_fval_l (q5.trans hc) _ _ _ _) hd (hK _ _ _ _ _ h)
    · refine am_t_getf F hg q1 q2 q4 q3 hsh e1 e2 (w := .ref q') ?_ hd (hK _ _ _ _ _ h)
      rw [eq]
      exact am_fval_r (q5.trans hc) _ _ _ _
  | putfield ix =>
    dsimp only at h hok
    simp only [Bool.and_eq_true, decide_eq_true_eq] at hok
    obtain ⟨rfl, hf⟩ := hok
    obtain ⟨q, q1, q2, q3, q4, q5, q6⟩ := am_okf_e hmem hf
    split at h
    · next w x r =>
      obtain ⟨sh, hsh, e1, e2, h2⟩ := am_putf_e h
      clear h
      have q7 := q6 rfl
      have e3 : sh.1 < 100 := by omega
      subst e1
      rcases h2 with ⟨y, hc, rfl, h⟩ | ⟨y, hc, rfl, h⟩ | ⟨y, hc, rfl, hk, h⟩
      · have hty : fits (ty sh.1 b) (.int y) = true ∧ narrow (ty sh.1 b) (.int y) = .int y ∧ (am_sort (ty sh.1 b) = 0 ∨ am_sort (ty sh.1 b) = 3) := by
          rw [← q5] at hc
          revert hc
          generalize ty sh.1 b = t
          cases t <;> simp [am_sort, fits, narrow]
          rintro (rfl | rfl) <;> decide
        refine am_t_putf F hg (G1 := (G.1, am_si G.2.1 x b y, G.2.2)) q1 q2 q4 q3 hsh rfl e2 q7 (w := .int y) hty.2.1 hty.1 ?_ rfl rfl hd (hK _ _ _ _ _ h)
        rw [am_w_num (G1 := (G.1, am_si G.2.1 x b y, G.2.2)) hsh rfl (fun _ hi => am_si_ne hi) (fun _ _ => rfl), am_ent_o e3]
        congr 4
        exact am_fset e2 (fun j hj => by simp [am_si, hj]) (by rw [am_fval_i hty.2.2]; simp [am_si, am_rv])
      · have hty : ty sh.1 b = .long := by
          rw [← q5] at hc
          revert hc
          generalize ty sh.1 b = t
          cases t <;> simp [am_sort]
        refine am_t_putf F hg (G1 := (G.1, G.2.1, am_sl G.2.2 x b y)) q1 q2 q4 q3 hsh rfl e2 q7 (w := .long y) (by rw [hty]; rfl) (by rw [hty]; rfl) ?_ rfl rfl hd (hK _ _ _ _ _ h)
        rw [am_w_num (G1 := (G.1, G.2.1, am_sl G.2.2 x b y)) hsh rfl (fun _ _ => rfl) (fun _ hi => am_sl_ne hi), am_ent_o e3]
        congr 4
        exact am_fset e2 (fun j hj => by simp [am_sl, hj]) (by rw [am_fval_l (by rw [hty]; rfl)]; simp [am_sl, am_rv])
      · have hfit : fits (ty sh.1 b) (.ref (B + y)) = true ∧ narrow (ty sh.1 b) (.ref (B + y)) = .ref (B + y) := by
          rw [← q5] at hc
          revert hc
          generalize ty sh.1 b = t
          cases t <;> simp [am_sort, fits, narrow]
        refine am_t_putf F hg (G1 := (G.1.set x (sh.1, sh.2.1, sh.2.2.set b (y + 1)), G.2.1, G.2.2)) q1 q2 q4 q3 hsh rfl e2 q7 (w := .ref y) hfit.2 hfit.1 ?_ (by simp) (am_sz_set (sh' := (sh.1, sh.2.1, sh.2.2.set b (y + 1))) hsh rfl) hd (hK _ _ _ _ _ h)
        have hlt : x < G.1.length := (List.getElem?_eq_some_iff.mp hsh).1
        refine am_w_set (G' := (G.1.set x (sh.1, sh.2.1, sh.2.2.set b (y + 1)), G.2.1, G.2.2)) ?_ (by simp) (fun i hi => ?_)
        · rw [am_w_get (sh := (sh.1, sh.2.1, sh.2.2.set b (y + 1))) (by simp [hlt]), am_ent_o (sh := (sh.1, sh.2.1, sh.2.2.set b (y + 1))) e3]
          congr 4
          refine am_fset e2 (fun j hj => ?_) ?_
          · simp only [List.getD_eq_getElem?_getD, List.getElem?_set_ne (Ne.symm hj)]
          · simp only [List.getD_eq_getElem?_getD, List.getElem?_set_self hk, Option.getD_some]
            exact am_fval_r (q5.trans hc) _ _ _ _
        · simp only [am_w, List.getElem?_mapIdx, List.getElem?_set_ne (Ne.symm hi)]
          rfl
    · cases h
  | iaload =>
    dsimp only at h hok
    simp only [Bool.and_eq_true, decide_eq_true_eq] at hok
    subst hok
    obtain ⟨x, i, r, rfl, h⟩ := am_ai_e h
    obtain ⟨sh, hsh, h⟩ := am_sh_e h
    obtain ⟨e1, h⟩ := am_ite_e h
    obtain ⟨e2, h⟩ := am_nite_e h
    exact am_t_iald F hsh e1 e2 hd (hK _ _ _ _ _ h)
  | laload =>
    dsimp only at h hok
    simp only [Bool.and_eq_true, decide_eq_true_eq] at hok
    subst hok
    obtain ⟨x, i, r, rfl, h⟩ := am_ai_e h
    obtain ⟨sh, hsh, h⟩ := am_sh_e h
    obtain ⟨e1, h⟩ := am_ite_e h
    obtain ⟨e2, h⟩ := am_nite_e h
    exact am_t_lald F hsh e1 e2 hd (hK _ _ _ _ _ h)
  | baload =>
    dsimp only at h hok
    simp only [Bool.and_eq_true, decide_eq_true_eq] at hok
    obtain ⟨rfl, ha⟩ := hok
    obtain ⟨x, i, r, rfl, h⟩ := am_ai_e h
    obtain ⟨sh, hsh, h⟩ := am_sh_e h
    obtain ⟨e1, h⟩ := am_ite_e h
    obtain ⟨e2, h9⟩ := am_nite_e h
    clear h
    rcases ha with rfl | rfl
    · exact am_t_bald F hsh e1 e2 hd (hK _ _ _ _ _ h9)
    · exact am_t_zald F hsh e1 e2 hd (hK _ _ _ _ _ h9)
  | iastore =>
    dsimp only at h hok
    simp only [Bool.and_eq_true, decide_eq_true_eq] at hok
    subst hok
    obtain ⟨z, r0, rfl, h⟩ := am_p1_e h
    obtain ⟨x, i, r, rfl, h⟩ := am_ai_e h
    obtain ⟨sh, hsh, h⟩ := am_sh_e h
    obtain ⟨e1, h⟩ := am_ite_e h
    obtain ⟨e2, h⟩ := am_nite_e h
    exact am_t_iast F hsh e1 e2 hd (hK _ _ _ _ _ h)
  | lastore =>
    dsimp only at h hok
    simp only [Bool.and_eq_true, decide_eq_true_eq] at hok
    subst hok
    obtain ⟨z, r0, rfl, h⟩ := am_q1_e h
    obtain ⟨x, i, r, rfl, h⟩ := am_ai_e h
    obtain ⟨sh, hsh, h⟩ := am_sh_e h
    obtain ⟨e1, h⟩ := am_ite_e h
    obtain ⟨e2, h⟩ := am_nite_e h
    exact am_t_last F hsh e1 e2 hd (hK _ _ _ _ _ h)
  | bastore =>
    dsimp only at h hok
    simp only [Bool.and_eq_true, decide_eq_true_eq] at hok
    obtain ⟨rfl, ha⟩ := hok
    obtain ⟨z, r0, rfl, h⟩ := am_p1_e h
    obtain ⟨x, i, r, rfl, h⟩ := am_ai_e h
    obtain ⟨sh, hsh, h⟩ := am_sh_e h
    obtain ⟨e1, h⟩ := am_ite_e h
    obtain ⟨e2, h9⟩ := am_nite_e h
    clear h
    rcases ha with rfl | rfl
    · exact am_t_bast F hsh e1 e2 hd (hK _ _ _ _ _ h9)
    · exact am_t_zast F hsh e1 e2 hd (hK _ _ _ _ _ h9)
  | arraylength =>
    dsimp only at h hok
    simp only [Bool.and_eq_true, decide_eq_true_eq] at hok
    subst hok
    obtain ⟨x, r, rfl, h⟩ := am_a1_e h
    obtain ⟨sh, hsh, h⟩ := am_sh_e h
    obtain ⟨⟨e1, e2⟩, h⟩ := am_ite_e h
    exact am_t_alen F hsh e1 e2 hd (hK _ _ _ _ _ h)
  | new ix =>
    dsimp only at h hok
    simp only [Bool.and_eq_true, decide_eq_true_eq] at hok
    obtain ⟨rfl, hq⟩ := hok
    split at hq
    · next q e =>
      simp only [Bool.and_eq_true, decide_eq_true_eq] at hq
      obtain ⟨rfl, q2, q3, q4, q5, q6⟩ := hq
      exact am_t_new F hg e (hmem _ _ _ q3) (hmem _ _ _ q4) (hmem _ _ _ q5) q2 (fun k hk => by simpa using List.all_eq_true.mp q6 k (List.mem_range.mpr hk)) hd (hK _ _ _ _ _ h)
    · cases hq
  | newarray t =>
    dsimp only at h hok
    simp only [Bool.and_eq_true, decide_eq_true_eq] at hok
    obtain ⟨rfl, q1, q2⟩ := hok
    obtain ⟨x, r, rfl, h⟩ := am_p1_e h
    obtain ⟨hx, h⟩ := am_nite_e h
    exact am_t_newa F (hmem _ _ _ q1) q2 (fun h => hx (Or.inl h)) (fun h => hx (Or.inr h)) hd (hK _ _ _ _ _ h)
  | invokevirtual ix =>
    dsimp only at h hok
    simp only [Bool.and_eq_true, decide_eq_true_eq] at hok
    obtain ⟨rfl, hq⟩ := hok
    obtain ⟨y, bytes, mL, rt, n, hm, rfl, hl, hf⟩ := am_okc_e hmem hq
    obtain ⟨⟨hb, hc⟩, h⟩ := am_ite_e h
    split at hf
    · next q e =>
      simp only [Bool.and_eq_true, decide_eq_true_eq] at hf
      obtain ⟨f1, f2, f3, f4⟩ := hf
      split at h
      · next x As eAs =>
        obtain ⟨sh, hsh, h⟩ := am_sh_e h
        obtain ⟨e1, h⟩ := am_ite_e h
        obtain ⟨v1, G1, hcall, h⟩ := am_ret_e h
        obtain ⟨est, eln⟩ := am_take eAs hb
        rw [est]
        rcases hl with ⟨-, host, hl⟩ | ⟨-, hl⟩
        · exact am_t_callVN F hT hM hC hm (by omega) hc hl e f1 f2 hsh e1 (hmem _ _ _ f3) (hmem _ _ _ f4) hcall hd (hK _ _ _ _ _ h)
        · exact am_t_callV F hT hM hC hm (by omega) hc hl e f1 f2 hsh e1 (hmem _ _ _ f3) (hmem _ _ _ f4) hcall hd (hK _ _ _ _ _ h)
      · cases h
    · cases hf
  | invokestatic ix =>
    dsimp only at h hok
    simp only [Bool.and_eq_true, decide_eq_true_eq] at hok
    obtain ⟨rfl, hq⟩ := hok
    by_cases hc9 : c' = 9
    · rw [if_pos hc9] at h hq
      simp only [Bool.and_eq_true, decide_eq_true_eq] at hq
      obtain ⟨q1, q2, q3, q4⟩ := hq
      split at h
      · obtain ⟨hc, h⟩ := am_ite_e h
        unfold am_copy at h
        obtain ⟨s1, hs1, h⟩ := am_sh_e h
        obtain ⟨s2, hs2, h⟩ := am_sh_e h
        obtain ⟨⟨e1, e2, e3, e4, e5, e6, e7⟩, h⟩ := am_ite_e h
        exact am_t_copy F (hmem _ _ _ q1) (hmem _ _ _ q2) (hmem _ _ _ q3) (hmem _ _ _ q4) hs1 hs2 e1 e2 e3 e4 e5 e6 e7 hc hd (hK _ _ _ _ _ h)
      · cases h
    · rw [if_neg hc9] at h hq
      by_cases hc7 : c' = 7
      · rw [if_pos hc7] at h hq
        simp only [Bool.and_eq_true] at hq
        obtain ⟨q1, q2, q3, q4⟩ := hq
        obtain ⟨x, y, r, rfl, h1⟩ := am_p2_e h
        obtain ⟨hc, h2⟩ := am_ite_e h1
        exact am_t_mmax F (hmem _ _ _ q1) (hmem _ _ _ q2) (hmem _ _ _ q3) (hmem _ _ _ q4) hc hd (hK _ _ _ _ _ h2)
      rw [if_neg hc7] at h hq
      by_cases hc6 : c' = 6
      · rw [if_pos hc6] at h hq
        simp only [Bool.and_eq_true] at hq
        obtain ⟨q1, q2, q3, q4⟩ := hq
        obtain ⟨x, y, r, rfl, h1⟩ := am_p2_e h
        obtain ⟨hc, h2⟩ := am_ite_e h1
        exact am_t_mmin F (hmem _ _ _ q1) (hmem _ _ _ q2) (hmem _ _ _ q3) (hmem _ _ _ q4) hc hd (hK _ _ _ _ _ h2)
      rw [if_neg hc6] at h hq
      obtain ⟨y, bytes, mL, rt, n, hm, rfl, hl, hf⟩ := am_okc_e hmem hq
      obtain ⟨⟨hb, hc⟩, h⟩ := am_ite_e h
      obtain ⟨v1, G1, hcall, h⟩ := am_ret_e h
      obtain ⟨est, eln⟩ := am_take0 hb
      rw [est]
      rcases hl with ⟨-, host, hl⟩ | ⟨-, hl⟩
      · exact am_t_callSN F hT hM hC hm (by rw [eln]) hc hl (hmem _ _ _ hf) hcall hd (hK _ _ _ _ _ h)
      · exact am_t_callS F hT hM hC hm (by rw [eln]) hc hl (hmem _ _ _ hf) hcall hd (hK _ _ _ _ _ h)
  | invokespecial ix =>
    dsimp only at h hok
    simp only [Bool.and_eq_true, decide_eq_true_eq] at hok
    obtain ⟨rfl, hq⟩ := hok
    by_cases hc8 : c' = 8
    · rw [if_pos hc8] at h hq
      simp only [Bool.and_eq_true, decide_eq_true_eq] at hq
      obtain ⟨q1, q2, q3⟩ := hq
      obtain ⟨x, r, rfl, h⟩ := am_a1_e h
      obtain ⟨hc, h⟩ := am_ite_e h
      exact am_t_oinit F (hmem _ _ _ q1) (hmem _ _ _ q2) (hmem _ _ _ q3) hc hd (hK _ _ _ _ _ h)
    · rw [if_neg hc8] at h hq
      obtain ⟨y, bytes, mL, rt, n, hm, rfl, hl, hf⟩ := am_okc_e hmem hq
      simp only [Bool.and_eq_true, decide_eq_true_eq] at hf
      obtain ⟨f1, f2, f3⟩ := hf
      obtain ⟨⟨hb, hc⟩, h⟩ := am_ite_e h
      split at h
      · next x As eAs =>
        obtain ⟨v1, G1, hcall, h⟩ := am_ret_e h
        obtain ⟨est, eln⟩ := am_take eAs hb
        rw [est]
        rcases hl with ⟨-, host, hl⟩ | ⟨-, hl⟩
        · exact am_t_callIN F hT hM hC hm (by omega) hc hl f1 f2 (hmem _ _ _ f3) hcall hd (hK _ _ _ _ _ h)
        · exact am_t_callI F hT hM hC hm (by omega) hc hl f1 f2 (hmem _ _ _ f3) hcall hd (hK _ _ _ _ _ h)
      · cases h
  | ireturn =>
    dsimp only at h hok
    simp only [Bool.and_eq_true, decide_eq_true_eq] at hok
    obtain ⟨rfl, ha⟩ := hok
    split at h
    · obtain ⟨hx, h9⟩ := am_nite_e h
      clear h
      cases h9
      rcases ha with ⟨rfl, hr⟩ | ⟨rfl, hr⟩
      · exact am_t_iret F hr hd
      · refine am_t_zret F hr ?_ hd
        rename_i z
        by_cases h0 : z = 0
        · exact Or.inl h0
        · by_cases h1 : z = 1
          · exact Or.inr h1
          · exact absurd ⟨rfl, h0, h1⟩ hx
    · cases h
  | lreturn =>
    dsimp only at h hok
    simp only [Bool.and_eq_true, decide_eq_true_eq] at hok
    obtain ⟨rfl, hr⟩ := hok
    split at h
    · cases h
      exact am_t_lret F hr hd
    · cases h
  | return_ =>
    dsimp only at h hok
    simp only [Bool.and_eq_true, decide_eq_true_eq] at hok
    obtain ⟨rfl, hr⟩ := hok
    split at h
    · cases h
      exact am_t_vret F hr hd
    · cases h
  | _ => cases h
end AMO
