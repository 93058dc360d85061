def am_oks (mem : Nat → Nat → Jvm.Cond → Bool) (Nb : List (String × Nat × MethodName × String)) (cl : List vw_C) (ty : Nat → Nat → FieldType) (M : List am_M) (own : String) (cc : ByteArray) (nL : Nat) (ret : Option FieldType) (ini : Bool) : Nat → List am_O → Bool
  | _, [] => true
  | pc, o :: r => am_okb mem Nb cl ty M own cc nL ret ini pc o && am_oks mem Nb cl ty M own cc nL ret ini (pc + o.2.1) r
def am_okm (mem : Nat → Nat → Jvm.Cond → Bool) (Nb : List (String × Nat × MethodName × String)) (cl : List vw_C) (ty : Nat → Nat → FieldType) (M : List am_M) (own : String) (cc : ByteArray) (nL : Nat) (ret : Option FieldType) (ini : Bool) (bs : am_B) : Bool := bs.all fun q => am_oks mem Nb cl ty M own cc nL ret ini q.1 q.2
/-- cells come, none goes -/
def am_Mo (G G' : am_G) : Prop := G.1.length ≤ G'.1.length ∧ am_sz G.1 ≤ am_sz G'.1
theorem am_Mo.set {G G' : am_G} {r : Nat} {sh : am_Sh} {x : List Nat} (hs : G.1[r]? = some sh) (h : am_Mo (G.1.set r (sh.1, sh.2.1, x), G.2.1, G.2.2) G') : am_Mo G G' := by
  obtain ⟨h1, h2⟩ := h
  dsimp only at h1 h2
  rw [am_sz_set (sh' := (sh.1, sh.2.1, x)) hs rfl] at h2
  exact ⟨by simpa using h1, h2⟩
theorem am_Mo.new {G G' : am_G} {ci n : Nat} (h : am_Mo (am_new G ci n) G') : am_Mo G G' := by
  obtain ⟨h1, h2⟩ := h
  have kl : (am_new G ci n).1.length = G.1.length + 1 := by simp [am_new]
  have ks : am_sz (am_new G ci n).1 = am_sz G.1 + n := am_sz_app _ _
  exact ⟨by omega, by omega⟩
theorem am_Mo.newa {G G' : am_G} {ci n : Nat} (h : am_Mo (am_newa G ci n) G') : am_Mo G G' := by
  obtain ⟨h1, h2⟩ := h
  have kl : (am_newa G ci n).1.length = G.1.length + 1 := by simp [am_newa]
  have ks : am_sz (am_newa G ci n).1 = am_sz G.1 + n := am_sz_app _ _
  exact ⟨by omega, by omega⟩
theorem am_Mo.trans {G G1 G' : am_G} (h : am_Mo G G1) (h2 : am_Mo G1 G') : am_Mo G G' := ⟨Nat.le_trans h.1 h2.1, Nat.le_trans h.2 h2.2⟩
theorem am_sw_mo {J : Nat → am_R} {x : Int32} {d : Nat} {G : am_G} {v : Option Value} {G' : am_G} (hJ : ∀ t, J t = some (v, G') → am_Mo G G') : ∀ tb, am_sw J x d tb = some (v, G') → am_Mo G G' := by
  intro tb
  induction tb with
  | nil => exact hJ d
  | cons q r ih =>
    obtain ⟨k, t⟩ := q
    intro h
    unfold am_sw at h
    split at h
    · exact hJ t h
    · exact ih h
set_option maxHeartbeats 4000000 in
theorem am_op_mo {C : am_C} {J : am_J} {K : am_K} {o : am_O} {ls : am_L} {st : List Value} {G G' : am_G} {v : Option Value} (hC : ∀ a as G v G', C a as G = some (v, G') → am_Mo G G') (hJ : ∀ t ls st G v G', J t ls st G = some (v, G') → am_Mo G G') (hK : ∀ ls st G v G', K ls st G = some (v, G') → am_Mo G G') (h : am_op C J K o ls st G = some (v, G')) : am_Mo G G' := by
  obtain ⟨i, n, a, b, c', tb⟩ := o
  unfold am_op at h
  cases i with
  | iconst k =>
    dsimp only at h
    obtain ⟨x, t, -, h1⟩ := am_k_e h
    exact hK _ _ _ _ _ h1
  | bipush k =>
    dsimp only at h
    obtain ⟨x, t, -, h1⟩ := am_k_e h
    exact hK _ _ _ _ _ h1
  | sipush k =>
    dsimp only at h
    obtain ⟨x, t, -, h1⟩ := am_k_e h
    exact hK _ _ _ _ _ h1
  | ldc k =>
    dsimp only at h
    obtain ⟨x, t, -, h1⟩ := am_k_e h
    exact hK _ _ _ _ _ h1
  | ldc_w k =>
    dsimp only at h
    obtain ⟨x, t, -, h1⟩ := am_k_e h
    exact hK _ _ _ _ _ h1
  | lconst k =>
    dsimp only at h
    exact hK _ _ _ _ _ h
  | ldc2_w k =>
    dsimp only at h
    exact hK _ _ _ _ _ h
  | iload i =>
    dsimp only at h
    obtain ⟨x, -, h1⟩ := am_ldi_e h
    exact hK _ _ _ _ _ h1
  | iload_n i =>
    dsimp only at h
    obtain ⟨x, -, h1⟩ := am_ldi_e h
    exact hK _ _ _ _ _ h1
  | lload i =>
    dsimp only at h
    obtain ⟨x, -, h1⟩ := am_ldl_e h
    exact hK _ _ _ _ _ h1
  | lload_n i =>
    dsimp only at h
    obtain ⟨x, -, h1⟩ := am_ldl_e h
    exact hK _ _ _ _ _ h1
  | aload i =>
    dsimp only at h
    obtain ⟨x, -, h1⟩ := am_lda_e h
    exact hK _ _ _ _ _ h1
  | aload_n i =>
    dsimp only at h
    obtain ⟨x, -, h1⟩ := am_lda_e h
    exact hK _ _ _ _ _ h1
  | istore i =>
    dsimp only at h
    obtain ⟨x, r, -, h1⟩ := am_p1_e h
    exact hK _ _ _ _ _ h1
  | istore_n i =>
    dsimp only at h
    obtain ⟨x, r, -, h1⟩ := am_p1_e h
    exact hK _ _ _ _ _ h1
  | lstore i =>
    dsimp only at h
    obtain ⟨x, r, -, h1⟩ := am_q1_e h
    exact hK _ _ _ _ _ h1
  | lstore_n i =>
    dsimp only at h
    obtain ⟨x, r, -, h1⟩ := am_q1_e h
    exact hK _ _ _ _ _ h1
  | astore i =>
    dsimp only at h
    obtain ⟨x, r, -, h1⟩ := am_a1_e h
    exact hK _ _ _ _ _ h1
  | astore_n i =>
    dsimp only at h
    obtain ⟨x, r, -, h1⟩ := am_a1_e h
    exact hK _ _ _ _ _ h1
  | iinc i k =>
    dsimp only at h
    obtain ⟨y, t, -, h1⟩ := am_k_e h
    obtain ⟨x, -, h2⟩ := am_ldi_e h1
    exact hK _ _ _ _ _ h2
  | iadd =>
    dsimp only at h
    obtain ⟨x, y, r, -, h1⟩ := am_p2_e h
    exact hK _ _ _ _ _ h1
  | isub =>
    dsimp only at h
    obtain ⟨x, y, r, -, h1⟩ := am_p2_e h
    exact hK _ _ _ _ _ h1
  | imul =>
    dsimp only at h
    obtain ⟨x, y, r, -, h1⟩ := am_p2_e h
    exact hK _ _ _ _ _ h1
  | iand =>
    dsimp only at h
    obtain ⟨x, y, r, -, h1⟩ := am_p2_e h
    exact hK _ _ _ _ _ h1
  | ishr =>
    dsimp only at h
    obtain ⟨x, y, r, -, h1⟩ := am_p2_e h
    exact hK _ _ _ _ _ h1
  | idiv =>
    dsimp only at h
    obtain ⟨x, y, r, -, h1⟩ := am_p2_e h
    exact hK _ _ _ _ _ (am_nite_e h1).2
  | irem =>
    dsimp only at h
    obtain ⟨x, y, r, -, h1⟩ := am_p2_e h
    exact hK _ _ _ _ _ (am_nite_e h1).2
  | land =>
    dsimp only at h
    obtain ⟨x, y, r, -, h1⟩ := am_q2_e h
    exact hK _ _ _ _ _ h1
  | lor =>
    dsimp only at h
    obtain ⟨x, y, r, -, h1⟩ := am_q2_e h
    exact hK _ _ _ _ _ h1
  | lcmp =>
    dsimp only at h
    obtain ⟨x, y, r, -, h1⟩ := am_q2_e h
    exact hK _ _ _ _ _ h1
  | lshl =>
    dsimp only at h
    obtain ⟨x, y, r, -, h1⟩ := am_qs_e h
    exact hK _ _ _ _ _ h1
  | lshr =>
    dsimp only at h
    obtain ⟨x, y, r, -, h1⟩ := am_qs_e h
    exact hK _ _ _ _ _ h1
  | lushr =>
    dsimp only at h
    obtain ⟨x, y, r, -, h1⟩ := am_qs_e h
    exact hK _ _ _ _ _ h1
  | i2l =>
    dsimp only at h
    obtain ⟨x, r, -, h1⟩ := am_p1_e h
    exact hK _ _ _ _ _ h1
  | l2i =>
    dsimp only at h
    obtain ⟨x, r, -, h1⟩ := am_q1_e h
    exact hK _ _ _ _ _ h1
  | i2b =>
    dsimp only at h
    obtain ⟨x, r, -, h1⟩ := am_p1_e h
    exact hK _ _ _ _ _ h1
  | dup =>
    dsimp only at h
    split at h
    · exact hK _ _ _ _ _ (am_ite_e h).2
    · cases h
  | pop =>
    dsimp only at h
    split at h
    · exact hK _ _ _ _ _ (am_ite_e h).2
    · cases h
  | dup2 =>
    dsimp only at h
    split at h
    · exact hK _ _ _ _ _ (am_ite_e h).2
    · cases h
  | goto off =>
    dsimp only at h
    exact hJ _ _ _ _ _ _ h
  | ifCond k off =>
    dsimp only at h
    obtain ⟨x, r, -, h1⟩ := am_p1_e h
    unfold am_cond at h1
    cases k <;> (dsimp only at h1; split at h1; exact hJ _ _ _ _ _ _ h1; exact hK _ _ _ _ _ h1)
  | if_icmp k off =>
    dsimp only at h
    obtain ⟨x, y, r, -, h1⟩ := am_p2_e h
    unfold am_cond at h1
    cases k <;> (dsimp only at h1; split at h1; exact hJ _ _ _ _ _ _ h1; exact hK _ _ _ _ _ h1)
  | tableswitch d lo hi os =>
    dsimp only at h
    obtain ⟨x, r, -, h1⟩ := am_p1_e h
    exact am_sw_mo (fun t ht => hJ _ _ _ _ _ _ ht) tb h1
  | lookupswitch d os =>
    dsimp only at h
    obtain ⟨x, r, -, h1⟩ := am_p1_e h
    exact am_sw_mo (fun t ht => hJ _ _ _ _ _ _ ht) tb h1
  | getfield ix =>
    dsimp only at h
    obtain ⟨x, r, -, h1⟩ := am_a1_e h
    obtain ⟨sh, -, -, -, h2⟩ := am_getf_e h1
    rcases h2 with ⟨-, h2⟩ | ⟨-, h2⟩ | ⟨-, q, -, h2⟩ <;> exact hK _ _ _ _ _ h2
  | putfield ix =>
    dsimp only at h
    split at h
    · obtain ⟨sh, hs, -, -, h2⟩ := am_putf_e h
      rcases h2 with ⟨y, -, -, h2⟩ | ⟨y, -, -, h2⟩ | ⟨y, -, -, -, h2⟩
      · have h9 := hK _ _ _ _ _ h2
        exact h9
      · have h9 := hK _ _ _ _ _ h2
        exact h9
      · exact am_Mo.set hs (hK _ _ _ _ _ h2)
    · cases h
  | iaload =>
    dsimp only at h
    obtain ⟨x, i, r, -, h1⟩ := am_ai_e h
    obtain ⟨sh, -, h2⟩ := am_sh_e h1
    exact hK _ _ _ _ _ (am_nite_e (am_ite_e h2).2).2
  | baload =>
    dsimp only at h
    obtain ⟨x, i, r, -, h1⟩ := am_ai_e h
    obtain ⟨sh, -, h2⟩ := am_sh_e h1
    exact hK _ _ _ _ _ (am_nite_e (am_ite_e h2).2).2
  | laload =>
    dsimp only at h
    obtain ⟨x, i, r, -, h1⟩ := am_ai_e h
    obtain ⟨sh, -, h2⟩ := am_sh_e h1
    exact hK _ _ _ _ _ (am_nite_e (am_ite_e h2).2).2
  | iastore =>
    dsimp only at h
    obtain ⟨z, r0, -, h0⟩ := am_p1_e h
    obtain ⟨x, i, r, -, h1⟩ := am_ai_e h0
    obtain ⟨sh, -, h2⟩ := am_sh_e h1
    have h9 := hK _ _ _ _ _ (am_nite_e (am_ite_e h2).2).2
    exact h9
  | bastore =>
    dsimp only at h
    obtain ⟨z, r0, -, h0⟩ := am_p1_e h
    obtain ⟨x, i, r, -, h1⟩ := am_ai_e h0
    obtain ⟨sh, -, h2⟩ := am_sh_e h1
    have h9 := hK _ _ _ _ _ (am_nite_e (am_ite_e h2).2).2
    exact h9
  | lastore =>
    dsimp only at h
    obtain ⟨z, r0, -, h0⟩ := am_q1_e h
    obtain ⟨x, i, r, -, h1⟩ := am_ai_e h0
    obtain ⟨sh, -, h2⟩ := am_sh_e h1
    have h9 := hK _ _ _ _ _ (am_nite_e (am_ite_e h2).2).2
    exact h9
  | arraylength =>
    dsimp only at h
    obtain ⟨x, r, -, h1⟩ := am_a1_e h
    obtain ⟨sh, -, h2⟩ := am_sh_e h1
    exact hK _ _ _ _ _ (am_ite_e h2).2
  | new ix =>
    dsimp only at h
    exact (hK _ _ _ _ _ h).new
  | newarray t =>
    dsimp only at h
    obtain ⟨x, r, -, h1⟩ := am_p1_e h
    exact (hK _ _ _ _ _ (am_nite_e h1).2).newa
  | invokevirtual ix =>
    dsimp only at h
    have h1 := (am_ite_e h).2
    split at h1
    · obtain ⟨sh, -, h2⟩ := am_sh_e h1
      obtain ⟨v1, G1, hc, h3⟩ := am_ret_e (am_ite_e h2).2
      exact (hC _ _ _ _ _ hc).trans (hK _ _ _ _ _ h3)
    · cases h1
  | invokestatic ix =>
    dsimp only at h
    split at h
    · split at h
      · have h1 := (am_ite_e h).2
        unfold am_copy at h1
        obtain ⟨s1, -, h2⟩ := am_sh_e h1
        obtain ⟨s2, -, h3⟩ := am_sh_e h2
        have h9 := hK _ _ _ _ _ (am_ite_e h3).2
        exact h9
      · cases h
    · split at h
      · obtain ⟨x, y, r, -, h1⟩ := am_p2_e h
        exact hK _ _ _ _ _ (am_ite_e h1).2
      · split at h
        · obtain ⟨x, y, r, -, h1⟩ := am_p2_e h
          exact hK _ _ _ _ _ (am_ite_e h1).2
        · obtain ⟨v1, G1, hc, h3⟩ := am_ret_e (am_ite_e h).2
          exact (hC _ _ _ _ _ hc).trans (hK _ _ _ _ _ h3)
  | invokespecial ix =>
    dsimp only at h
    split at h
    · obtain ⟨x, r, -, h1⟩ := am_a1_e h
      exact hK _ _ _ _ _ (am_ite_e h1).2
    · have h1 := (am_ite_e h).2
      split at h1
      · obtain ⟨v1, G1, hc, h3⟩ := am_ret_e h1
        exact (hC _ _ _ _ _ hc).trans (hK _ _ _ _ _ h3)
      · cases h1
  | ireturn =>
    dsimp only at h
    split at h
    · have h1 := (am_nite_e h).2
      cases h1
      exact ⟨Nat.le_refl _, Nat.le_refl _⟩
    · cases h
  | lreturn =>
    dsimp only at h
    split at h
    · cases h
      exact ⟨Nat.le_refl _, Nat.le_refl _⟩
    · cases h
  | return_ =>
    dsimp only at h
    split at h
    · cases h
      exact ⟨Nat.le_refl _, Nat.le_refl _⟩
    · cases h
  | _ => cases h
theorem am_ops_mo {C : am_C} {J : am_J} (hC : ∀ a as G v G', C a as G = some (v, G') → am_Mo G G') (hJ : ∀ t ls st G v G', J t ls st G = some (v, G') → am_Mo G G') : ∀ (ops : List am_O) (pc : Nat) (ls : am_L) (st : List Value) (G : am_G) (v : Option Value) (G' : am_G), am_ops C J ops pc ls st G = some (v, G') → am_Mo G G' := by
  intro ops
  induction ops with
  | nil => exact hJ
  | cons o r ih =>
    intro pc ls st G v G' h
    unfold am_ops at h
    exact am_op_mo hC hJ (fun ls st G v G' h => ih _ _ _ _ _ _ h) h
theorem am_fwd_mo {C : am_C} {J : am_J} (hC : ∀ a as G v G', C a as G = some (v, G') → am_Mo G G') (hJ : ∀ t ls st G v G', J t ls st G = some (v, G') → am_Mo G G') : ∀ (bs : am_B) (pc : Nat) (ls : am_L) (st : List Value) (G : am_G) (v : Option Value) (G' : am_G), am_fwd C J bs pc ls st G = some (v, G') → am_Mo G G' := by
  intro bs
  induction bs with
  | nil => exact hJ
  | cons q r ih =>
    obtain ⟨p0, ops⟩ := q
    intro pc ls st G v G' h
    unfold am_fwd at h
    split at h
    · exact am_ops_mo hC ih ops _ _ _ _ _ _ h
    · exact ih _ _ _ _ _ _ h
theorem am_run_mo {C : am_C} (hC : ∀ a as G v G', C a as G = some (v, G') → am_Mo G G') (bs : am_B) : ∀ (n : Nat) (pc : Nat) (ls : am_L) (st : List Value) (G : am_G) (v : Option Value) (G' : am_G), am_run C bs n pc ls st G = some (v, G') → am_Mo G G' := by
  intro n
  induction n with
  | zero => intro pc ls st G v G' h; cases h
  | succ n ih => intro pc ls st G v G' h; exact am_fwd_mo hC ih bs _ _ _ _ _ _ h
theorem am_call_mo (P : Nat → Nat × am_B) : ∀ (d a : Nat) (as : List Value) (G : am_G) (v : Option Value) (G' : am_G), am_call P d a as G = some (v, G') → am_Mo G G' := by
  intro d
  induction d with
  | zero => intro a as G v G' h; cases h
  | succ d ih => intro a as G v G' h; exact am_run_mo ih _ _ _ _ _ _ _ _ (am_ite_e h).2
theorem am_lgsl (vs : List Value) : (lg_sl vs).length = (vs.map fun v => v.category).sum := by
  induction vs with
  | nil => rfl
  | cons v r ih =>
    simp only [lg_sl, List.flatMap_cons, List.length_append, List.map_cons, List.sum_cons]
    rw [show (List.flatMap (fun v => if v.category = 2 then [Slot.val v, Slot.second] else [Slot.val v]) r).length = (lg_sl r).length from rfl, ih]
    rcases lv_cat v with h | h <;> simp [h]
section AMR
variable {p : Program} {l : Launch} {e : Env} {R : Room} {s : State} {m : MethodId} {args : Array Value} {below : List Frame} {meth : Method} {c : Code} {Tb : List Jvm.Cond} {Nb : List (String × Nat × MethodName × String)} {cl : List vw_C} {ty : Nat → Nat → FieldType} {cA : Nat → ClassId} {D : va_G} {M : List am_M} {own : String} {cc : ByteArray} {nL : Nat} {ret : Option FieldType} {ini : Bool} {B c0 z0 : Nat} {pc : Nat} {ls : am_L} {st rest : List Value} {G G' : am_G} {v : Option Value} {Q : State → Prop} {nE zE : Nat}
theorem am_ops_sim (F : am_Fx p R s m args meth c Tb Nb D cl ty cA B c0 own cc nL ret ini) {mem : Nat → Nat → Jvm.Cond → Bool} (hmem : ∀ k x w, mem k x w = true → w ∈ Tb) (hg : am_Cg Tb cl ty) (hT : GoodIn Tb Tb) (hM : am_Mg Tb M) {C : am_C} (hC : am_Cs l R Tb Nb D cl ty cA B M C) {J : am_J} (hJ : ∀ t ls st G v G', J t ls st G = some (v, G') → am_Cl p l e R s m args below meth c nL D cl ty cA B c0 z0 t ls st G (MQ below (am_Q D cl ty cA B v G') args s (G'.1.length - c0) (am_sz G'.1 - z0) (fun q => B ≤ q)) G'.1.length (am_sz G'.1)) : ∀ (ops : List am_O) (pc : Nat) (ls : am_L) (st : List Value) (G : am_G) (v : Option Value) (G' : am_G), am_oks mem Nb cl ty M own cc nL ret ini pc ops = true → am_ops C J ops pc ls st G = some (v, G') → am_Cl p l e R s m args below meth c nL D cl ty cA B c0 z0 pc ls st G (MQ below (am_Q D cl ty cA B v G') args s (G'.1.length - c0) (am_sz G'.1 - z0) (fun q => B ≤ q)) G'.1.length (am_sz G'.1) := by
  intro ops
  induction ops with
  | nil => intro pc ls st G v G' _ h; exact hJ _ _ _ _ _ _ h
  | cons o r ih =>
    intro pc ls st G v G' hk h
    unfold am_ops at h
    unfold am_oks at hk
    rw [Bool.and_eq_true] at hk
    exact am_op_sim F hg hT hM hC hmem hJ (fun ls st G v G' h => ih _ _ _ _ _ _ hk.2 h) hk.1 h
theorem am_fwd_sim (F : am_Fx p R s m args meth c Tb Nb D cl ty cA B c0 own cc nL ret ini) {mem : Nat → Nat → Jvm.Cond → Bool} (hmem : ∀ k x w, mem k x w = true → w ∈ Tb) (hg : am_Cg Tb cl ty) (hT : GoodIn Tb Tb) (hM : am_Mg Tb M) {C : am_C} (hC : am_Cs l R Tb Nb D cl ty cA B M C) {J : am_J} (hJ : ∀ t ls st G v G', J t ls st G = some (v, G') → am_Cl p l e R s m args below meth c nL D cl ty cA B c0 z0 t ls st G (MQ below (am_Q D cl ty cA B v G') args s (G'.1.length - c0) (am_sz G'.1 - z0) (fun q => B ≤ q)) G'.1.length (am_sz G'.1)) : ∀ (bs : am_B), am_okm mem Nb cl ty M own cc nL ret ini bs = true → ∀ (pc : Nat) (ls : am_L) (st : List Value) (G : am_G) (v : Option Value) (G' : am_G), am_fwd C J bs pc ls st G = some (v, G') → am_Cl p l e R s m args below meth c nL D cl ty cA B c0 z0 pc ls st G (MQ below (am_Q D cl ty cA B v G') args s (G'.1.length - c0) (am_sz G'.1 - z0) (fun q => B ≤ q)) G'.1.length (am_sz G'.1) := by
  intro bs
  induction bs with
  | nil => intro _ pc ls st G v G' h; exact hJ _ _ _ _ _ _ h
  | cons q r ih =>
    obtain ⟨p0, ops⟩ := q
    intro hk pc ls st G v G' h
    unfold am_fwd at h
    unfold am_okm at hk
    rw [List.all_cons, Bool.and_eq_true] at hk
    split at h
    · next e =>
      subst e
      exact am_ops_sim F hmem hg hT hM hC (ih hk.2) ops _ _ _ _ _ _ hk.1 h
    · exact ih hk.2 _ _ _ _ _ _ h
theorem am_run_sim (F : am_Fx p R s m args meth c Tb Nb D cl ty cA B c0 own cc nL ret ini) {mem : Nat → Nat → Jvm.Cond → Bool} (hmem : ∀ k x w, mem k x w = true → w ∈ Tb) (hg : am_Cg Tb cl ty) (hT : GoodIn Tb Tb) (hM : am_Mg Tb M) {C : am_C} (hC : am_Cs l R Tb Nb D cl ty cA B M C) {bs : am_B} (hk : am_okm mem Nb cl ty M own cc nL ret ini bs = true) : ∀ (n : Nat) (pc : Nat) (ls : am_L) (st : List Value) (G : am_G) (v : Option Value) (G' : am_G), am_run C bs n pc ls st G = some (v, G') → am_Cl p l e R s m args below meth c nL D cl ty cA B c0 z0 pc ls st G (MQ below (am_Q D cl ty cA B v G') args s (G'.1.length - c0) (am_sz G'.1 - z0) (fun q => B ≤ q)) G'.1.length (am_sz G'.1) := by
  intro n
  induction n with
  | zero => intro pc ls st G v G' h; cases h
  | succ n ih => intro pc ls st G v G' h; exact am_fwd_sim F hmem hg hT hM hC ih bs hk _ _ _ _ _ _ h
end AMR
/-- THE WALK OF A CALL: every method of the table, at every depth -/
theorem am_call_sim {l : Launch} {Tb : List Jvm.Cond} {Nb : List (String × Nat × MethodName × String)} {cl : List vw_C} {ty : Nat → Nat → FieldType} {cA : Nat → ClassId} {D : va_G} {M : List am_M} {B : Nat} (hg : am_Cg Tb cl ty) (hT : GoodIn Tb Tb) (hM : am_Mg Tb M) (P : Nat → Nat × am_B) (mem : String → Nat → Nat → Jvm.Cond → Bool) (hmem : ∀ o k x w, mem o k x w = true → w ∈ Tb)
    (hP : ∀ (a : Nat) (y : MethodName) (bytes : ByteArray) (mL : Nat) (rt : Option FieldType) (n : Nat), M[a]? = some (y, bytes, mL, rt, n) → am_okm (mem y.cls) Nb cl ty M y.cls bytes mL rt (decide (y.name = "<init>")) (P a).2 = true ∧ (P a).1 = mL) :
    ∀ (d : Nat) (R : Room), d + 1 ≤ R.frames → 40 * (d + 1) ≤ R.locals → am_Cs l R Tb Nb D cl ty cA B M (am_call P d) := by
  intro d
  induction d with
  | zero => intro R _ _ a as G v G' h; cases h
  | succ d ih =>
    intro R hR1 hR2 a as G v G' h
    refine ⟨am_call_mo P _ _ _ _ _ _ h, fun y bytes mL rt n hm => ?_⟩
    obtain ⟨g1, g2, g3, g4, g5⟩ := hM _ _ _ _ _ _ hm
    refine ⟨{ frames := d + 1, cells := G'.1.length - G.1.length, slots := am_sz G'.1 - am_sz G.1, locals := 40 * (d + 1) }, rfl, rfl, hR1, by dsimp only; omega, ?_⟩
    obtain ⟨hlen, h1⟩ := am_ite_e h
    rw [(hP _ _ _ _ _ _ hm).2] at hlen
    refine Met.ofW (cc := bytes) (maxL := mL) (ret := rt) g5 rfl ?_
    intro p e s m args below meth c s₁ Bd hml hv
    obtain ⟨rfl, ⟨hz, hP0⟩, hK, hN⟩ := hv
    have hts := atoms_spec (ws := .code y bytes mL rt :: Tb) Bd.pre
    have hown : s.vm.findClass y.cls = some m.cls := findClass_of_methodNamed Bd.named
    have F : am_Fx p (headSpec (.code y bytes mL rt :: Tb) { frames := d + 1, cells := G'.1.length - G.1.length, slots := am_sz G'.1 - am_sz G.1, locals := 40 * (d + 1) }).room s m (as.map (am_rv B)).toArray meth c Tb Nb D cl ty cA B G.1.length y.cls bytes mL rt (decide (y.name = "<init>")) :=
      ⟨Bd.exec, Bd.bytes, hml, hown, fun w hw => hts w (List.mem_cons_of_mem _ hw), hN, hK, Bd.notSynchronized, Bd.returns, fun hi => ((name_of_methodNamed Bd.named Bd.method).1).trans (of_decide_eq_true hi), hz, by show 1 ≤ d + 1; omega, by show 40 ≤ 40 * (d + 1); omega⟩
    have hC := ih (headSpec (.code y bytes mL rt :: Tb) { frames := d + 1, cells := G'.1.length - G.1.length, slots := am_sz G'.1 - am_sz G.1, locals := 40 * (d + 1) }).room (Nat.le_refl _) (Nat.le_refl _)
    have key := (am_run_sim (e := e) (below := below) (z0 := am_sz G.1) F (hmem y.cls) hg hT hM hC (hP _ _ _ _ _ _ hm).1 _ _ _ _ _ _ _ h1).2
    have hl := lv_entry (as.map (am_rv B)) (n := mL) (by rw [am_lgsl]; exact Nat.le_trans (Nat.le_of_eq (am_cat_real B as)) hlen)
    rw [lg_entry_eq]
    rw [am_args_real] at hl
    have hmo := am_call_mo P _ _ _ _ _ _ h
    have := key s.heap [] _ hP0 va_S.rf hl (Nat.le_refl _) (Nat.le_refl _) (by show _ ≤ G.1.length + (G'.1.length - G.1.length); have := hmo.1; omega) (by show _ ≤ am_sz G.1 + (am_sz G'.1 - am_sz G.1); have := hmo.2; omega)
    rw [Nat.sub_self, Nat.sub_self] at this
    exact this
