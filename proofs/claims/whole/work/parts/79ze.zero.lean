/-! slots behind the end of a row stay 0 -/
def zo (G : am_G) : Prop := ∀ c sh, G.1[c]? = some sh → ∀ j, sh.2.1 ≤ j → G.2.1 c j = 0
def zo_R (G G' : am_G) : Prop := zo G → zo G'
theorem zo_R.trans {G G1 G' : am_G} (h : zo_R G G1) (h2 : zo_R G1 G') : zo_R G G' := fun z => h2 (h z)
theorem zo_R.si {G G' : am_G} {r k : Nat} {sh : am_Sh} {x : Int32} (hs : G.1[r]? = some sh) (hk : k < sh.2.1) (h : zo_R (G.1, am_si G.2.1 r k x, G.2.2) G') : zo_R G G' := fun z => h (fun c s hc j hj => by
  dsimp only at hc ⊢
  by_cases e : c = r
  · subst e
    have q := hs.symm.trans hc
    cases q
    rw [am_si_off (by omega)]
    exact z _ _ hc j hj
  · rw [am_si_ne e]
    exact z _ _ hc j hj)
theorem zo_R.lo {G G' : am_G} {l : Nat → Nat → Int64} (h : zo_R (G.1, G.2.1, l) G') : zo_R G G' := fun z => h z
theorem zo_R.cp {G G' : am_G} {src r sp dp n : Nat} {sh : am_Sh} (hs : G.1[r]? = some sh) (hk : dp + n ≤ sh.2.1) (h : zo_R (G.1, am_sr G.2.1 r (va_cpy (G.2.1 src) (G.2.1 r) sp dp n), G.2.2) G') : zo_R G G' := fun z => h (fun c s hc j hj => by
  dsimp only at hc ⊢
  by_cases e : c = r
  · subst e
    have q := hs.symm.trans hc
    cases q
    unfold am_sr va_cpy
    rw [if_pos rfl, if_neg (by omega)]
    exact z _ _ hc j hj
  · unfold am_sr
    rw [if_neg e]
    exact z _ _ hc j hj)
theorem zo_R.set {G G' : am_G} {r : Nat} {sh : am_Sh} {x : List Nat} (hs : G.1[r]? = some sh) (h : zo_R (G.1.set r (sh.1, sh.2.1, x), G.2.1, G.2.2) G') : zo_R G G' := fun z => h (fun c s hc j hj => by
  dsimp only at hc ⊢
  by_cases e : c = r
  · subst e
    rw [List.getElem?_set_self (List.getElem?_eq_some_iff.mp hs).1] at hc
    cases hc
    exact z _ _ hs j hj
  · rw [List.getElem?_set_ne (fun q => e q.symm)] at hc
    exact z _ _ hc j hj)
theorem zo_app {S : List am_Sh} {q : am_Sh} {h : Nat → Nat → Int32} {l l' : Nat → Nat → Int64} (z : zo (S, h, l)) : zo (S ++ [q], am_sr h S.length (fun _ => 0), l') := fun c s hc j hj => by
  dsimp only at hc ⊢
  unfold am_sr
  by_cases e : c = S.length
  · rw [if_pos e]
  · rw [if_neg e]
    by_cases e2 : c < S.length
    · rw [List.getElem?_append_left e2] at hc
      exact z _ _ hc j hj
    · have : (S ++ [q])[c]? = none := List.getElem?_eq_none (by simp; omega)
      rw [this] at hc
      cases hc
theorem zo_R.new {G G' : am_G} {ci n : Nat} (h : zo_R (am_new G ci n) G') : zo_R G G' := fun z => h (zo_app z)
theorem zo_R.newa {G G' : am_G} {ci n : Nat} (h : zo_R (am_newa G ci n) G') : zo_R G G' := fun z => h (zo_app z)
theorem zo_new {G : am_G} {ci n : Nat} (z : zo G) : zo (am_new G ci n) := zo_app z
theorem zo_sw {J : Nat → am_R} {x : Int32} {d : Nat} {G : am_G} {v : Option Value} {G' : am_G} (hJ : ∀ t, J t = some (v, G') → zo_R G G') : ∀ tb, am_sw J x d tb = some (v, G') → zo_R G G' := by
  intro tb
  induction tb with
  | nil => exact hJ d
  | cons q r ih =>
    obtain ⟨k, t⟩ := q
    intro h
    unfold am_sw at h
    split at h
    · exact hJ t h
    · exact ih h
set_option maxHeartbeats 4000000 in
theorem zo_op {C : am_C} {J : am_J} {K : am_K} {o : am_O} {ls : am_L} {st : List Value} {G G' : am_G} {v : Option Value} (hC : ∀ a as G v G', C a as G = some (v, G') → zo_R G G') (hJ : ∀ t ls st G v G', J t ls st G = some (v, G') → zo_R G G') (hK : ∀ ls st G v G', K ls st G = some (v, G') → zo_R G G') (h : am_op C J K o ls st G = some (v, G')) : zo_R G G' := by
  obtain ⟨i, n, a, b, c', tb⟩ := o
  unfold am_op at h
  cases i with
  | iconst k =>
    dsimp only at h
    obtain ⟨x, t, -, h1⟩ := am_k_e h
    exact hK _ _ _ _ _ h1
  | bipush k =>
    dsimp only at h
    obtain ⟨x, t, -, h1⟩ := am_k_e h
    exact hK _ _ _ _ _ h1
  | sipush k =>
    dsimp only at h
    obtain ⟨x, t, -, h1⟩ := am_k_e h
    exact hK _ _ _ _ _ h1
  | ldc k =>
    dsimp only at h
    obtain ⟨x, t, -, h1⟩ := am_k_e h
    exact hK _ _ _ _ _ h1
  | ldc_w k =>
    dsimp only at h
    obtain ⟨x, t, -, h1⟩ := am_k_e h
    exact hK _ _ _ _ _ h1
  | lconst k =>
    dsimp only at h
    exact hK _ _ _ _ _ h
  | ldc2_w k =>
    dsimp only at h
    exact hK _ _ _ _ _ h
  | iload i =>
    dsimp only at h
    obtain ⟨x, -, h1⟩ := am_ldi_e h
    exact hK _ _ _ _ _ h1
  | iload_n i =>
    dsimp only at h
    obtain ⟨x, -, h1⟩ := am_ldi_e h
    exact hK _ _ _ _ _ h1
  | lload i =>
    dsimp only at h
    obtain ⟨x, -, h1⟩ := am_ldl_e h
    exact hK _ _ _ _ _ h1
  | lload_n i =>
    dsimp only at h
    obtain ⟨x, -, h1⟩ := am_ldl_e h
    exact hK _ _ _ _ _ h1
  | aload i =>
    dsimp only at h
    obtain ⟨x, -, h1⟩ := am_lda_e h
    exact hK _ _ _ _ _ h1
  | aload_n i =>
    dsimp only at h
    obtain ⟨x, -, h1⟩ := am_lda_e h
    exact hK _ _ _ _ _ h1
  | istore i =>
    dsimp only at h
    obtain ⟨x, r, -, h1⟩ := am_p1_e h
    exact hK _ _ _ _ _ h1
  | istore_n i =>
    dsimp only at h
    obtain ⟨x, r, -, h1⟩ := am_p1_e h
    exact hK _ _ _ _ _ h1
  | lstore i =>
    dsimp only at h
    obtain ⟨x, r, -, h1⟩ := am_q1_e h
    exact hK _ _ _ _ _ h1
  | lstore_n i =>
    dsimp only at h
    obtain ⟨x, r, -, h1⟩ := am_q1_e h
    exact hK _ _ _ _ _ h1
  | astore i =>
    dsimp only at h
    obtain ⟨x, r, -, h1⟩ := am_a1_e h
    exact hK _ _ _ _ _ h1
  | astore_n i =>
    dsimp only at h
    obtain ⟨x, r, -, h1⟩ := am_a1_e h
    exact hK _ _ _ _ _ h1
  | iinc i k =>
    dsimp only at h
    obtain ⟨y, t, -, h1⟩ := am_k_e h
    obtain ⟨x, -, h2⟩ := am_ldi_e h1
    exact hK _ _ _ _ _ h2
  | iadd =>
    dsimp only at h
    obtain ⟨x, y, r, -, h1⟩ := am_p2_e h
    exact hK _ _ _ _ _ h1
  | isub =>
    dsimp only at h
    obtain ⟨x, y, r, -, h1⟩ := am_p2_e h
    exact hK _ _ _ _ _ h1
  | imul =>
    dsimp only at h
    obtain ⟨x, y, r, -, h1⟩ := am_p2_e h
    exact hK _ _ _ _ _ h1
  | iand =>
    dsimp only at h
    obtain ⟨x, y, r, -, h1⟩ := am_p2_e h
    exact hK _ _ _ _ _ h1
  | ishr =>
    dsimp only at h
    obtain ⟨x, y, r, -, h1⟩ := am_p2_e h
    exact hK _ _ _ _ _ h1
  | idiv =>
    dsimp only at h
    obtain ⟨x, y, r, -, h1⟩ := am_p2_e h
    exact hK _ _ _ _ _ (am_nite_e h1).2
  | irem =>
    dsimp only at h
    obtain ⟨x, y, r, -, h1⟩ := am_p2_e h
    exact hK _ _ _ _ _ (am_nite_e h1).2
  | land =>
    dsimp only at h
    obtain ⟨x, y, r, -, h1⟩ := am_q2_e h
    exact hK _ _ _ _ _ h1
  | lor =>
    dsimp only at h
    obtain ⟨x, y, r, -, h1⟩ := am_q2_e h
    exact hK _ _ _ _ _ h1
  | lcmp =>
    dsimp only at h
    obtain ⟨x, y, r, -, h1⟩ := am_q2_e h
    exact hK _ _ _ _ _ h1
  | lshl =>
    dsimp only at h
    obtain ⟨x, y, r, -, h1⟩ := am_qs_e h
    exact hK _ _ _ _ _ h1
  | lshr =>
    dsimp only at h
    obtain ⟨x, y, r, -, h1⟩ := am_qs_e h
    exact hK _ _ _ _ _ h1
  | lushr =>
    dsimp only at h
    obtain ⟨x, y, r, -, h1⟩ := am_qs_e h
    exact hK _ _ _ _ _ h1
  | i2l =>
    dsimp only at h
    obtain ⟨x, r, -, h1⟩ := am_p1_e h
    exact hK _ _ _ _ _ h1
  | l2i =>
    dsimp only at h
    obtain ⟨x, r, -, h1⟩ := am_q1_e h
    exact hK _ _ _ _ _ h1
  | i2b =>
    dsimp only at h
    obtain ⟨x, r, -, h1⟩ := am_p1_e h
    exact hK _ _ _ _ _ h1
  | dup =>
    dsimp only at h
    split at h
    · exact hK _ _ _ _ _ (am_ite_e h).2
    · cases h
  | pop =>
    dsimp only at h
    split at h
    · exact hK _ _ _ _ _ (am_ite_e h).2
    · cases h
  | dup2 =>
    dsimp only at h
    split at h
    · exact hK _ _ _ _ _ (am_ite_e h).2
    · cases h
  | goto off =>
    dsimp only at h
    exact hJ _ _ _ _ _ _ h
  | ifCond k off =>
    dsimp only at h
    obtain ⟨x, r, -, h1⟩ := am_p1_e h
    unfold am_cond at h1
    cases k <;> (dsimp only at h1; split at h1; exact hJ _ _ _ _ _ _ h1; exact hK _ _ _ _ _ h1)
  | if_icmp k off =>
    dsimp only at h
    obtain ⟨x, y, r, -, h1⟩ := am_p2_e h
    unfold am_cond at h1
    cases k <;> (dsimp only at h1; split at h1; exact hJ _ _ _ _ _ _ h1; exact hK _ _ _ _ _ h1)
  | tableswitch d lo hi os =>
    dsimp only at h
    obtain ⟨x, r, -, h1⟩ := am_p1_e h
    exact zo_sw (fun t ht => hJ _ _ _ _ _ _ ht) tb h1
  | lookupswitch d os =>
    dsimp only at h
    obtain ⟨x, r, -, h1⟩ := am_p1_e h
    exact zo_sw (fun t ht => hJ _ _ _ _ _ _ ht) tb h1
  | getfield ix =>
    dsimp only at h
    obtain ⟨x, r, -, h1⟩ := am_a1_e h
    obtain ⟨sh, -, -, -, h2⟩ := am_getf_e h1
    rcases h2 with ⟨-, h2⟩ | ⟨-, h2⟩ | ⟨-, q, -, h2⟩ <;> exact hK _ _ _ _ _ h2
  | putfield ix =>
    dsimp only at h
    split at h
    · obtain ⟨sh, hs, hq1, hq2, h2⟩ := am_putf_e h
      rcases h2 with ⟨y, -, -, h2⟩ | ⟨y, -, -, h2⟩ | ⟨y, -, -, -, h2⟩
      · exact zo_R.si hs hq2 (hK _ _ _ _ _ h2)
      · exact zo_R.lo (hK _ _ _ _ _ h2)
      · exact zo_R.set hs (hK _ _ _ _ _ h2)
    · cases h
  | iaload =>
    dsimp only at h
    obtain ⟨x, i, r, -, h1⟩ := am_ai_e h
    obtain ⟨sh, -, h2⟩ := am_sh_e h1
    exact hK _ _ _ _ _ (am_nite_e (am_ite_e h2).2).2
  | baload =>
    dsimp only at h
    obtain ⟨x, i, r, -, h1⟩ := am_ai_e h
    obtain ⟨sh, -, h2⟩ := am_sh_e h1
    exact hK _ _ _ _ _ (am_nite_e (am_ite_e h2).2).2
  | laload =>
    dsimp only at h
    obtain ⟨x, i, r, -, h1⟩ := am_ai_e h
    obtain ⟨sh, -, h2⟩ := am_sh_e h1
    exact hK _ _ _ _ _ (am_nite_e (am_ite_e h2).2).2
  | iastore =>
    dsimp only at h
    obtain ⟨z, r0, -, h0⟩ := am_p1_e h
    obtain ⟨x, i, r, -, h1⟩ := am_ai_e h0
    obtain ⟨sh, hs, h2⟩ := am_sh_e h1
    have h3 := am_nite_e (am_ite_e h2).2
    exact zo_R.si hs (Nat.lt_of_not_le (fun q => h3.1 (Or.inr q))) (hK _ _ _ _ _ h3.2)
  | bastore =>
    dsimp only at h
    obtain ⟨z, r0, -, h0⟩ := am_p1_e h
    obtain ⟨x, i, r, -, h1⟩ := am_ai_e h0
    obtain ⟨sh, hs, h2⟩ := am_sh_e h1
    have h3 := am_nite_e (am_ite_e h2).2
    exact zo_R.si hs (Nat.lt_of_not_le (fun q => h3.1 (Or.inr q))) (hK _ _ _ _ _ h3.2)
  | lastore =>
    dsimp only at h
    obtain ⟨z, r0, -, h0⟩ := am_q1_e h
    obtain ⟨x, i, r, -, h1⟩ := am_ai_e h0
    obtain ⟨sh, -, h2⟩ := am_sh_e h1
    exact zo_R.lo (hK _ _ _ _ _ (am_nite_e (am_ite_e h2).2).2)
  | arraylength =>
    dsimp only at h
    obtain ⟨x, r, -, h1⟩ := am_a1_e h
    obtain ⟨sh, -, h2⟩ := am_sh_e h1
    exact hK _ _ _ _ _ (am_ite_e h2).2
  | new ix =>
    dsimp only at h
    exact (hK _ _ _ _ _ h).new
  | newarray t =>
    dsimp only at h
    obtain ⟨x, r, -, h1⟩ := am_p1_e h
    exact (hK _ _ _ _ _ (am_nite_e h1).2).newa
  | invokevirtual ix =>
    dsimp only at h
    have h1 := (am_ite_e h).2
    split at h1
    · obtain ⟨sh, -, h2⟩ := am_sh_e h1
      obtain ⟨v1, G1, hc, h3⟩ := am_ret_e (am_ite_e h2).2
      exact (hC _ _ _ _ _ hc).trans (hK _ _ _ _ _ h3)
    · cases h1
  | invokestatic ix =>
    dsimp only at h
    split at h
    · split at h
      · have h1 := (am_ite_e h).2
        unfold am_copy at h1
        obtain ⟨s1, -, h2⟩ := am_sh_e h1
        obtain ⟨s2, hs, h3⟩ := am_sh_e h2
        have h4 := am_ite_e h3
        exact zo_R.cp hs h4.1.2.2.2.2.2.2 (hK _ _ _ _ _ h4.2)
      · cases h
    · split at h
      · obtain ⟨x, y, r, -, h1⟩ := am_p2_e h
        exact hK _ _ _ _ _ (am_ite_e h1).2
      · split at h
        · obtain ⟨x, y, r, -, h1⟩ := am_p2_e h
          exact hK _ _ _ _ _ (am_ite_e h1).2
        · obtain ⟨v1, G1, hc, h3⟩ := am_ret_e (am_ite_e h).2
          exact (hC _ _ _ _ _ hc).trans (hK _ _ _ _ _ h3)
  | invokespecial ix =>
    dsimp only at h
    split at h
    · obtain ⟨x, r, -, h1⟩ := am_a1_e h
      exact hK _ _ _ _ _ (am_ite_e h1).2
    · have h1 := (am_ite_e h).2
      split at h1
      · obtain ⟨v1, G1, hc, h3⟩ := am_ret_e h1
        exact (hC _ _ _ _ _ hc).trans (hK _ _ _ _ _ h3)
      · cases h1
  | ireturn =>
    dsimp only at h
    split at h
    · have h1 := (am_nite_e h).2
      cases h1
      exact fun z => z
    · cases h
  | lreturn =>
    dsimp only at h
    split at h
    · cases h
      exact fun z => z
    · cases h
  | return_ =>
    dsimp only at h
    split at h
    · cases h
      exact fun z => z
    · cases h
  | _ => cases h
theorem zo_ops {C : am_C} {J : am_J} (hC : ∀ a as G v G', C a as G = some (v, G') → zo_R G G') (hJ : ∀ t ls st G v G', J t ls st G = some (v, G') → zo_R G G') : ∀ (ops : List am_O) (pc : Nat) (ls : am_L) (st : List Value) (G : am_G) (v : Option Value) (G' : am_G), am_ops C J ops pc ls st G = some (v, G') → zo_R G G' := by
  intro ops
  induction ops with
  | nil => exact hJ
  | cons o r ih =>
    intro pc ls st G v G' h
    unfold am_ops at h
    exact zo_op hC hJ (fun ls st G v G' h => ih _ _ _ _ _ _ h) h
theorem zo_fwd {C : am_C} {J : am_J} (hC : ∀ a as G v G', C a as G = some (v, G') → zo_R G G') (hJ : ∀ t ls st G v G', J t ls st G = some (v, G') → zo_R G G') : ∀ (bs : am_B) (pc : Nat) (ls : am_L) (st : List Value) (G : am_G) (v : Option Value) (G' : am_G), am_fwd C J bs pc ls st G = some (v, G') → zo_R G G' := by
  intro bs
  induction bs with
  | nil => exact hJ
  | cons q r ih =>
    obtain ⟨p0, ops⟩ := q
    intro pc ls st G v G' h
    unfold am_fwd at h
    split at h
    · exact zo_ops hC ih ops _ _ _ _ _ _ h
    · exact ih _ _ _ _ _ _ h
theorem zo_run {C : am_C} (hC : ∀ a as G v G', C a as G = some (v, G') → zo_R G G') (bs : am_B) : ∀ (n : Nat) (pc : Nat) (ls : am_L) (st : List Value) (G : am_G) (v : Option Value) (G' : am_G), am_run C bs n pc ls st G = some (v, G') → zo_R G G' := by
  intro n
  induction n with
  | zero => intro pc ls st G v G' h; cases h
  | succ n ih => intro pc ls st G v G' h; exact zo_fwd hC ih bs _ _ _ _ _ _ h
theorem zo_call (P : Nat → Nat × am_B) : ∀ (d a : Nat) (as : List Value) (G : am_G) (v : Option Value) (G' : am_G), am_call P d a as G = some (v, G') → zo_R G G' := by
  intro d
  induction d with
  | zero => intro a as G v G' h; cases h
  | succ d ih => intro a as G v G' h; exact zo_run ih _ _ _ _ _ _ _ _ (am_ite_e h).2
theorem in_zo : zo in_G2 := by
  have s1 := in_s1
  have s2 := in_s2
  have z1 : zo in_G1 := by
    unfold in_G1
    cases e : in_r1 with
    | none => rw [e] at s1; cases s1
    | some r =>
      refine zo_call tb_P 2000 _ _ _ r.1 r.2 (show in_r1 = some (r.1, r.2) from e) (fun c s hc j hj => ?_)
      show am_sr (fun _ _ => 0) 0 (fun _ => 0) c j = 0
      unfold am_sr
      split <;> rfl
  unfold in_G2
  cases e : in_r2 with
  | none => rw [e] at s2; cases s2
  | some r => exact zo_call tb_P 2000 _ _ _ r.1 r.2 (show in_r2 = some (r.1, r.2) from e) (zo_new z1)
