/-! more depth, more turns, more locals: an answer stays the same -/
def mo_R (x y : am_R) : Prop := x = none ∨ x = y
def mo_L (ls ls' : am_L) : Prop := (∀ q ∈ ls, q ∈ ls') ∧ (∀ q ∈ ls', ∀ r ∈ ls', q.1 = r.1 → q = r)
def mo_C (C C' : am_C) : Prop := ∀ a vs G, mo_R (C a vs G) (C' a vs G)
def mo_J (J J' : am_J) : Prop := ∀ pc ls ls' st G, mo_L ls ls' → mo_R (J pc ls st G) (J' pc ls' st G)
def mo_K (K K' : am_K) : Prop := ∀ ls ls' st G, mo_L ls ls' → mo_R (K ls st G) (K' ls' st G)
theorem mo_n {y : am_R} : mo_R none y := Or.inl rfl
theorem mo_e {x : am_R} : mo_R x x := Or.inr rfl
theorem mo_mem : ∀ {ls : am_L} {i : Nat} {v : Value}, am_get ls i = some v → (i, v) ∈ ls
  | [], _, _, h => by simp [am_get] at h
  | (j, w) :: r, i, v, h => by
    unfold am_get at h
    by_cases c : j = i
    · rw [if_pos c] at h
      have e := Option.some.inj h
      subst e c
      exact List.mem_cons_self
    · rw [if_neg c] at h
      exact List.mem_cons_of_mem _ (mo_mem h)
theorem mo_some : ∀ {ls : am_L} {i : Nat} {v : Value}, (i, v) ∈ ls → ∃ w, am_get ls i = some w
  | [], _, _, h => absurd h List.not_mem_nil
  | (j, w) :: r, i, v, h => by
    unfold am_get
    by_cases c : j = i
    · exact ⟨w, if_pos c⟩
    · rw [if_neg c]
      rcases List.mem_cons.mp h with e | e
      · exact absurd (Prod.mk.inj e).1.symm c
      · exact mo_some e
theorem mo_get {ls ls' : am_L} (h : mo_L ls ls') {i : Nat} {v : Value} (e : am_get ls i = some v) : am_get ls' i = some v := by
  have m := h.1 _ (mo_mem e)
  obtain ⟨w, hw⟩ := mo_some m
  have m2 := mo_mem hw
  have := h.2 _ m _ m2 rfl
  rw [hw, (Prod.mk.inj this).2]
theorem mo_put {ls ls' : am_L} (h : mo_L ls ls') (i : Nat) (v : Value) : mo_L (am_put ls i v) (am_put ls' i v) := by
  unfold am_put
  refine ⟨fun q hq => ?_, fun q hq r hr e => ?_⟩
  · rcases List.mem_cons.mp hq with x | x
    · rw [x]; exact List.mem_cons_self
    · have := List.mem_filter.mp x
      exact List.mem_cons_of_mem _ (List.mem_filter.mpr ⟨h.1 _ this.1, this.2⟩)
  · rcases List.mem_cons.mp hq with x | x
    · rcases List.mem_cons.mp hr with y | y
      · rw [x, y]
      · have := (List.mem_filter.mp y).2
        subst x
        simp at this e
        exact absurd e.symm this.1
    · rcases List.mem_cons.mp hr with y | y
      · have := (List.mem_filter.mp x).2
        subst y
        simp at this e
        exact absurd e this.1
      · exact h.2 _ (List.mem_filter.mp x).1 _ (List.mem_filter.mp y).1 e
theorem mo_put2 {ls ls' : am_L} (h : mo_L ls ls') (i : Nat) (v : Value) : mo_L (am_put2 ls i v) (am_put2 ls' i v) := by
  unfold am_put2
  refine ⟨fun q hq => ?_, fun q hq r hr e => ?_⟩
  · rcases List.mem_cons.mp hq with x | x
    · rw [x]; exact List.mem_cons_self
    · have := List.mem_filter.mp x
      exact List.mem_cons_of_mem _ (List.mem_filter.mpr ⟨h.1 _ this.1, this.2⟩)
  · rcases List.mem_cons.mp hq with x | x
    · rcases List.mem_cons.mp hr with y | y
      · rw [x, y]
      · have := (List.mem_filter.mp y).2
        subst x
        simp at this e
        exact absurd e.symm this.1
    · rcases List.mem_cons.mp hr with y | y
      · have := (List.mem_filter.mp x).2
        subst y
        simp at this e
        exact absurd e this.1
      · exact h.2 _ (List.mem_filter.mp x).1 _ (List.mem_filter.mp y).1 e
theorem mo_k {tb : List (Int32 × Nat)} {f g : Int32 → am_R} (h : ∀ v, mo_R (f v) (g v)) : mo_R (am_k tb f) (am_k tb g) := by
  unfold am_k
  split
  · exact h _
  · exact mo_n
theorem mo_ldi {ls ls' : am_L} (hl : mo_L ls ls') {i : Nat} {f g : Int32 → am_R} (h : ∀ v, mo_R (f v) (g v)) : mo_R (am_ldi ls i f) (am_ldi ls' i g) := by
  unfold am_ldi
  split
  · next e => rw [mo_get hl e]; exact h _
  · exact mo_n
theorem mo_ldl {ls ls' : am_L} (hl : mo_L ls ls') {i : Nat} {f g : Int64 → am_R} (h : ∀ v, mo_R (f v) (g v)) : mo_R (am_ldl ls i f) (am_ldl ls' i g) := by
  unfold am_ldl
  split
  · next e => rw [mo_get hl e]; exact h _
  · exact mo_n
theorem mo_lda {ls ls' : am_L} (hl : mo_L ls ls') {i : Nat} {f g : Nat → am_R} (h : ∀ v, mo_R (f v) (g v)) : mo_R (am_lda ls i f) (am_lda ls' i g) := by
  unfold am_lda
  split
  · next e => rw [mo_get hl e]; exact h _
  · exact mo_n
theorem mo_p1 {st : List Value} {f g : Int32 → List Value → am_R} (h : ∀ x0 x1, mo_R (f x0 x1) (g x0 x1)) : mo_R (am_p1 st f) (am_p1 st g) := by
  unfold am_p1
  split
  · exact h _ _
  · exact mo_n
theorem mo_p2 {st : List Value} {f g : Int32 → Int32 → List Value → am_R} (h : ∀ x0 x1 x2, mo_R (f x0 x1 x2) (g x0 x1 x2)) : mo_R (am_p2 st f) (am_p2 st g) := by
  unfold am_p2
  split
  · exact h _ _ _
  · exact mo_n
theorem mo_q1 {st : List Value} {f g : Int64 → List Value → am_R} (h : ∀ x0 x1, mo_R (f x0 x1) (g x0 x1)) : mo_R (am_q1 st f) (am_q1 st g) := by
  unfold am_q1
  split
  · exact h _ _
  · exact mo_n
theorem mo_q2 {st : List Value} {f g : Int64 → Int64 → List Value → am_R} (h : ∀ x0 x1 x2, mo_R (f x0 x1 x2) (g x0 x1 x2)) : mo_R (am_q2 st f) (am_q2 st g) := by
  unfold am_q2
  split
  · exact h _ _ _
  · exact mo_n
theorem mo_qs {st : List Value} {f g : Int64 → Int32 → List Value → am_R} (h : ∀ x0 x1 x2, mo_R (f x0 x1 x2) (g x0 x1 x2)) : mo_R (am_qs st f) (am_qs st g) := by
  unfold am_qs
  split
  · exact h _ _ _
  · exact mo_n
theorem mo_a1 {st : List Value} {f g : Nat → List Value → am_R} (h : ∀ x0 x1, mo_R (f x0 x1) (g x0 x1)) : mo_R (am_a1 st f) (am_a1 st g) := by
  unfold am_a1
  split
  · exact h _ _
  · exact mo_n
theorem mo_ai {st : List Value} {f g : Nat → Int32 → List Value → am_R} (h : ∀ x0 x1 x2, mo_R (f x0 x1 x2) (g x0 x1 x2)) : mo_R (am_ai st f) (am_ai st g) := by
  unfold am_ai
  split
  · exact h _ _ _
  · exact mo_n
theorem mo_sh {G : am_G} {r : Nat} {f g : am_Sh → am_R} (h : ∀ s, mo_R (f s) (g s)) : mo_R (am_sh G r f) (am_sh G r g) := by
  unfold am_sh
  split
  · exact h _
  · exact mo_n
theorem mo_if {c : Prop} {dc : Decidable c} {a b a' b' : am_R} (h1 : mo_R a a') (h2 : mo_R b b') : mo_R (if c then a else b) (if c then a' else b') := by
  split
  · exact h1
  · exact h2
theorem mo_cond {k : ClassFile.Cond} {x y : Int32} {a b a' b' : am_R} (h1 : mo_R a a') (h2 : mo_R b b') : mo_R (am_cond k x y a b) (am_cond k x y a' b') := by
  unfold am_cond
  split <;> exact mo_if h1 h2
theorem mo_sw {f g : Nat → am_R} (h : ∀ t, mo_R (f t) (g t)) (x : Int32) (d : Nat) : ∀ tb : List (Int32 × Nat), mo_R (am_sw f x d tb) (am_sw g x d tb)
  | [] => h d
  | (k, t) :: r => by
    unfold am_sw
    exact mo_if (h t) (mo_sw h x d r)
theorem mo_ret {x y : am_R} {f g : List Value → am_G → am_R} (h0 : mo_R x y) (h : ∀ v G, mo_R (f v G) (g v G)) : mo_R (am_ret x f) (am_ret y g) := by
  rcases h0 with e | e
  · subst e; exact mo_n
  · subst e
    unfold am_ret
    split
    · exact h _ _
    · exact mo_n
theorem mo_getf {G : am_G} {r ci k c : Nat} {f g : Value → am_R} (h : ∀ v, mo_R (f v) (g v)) : mo_R (am_getf G r ci k c f) (am_getf G r ci k c g) := by
  unfold am_getf
  refine mo_sh fun s => mo_if ?_ mo_n
  split
  · exact h _
  · exact h _
  · exact h _
  · split
    · exact mo_n
    · exact h _
  · exact mo_n
theorem mo_putf {G : am_G} {r ci k c : Nat} {v : Value} {f g : am_G → am_R} (h : ∀ G, mo_R (f G) (g G)) : mo_R (am_putf G r ci k c v f) (am_putf G r ci k c v g) := by
  unfold am_putf
  refine mo_sh fun s => mo_if ?_ mo_n
  split
  · exact h _
  · exact h _
  · exact mo_if (h _) mo_n
  · exact mo_if (h _) mo_n
  · exact mo_n
theorem mo_copy {G : am_G} {src : Nat} {sp : Int32} {dst : Nat} {dp n : Int32} {f g : am_G → am_R} (h : ∀ G, mo_R (f G) (g G)) : mo_R (am_copy G src sp dst dp n f) (am_copy G src sp dst dp n g) := by
  unfold am_copy
  exact mo_sh fun _ => mo_sh fun _ => mo_if (h _) mo_n
theorem mo_op {C C' : am_C} {J J' : am_J} {K K' : am_K} (hC : mo_C C C') (hJ : mo_J J J') (hK : mo_K K K') (o : am_O) {ls ls' : am_L} (hl : mo_L ls ls') (st : List Value) (G : am_G) : mo_R (am_op C J K o ls st G) (am_op C' J' K' o ls' st G) := by
  obtain ⟨i, n, a, b, c', tb⟩ := o
  unfold am_op
  have hk := fun st G => hK ls ls' st G hl
  cases i
  all_goals dsimp only
  all_goals first
    | exact mo_n
    | exact mo_e
    | exact mo_k fun v => hk _ _
    | exact hk _ _
    | exact mo_ldi hl fun v => hk _ _
    | exact mo_ldl hl fun v => hk _ _
    | exact mo_lda hl fun v => hk _ _
    | exact mo_p1 fun x r => hK _ _ _ _ (mo_put hl _ _)
    | exact mo_q1 fun x r => hK _ _ _ _ (mo_put2 hl _ _)
    | exact mo_a1 fun x r => hK _ _ _ _ (mo_put hl _ _)
    | exact mo_k fun v => mo_ldi hl fun x => hK _ _ _ _ (mo_put hl _ _)
    | exact mo_p2 fun x y r => hk _ _
    | exact mo_p2 fun x y r => mo_if mo_n (hk _ _)
    | exact mo_q2 fun x y r => hk _ _
    | exact mo_qs fun x y r => hk _ _
    | exact mo_p1 fun x r => hk _ _
    | exact mo_q1 fun x r => hk _ _
    | exact hJ _ _ _ _ _ hl
    | exact mo_p1 fun x r => mo_cond (hJ _ _ _ _ _ hl) (hk _ _)
    | exact mo_p2 fun x y r => mo_cond (hJ _ _ _ _ _ hl) (hk _ _)
    | exact mo_p1 fun x r => mo_sw (fun t => hJ _ _ _ _ _ hl) _ _ _
    | exact mo_a1 fun x r => mo_getf fun v => hk _ _
    | exact mo_ai fun x i r => mo_sh fun sh => mo_if (mo_if mo_n (hk _ _)) mo_n
    | exact mo_p1 fun v r => mo_ai fun x i r => mo_sh fun sh => mo_if (mo_if mo_n (hk _ _)) mo_n
    | exact mo_q1 fun v r => mo_ai fun x i r => mo_sh fun sh => mo_if (mo_if mo_n (hk _ _)) mo_n
    | exact mo_a1 fun x r => mo_sh fun sh => mo_if (hk _ _) mo_n
    | exact mo_p1 fun x r => mo_if mo_n (hk _ _)
    | skip
  all_goals first
    | (split
       · exact mo_if (hk _ _) mo_n
       · exact mo_n)
    | (split
       · exact mo_putf fun G => hk _ _
       · exact mo_n)
    | (refine mo_if ?_ mo_n
       split
       · exact mo_sh fun sh => mo_if (mo_ret (hC _ _ _) fun v G => hk _ _) mo_n
       · exact mo_n)
    | (refine mo_if ?_ (mo_if (mo_p2 fun x y r => mo_if (hk _ _) mo_n) (mo_if (mo_p2 fun x y r => mo_if (hk _ _) mo_n) (mo_if (mo_ret (hC _ _ _) fun v G => hk _ _) mo_n)))
       split
       · exact mo_if (mo_copy fun G => hk _ _) mo_n
       · exact mo_n)
    | (refine mo_if (mo_a1 fun _ r => mo_if (hk _ _) mo_n) (mo_if ?_ mo_n)
       split
       · exact mo_ret (hC _ _ _) fun v G => hk _ _
       · exact mo_n)
theorem mo_ops {C C' : am_C} {J J' : am_J} (hC : mo_C C C') (hJ : mo_J J J') : ∀ ops, mo_J (am_ops C J ops) (am_ops C' J' ops)
  | [], pc, ls, ls', st, G, hl => hJ pc ls ls' st G hl
  | o :: r, pc, ls, ls', st, G, hl => mo_op hC hJ (fun ls ls' st G hl => mo_ops hC hJ r _ ls ls' st G hl) o hl st G
theorem mo_fwd {C C' : am_C} {B B' : am_J} (hC : mo_C C C') (hB : mo_J B B') : ∀ bs, mo_J (am_fwd C B bs) (am_fwd C' B' bs)
  | [], pc, ls, ls', st, G, hl => hB pc ls ls' st G hl
  | (p0, ops) :: r, pc, ls, ls', st, G, hl => by
    unfold am_fwd
    exact mo_if (mo_ops hC (mo_fwd hC hB r) ops pc ls ls' st G hl) (mo_fwd hC hB r pc ls ls' st G hl)
theorem mo_run {C C' : am_C} (hC : mo_C C C') (bs : am_B) : ∀ {n n' : Nat}, n ≤ n' → mo_J (am_run C bs n) (am_run C' bs n')
  | 0, _, _, _, _, _, _, _, _ => mo_n
  | n + 1, 0, h, _, _, _, _, _, _ => absurd h (by omega)
  | n + 1, n' + 1, h, pc, ls, ls', st, G, hl => mo_fwd hC (mo_run hC bs (by omega)) bs pc ls ls' st G hl
/-- a locals' list without two of one number -/
def mo_u : am_L → Bool
  | [] => true
  | q :: r => !(r.any fun p => p.1 == q.1) && mo_u r
def mo_s : am_L → am_L → Prop
  | [], _ => True
  | q :: r, ls' => am_get ls' q.1 = some q.2 ∧ mo_s r ls'
theorem mo_uu : ∀ {ls : am_L}, mo_u ls = true → ∀ q ∈ ls, ∀ r ∈ ls, q.1 = r.1 → q = r
  | [], _, q, hq, _, _, _ => absurd hq List.not_mem_nil
  | p :: t, h, q, hq, r, hr, e => by
    unfold mo_u at h
    have h' := (Bool.and_eq_true _ _).mp h
    have na : ∀ x ∈ t, x.1 ≠ p.1 := fun x hx e => by
      have := h'.1
      simp at this
      exact this _ _ (show (x.1, x.2) ∈ t from hx) e
    rcases List.mem_cons.mp hq with x | x
    · rcases List.mem_cons.mp hr with y | y
      · rw [x, y]
      · subst x; exact absurd e.symm (na r y)
    · rcases List.mem_cons.mp hr with y | y
      · subst y; exact absurd e (na q x)
      · exact mo_uu h'.2 q x r y e
theorem mo_ss : ∀ {ls ls' : am_L}, mo_s ls ls' → ∀ q ∈ ls, q ∈ ls'
  | [], _, _, q, hq => absurd hq List.not_mem_nil
  | p :: t, ls', h, q, hq => by
    rcases List.mem_cons.mp hq with x | x
    · subst x; exact mo_mem h.1
    · exact mo_ss h.2 q x
theorem mo_lv : ∀ (vs : List Value) (i : Nat), (∀ q ∈ lv_args i vs, i ≤ q.1) ∧ (∀ q ∈ lv_args i vs, ∀ r ∈ lv_args i vs, q.1 = r.1 → q = r)
  | [], i => ⟨fun q hq => absurd hq (by simp [lv_args]), fun q hq => absurd hq (by simp [lv_args])⟩
  | v :: t, i => by
    have ih := mo_lv t (if v.category = 2 then i + 2 else i + 1)
    have hc : i < (if v.category = 2 then i + 2 else i + 1) := by split <;> omega
    unfold lv_args
    refine ⟨fun q hq => ?_, fun q hq r hr e => ?_⟩
    · rcases List.mem_cons.mp hq with x | x
      · subst x; exact Nat.le_refl _
      · have := ih.1 q x; omega
    · rcases List.mem_cons.mp hq with x | x
      · rcases List.mem_cons.mp hr with y | y
        · rw [x, y]
        · have := ih.1 r y; subst x; simp at e; omega
      · rcases List.mem_cons.mp hr with y | y
        · have := ih.1 q x; subst y; simp at e; omega
        · exact ih.2 q x r y e
theorem mo_call {P : Nat → Nat × am_B} : ∀ {d d' : Nat}, d ≤ d' → mo_C (am_call P d) (am_call P d')
  | 0, _, _, _, _, _ => mo_n
  | d + 1, 0, h, _, _, _ => absurd h (by omega)
  | d + 1, d' + 1, h, y, args, G => by
    unfold am_call
    exact mo_if (mo_run (mo_call (by omega)) _ (Nat.le_refl _) _ _ _ _ _ ⟨fun q hq => hq, (mo_lv args 0).2⟩) mo_n
theorem mo_get1 {x y : am_R} {r : Option Value × am_G} (h : mo_R x y) (e : x = some r) : y = some r := by
  rcases h with h | h
  · rw [h] at e; exact absurd e (by simp)
  · rw [← h]; exact e
/-- a call at a greater depth -/
theorem mo_d {d d' y : Nat} {args : List Value} {G : am_G} {r : Option Value × am_G} (h : d ≤ d') (e : am_call tb_P d y args G = some r) : am_call tb_P d' y args G = some r := mo_get1 (mo_call h _ _ _) e
/-- a place in a method with more turns and more locals -/
theorem mo_f {C : am_C} {full bs : am_B} {n n' pc : Nat} {ls ls' : am_L} {st : List Value} {G : am_G} {r : Option Value × am_G} (h : n ≤ n') (s : mo_s ls ls') (u : mo_u ls' = true) (e : am_fwd C (am_run C full n) bs pc ls st G = some r) : am_fwd C (am_run C full n') bs pc ls' st G = some r := mo_get1 (mo_fwd (fun _ _ _ => mo_e) (mo_run (fun _ _ _ => mo_e) full h) bs pc ls ls' st G ⟨mo_ss s, mo_uu u⟩) e
