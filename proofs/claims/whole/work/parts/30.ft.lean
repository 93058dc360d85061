/-! what a NODE adds, as one function: below 200 the USES of THINGS, from 200 on the most that was SEEN of them -/
def ft_z : Nat → Int32 := fun _ => 0
def ft_p (X Y : Nat → Int32) : Nat → Int32 := fun t => if t < 200 then us_both (X t) (Y t) else us_max (X t) (Y t)
def ft_e (X Y : Nat → Int32) : Nat → Int32 := fun t => if t < 200 then us_either (X t) (Y t) else us_max (X t) (Y t)
def ft_m (X : Nat → Int32) : Nat → Int32 := fun t => if t < 200 then us_many (X t) else X t
def ft_t (X : Nat → Int32) (a : Nat) : Nat → Int32 := fun t => if t = a then 0 else if t = 200 + a then us_max (X t) (X a >>> (3 &&& 31)) else X t
def ft_1 (a : Nat) (u : Int32) : Nat → Int32 := fun t => if t = a then u else 0
def nn (x : Int32) : Nat := x.toNatClampNeg
theorem nn_n {a : Nat} (h : a < 2 ^ 31) : nn (nI a) = a := nI_clamp h
def ap_n (K A : Nat → Int32) : Nat → Nat → Nat
  | 0, _ => 0
  | n + 1, k => if K k = 9 then ap_n K A n (nn (A k)) + 1 else 0
def ap_e (K A : Nat → Int32) : Nat → Nat → Nat
  | 0, k => k
  | n + 1, k => if K k = 9 then ap_e K A n (nn (A k)) else k
def ft_a (K M : Nat → Int32) (F : Nat → Int32 → Nat → Int32) (k : Nat) (u : Int32) : Nat → Int32 := if u = 0 then ft_z else if K k = 1 then ft_1 (nn (M k)) u else F k (u &&& 7)
def ft_s (K M A B : Nat → Int32) (F : Nat → Int32 → Nat → Int32) (u : Nat → Int32) : Nat → Nat → Nat → Int32
  | 0, _ => ft_z
  | m + 1, k => ft_p (ft_s K M A B F u m (nn (A k))) (ft_a K M F (nn (B k)) (u m))
def ft_ap (K M A B SZ R : Nat → Int32) (F : Nat → Int32 → Nat → Int32) (m h k : Nat) (D : Int32) : Nat → Int32 :=
  if K h = 2 then (if m < nn (SZ (nn (M h))) ∧ D = 0 then ft_z else ft_s K M A B F (ap_u R (nn (M h)) (nn (SZ (nn (M h)))) m (if m = nn (SZ (nn (M h))) ∧ D = 0 then 0 else 1)) m k)
  else if K h = 4 then ft_p (ft_p (ft_1 (200 + nn (M h)) 1) (ft_t (F (nn (A h)) (if m = 1 then D else us_hd (nI (m - 1)) D)) (nn (M h) + 1))) (ft_s K M A B F (fun i => if i = 0 then F (nn (A h)) (if m = 1 then D else us_hd (nI (m - 1)) D) (nn (M h) + 1) else 20) m k)
  else ft_p (F h (us_hd (nI m) D)) (ft_s K M A B F (fun _ => 20) m k)
def ft_F (K M A B C SZ R : Nat → Int32) (F : Nat → Int32 → Nat → Int32) (k : Nat) (D : Int32) : Nat → Int32 :=
  if K k = 1 then ft_1 (nn (M k)) (8 + D)
  else if K k = 3 then (if D = 0 then ft_z else ft_p (ft_a K M F (nn (A k)) 20) (ft_a K M F (nn (B k)) 20))
  else if K k = 4 then (if D = 0 then ft_z else if D = 4 then ft_p (ft_1 (200 + nn (M k)) 2) (ft_m (ft_t (F (nn (A k)) 4) (nn (M k) + 1))) else ft_p (ft_1 (200 + nn (M k)) 1) (ft_t (F (nn (A k)) (D - 1)) (nn (M k) + 1)))
  else if K k = 5 then ft_p (ft_t (F (nn (B k)) D) (nn (M k))) (if F (nn (B k)) D (nn (M k)) = 0 then ft_z else F (nn (A k)) (F (nn (B k)) D (nn (M k)) &&& 7))
  else if K k = 6 then ft_p (F (nn (A k)) 0) (ft_e (F (nn (C k)) D) (F (nn (B k)) D))
  else if K k = 7 then ft_p (ft_t (ft_t (F (nn (B k)) D) (nn (M k))) (nn (M k) + 1)) (F (nn (A k)) (if F (nn (B k)) D (nn (M k)) + F (nn (B k)) D (nn (M k) + 1) = 0 then 0 else 4))
  else if K k = 8 then ft_p (F (nn (A k)) 0) (F (nn (B k)) 0)
  else if K k = 9 then ft_ap K M A B SZ R F (ap_n K A 4000 k) (ap_e K A 4000 k) k D
  else ft_z
def ft (K M A B C SZ R : Nat → Int32) : Nat → Nat → Int32 → Nat → Int32
  | 0 => fun _ _ => ft_z
  | n + 1 => ft_F K M A B C SZ R (ft K M A B C SZ R n)
/-- a NODE and all below it: f falls where calls nest, g where something is open; its NODES are s to k, its own THINGS a to b, G the THINGS that it may name -/
def wf_N (K M A B C : Nat → Int32) (nd : Nat) : Nat → Nat → Nat → Nat → Nat → Nat → Nat → List Nat → Prop
  | 0, _, _, _, _, _, _, _ => False
  | n + 1, f, g, k, s, a, b, G =>
    (K k = 0 ∧ s = k ∧ b = a)
    ∨ (K k = 1 ∧ s = k ∧ b = a ∧ ∃ t, M k = nI t ∧ t ∈ G)
    ∨ (K k = 2 ∧ s = k ∧ b = a ∧ ∃ e, M k = nI e ∧ e < nd)
    ∨ (K k = 3 ∧ ∃ f' g' i j c, f' < f ∧ g' < g ∧ A k = nI i ∧ B k = nI j ∧ k = j + 1 ∧ wf_N K M A B C nd n f' g' i s a c G ∧ wf_N K M A B C nd n f' g' j (i + 1) c b G)
    ∨ (K k = 4 ∧ ∃ f' g' j, f' < f ∧ g' < g ∧ M k = nI a ∧ A k = nI j ∧ k = j + 1 ∧ wf_N K M A B C nd n f' g' j s (a + 2) b ((a + 1) :: G))
    ∨ (K k = 5 ∧ ∃ f' g' i j c, f' < f ∧ g' < g ∧ M k = nI a ∧ A k = nI i ∧ B k = nI j ∧ k = j + 1 ∧ wf_N K M A B C nd n f' g' i s (a + 1) c G ∧ wf_N K M A B C nd n f' g' j (i + 1) c b (a :: G))
    ∨ (K k = 6 ∧ ∃ f' g' i j l c e, f' < f ∧ g' < g ∧ A k = nI i ∧ B k = nI j ∧ C k = nI l ∧ k = l + 1 ∧ wf_N K M A B C nd n f' g' i s a c G ∧ wf_N K M A B C nd n f' g' j (i + 1) c e G ∧ wf_N K M A B C nd n f' g' l (j + 1) e b G)
    ∨ (K k = 7 ∧ ∃ f' g' i j c, f' < f ∧ g' < g ∧ M k = nI c ∧ A k = nI i ∧ B k = nI j ∧ k = j + 1 ∧ wf_N K M A B C nd n f' g' i s a c G ∧ wf_N K M A B C nd n f' g' j (i + 1) (c + 2) b ((c + 1) :: c :: G))
    ∨ (K k = 8 ∧ (M k = 43 ∨ M k = 45 ∨ M k = 42 ∨ M k = 60) ∧ ∃ f1 f' i j c, f1 ≤ f ∧ f' < f ∧ A k = nI i ∧ B k = nI j ∧ k = j + 1 ∧ wf_N K M A B C nd n f1 g i s a c G ∧ wf_N K M A B C nd n f' g j (i + 1) c b G)
    ∨ (K k = 9 ∧ ∃ f1 f' i j c, (f1 ≤ f ∧ (K i ≠ 9 → f1 < f)) ∧ f' < f ∧ A k = nI i ∧ B k = nI j ∧ k = j + 1 ∧ wf_N K M A B C nd n f1 g i s a c G ∧ wf_N K M A B C nd n f' g j (i + 1) c b G)
section WF
variable {K M A B C : Nat → Int32} {nd : Nat}
theorem wf_ord : ∀ {n f g k s a b : Nat} {G : List Nat}, wf_N K M A B C nd n f g k s a b G → s ≤ k ∧ a ≤ b
  | 0, _, _, _, _, _, _, _, h => h.elim
  | n + 1, f, g, k, s, a, b, G, h => by
    rcases h with ⟨_, h1, h2⟩ | ⟨_, h1, h2, _⟩ | ⟨_, h1, h2, _⟩ | ⟨_, f', g', i, j, c, _, _, _, _, h1, h2, h3⟩ | ⟨_, f', g', j, _, _, _, _, h1, h2⟩ | ⟨_, f', g', i, j, c, _, _, _, _, _, h1, h2, h3⟩ | ⟨_, f', g', i, j, l, c, e, _, _, _, _, _, h1, h2, h3, h4⟩ | ⟨_, f', g', i, j, c, _, _, _, _, _, h1, h2, h3⟩ | ⟨_, _, f1, f', i, j, c, _, _, _, _, h1, h2, h3⟩ | ⟨_, f1, f', i, j, c, _, _, _, _, h1, h2, h3⟩
    · omega
    · omega
    · omega
    · have := wf_ord h2; have := wf_ord h3; omega
    · have := wf_ord h2; omega
    · have := wf_ord h2; have := wf_ord h3; omega
    · have := wf_ord h2; have := wf_ord h3; have := wf_ord h4; omega
    · have := wf_ord h2; have := wf_ord h3; omega
    · have := wf_ord h2; have := wf_ord h3; omega
    · have := wf_ord h2; have := wf_ord h3; omega
theorem wf_up : ∀ {n f g k s a b : Nat} {G : List Nat}, wf_N K M A B C nd n f g k s a b G → wf_N K M A B C nd (n + 1) f g k s a b G
  | 0, _, _, _, _, _, _, _, h => h.elim
  | n + 1, f, g, k, s, a, b, G, h => by
    rcases h with h | h | h | ⟨e, f', g', i, j, c, q1, q2, q3, q4, h1, h2, h3⟩ | ⟨e, f', g', j, q1, q2, q3, q4, h1, h2⟩ | ⟨e, f', g', i, j, c, q1, q2, q3, q4, q5, h1, h2, h3⟩ | ⟨e0, f', g', i, j, l, c, e, q1, q2, q3, q4, q5, h1, h2, h3, h4⟩ | ⟨e, f', g', i, j, c, q1, q2, q3, q4, q5, h1, h2, h3⟩ | ⟨e, e2, f1, f', i, j, c, q1, q2, q3, q4, h1, h2, h3⟩ | ⟨e, f1, f', i, j, c, q1, q2, q3, q4, h1, h2, h3⟩
    · exact Or.inl h
    · exact Or.inr (Or.inl h)
    · exact Or.inr (Or.inr (Or.inl h))
    · exact Or.inr (Or.inr (Or.inr (Or.inl ⟨e, f', g', i, j, c, q1, q2, q3, q4, h1, wf_up h2, wf_up h3⟩)))
    · exact Or.inr (Or.inr (Or.inr (Or.inr (Or.inl ⟨e, f', g', j, q1, q2, q3, q4, h1, wf_up h2⟩))))
    · exact Or.inr (Or.inr (Or.inr (Or.inr (Or.inr (Or.inl ⟨e, f', g', i, j, c, q1, q2, q3, q4, q5, h1, wf_up h2, wf_up h3⟩)))))
    · exact Or.inr (Or.inr (Or.inr (Or.inr (Or.inr (Or.inr (Or.inl ⟨e0, f', g', i, j, l, c, e, q1, q2, q3, q4, q5, h1, wf_up h2, wf_up h3, wf_up h4⟩))))))
    · exact Or.inr (Or.inr (Or.inr (Or.inr (Or.inr (Or.inr (Or.inr (Or.inl ⟨e, f', g', i, j, c, q1, q2, q3, q4, q5, h1, wf_up h2, wf_up h3⟩)))))))
    · exact Or.inr (Or.inr (Or.inr (Or.inr (Or.inr (Or.inr (Or.inr (Or.inr (Or.inl ⟨e, e2, f1, f', i, j, c, q1, q2, q3, q4, h1, wf_up h2, wf_up h3⟩))))))))
    · exact Or.inr (Or.inr (Or.inr (Or.inr (Or.inr (Or.inr (Or.inr (Or.inr (Or.inr ⟨e, f1, f', i, j, c, q1, q2, q3, q4, h1, wf_up h2, wf_up h3⟩))))))))
/-- f and g may be greater -/
theorem wf_fg : ∀ {n f g f2 g2 k s a b : Nat} {G : List Nat}, f ≤ f2 → g ≤ g2 → wf_N K M A B C nd n f g k s a b G → wf_N K M A B C nd n f2 g2 k s a b G
  | 0, _, _, _, _, _, _, _, _, _, _, _, h => h.elim
  | n + 1, f, g, f2, g2, k, s, a, b, G, hf, hg, h => by
    rcases h with h | h | h | ⟨e, f', g', i, j, c, q1, q2, q3, q4, h1, h2, h3⟩ | ⟨e, f', g', j, q1, q2, q3, q4, h1, h2⟩ | ⟨e, f', g', i, j, c, q1, q2, q3, q4, q5, h1, h2, h3⟩ | ⟨e0, f', g', i, j, l, c, e, q1, q2, q3, q4, q5, h1, h2, h3, h4⟩ | ⟨e, f', g', i, j, c, q1, q2, q3, q4, q5, h1, h2, h3⟩ | ⟨e, e2, f1, f', i, j, c, q1, q2, q3, q4, h1, h2, h3⟩ | ⟨e, f1, f', i, j, c, q1, q2, q3, q4, h1, h2, h3⟩
    · exact Or.inl h
    · exact Or.inr (Or.inl h)
    · exact Or.inr (Or.inr (Or.inl h))
    · exact Or.inr (Or.inr (Or.inr (Or.inl ⟨e, f', g', i, j, c, by omega, by omega, q3, q4, h1, h2, h3⟩)))
    · exact Or.inr (Or.inr (Or.inr (Or.inr (Or.inl ⟨e, f', g', j, by omega, by omega, q3, q4, h1, h2⟩))))
    · exact Or.inr (Or.inr (Or.inr (Or.inr (Or.inr (Or.inl ⟨e, f', g', i, j, c, by omega, by omega, q3, q4, q5, h1, h2, h3⟩)))))
    · exact Or.inr (Or.inr (Or.inr (Or.inr (Or.inr (Or.inr (Or.inl ⟨e0, f', g', i, j, l, c, e, by omega, by omega, q3, q4, q5, h1, h2, h3, h4⟩))))))
    · exact Or.inr (Or.inr (Or.inr (Or.inr (Or.inr (Or.inr (Or.inr (Or.inl ⟨e, f', g', i, j, c, by omega, by omega, q3, q4, q5, h1, h2, h3⟩)))))))
    · exact Or.inr (Or.inr (Or.inr (Or.inr (Or.inr (Or.inr (Or.inr (Or.inr (Or.inl ⟨e, e2, f1, f', i, j, c, by omega, by omega, q3, q4, h1, wf_fg (Nat.le_refl _) hg h2, wf_fg (Nat.le_refl _) hg h3⟩))))))))
    · exact Or.inr (Or.inr (Or.inr (Or.inr (Or.inr (Or.inr (Or.inr (Or.inr (Or.inr ⟨e, f1, f', i, j, c, ⟨Nat.le_trans q1.1 hf, fun x => Nat.lt_of_lt_of_le (q1.2 x) hf⟩, by omega, q3, q4, h1, wf_fg (Nat.le_refl _) hg h2, wf_fg (Nat.le_refl _) hg h3⟩))))))))
/-- the spine of an APPLICATION -/
theorem wf_ap : ∀ {n f g k s a b : Nat} {G : List Nat}, wf_N K M A B C nd n f g k s a b G → k < 4000 → ∃ m q h, ap_h K A m k q h ∧ m + 1 ≤ k + 1 - s
  | 0, _, _, _, _, _, _, _, h, _ => h.elim
  | n + 1, f, g, k, s, a, b, G, h, hk => by
    have o := wf_ord h
    by_cases e : K k = 9
    · rcases h with ⟨h, _⟩ | ⟨h, _⟩ | ⟨h, _⟩ | ⟨h, _⟩ | ⟨h, _⟩ | ⟨h, _⟩ | ⟨h, _⟩ | ⟨h, _⟩ | ⟨h, _⟩ | ⟨h, f1, f', i, j, c, q1, q2, q3, q4, h1, h2, h3⟩
      all_goals first | exact absurd (h.symm.trans e) (by decide) | skip
      have o2 := wf_ord h2
      have o3 := wf_ord h3
      obtain ⟨m, q, hd, r1, r2⟩ := wf_ap h2 (by omega)
      cases m with
      | zero => exact ⟨1, k, hd, ⟨e, hk, i, by omega, q3, fun _ => rfl, r1⟩, by omega⟩
      | succ m => exact ⟨m + 2, q, hd, ⟨e, hk, i, by omega, q3, fun x => absurd x (Nat.succ_ne_zero m), r1⟩, by omega⟩
    · exact ⟨0, k, k, ⟨rfl, e, hk⟩, by omega⟩
theorem ap_ne : ∀ {n m k q h : Nat}, ap_h K A m k q h → m < n → ap_n K A n k = m ∧ ap_e K A n k = h
  | 0, _, _, _, _, _, x => absurd x (Nat.not_lt_zero _)
  | n + 1, 0, k, q, h, ⟨h1, h2, _⟩, _ => by
    unfold ap_n ap_e
    rw [if_neg h2, if_neg h2]
    exact ⟨rfl, h1⟩
  | n + 1, m + 1, k, q, h, ⟨h1, h2, j, h3, h4, _, h5⟩, x => by
    have := ap_ne (n := n) h5 (by omega)
    unfold ap_n ap_e
    rw [if_pos h1, if_pos h1, h4, nn_n (by omega), this.1, this.2]
    exact ⟨rfl, rfl⟩
end WF
