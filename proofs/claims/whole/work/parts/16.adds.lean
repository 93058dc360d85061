/-! the reference's rows of USES: eitherDemand and add -/
def us_md (c d e f : Int32) : Int32 := if c = 0 then f else if e = 0 then d else if d = 0 then f else if f = 0 ∨ f = d then d else 4
def us_ac (c0 c : Int32) : Int32 := if c = 0 then c0 else if c0 = 0 then c else if c0 + c < 2 then c0 + c else 2
def us_ad (c0 d0 c d : Int32) : Int32 := if c = 0 then d0 else if c0 = 0 then d else if d0 = 0 ∧ d = 0 then 0 else 4
theorem em_eitherDemand (n : Nat) (c d e f : Int32) (hi : Nat → Nat → Int32) (hl : Nat → Nat → Int64) : am_call tb_P (n + 1) 53 [.int c, .int d, .int e, .int f] (pr_S, hi, hl) = some (some (.int (us_md c d e f)), (pr_S, hi, hl)) := by
  rw [en_53, ht_53_0, ch_53_0]
  unfold us_md
  by_cases h1 : c = 0
  · rw [if_neg (fun h => h h1), if_pos h1, sk_53_1_38, ht_53_6, ch_53_2]
  rw [if_pos h1, if_neg h1, ht_53_1, ch_53_1]
  by_cases h2 : e = 0
  · rw [if_neg (fun h => h h2), if_pos h2, sk_53_2_38, ht_53_6, ch_53_2]
  rw [if_pos h2, if_neg h2, ht_53_2, ch_53_3]
  by_cases h3 : d = 0
  · rw [if_neg (fun h => h h3), if_pos h3, sk_53_3_38, ht_53_6, ch_53_2]
  rw [if_pos h3, if_neg h3, ht_53_3, ch_53_4]
  by_cases h4 : f = 0
  · rw [if_pos h4, if_pos (c := f = 0 ∨ f = d) (Or.inl h4), ht_53_4, ch_53_5, sk_53_5_38, ht_53_6, ch_53_2]
  rw [if_neg h4]
  by_cases h5 : f = d
  · rw [if_neg (fun h => h h5), if_pos (c := f = 0 ∨ f = d) (Or.inr h5), ht_53_4, ch_53_5, sk_53_5_38, ht_53_6, ch_53_2]
  · rw [if_pos h5, if_neg (c := f = 0 ∨ f = d) (fun h => h.elim h4 h5), sk_53_4_37, ht_53_5, ch_53_6, ht_53_6, ch_53_2]
theorem am_si_same (h : Nat → Nat → Int32) (r k : Nat) : am_si h r k (h r k) = h := by
  funext c j
  unfold am_si
  split
  · rename_i h1
    subst h1
    split
    · rename_i h2; rw [h2]
    · rfl
  · rfl
theorem em_add (n : Nat) (r t k : Nat) (c d : Int32) (hi : Nat → Nat → Int32) (hl : Nat → Nat → Int64) (hk : r + t = k) (h1 : k < 28000) : am_call tb_P (n + 1) 52 [.ref 73, .int (nI r), .int (nI t), .int c, .int d] (pr_S, hi, hl) = some (none, (pr_S, am_si (am_si hi 99 k (us_ac ((hi 99) k) c)) 100 k (us_ad ((hi 99) k) ((hi 100) k) c d), hl)) := by
  have hb : ¬ am_bad (nI k) 28000 := nI_in h1 (by decide)
  have hc : (nI k).toNatClampNeg = k := nI_clamp (by omega)
  rw [en_52, ht_52_0, ch_52_0, nI_add, hk]
  unfold us_ac us_ad
  by_cases h2 : c = 0
  · rw [if_neg (fun h => h h2), if_pos h2, if_pos h2, am_si_same, am_si_same]
  rw [if_pos h2, if_neg h2, if_neg h2, ht_52_1, ch_52_1, if_neg hb]
  have e1 : (hi 99) (nI k).toNatClampNeg = (hi 99) k := by rw [hc]
  have e2 : (hi 100) (nI k).toNatClampNeg = (hi 100) k := by rw [hc]
  by_cases h3 : (hi 99) k = 0
  · rw [if_neg (fun h => h (e1.trans h3)), if_neg hb, if_neg hb, if_pos h3, if_pos h3, hc]
  rw [if_pos (fun h => h3 (e1.symm.trans h)), if_neg h3, if_neg h3, ht_52_2, ch_52_2, if_neg hb, ch_52_3, if_neg hb, if_neg hb]
  by_cases h4 : (hi 100) k = 0
  · rw [if_neg (fun h => h (e2.trans h4))]
    by_cases h5 : d = 0
    · rw [if_neg (fun h => h h5), if_pos (c := (hi 100) k = 0 ∧ d = 0) ⟨h4, h5⟩, sk_52_3_84, ht_52_4, ch_52_5, if_neg hb, e1, hc]
    · rw [if_pos h5, if_neg (c := (hi 100) k = 0 ∧ d = 0) (fun h => h5 h.2), ht_52_3, ch_52_4, ht_52_4, ch_52_5, if_neg hb, e1, hc]
  · rw [if_pos (fun h => h4 (e2.symm.trans h)), if_neg (c := (hi 100) k = 0 ∧ d = 0) (fun h => h4 h.1), ht_52_3, ch_52_4, ht_52_4, ch_52_5, if_neg hb, e1, hc]
