/-! the class's foreteller: visitApplication, visit, perform, a turn of foretell -/
section EA
variable {h0 : Nat → Nat → Int32} {L H : Nat} {Vs : List (Nat → Int32)} {S : Nat → Int32}
theorem ea_vaLoop (d q h : Nat) (x1 x2 : Int32) (hi : Nat → Nat → Int32) (hl : Nat → Nat → Int64) : ∀ (m k q0 i c n : Nat), ap_h (hi 26) (hi 28) m k q h → i + m < 4000 → c + m < 4001 → m ≤ n →
    ∃ n', am_fwd (am_call tb_P (d + 1)) (am_run (am_call tb_P (d + 1)) tb_r117_0 n) tb_r117_1 11 [(6, .int (nI i)), (5, .int (nI k)), (4, .int (nI q0)), (3, .int (nI c)), (0, .ref 38), (1, .int x1), (2, .int x2)] [] (pr_S, hi, hl) = am_fwd (am_call tb_P (d + 1)) (am_run (am_call tb_P (d + 1)) tb_r117_0 n') tb_r117_2 63 [(6, .int (nI (i + m))), (5, .int (nI h)), (4, .int (nI (if m = 0 then q0 else q))), (3, .int (nI (c + m))), (0, .ref 38), (1, .int x1), (2, .int x2)] [] (pr_S, hi, hl) := by
  intro m
  induction m with
  | zero =>
    intro k q0 i c n h1 h2 h3 h4
    obtain ⟨rfl, h5, h6⟩ := h1
    refine ⟨n, ?_⟩
    rw [ht_117_1, ch_117_1, if_neg (li_ge (by omega) (by decide)), at_26, ev_rs, ch_117_3, q_at_nI h6 (by decide), if_pos h5]
    rfl
  | succ m ih =>
    intro k q0 i c n h1 h2 h3 h4
    obtain ⟨h5, h6, j, h7, h8, h9, h10⟩ := h1
    obtain ⟨n, rfl⟩ : ∃ n', n = n' + 1 := ⟨n - 1, by omega⟩
    obtain ⟨n', r⟩ := ih j k (i + 1) (c + 1) n h10 (by omega) (by omega) (by omega)
    refine ⟨n', ?_⟩
    rw [ht_117_1, ch_117_1, if_neg (li_ge (by omega) (by decide)), at_26, ev_rs, ch_117_3, q_at_nI h6 (by decide), if_neg (fun x => x h5), at_28, ev_rs, ch_117_5, sk_117_2_11, q_at_nI h6 (by decide), h8, nI_1, nI_1, lp_117_11]
    rw [r, Nat.add_assoc i 1 m, Nat.add_comm 1 m, Nat.add_assoc c 1 m, Nat.add_comm 1 m, if_neg (Nat.succ_ne_zero m)]
    by_cases e : m = 0
    · rw [if_pos e, h9 e]
    · rw [if_neg e]
theorem ea_visitAppD (d m k q h e w : Nat) (D : Int32) (hl : Nat → Nat → Int64) (ts : List (Int32 × Int32 × Int32)) (hi : Nat → Nat → Int32) (h1 : ap_h (h0 26) (h0 28) (m + 1) k q h) (hm : m < 3999) (h2 : h0 26 h = 2) (h3 : h0 27 h = nI e) (he : e < 24) (h6 : h0 20 e = nI w) (hw : w ≤ 4) (h4 : ts.length + (m + 1) ≤ 4000) (h5 : fi_S h0 hi L H ts Vs S) :
    ∃ hi', am_call tb_P (d + 3) 117 [.ref 38, .int (nI k), .int D] (pr_S, hi, hl) = some (none, (pr_S, hi', hl)) ∧ fi_S h0 hi' L H (ap_def (h0 28) (h0 29) (h0 36) e w (m + 1) D k ts) Vs S := by
  obtain ⟨hi', r1, r2⟩ := ea_applyDef (h0 := h0) (L := L) (H := H) (Vs := Vs) (S := S) d e w m k D hw he hl ts hi (ap_hok h1) h4 h5 h6
  refine ⟨hi', ?_, r2⟩
  obtain ⟨n', r⟩ := ea_vaLoop (d + 1) q h (nI k) D hi hl (m + 1) k k 0 0 999999 (by rw [h5.1 26 (by decide), h5.1 28 (by decide)]; exact h1) (by omega) (by omega) (by omega)
  rw [en_117, ht_117_0, ch_117_0]
  rw [show (0 : Int32) = nI 0 from rfl, r, Nat.zero_add]
  have hh := (ap_hd h1).2
  rw [ht_117_2, ch_117_2, at_26, ev_rs, ch_117_4, q_at_nI hh (by decide), h5.1 26 (by decide), h2, if_pos rfl, ht_117_3, ch_117_6, at_27, ev_rs, ch_117_9, q_at_nI hh (by decide), h5.1 27 (by decide), h3, r1, ev_rn, ch_117_12, sk_117_4_199, ht_117_8, ch_117_15]
theorem ea_visitAppL (d m k q h t b : Nat) (D : Int32) (hl : Nat → Nat → Int64) (ts : List (Int32 × Int32 × Int32)) (hi : Nat → Nat → Int32) (hH : H ≤ 200) (h1 : ap_h (h0 26) (h0 28) (m + 1) k q h) (hm : m < 3999) (h2 : h0 26 h = 4) (h3 : h0 27 h = nI t) (ht : t < 200) (h6 : h0 28 h = nI b) (h4 : ts.length + (m + 2) ≤ 4000) (h5 : fi_S h0 hi L H ts Vs S) :
    ∃ hi', am_call tb_P (d + 3) 117 [.ref 38, .int (nI k), .int D] (pr_S, hi, hl) = some (none, (pr_S, hi', hl)) ∧ fi_S h0 hi' L H (ap_ts (h0 28) (h0 29) (fun _ => 20) m k ((0, nI b, if m = 0 then D else us_hd (nI m) D) :: (5, nI q, 0) :: ts)) Vs (fi_u S t (us_max (S t) 1)) := by
  have hh := (ap_hd h1).2
  have s1 : fi_S h0 (fp_seen hi t 1) L H ts Vs (fi_u S t (us_max (S t) 1)) := by
    have e := h5.2.2.2.2.2.2.2 t ht
    unfold fp_seen
    rw [e]
    exact fi_setSeen hH h5 t _
  have s2 := fi_push s1 5 (nI q) 0
  have s3 := fi_push s2 0 (nI b) (if m = 0 then D else us_hd (nI m) D)
  obtain ⟨hi', r1, r2⟩ := ea_pushArguments (h0 := h0) (L := L) (H := H) (Vs := Vs) d k m _ _ hl (ap_okle (by omega) (ap_hok h1)) (by simp only [List.length_cons]; omega) s3
  rw [List.length_cons] at r1
  refine ⟨hi', ?_, r2⟩
  obtain ⟨n', r⟩ := ea_vaLoop (d + 1) q h (nI k) D hi hl (m + 1) k k 0 0 999999 (by rw [h5.1 26 (by decide), h5.1 28 (by decide)]; exact h1) (by omega) (by omega) (by omega)
  rw [en_117, ht_117_0, ch_117_0]
  rw [show (0 : Int32) = nI 0 from rfl, r, Nat.zero_add, if_neg (Nat.succ_ne_zero m)]
  have e3 : hi 27 h = nI t := by rw [h5.1 27 (by decide), h3]
  by_cases c : m = 0
  · subst c
    rw [if_pos rfl] at r1
    rw [ht_117_2, ch_117_2, at_26, ev_rs, ch_117_4, q_at_nI hh (by decide), h5.1 26 (by decide), h2, if_neg (by decide), if_pos rfl, sk_117_3_122, ht_117_4, ch_117_7, ea_recordF _ h t _ _ _ hh ht e3, ev_rn, ch_117_10, ea_pushF _ ts.length _ _ _ _ _ s1.2.1 (by omega), ev_rn, ch_117_13, at_28, ev_rs, ch_117_16, q_at_nI hh (by decide), s2.1 28 (by decide), h6, if_neg (fun x => x rfl), sk_117_5_167, ht_117_6, ch_117_19, ea_pushF _ (ts.length + 1) _ _ _ _ _ s2.2.1 (by omega), ev_rn, ch_117_21, nI_pred, r1, ev_rn, ch_117_22, sk_117_7_199, ht_117_8, ch_117_15]
  · rw [if_neg c] at r1
    rw [ht_117_2, ch_117_2, at_26, ev_rs, ch_117_4, q_at_nI hh (by decide), h5.1 26 (by decide), h2, if_neg (by decide), if_pos rfl, sk_117_3_122, ht_117_4, ch_117_7, ea_recordF _ h t _ _ _ hh ht e3, ev_rn, ch_117_10, ea_pushF _ ts.length _ _ _ _ _ s1.2.1 (by omega), ev_rn, ch_117_13, at_28, ev_rs, ch_117_16, q_at_nI hh (by decide), s2.1 28 (by decide), h6, if_pos (li_ne (by omega) (by omega) (by decide)), ht_117_5, ch_117_18, nI_pred, ea_headDemand _ _ _ _ _, ev_rs, ch_117_20, ht_117_6, ch_117_19, ea_pushF _ (ts.length + 1) _ _ _ _ _ s2.2.1 (by omega), ev_rn, ch_117_21, nI_pred, r1, ev_rn, ch_117_22, sk_117_7_199, ht_117_8, ch_117_15]
theorem ea_visitAppO (d m k q h : Nat) (D : Int32) (hl : Nat → Nat → Int64) (ts : List (Int32 × Int32 × Int32)) (hi : Nat → Nat → Int32) (h1 : ap_h (h0 26) (h0 28) (m + 1) k q h) (hm : m < 3999) (h2 : h0 26 h ≠ 2) (h3 : h0 26 h ≠ 4) (h4 : ts.length + (m + 2) ≤ 4000) (h5 : fi_S h0 hi L H ts Vs S) :
    ∃ hi', am_call tb_P (d + 3) 117 [.ref 38, .int (nI k), .int D] (pr_S, hi, hl) = some (none, (pr_S, hi', hl)) ∧ fi_S h0 hi' L H (ap_ts (h0 28) (h0 29) (fun _ => 20) (m + 1) k ((0, nI h, us_hd (nI (m + 1)) D) :: ts)) Vs S := by
  have hh := (ap_hd h1).2
  have s2 := fi_push h5 0 (nI h) (us_hd (nI (m + 1)) D)
  obtain ⟨hi', r1, r2⟩ := ea_pushArguments (h0 := h0) (L := L) (H := H) (Vs := Vs) d k (m + 1) _ _ hl (ap_hok h1) (by simp only [List.length_cons]; omega) s2
  refine ⟨hi', ?_, r2⟩
  obtain ⟨n', r⟩ := ea_vaLoop (d + 1) q h (nI k) D hi hl (m + 1) k k 0 0 999999 (by rw [h5.1 26 (by decide), h5.1 28 (by decide)]; exact h1) (by omega) (by omega) (by omega)
  rw [en_117, ht_117_0, ch_117_0]
  rw [show (0 : Int32) = nI 0 from rfl, r, Nat.zero_add]
  rw [ht_117_2, ch_117_2, at_26, ev_rs, ch_117_4, q_at_nI hh (by decide), h5.1 26 (by decide), if_neg h2, if_neg h3, sk_117_3_181, ht_117_7, ch_117_8, ea_headDemand _ _ _ _ _, ev_rs, ch_117_11, ea_pushF _ ts.length _ _ _ _ _ h5.2.1 (by omega), ev_rn, ch_117_14, r1, ev_rn, ch_117_17, ht_117_8, ch_117_15]
end EA
