theorem tb_rng {f : Nat → Bool} {s n a : Nat} (h : (List.range' s n).all f = true) (h1 : s ≤ a) (h2 : a < s + n) : f a = true := List.all_eq_true.mp h a (List.mem_range'_1.mpr ⟨h1, h2⟩)
theorem tb_ck_all (a : Nat) (h : a < 238) : tb_ck a = true := by
  by_cases h0 : a < 6
  · exact tb_rng tb_ck_0 (by omega) (by omega)
  by_cases h6 : a < 12
  · exact tb_rng tb_ck_1 (by omega) (by omega)
  by_cases h12 : a < 18
  · exact tb_rng tb_ck_2 (by omega) (by omega)
  by_cases h18 : a < 24
  · exact tb_rng tb_ck_3 (by omega) (by omega)
  by_cases h24 : a < 30
  · exact tb_rng tb_ck_4 (by omega) (by omega)
  by_cases h30 : a < 36
  · exact tb_rng tb_ck_5 (by omega) (by omega)
  by_cases h36 : a < 42
  · exact tb_rng tb_ck_6 (by omega) (by omega)
  by_cases h42 : a < 48
  · exact tb_rng tb_ck_7 (by omega) (by omega)
  by_cases h48 : a < 54
  · exact tb_rng tb_ck_8 (by omega) (by omega)
  by_cases h54 : a < 60
  · exact tb_rng tb_ck_9 (by omega) (by omega)
  by_cases h60 : a < 66
  · exact tb_rng tb_ck_10 (by omega) (by omega)
  by_cases h66 : a < 72
  · exact tb_rng tb_ck_11 (by omega) (by omega)
  by_cases h72 : a < 78
  · exact tb_rng tb_ck_12 (by omega) (by omega)
  by_cases h78 : a < 84
  · exact tb_rng tb_ck_13 (by omega) (by omega)
  by_cases h84 : a < 90
  · exact tb_rng tb_ck_14 (by omega) (by omega)
  by_cases h90 : a < 96
  · exact tb_rng tb_ck_15 (by omega) (by omega)
  by_cases h96 : a < 102
  · exact tb_rng tb_ck_16 (by omega) (by omega)
  by_cases h102 : a < 108
  · exact tb_rng tb_ck_17 (by omega) (by omega)
  by_cases h108 : a < 114
  · exact tb_rng tb_ck_18 (by omega) (by omega)
  by_cases h114 : a < 120
  · exact tb_rng tb_ck_19 (by omega) (by omega)
  by_cases h120 : a < 126
  · exact tb_rng tb_ck_20 (by omega) (by omega)
  by_cases h126 : a < 132
  · exact tb_rng tb_ck_21 (by omega) (by omega)
  by_cases h132 : a < 138
  · exact tb_rng tb_ck_22 (by omega) (by omega)
  by_cases h138 : a < 144
  · exact tb_rng tb_ck_23 (by omega) (by omega)
  by_cases h144 : a < 150
  · exact tb_rng tb_ck_24 (by omega) (by omega)
  by_cases h150 : a < 156
  · exact tb_rng tb_ck_25 (by omega) (by omega)
  by_cases h156 : a < 162
  · exact tb_rng tb_ck_26 (by omega) (by omega)
  by_cases h162 : a < 168
  · exact tb_rng tb_ck_27 (by omega) (by omega)
  by_cases h168 : a < 174
  · exact tb_rng tb_ck_28 (by omega) (by omega)
  by_cases h174 : a < 180
  · exact tb_rng tb_ck_29 (by omega) (by omega)
  by_cases h180 : a < 186
  · exact tb_rng tb_ck_30 (by omega) (by omega)
  by_cases h186 : a < 192
  · exact tb_rng tb_ck_31 (by omega) (by omega)
  by_cases h192 : a < 198
  · exact tb_rng tb_ck_32 (by omega) (by omega)
  by_cases h198 : a < 204
  · exact tb_rng tb_ck_33 (by omega) (by omega)
  by_cases h204 : a < 210
  · exact tb_rng tb_ck_34 (by omega) (by omega)
  by_cases h210 : a < 216
  · exact tb_rng tb_ck_35 (by omega) (by omega)
  by_cases h216 : a < 222
  · exact tb_rng tb_ck_36 (by omega) (by omega)
  by_cases h222 : a < 228
  · exact tb_rng tb_ck_37 (by omega) (by omega)
  by_cases h228 : a < 234
  · exact tb_rng tb_ck_38 (by omega) (by omega)
  by_cases h234 : a < 238
  · exact tb_rng tb_ck_39 (by omega) (by omega)
  omega
theorem tb_mg_all (a : Nat) (h : a < 238) : tb_mg a = true := by
  by_cases h0 : a < 60
  · exact tb_rng tb_mg_0 (by omega) (by omega)
  by_cases h60 : a < 120
  · exact tb_rng tb_mg_1 (by omega) (by omega)
  by_cases h120 : a < 180
  · exact tb_rng tb_mg_2 (by omega) (by omega)
  by_cases h180 : a < 238
  · exact tb_rng tb_mg_3 (by omega) (by omega)
  omega
theorem tb_M_len : tb_M.length = 238 := by decide +kernel
theorem tb_P_ok (a : Nat) (y : MethodName) (bytes : ByteArray) (mL : Nat) (rt : Option FieldType) (n : Nat) (h : tb_M[a]? = some (y, bytes, mL, rt, n)) : am_okm (tb_mem y.cls) tb_Nb tb_cl tb_ty tb_M y.cls bytes mL rt (decide (y.name = "<init>")) (tb_P a).2 = true ∧ (tb_P a).1 = mL := by
  have ha := tb_ck_all a (by rw [← tb_M_len]; exact (List.getElem?_eq_some_iff.mp h).1)
  unfold tb_ck at ha
  rw [h] at ha
  dsimp only at ha
  rw [Bool.and_eq_true, decide_eq_true_eq] at ha
  exact ha
theorem tb_M_ok : am_Mg tb_Tb tb_M := by
  intro a y bytes mL rt n h
  have ha := tb_mg_all a (by rw [← tb_M_len]; exact (List.getElem?_eq_some_iff.mp h).1)
  unfold tb_mg at ha
  rw [h] at ha
  dsimp only at ha
  simp only [Bool.and_eq_true, decide_eq_true_eq] at ha
  obtain ⟨h1, h2, h3, h4, h5⟩ := ha
  refine ⟨?_, tb_mem_ok _ _ _ _ h2, h3, h4, h5⟩
  unfold tb_M at h
  rw [List.getElem?_zipWith] at h
  split at h
  · next p q e1 e2 =>
    have h := Option.some.inj h
    unfold tb_M1 at h
    split at h
    · next y' b' mL' rt' e =>
      cases h
      exact List.mem_filter.mpr ⟨tb_at_ok e, h1⟩
    · cases h
      exact absurd h3.2.2 (by decide)
  · cases h
theorem tb_good : GoodIn tb_Tb tb_Tb := fun w hw => ⟨hw, good_of_word (List.mem_filter.mp hw).2⟩
theorem tb_C_ok : am_Cg tb_Tb tb_cl tb_ty := by
  intro ci q h
  have hl : ci < 13 := (List.getElem?_eq_some_iff.mp h).1
  have ha := List.all_eq_true.mp tb_cg_all ci (List.mem_range.mpr hl)
  unfold tb_cg at ha
  rw [h] at ha
  dsimp only at ha
  rw [Bool.and_eq_true, Bool.and_eq_true] at ha
  obtain ⟨h1, h2, h3⟩ := ha
  refine ⟨fun w hw => ?_, fun k hk => ?_, fun a ha b hb hab => ?_⟩
  · obtain ⟨k, hk, rfl⟩ := List.mem_map.mp hw
    have := List.all_eq_true.mp h1 k hk
    rw [Bool.and_eq_true, decide_eq_true_eq] at this
    exact List.mem_filter.mpr ⟨tb_at_ok this.1, this.2⟩
  · exact of_decide_eq_true (List.all_eq_true.mp h2 k (List.mem_range.mpr hk))
  · have := List.all_eq_true.mp (List.all_eq_true.mp h3 a (List.mem_range.mpr ha)) b (List.mem_range.mpr hb)
    simp only [Bool.or_eq_true, decide_eq_true_eq] at this
    exact this.resolve_left hab
/-- THE PROGRAM: every run of AM over the tables gives the walk -/
theorem tb_sim (l : Launch) (cA : Nat → ClassId) (D : va_G) (B d : Nat) (R : Room) (h1 : d + 1 ≤ R.frames) (h2 : 40 * (d + 1) ≤ R.locals) : am_Cs l R tb_Tb tb_Nb D tb_cl tb_ty cA B tb_M (am_call tb_P d) :=
  am_call_sim tb_C_ok tb_good tb_M_ok tb_P tb_mem tb_mem_ok tb_P_ok d R h1 h2
