/-! every pair of calls, and the start -/
theorem lw_pub : ∃ Inv : (Nat → Nat → Int32) → (Nat → Nat → Int64) → Prop, lw_Pub Inv := by
  refine ⟨iv_X, ⟨in_G1, in_G2.2.1, in_G2.2.2, in_q1.1, in_q1.2.1, ?_, in_q2.1, in_iv⟩, pb_type, pb_read, pb_place, pb_def, pb_thing, pb_analyse, pb_row, pb_plant, pb_check, pb_argument, pb_run, pb_value, pb_count, pb_told⟩
  rw [in_q1.2.2]
