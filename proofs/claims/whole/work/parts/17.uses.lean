/-! codes of USES: 8 * count + demand; the class's arithmetic and the reference's are one -/
def us_codes : List Int32 := [0, 8, 9, 10, 11, 12, 16, 17, 18, 19, 20]
def uk_c (a : Int32) : Int32 := a >>> 3
def uk_d (a : Int32) : Int32 := a &&& 7
theorem us_cd : ∀ a ∈ us_codes, 8 * uk_c a + uk_d a = a := by decide +kernel
theorem us_both_in : ∀ a ∈ us_codes, ∀ b ∈ us_codes, us_both a b ∈ us_codes := by decide +kernel
theorem us_either_in : ∀ a ∈ us_codes, ∀ b ∈ us_codes, us_either a b ∈ us_codes := by decide +kernel
theorem us_many_in : ∀ a ∈ us_codes, us_many a ∈ us_codes := by decide +kernel
theorem us_both_comm : ∀ a ∈ us_codes, ∀ b ∈ us_codes, us_both a b = us_both b a := by decide +kernel
theorem us_both_assoc : ∀ a ∈ us_codes, ∀ b ∈ us_codes, ∀ c ∈ us_codes, us_both (us_both a b) c = us_both a (us_both b c) := by decide +kernel
theorem us_both_zero : ∀ a ∈ us_codes, us_both 0 a = a ∧ us_both a 0 = a := by decide +kernel
/-- what add makes of the two halves of a code -/
theorem us_both_add : ∀ a ∈ us_codes, ∀ b ∈ us_codes, us_ac (uk_c a) (uk_c b) = uk_c (us_both a b) ∧ us_ad (uk_c a) (uk_d a) (uk_c b) (uk_d b) = uk_d (us_both a b) := by decide +kernel
/-- what foretellIf and round make of them -/
theorem us_either_md : ∀ a ∈ us_codes, ∀ b ∈ us_codes, (if uk_c a < uk_c b then uk_c b else uk_c a) = uk_c (us_either a b) ∧ us_md (uk_c a) (uk_d a) (uk_c b) (uk_d b) = uk_d (us_either a b) := by decide +kernel
theorem us_many_add : ∀ a ∈ us_codes, us_many a = us_both a a := by decide +kernel
