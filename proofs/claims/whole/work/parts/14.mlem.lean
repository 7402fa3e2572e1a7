-- small rows for the reference's methods
theorem in_lt {v x : Int64} (h : ¬ lg_cmp v x < 0) : x ≤ v := by rw [lg_cmp_lt] at h; exact Int64.not_lt.mp h
theorem in_gt {v y : Int64} (h : ¬ 0 < lg_cmp v y) : v ≤ y := by rw [lg_cmp_gt] at h; exact Int64.not_lt.mp h
theorem in_nlt {v x : Int64} (h : lg_cmp v x < 0) : ¬ x ≤ v := by rw [lg_cmp_lt] at h; exact Int64.not_le.mpr h
theorem in_ngt {v y : Int64} (h : 0 < lg_cmp v y) : ¬ v ≤ y := by rw [lg_cmp_gt] at h; exact Int64.not_le.mpr h
theorem in_post_1 {v x y : Int64} (h : x ≤ v ∧ v ≤ y) : nI 1 = if x ≤ v ∧ v ≤ y then 1 else 0 := by rw [if_pos h]; rfl
theorem in_post_0 {v x y : Int64} (h : ¬ (x ≤ v ∧ v ≤ y)) : nI 0 = if x ≤ v ∧ v ≤ y then 1 else 0 := by rw [if_neg h]; rfl
def hd_nf (n : Nat) : Nat := if n < 32 then 0 else (n - 32) / 16 + 1
