theorem tb_out {wh : Int32} {c : Nat} (h : ¬ ∃ q, 0 ≤ q ∧ q ≤ c ∧ wh = nI q) : wh.toInt < 0 ∨ (c : Int) < wh.toInt := by
  by_cases h0 : wh < 0
  · left
    rw [Int32.lt_iff_toInt_lt] at h0
    exact h0
  · right
    obtain ⟨j, hj, rfl⟩ := nI_of h0
    rw [nI_toInt hj]
    have : ¬ j ≤ c := fun z => h ⟨j, Nat.zero_le _, z, rfl⟩
    omega
