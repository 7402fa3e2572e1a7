theorem ln_in {f : Int32} {n m : Nat} (hn : n ≤ 19) (hm : m ≤ 8) (h1 : ¬ f < 0) (h2 : ¬ nI n - nI m < f) : ∃ j, j + m ≤ n ∧ f = nI j := by
  obtain ⟨j, hj, rfl⟩ := nI_of h1
  rw [Int32.lt_iff_toInt_lt, pk_sub_toInt (by omega) (by omega), nI_toInt hj] at h2
  exact ⟨j, by omega, rfl⟩
theorem ln_ni {f : Int32} {n m : Nat} (hn : n ≤ 19) (hm : m ≤ 8) (h : ∃ j, j + m ≤ n ∧ f = nI j) : ¬ f < 0 ∧ ¬ nI n - nI m < f := by
  obtain ⟨j, hj, rfl⟩ := h
  refine ⟨nI_pos (by omega), ?_⟩
  rw [Int32.lt_iff_toInt_lt, pk_sub_toInt (by omega) (by omega), nI_toInt (by omega)]
  omega
