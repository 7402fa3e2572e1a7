-- 'in' over longs that are ints
theorem in_toInt {i : Int32} : i.toInt64.toInt = i.toInt := Int32.toInt_toInt64 i
theorem in_0n {i : Int32} {n : Nat} (hn : n ≤ 320) (h : lN 0 ≤ i.toInt64 ∧ i.toInt64 ≤ (nI n - nI 1).toInt64) : ∃ j, j < n ∧ i = nI j := by
  have h1 := Int64.le_iff_toInt_le.mp h.1
  have h2 := Int64.le_iff_toInt_le.mp h.2
  rw [in_toInt] at h1 h2
  rw [in_toInt, pk_sub_toInt (by omega) (by decide)] at h2
  have h3 : (lN 0).toInt = 0 := by decide
  rw [h3] at h1
  obtain ⟨j, hj, rfl⟩ := nI_of (x := i) (by rw [Int32.lt_iff_toInt_lt]; have : (0 : Int32).toInt = 0 := (by decide); omega)
  rw [nI_toInt hj] at h2
  exact ⟨j, by omega, rfl⟩
theorem in_n0 {i : Int32} {n : Nat} (hn : n ≤ 320) (h : ∃ j, j < n ∧ i = nI j) : lN 0 ≤ i.toInt64 ∧ i.toInt64 ≤ (nI n - nI 1).toInt64 := by
  obtain ⟨j, hj, rfl⟩ := h
  have h3 : (lN 0).toInt = 0 := by decide
  constructor
  · rw [Int64.le_iff_toInt_le, in_toInt, nI_toInt (by omega), h3]; omega
  · rw [Int64.le_iff_toInt_le, in_toInt, in_toInt, nI_toInt (by omega), pk_sub_toInt (by omega) (by decide)]; omega
theorem in_ab {i : Int32} {a c : Nat} (ha : a < 2 ^ 31) (hc : c < 2 ^ 31) (h : lN a ≤ i.toInt64 ∧ i.toInt64 ≤ lN c) : ∃ j, a ≤ j ∧ j ≤ c ∧ i = nI j := by
  have h1 := Int64.le_iff_toInt_le.mp h.1
  have h2 := Int64.le_iff_toInt_le.mp h.2
  rw [in_toInt, lN_toInt ha] at h1
  rw [in_toInt, lN_toInt hc] at h2
  obtain ⟨j, hj, rfl⟩ := nI_of (x := i) (by rw [Int32.lt_iff_toInt_lt]; have : (0 : Int32).toInt = 0 := (by decide); omega)
  rw [nI_toInt hj] at h1 h2
  exact ⟨j, by omega, by omega, rfl⟩
theorem in_ba {i : Int32} {a c : Nat} (ha : a < 2 ^ 31) (hc : c < 2 ^ 31) (h : ∃ j, a ≤ j ∧ j ≤ c ∧ i = nI j) : lN a ≤ i.toInt64 ∧ i.toInt64 ≤ lN c := by
  obtain ⟨j, h1, h2, rfl⟩ := h
  constructor
  · rw [Int64.le_iff_toInt_le, in_toInt, nI_toInt (by omega), lN_toInt ha]; omega
  · rw [Int64.le_iff_toInt_le, in_toInt, nI_toInt (by omega), lN_toInt hc]; omega
