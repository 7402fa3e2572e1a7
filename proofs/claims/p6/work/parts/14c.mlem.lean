-- a number of d octets from place a on, the lowest first; a counter that runs down to -1
def nu (oc : Nat → Nat) : Nat → Nat → Nat
  | _, 0 => 0
  | a, d + 1 => oc a + 256 * nu oc (a + 1) d
theorem nu_step (oc : Nat → Nat) (t : Nat) {q N : Nat} (h : q < N) : nu oc (t + (q + 1)) (N - (q + 1)) * 256 + oc (t + q) = nu oc (t + q) (N - q) := by
  obtain ⟨d, hd⟩ : ∃ d, N - q = d + 1 := ⟨N - q - 1, by omega⟩
  rw [hd, show N - (q + 1) = d by omega]
  show _ = oc (t + q) + 256 * nu oc (t + q + 1) d
  rw [show t + (q + 1) = t + q + 1 by omega]
  omega
theorem nu_lt (oc : Nat → Nat) : ∀ (d a : Nat), (∀ j, j < a + d → oc j < 256) → nu oc a d < 256 ^ d
  | 0, _, _ => by show 0 < 1; omega
  | d + 1, a, h => by
    have h1 := nu_lt oc d (a + 1) (fun j hj => h j (by omega))
    have h2 := h a (by omega)
    show oc a + 256 * nu oc (a + 1) d < 256 ^ (d + 1)
    rw [Nat.pow_succ]
    omega
theorem nu_lt3 (oc : Nat → Nat) {d a : Nat} (hd : d ≤ 3) (h : ∀ j, j < a + d → oc j < 256) : nu oc a d < 16777216 := by
  have h1 := nu_lt oc d a h
  have h2 : 256 ^ d ≤ 256 ^ 3 := Nat.pow_le_pow_right (by decide) hd
  have h3 : 256 ^ 3 = 16777216 := by decide
  omega
theorem nu_shl (a : Nat) : lN a <<< ((nI 8).toInt64 &&& 63) = lN (a * 256) := wb_shl a (k := 8) (by decide)
def kd (r : Nat) : Int32 := nI r + (-1)
theorem kd_s (r : Nat) : kd (r + 1) = nI r := pk_m1 r
theorem kd_sub {N : Nat} (h : 1 ≤ N) : nI N - nI 1 = kd N := by
  obtain ⟨n, rfl⟩ : ∃ n, N = n + 1 := ⟨N - 1, by omega⟩
  rw [kd_s, pk_sub h]
  rfl
theorem kd_neg {r : Nat} (h : kd r < 0) (hr : r < 2 ^ 31) : r = 0 := by
  rcases Nat.eq_zero_or_pos r with h0 | h0
  · exact h0
  · obtain ⟨n, rfl⟩ : ∃ n, r = n + 1 := ⟨r - 1, by omega⟩
    rw [kd_s] at h
    exact absurd h (nI_pos (by omega))
theorem kd_pos {r : Nat} (h : ¬ kd r < 0) : ∃ q, r = q + 1 := by
  rcases Nat.eq_zero_or_pos r with h0 | h0
  · rw [h0] at h
    exact absurd (by decide) h
  · exact ⟨r - 1, by omega⟩
