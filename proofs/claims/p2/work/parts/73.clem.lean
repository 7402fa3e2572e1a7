-- sums and levels one behind the other
def hw_su (sa : Nat → UInt64) (q : Nat) : UInt64 := hd_su sa (q / 4) (q % 4)
theorem hw_su_e (sa : Nat → UInt64) (f j : Nat) (hj : j < 4) : hw_su sa (4 * f + j) = hd_su sa f j := by
  unfold hw_su
  rw [show (4 * f + j) / 4 = f by omega, show (4 * f + j) % 4 = j by omega]
theorem hw_lv_0 (sa : Nat → UInt64) (f j : Nat) (hj : j < 4) : hw_lv sa 0 (4 * f + j) = hd_lev sa f j := by
  unfold hw_lv
  rw [show 0 + (4 * f + j) / 4 = f by omega, show (4 * f + j) % 4 = j by omega]
theorem hw_lv_s (sa : Nat → UInt64) (f q : Nat) : hw_lv sa 0 (4 * f + q) = hw_lv sa f q := by
  unfold hw_lv
  rw [show 0 + (4 * f + q) / 4 = f + q / 4 by omega, show (4 * f + q) % 4 = q % 4 by omega]
/-- four more in a row -/
theorem fill_4 {w g : Nat → UInt64} {f : Nat} (h : ∀ q, q < 4 * f → w q = g q) {x0 x1 x2 x3 : UInt64} (h0 : x0 = g (4 * f)) (h1 : x1 = g (4 * f + 1)) (h2 : x2 = g (4 * f + 2)) (h3 : x3 = g (4 * f + 3)) : ∀ q, q < 4 * (f + 1) → vf_upd (vf_upd (vf_upd (vf_upd w (4 * f) x0) (4 * f + 1) x1) (4 * f + 2) x2) (4 * f + 3) x3 q = g q := by
  intro q hq
  by_cases e3 : q = 4 * f + 3
  · subst e3; rw [vu_s]; exact h3
  rw [vu_n _ _ e3]
  by_cases e2 : q = 4 * f + 2
  · subst e2; rw [vu_s]; exact h2
  rw [vu_n _ _ e2]
  by_cases e1 : q = 4 * f + 1
  · subst e1; rw [vu_s]; exact h1
  rw [vu_n _ _ e1]
  by_cases e0 : q = 4 * f
  · subst e0; rw [vu_s]; exact h0
  rw [vu_n _ _ e0]
  exact h q (by omega)
theorem jd_lt1 : ∀ q, q ≤ 10 → (jd q < nI 1 ↔ q = 10) := by decide +kernel
