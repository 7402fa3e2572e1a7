-- sums and levels one behind the other
def hw_su (sa : Nat → UInt64) (q : Nat) : UInt64 := hd_su sa (q / 4) (q % 4)
theorem hw_su_e (sa : Nat → UInt64) (f j : Nat) (hj : j < 4) : hw_su sa (4 * f + j) = hd_su sa f j := by
  unfold hw_su
  rw [show (4 * f + j) / 4 = f by omega, show (4 * f + j) % 4 = j by omega]
theorem hw_lv_0 (sa : Nat → UInt64) (f j : Nat) (hj : j < 4) : hw_lv sa 0 (4 * f + j) = hd_lev sa f j := by
  unfold hw_lv
  rw [show 0 + (4 * f + j) / 4 = f by omega, show (4 * f + j) % 4 = j by omega]
theorem hw_lv_s (sa : Nat → UInt64) (f q : Nat) : hw_lv sa 0 (4 * f + q) = hw_lv sa f q := by
  unfold hw_lv
  rw [show 0 + (4 * f + q) / 4 = f + q / 4 by omega, show (4 * f + q) % 4 = q % 4 by omega]
/-- four more in a row -/
theorem fill_4 {w g : Nat → UInt64} {f : Nat} (h : ∀ q, q < 4 * f → w q = g q) {x0 x1 x2 x3 : UInt64} (h0 : x0 = g (4 * f)) (h1 : x1 = g (4 * f + 1)) (h2 : x2 = g (4 * f + 2)) (h3 : x3 = g (4 * f + 3)) : ∀ q, q < 4 * (f + 1) → vf_upd (vf_upd (vf_upd (vf_upd w (4 * f) x0) (4 * f + 1) x1) (4 * f + 2) x2) (4 * f + 3) x3 q = g q := by
  intro q hq
  by_cases e3 : q = 4 * f + 3
  · subst e3; rw [vu_s]; exact h3
  rw [vu_n _ _ e3]
  by_cases e2 : q = 4 * f + 2
  · subst e2; rw [vu_s]; exact h2
  rw [vu_n _ _ e2]
  by_cases e1 : q = 4 * f + 1
  · subst e1; rw [vu_s]; exact h1
  rw [vu_n _ _ e1]
  by_cases e0 : q = 4 * f
  · subst e0; rw [vu_s]; exact h0
  rw [vu_n _ _ e0]
  exact h q (by omega)
theorem jd_lt1 : ∀ q, q ≤ 10 → (jd q < nI 1 ↔ q = 10) := by decide +kernel
def dk_ct (I : Nat → Nat → Int32) (sa : Nat → UInt64) (th : UInt64) (ns q : Nat) : Int32 := if q = 0 then I 0 3 else if q = 1 then nI ns else if q = 2 then nI (hd_nf ns) else if q = 3 then I 0 0 else if q = 4 then I 0 6 else if q = 5 then I 0 7 else nI (ld_cnt sa th (hd_nf ns))
theorem dn_p {x : Int32} {n : Nat} (hn : n + 1 < 2 ^ 31) (h : x < nI (n + 1)) : x ≤ nI n := by
  rw [Int32.lt_iff_toInt_lt, nI_toInt hn] at h
  rw [Int32.le_iff_toInt_le, nI_toInt (by omega)]
  omega
theorem dn_s {x : Int32} {n : Nat} (hn : n + 1 < 2 ^ 31) (h : x ≤ nI n) : x < nI (n + 1) := by
  rw [Int32.le_iff_toInt_le, nI_toInt (by omega)] at h
  rw [Int32.lt_iff_toInt_lt, nI_toInt hn]
  omega
