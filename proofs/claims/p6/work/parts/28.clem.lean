theorem hi_A : ∀ n, n < 32 → (hd_A n).toNat % 2 ^ 63 < 1026 * 2 ^ 52 := by decide +kernel
theorem hi_y : ∀ n, n < 32 → (FP.dmul (hd_A n) (hd_A n)).toNat % 2 ^ 63 < 1028 * 2 ^ 52 := by decide +kernel
theorem hi_s : ∀ n, n < 32 → ∀ o, o < 2 → ∀ q, q < 13 → (hd_sr o (FP.dmul (hd_A n) (hd_A n)) q).toNat % 2 ^ 63 < 1030 * 2 ^ 52 := by decide +kernel
theorem hi_j : ∀ q, q < 12 → ∀ o, o < 2 → 1023 * 2 ^ 52 ≤ (FP.i2d (nI ((24 - 2 * q + o) * (24 - 2 * q + o - 1)))).toNat % 2 ^ 63 := by decide +kernel
theorem hi_hC : ∀ n, n < 32 → (FP.dmul hd_h (hd_C n)).toNat % 2 ^ 63 < 1024 * 2 ^ 52 := by decide +kernel
def wc (k : Nat → ClassId) (b : Nat → Nat) (_ : Nat → Nat → Int32) (D : Nat → Nat → UInt64) : va_W := [(b 0, .inr (0, [.ref (b 1), .ref (b 2), .ref (b 3)])), (b 1, .inl (k 1, 32, wd_d (D 5))), (b 2, .inl (k 1, 32, wd_d (D 6))), (b 3, .inl (k 1, 32, wd_d (D 7)))]
theorem wc_a1 {k : Nat → ClassId} {b : Nat → Nat} {I : Nat → Nat → Int32} {D : Nat → Nat → UInt64} {j : Nat} {x : UInt64} : (wc k b I D).set 1 (b 1, .inl (k 1, 32, .inr (.inr (.inr (.inl (vf_upd (D 5) j x)))))) = wc k b I (ud D 5 j x) := rfl
theorem wc_a2 {k : Nat → ClassId} {b : Nat → Nat} {I : Nat → Nat → Int32} {D : Nat → Nat → UInt64} {j : Nat} {x : UInt64} : (wc k b I D).set 2 (b 2, .inl (k 1, 32, .inr (.inr (.inr (.inl (vf_upd (D 6) j x)))))) = wc k b I (ud D 6 j x) := rfl
theorem wc_a3 {k : Nat → ClassId} {b : Nat → Nat} {I : Nat → Nat → Int32} {D : Nat → Nat → UInt64} {j : Nat} {x : UInt64} : (wc k b I D).set 3 (b 3, .inl (k 1, 32, .inr (.inr (.inr (.inl (vf_upd (D 7) j x)))))) = wc k b I (ud D 7 j x) := rfl
