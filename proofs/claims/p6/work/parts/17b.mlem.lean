theorem hd_hc_b : ∀ n, n < 32 → (FP.dmul hd_h (hd_C n)).toNat % 2 ^ 63 < 1024 * 2 ^ 52 := by decide +kernel
abbrev hd_ld (sa : Nat → UInt64) (f : Nat) (th : UInt64) : Prop := FP.dcmp (hd_lo sa f 4) th = some .gt ∨ FP.dcmp (hd_lo sa f 4) th = some .eq
theorem ld_1 {sa : Nat → UInt64} {f : Nat} {th : UInt64} (h : ¬ Op.cmpValue (FP.dcmp (hd_lo sa f 4) th) .l < 0) : hd_ld sa f th := (fc_ge_l _).mp (Int32.not_lt.mp h)
theorem ld_0 {sa : Nat → UInt64} {f : Nat} {th : UInt64} (h : Op.cmpValue (FP.dcmp (hd_lo sa f 4) th) .l < 0) : ¬ hd_ld sa f th := fun q => Int32.not_lt.mpr ((fc_ge_l _).mpr q) h
