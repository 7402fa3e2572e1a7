def mo_wd (I : Nat → Nat → Int32) (j q : Nat) : Int32 := if q = 0 then I 4 j else if q = 1 then I 5 j else if q = 2 then I 6 j else if q = 3 then I 7 j else if q = 4 then nI 16 * I 5 j * nI 1000 / I 0 4 else (nI 16 * (I 5 j + I 6 j) + nI 16) * nI 1000 / I 0 4
def ld_cnt (sa : Nat → UInt64) (th : UInt64) : Nat → Nat
  | 0 => 0
  | f + 1 => ld_cnt sa th f + if hd_ld sa f th then 1 else 0
theorem ld_s1 {sa : Nat → UInt64} {th : UInt64} {f : Nat} (h : hd_ld sa f th) : ld_cnt sa th (f + 1) = ld_cnt sa th f + 1 := by
  show ld_cnt sa th f + (if _ then 1 else 0) = _
  rw [if_pos h]
theorem ld_s0 {sa : Nat → UInt64} {th : UInt64} {f : Nat} (h : ¬ hd_ld sa f th) : ld_cnt sa th (f + 1) = ld_cnt sa th f := by
  show ld_cnt sa th f + (if _ then 1 else 0) = _
  rw [if_neg h, Nat.add_zero]
def mo_ct (I : Nat → Nat → Int32) (sa : Nat → UInt64) (th : UInt64) (ns q : Nat) : Int32 := if q = 0 then I 0 1 else if q = 1 then nI ns else if q = 2 then nI (hd_nf ns) else if q = 3 then I 0 4 else if q = 4 then I 0 5 else if q = 5 then I 0 6 else nI (ld_cnt sa th (hd_nf ns))
-- a channel's number as a SAMPLE
def fi_ci (oc : Nat → Nat) (bits t : Nat) : Int32 := if bits = 8 then (nI (oc t) - nI 128) * nI 256 else (nI (nu oc t 2)).toInt16.toInt32
def fi_ch (oc : Nat → Nat) (bits t : Nat) : UInt64 := FP.ddiv (FP.i2d (fi_ci oc bits t)) 4674736413210574848
theorem fi_ch_b (oc : Nat → Nat) (bits t : Nat) : fb_ 1042 (fi_ch oc bits t) := fb_mono (fb_div (K := 1056) (L := 1038) (fb_i2d _) (by decide) (by unfold fb_; decide) (by decide) (by decide)) (by omega)
