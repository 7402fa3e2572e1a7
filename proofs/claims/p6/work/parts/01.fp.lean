-- numbers: doubles by their bits; fb_ K a: the magnitude of a is below 2 ^ (K - 1023), so a is finite where K ≤ 2047
def fb_ (K : Nat) (a : UInt64) : Prop := a.toNat % 2 ^ 63 < K * 2 ^ 52
theorem fb_mono {K L : Nat} {a : UInt64} (h : fb_ K a) (hl : K ≤ L) : fb_ L a := Nat.lt_of_lt_of_le h (Nat.mul_le_mul_right _ hl)
theorem fb_n {K : Nat} {a : UInt64} (h : fb_ K a) (hK : K ≤ 2047) : vf_n64 a := by
  unfold vf_n64
  unfold fb_ at h
  rw [UInt64.le_iff_toNat_le, FP.Core.mask_toNat]
  have e : (0x7ff0000000000000 : UInt64).toNat = 9218868437227405312 := by decide
  rw [e]
  omega
theorem fb_fin {K : Nat} {a : UInt64} (h : fb_ K a) (hK : K ≤ 2047) : FP.Core.DFin a := FP.Core.fin_of_lt h hK
theorem fb_nn {K : Nat} {a : UInt64} (h : fb_ K a) (hK : K ≤ 2047) : FP.Core.val64 a ≠ .nan := (fb_fin h hK).ne_nan
theorem fb_add {K : Nat} {a b : UInt64} (ha : fb_ K a) (hb : fb_ K b) (hK : K ≤ 2047) : fb_ (K + 2) (FP.dadd a b) := FP.Core.dadd_mag ha hb hK
theorem fb_sub {K : Nat} {a b : UInt64} (ha : fb_ K a) (hb : fb_ K b) (hK : K ≤ 2047) : fb_ (K + 2) (FP.dsub a b) := FP.Core.dsub_mag ha hb hK
theorem fb_mul {K L : Nat} {a b : UInt64} (ha : fb_ K a) (hb : fb_ L b) (hK : K ≤ 2047) (hL : L ≤ 2047) : fb_ (K + L - 1025 + 3) (FP.dmul a b) := FP.Core.dmul_mag ha hb hK hL
theorem fb_div {K L : Nat} {a b : UInt64} (ha : fb_ K a) (hb : L * 2 ^ 52 ≤ b.toNat % 2 ^ 63) (hb2 : fb_ 2047 b) (hK : K ≤ 2047) (hL : 1 ≤ L) : fb_ (K + 1021 - L + 3) (FP.ddiv a b) := FP.Core.ddiv_mag ha hb hb2 hK hL
theorem fb_i2d (x : Int32) : fb_ 1056 (FP.i2d x) := FP.Core.i2d_mag x
-- the sign bit is clear
def po_ (a : UInt64) : Prop := a.toNat < 2 ^ 63
theorem po_of {a : UInt64} (h : FP.Core.val64 a ≠ .nan) (hs : FP.Core.sgn (FP.Core.val64 a) = false) : po_ a := by
  rw [FP.Core.sgn_bits h] at hs
  have := of_decide_eq_false hs
  unfold po_
  omega
theorem po_sgn {a : UInt64} (h : FP.Core.val64 a ≠ .nan) (hs : po_ a) : FP.Core.sgn (FP.Core.val64 a) = false := by
  rw [FP.Core.sgn_bits h]
  unfold po_ at hs
  exact decide_eq_false (by omega)
theorem po_sq {a : UInt64} (h : FP.Core.DFin a) : po_ (FP.dmul a a) := by
  obtain ⟨s, c, q, hv⟩ := h
  have e : FP.Core.val64 (FP.dmul a a) = FP.Core.roundRatio FP.Core.b64 false (c * c) 1 (q + q) := by
    rw [FP.Core.val64_dmul, hv]
    show FP.Core.round FP.Core.b64 (.fin (s != s) (c * c) (q + q)) = _
    rw [show (s != s) = false by cases s <;> rfl]
    rfl
  refine po_of ?_ ?_
  · rw [e]; exact FP.Core.roundRatio_ne_nan _ _ _ _ _
  · rw [e]; exact FP.Core.sgn_roundRatio _ _ _ _ _
theorem po_add {a b : UInt64} (ha : FP.Core.DFin a) (hb : FP.Core.DFin b) (pa : po_ a) (pb : po_ b) : po_ (FP.dadd a b) := by
  have sa := po_sgn ha.ne_nan pa
  have sb := po_sgn hb.ne_nan pb
  obtain ⟨s, c, q, hv⟩ := ha
  obtain ⟨t, d, r, hw⟩ := hb
  rw [hv] at sa
  rw [hw] at sb
  have es : s = false := sa
  have et : t = false := sb
  subst es
  subst et
  have hn : ¬ FP.Core.sumUnits false c q false d r (min q r) < 0 := by
    unfold FP.Core.sumUnits FP.Core.signed
    simp only [Bool.false_eq_true, if_false]
    omega
  have e : FP.Core.val64 (FP.dadd a b) = FP.Core.roundRatio FP.Core.b64 false (FP.Core.sumUnits false c q false d r (min q r)).natAbs 1 (min q r) := by
    rw [FP.Core.val64_dadd, hv, hw]
    show FP.Core.round FP.Core.b64 (.fin (FP.Core.sumSign false false (FP.Core.sumUnits false c q false d r (min q r))) _ _) = _
    rw [show FP.Core.sumSign false false (FP.Core.sumUnits false c q false d r (min q r)) = false by
      unfold FP.Core.sumSign
      split
      · rfl
      · exact decide_eq_false hn]
    rfl
  refine po_of ?_ ?_
  · rw [e]; exact FP.Core.roundRatio_ne_nan _ _ _ _ _
  · rw [e]; exact FP.Core.sgn_roundRatio _ _ _ _ _
theorem po_zero {a : UInt64} (h : FP.Core.DFin a) (pa : po_ a) : FP.dadd a 0 = a := by
  refine FP.Core.dadd_zero h.ne_nan (fun q => ?_)
  rw [q] at pa
  exact absurd pa (by unfold po_; decide)
-- a positive normal number, halved and doubled: one less, one more in its exponent
theorem fn_val {a : UInt64} {E T : Nat} (h : a.toNat = E * 2 ^ 52 + T) (hT : T < 2 ^ 52) (h1 : 1 ≤ E) (h2 : E < 2047) : FP.Core.val64 a = .fin false (2 ^ 52 + T) (-1074 + ((E : Int) - 1)) := by
  have he : FP.Core.b64.exps = 2048 := by decide
  have ht := FP.Core.tails_b64
  have h3 : a.toNat = FP.Core.assemble FP.Core.b64 false E T := by
    unfold FP.Core.assemble
    rw [ht, h]
    simp
  unfold FP.Core.val64
  rw [h3, FP.Core.decode_assemble _ _ _ _ (by omega) (by omega), if_neg (by omega), if_neg (by omega), ht, FP.Core.qmin_b64]
theorem fn_ex {N : Nat} (h : N < 2 ^ 64) : ∃ b : UInt64, b.toNat = N := ⟨UInt64.ofNat N, by rw [UInt64.toNat_ofNat']; exact Nat.mod_eq_of_lt h⟩
theorem fn_two : FP.Core.val64 0x4000000000000000 = .fin false (2 ^ 52) (-51) := by decide +kernel
theorem fn_half {a : UInt64} (h1 : 2 * 2 ^ 52 ≤ a.toNat) (h2 : a.toNat < 2047 * 2 ^ 52) : (FP.ddiv a 0x4000000000000000).toNat = a.toNat - 2 ^ 52 := by
  obtain ⟨E, T, hE, hT⟩ : ∃ E T, a.toNat = E * 2 ^ 52 + T ∧ T < 2 ^ 52 := ⟨a.toNat / 2 ^ 52, a.toNat % 2 ^ 52, by omega, by omega⟩
  have v1 := fn_val hE hT (by omega) (by omega)
  obtain ⟨b, hb⟩ := fn_ex (N := (E - 1) * 2 ^ 52 + T) (by omega)
  have v2 := fn_val hb hT (by omega) (by omega)
  have hf := FP.Core.val64_fits b
  rw [v2] at hf
  have e : FP.ddiv a 0x4000000000000000 = b := by
    refine (FP.Core.val64_inj (by rw [v2]; exact FP.Core.Datum.noConfusion) ?_).symm
    refine v2.trans ?_
    refine Eq.trans ?_ (FP.Core.val64_ddiv a 0x4000000000000000).symm
    rw [v1, fn_two]
    show _ = if (2 ^ 52 : Nat) = 0 then (if (2 ^ 52 + T) = 0 then FP.Core.Datum.nan else FP.Core.Datum.inf (false != false)) else FP.Core.roundRatio FP.Core.b64 (false != false) (2 ^ 52 + T) (2 ^ 52) (-1074 + ((E : Int) - 1) - (-51))
    rw [if_neg (by decide)]
    refine (FP.Core.roundRatio_exact FP.Core.good_b64 (by decide) hf ?_).symm
    rw [show (-1074 + ((E : Int) - 1) - (-51) - (-1074 + (((E - 1 : Nat) : Int) - 1))).toNat = 52 by omega, show (-1074 + (((E - 1 : Nat) : Int) - 1) - (-1074 + ((E : Int) - 1) - (-51))).toNat = 0 by omega]
    simp
  rw [e, hb, hE]
  omega
theorem fn_dbl {a : UInt64} (h1 : 2 ^ 52 ≤ a.toNat) (h2 : a.toNat < 2046 * 2 ^ 52) : (FP.dmul a 0x4000000000000000).toNat = a.toNat + 2 ^ 52 := by
  obtain ⟨E, T, hE, hT⟩ : ∃ E T, a.toNat = E * 2 ^ 52 + T ∧ T < 2 ^ 52 := ⟨a.toNat / 2 ^ 52, a.toNat % 2 ^ 52, by omega, by omega⟩
  have v1 := fn_val hE hT (by omega) (by omega)
  obtain ⟨b, hb⟩ := fn_ex (N := (E + 1) * 2 ^ 52 + T) (by omega)
  have v2 := fn_val hb hT (by omega) (by omega)
  have hf := FP.Core.val64_fits b
  rw [v2] at hf
  have e : FP.dmul a 0x4000000000000000 = b := by
    refine (FP.Core.val64_inj (by rw [v2]; exact FP.Core.Datum.noConfusion) ?_).symm
    refine v2.trans ?_
    refine Eq.trans ?_ (FP.Core.val64_dmul a 0x4000000000000000).symm
    rw [v1, fn_two]
    show _ = FP.Core.roundRatio FP.Core.b64 (false != false) ((2 ^ 52 + T) * 2 ^ 52) 1 (-1074 + ((E : Int) - 1) + (-51))
    refine (FP.Core.roundRatio_exact FP.Core.good_b64 (by decide) hf ?_).symm
    rw [show (-1074 + ((E : Int) - 1) + (-51) - (-1074 + (((E + 1 : Nat) : Int) - 1))).toNat = 0 by omega, show (-1074 + (((E + 1 : Nat) : Int) - 1) - (-1074 + ((E : Int) - 1) + (-51))).toNat = 52 by omega]
    simp
  rw [e, hb, hE]
  omega
-- order of numbers with a clear sign: by bits
theorem fo_lt {a b : UInt64} (ha : FP.Core.val64 a ≠ .nan) (hb : FP.Core.val64 b ≠ .nan) (pa : po_ a) (pb : po_ b) : FP.dcmp a b = some .lt ↔ a.toNat < b.toNat := (FP.Core.mono_bits ha hb pa pb).1
theorem fo_eq {a b : UInt64} (ha : FP.Core.val64 a ≠ .nan) (hb : FP.Core.val64 b ≠ .nan) (pa : po_ a) (pb : po_ b) : FP.dcmp a b = some .eq ↔ a.toNat = b.toNat := (FP.Core.mono_bits ha hb pa pb).2.1
theorem fo_gt {a b : UInt64} (ha : FP.Core.val64 a ≠ .nan) (hb : FP.Core.val64 b ≠ .nan) (pa : po_ a) (pb : po_ b) : FP.dcmp a b = some .gt ↔ b.toNat < a.toNat := (FP.Core.mono_bits ha hb pa pb).2.2
-- what dcmpl, dcmpg and a branch say
theorem fc_lt_l (o : Option Ordering) : Op.cmpValue o .l < 0 ↔ o = some .lt ∨ o = none := by rcases o with _ | (_ | _ | _) <;> decide
theorem fc_le_l (o : Option Ordering) : Op.cmpValue o .l ≤ 0 ↔ o ≠ some .gt := by rcases o with _ | (_ | _ | _) <;> decide
theorem fc_eq_l (o : Option Ordering) : Op.cmpValue o .l = 0 ↔ o = some .eq := by rcases o with _ | (_ | _ | _) <;> decide
theorem fc_gt_l (o : Option Ordering) : 0 < Op.cmpValue o .l ↔ o = some .gt := by rcases o with _ | (_ | _ | _) <;> decide
theorem fc_ge_l (o : Option Ordering) : 0 ≤ Op.cmpValue o .l ↔ o = some .gt ∨ o = some .eq := by rcases o with _ | (_ | _ | _) <;> decide
theorem fc_lt_g (o : Option Ordering) : Op.cmpValue o .g < 0 ↔ o = some .lt := by rcases o with _ | (_ | _ | _) <;> decide
theorem fc_le_g (o : Option Ordering) : Op.cmpValue o .g ≤ 0 ↔ o = some .lt ∨ o = some .eq := by rcases o with _ | (_ | _ | _) <;> decide
theorem fc_eq_g (o : Option Ordering) : Op.cmpValue o .g = 0 ↔ o = some .eq := by rcases o with _ | (_ | _ | _) <;> decide
theorem fc_gt_g (o : Option Ordering) : 0 < Op.cmpValue o .g ↔ o = some .gt ∨ o = none := by rcases o with _ | (_ | _ | _) <;> decide
theorem fc_ge_g (o : Option Ordering) : 0 ≤ Op.cmpValue o .g ↔ o ≠ some .lt := by rcases o with _ | (_ | _ | _) <;> decide
