section
-- numbers: doubles by their bits; fb_ K a: the magnitude of a is below 2 ^ (K - 1023), so a is finite where K ≤ 2047
def fb_ (K : Nat) (a : UInt64) : Prop := a.toNat % 2 ^ 63 < K * 2 ^ 52
theorem fb_mono {K L : Nat} {a : UInt64} (h : fb_ K a) (hl : K ≤ L) : fb_ L a := Nat.lt_of_lt_of_le h (Nat.mul_le_mul_right _ hl)
theorem fb_n {K : Nat} {a : UInt64} (h : fb_ K a) (hK : K ≤ 2047) : vf_n64 a := by
  unfold vf_n64
  unfold fb_ at h
  rw [UInt64.le_iff_toNat_le, FP.Core.mask_toNat]
  have e : (0x7ff0000000000000 : UInt64).toNat = 9218868437227405312 := by decide
  rw [e]
  omega
theorem fb_fin {K : Nat} {a : UInt64} (h : fb_ K a) (hK : K ≤ 2047) : FP.Core.DFin a := FP.Core.fin_of_lt h hK
theorem fb_nn {K : Nat} {a : UInt64} (h : fb_ K a) (hK : K ≤ 2047) : FP.Core.val64 a ≠ .nan := (fb_fin h hK).ne_nan
theorem fb_add {K : Nat} {a b : UInt64} (ha : fb_ K a) (hb : fb_ K b) (hK : K ≤ 2047) : fb_ (K + 2) (FP.dadd a b) := FP.Core.dadd_mag ha hb hK
theorem fb_sub {K : Nat} {a b : UInt64} (ha : fb_ K a) (hb : fb_ K b) (hK : K ≤ 2047) : fb_ (K + 2) (FP.dsub a b) := FP.Core.dsub_mag ha hb hK
theorem fb_mul {K L : Nat} {a b : UInt64} (ha : fb_ K a) (hb : fb_ L b) (hK : K ≤ 2047) (hL : L ≤ 2047) : fb_ (K + L - 1025 + 3) (FP.dmul a b) := FP.Core.dmul_mag ha hb hK hL
theorem fb_div {K L : Nat} {a b : UInt64} (ha : fb_ K a) (hb : L * 2 ^ 52 ≤ b.toNat % 2 ^ 63) (hb2 : fb_ 2047 b) (hK : K ≤ 2047) (hL : 1 ≤ L) : fb_ (K + 1021 - L + 3) (FP.ddiv a b) := FP.Core.ddiv_mag ha hb hb2 hK hL
theorem fb_i2d (x : Int32) : fb_ 1056 (FP.i2d x) := FP.Core.i2d_mag x
-- the sign bit is clear
def po_ (a : UInt64) : Prop := a.toNat < 2 ^ 63
theorem po_of {a : UInt64} (h : FP.Core.val64 a ≠ .nan) (hs : FP.Core.sgn (FP.Core.val64 a) = false) : po_ a := by
  rw [FP.Core.sgn_bits h] at hs
  have := of_decide_eq_false hs
  unfold po_
  omega
theorem po_sgn {a : UInt64} (h : FP.Core.val64 a ≠ .nan) (hs : po_ a) : FP.Core.sgn (FP.Core.val64 a) = false := by
  rw [FP.Core.sgn_bits h]
  unfold po_ at hs
  exact decide_eq_false (by omega)
theorem po_sq {a : UInt64} (h : FP.Core.DFin a) : po_ (FP.dmul a a) := by
  obtain ⟨s, c, q, hv⟩ := h
  have e : FP.Core.val64 (FP.dmul a a) = FP.Core.roundRatio FP.Core.b64 false (c * c) 1 (q + q) := by
    rw [FP.Core.val64_dmul, hv]
    show FP.Core.round FP.Core.b64 (.fin (s != s) (c * c) (q + q)) = _
    rw [show (s != s) = false by cases s <;> rfl]
    rfl
  refine po_of ?_ ?_
  · rw [e]; exact FP.Core.roundRatio_ne_nan _ _ _ _ _
  · rw [e]; exact FP.Core.sgn_roundRatio _ _ _ _ _
theorem po_add {a b : UInt64} (ha : FP.Core.DFin a) (hb : FP.Core.DFin b) (pa : po_ a) (pb : po_ b) : po_ (FP.dadd a b) := by
  have sa := po_sgn ha.ne_nan pa
  have sb := po_sgn hb.ne_nan pb
  obtain ⟨s, c, q, hv⟩ := ha
  obtain ⟨t, d, r, hw⟩ := hb
  rw [hv] at sa
  rw [hw] at sb
  have es : s = false := sa
  have et : t = false := sb
  subst es
  subst et
  have hn : ¬ FP.Core.sumUnits false c q false d r (min q r) < 0 := by
    unfold FP.Core.sumUnits FP.Core.signed
    simp only [Bool.false_eq_true, if_false]
    omega
  have e : FP.Core.val64 (FP.dadd a b) = FP.Core.roundRatio FP.Core.b64 false (FP.Core.sumUnits false c q false d r (min q r)).natAbs 1 (min q r) := by
    rw [FP.Core.val64_dadd, hv, hw]
    show FP.Core.round FP.Core.b64 (.fin (FP.Core.sumSign false false (FP.Core.sumUnits false c q false d r (min q r))) _ _) = _
    rw [show FP.Core.sumSign false false (FP.Core.sumUnits false c q false d r (min q r)) = false by
      unfold FP.Core.sumSign
      split
      · rfl
      · exact decide_eq_false hn]
    rfl
  refine po_of ?_ ?_
  · rw [e]; exact FP.Core.roundRatio_ne_nan _ _ _ _ _
  · rw [e]; exact FP.Core.sgn_roundRatio _ _ _ _ _
theorem po_zero {a : UInt64} (h : FP.Core.DFin a) (pa : po_ a) : FP.dadd a 0 = a := by
  refine FP.Core.dadd_zero h.ne_nan (fun q => ?_)
  rw [q] at pa
  exact absurd pa (by unfold po_; decide)
-- a positive normal number, halved and doubled: one less, one more in its exponent
theorem fn_val {a : UInt64} {E T : Nat} (h : a.toNat = E * 2 ^ 52 + T) (hT : T < 2 ^ 52) (h1 : 1 ≤ E) (h2 : E < 2047) : FP.Core.val64 a = .fin false (2 ^ 52 + T) (-1074 + ((E : Int) - 1)) := by
  have he : FP.Core.b64.exps = 2048 := by decide
  have ht := FP.Core.tails_b64
  have h3 : a.toNat = FP.Core.assemble FP.Core.b64 false E T := by
    unfold FP.Core.assemble
    rw [ht, h]
    simp
  unfold FP.Core.val64
  rw [h3, FP.Core.decode_assemble _ _ _ _ (by omega) (by omega), if_neg (by omega), if_neg (by omega), ht, FP.Core.qmin_b64]
theorem fn_ex {N : Nat} (h : N < 2 ^ 64) : ∃ b : UInt64, b.toNat = N := ⟨UInt64.ofNat N, by rw [UInt64.toNat_ofNat']; exact Nat.mod_eq_of_lt h⟩
theorem fn_two : FP.Core.val64 0x4000000000000000 = .fin false (2 ^ 52) (-51) := by decide +kernel
theorem fn_half {a : UInt64} (h1 : 2 * 2 ^ 52 ≤ a.toNat) (h2 : a.toNat < 2047 * 2 ^ 52) : (FP.ddiv a 0x4000000000000000).toNat = a.toNat - 2 ^ 52 := by
  obtain ⟨E, T, hE, hT⟩ : ∃ E T, a.toNat = E * 2 ^ 52 + T ∧ T < 2 ^ 52 := ⟨a.toNat / 2 ^ 52, a.toNat % 2 ^ 52, by omega, by omega⟩
  have v1 := fn_val hE hT (by omega) (by omega)
  obtain ⟨b, hb⟩ := fn_ex (N := (E - 1) * 2 ^ 52 + T) (by omega)
  have v2 := fn_val hb hT (by omega) (by omega)
  have hf := FP.Core.val64_fits b
  rw [v2] at hf
  have e : FP.ddiv a 0x4000000000000000 = b := by
    refine (FP.Core.val64_inj (by rw [v2]; exact FP.Core.Datum.noConfusion) ?_).symm
    refine v2.trans ?_
    refine Eq.trans ?_ (FP.Core.val64_ddiv a 0x4000000000000000).symm
    rw [v1, fn_two]
    show _ = if (2 ^ 52 : Nat) = 0 then (if (2 ^ 52 + T) = 0 then FP.Core.Datum.nan else FP.Core.Datum.inf (false != false)) else FP.Core.roundRatio FP.Core.b64 (false != false) (2 ^ 52 + T) (2 ^ 52) (-1074 + ((E : Int) - 1) - (-51))
    rw [if_neg (by decide)]
    refine (FP.Core.roundRatio_exact FP.Core.good_b64 (by decide) hf ?_).symm
    rw [show (-1074 + ((E : Int) - 1) - (-51) - (-1074 + (((E - 1 : Nat) : Int) - 1))).toNat = 52 by omega, show (-1074 + (((E - 1 : Nat) : Int) - 1) - (-1074 + ((E : Int) - 1) - (-51))).toNat = 0 by omega]
    simp
  rw [e, hb, hE]
  omega
theorem fn_dbl {a : UInt64} (h1 : 2 ^ 52 ≤ a.toNat) (h2 : a.toNat < 2046 * 2 ^ 52) : (FP.dmul a 0x4000000000000000).toNat = a.toNat + 2 ^ 52 := by
  obtain ⟨E, T, hE, hT⟩ : ∃ E T, a.toNat = E * 2 ^ 52 + T ∧ T < 2 ^ 52 := ⟨a.toNat / 2 ^ 52, a.toNat % 2 ^ 52, by omega, by omega⟩
  have v1 := fn_val hE hT (by omega) (by omega)
  obtain ⟨b, hb⟩ := fn_ex (N := (E + 1) * 2 ^ 52 + T) (by omega)
  have v2 := fn_val hb hT (by omega) (by omega)
  have hf := FP.Core.val64_fits b
  rw [v2] at hf
  have e : FP.dmul a 0x4000000000000000 = b := by
    refine (FP.Core.val64_inj (by rw [v2]; exact FP.Core.Datum.noConfusion) ?_).symm
    refine v2.trans ?_
    refine Eq.trans ?_ (FP.Core.val64_dmul a 0x4000000000000000).symm
    rw [v1, fn_two]
    show _ = FP.Core.roundRatio FP.Core.b64 (false != false) ((2 ^ 52 + T) * 2 ^ 52) 1 (-1074 + ((E : Int) - 1) + (-51))
    refine (FP.Core.roundRatio_exact FP.Core.good_b64 (by decide) hf ?_).symm
    rw [show (-1074 + ((E : Int) - 1) + (-51) - (-1074 + (((E + 1 : Nat) : Int) - 1))).toNat = 0 by omega, show (-1074 + (((E + 1 : Nat) : Int) - 1) - (-1074 + ((E : Int) - 1) + (-51))).toNat = 52 by omega]
    simp
  rw [e, hb, hE]
  omega
-- order of numbers with a clear sign: by bits
theorem fo_lt {a b : UInt64} (ha : FP.Core.val64 a ≠ .nan) (hb : FP.Core.val64 b ≠ .nan) (pa : po_ a) (pb : po_ b) : FP.dcmp a b = some .lt ↔ a.toNat < b.toNat := (FP.Core.mono_bits ha hb pa pb).1
theorem fo_eq {a b : UInt64} (ha : FP.Core.val64 a ≠ .nan) (hb : FP.Core.val64 b ≠ .nan) (pa : po_ a) (pb : po_ b) : FP.dcmp a b = some .eq ↔ a.toNat = b.toNat := (FP.Core.mono_bits ha hb pa pb).2.1
theorem fo_gt {a b : UInt64} (ha : FP.Core.val64 a ≠ .nan) (hb : FP.Core.val64 b ≠ .nan) (pa : po_ a) (pb : po_ b) : FP.dcmp a b = some .gt ↔ b.toNat < a.toNat := (FP.Core.mono_bits ha hb pa pb).2.2
-- what dcmpl, dcmpg and a branch say
theorem fc_lt_l (o : Option Ordering) : Op.cmpValue o .l < 0 ↔ o = some .lt ∨ o = none := by rcases o with _ | (_ | _ | _) <;> decide
theorem fc_le_l (o : Option Ordering) : Op.cmpValue o .l ≤ 0 ↔ o ≠ some .gt := by rcases o with _ | (_ | _ | _) <;> decide
theorem fc_eq_l (o : Option Ordering) : Op.cmpValue o .l = 0 ↔ o = some .eq := by rcases o with _ | (_ | _ | _) <;> decide
theorem fc_gt_l (o : Option Ordering) : 0 < Op.cmpValue o .l ↔ o = some .gt := by rcases o with _ | (_ | _ | _) <;> decide
theorem fc_ge_l (o : Option Ordering) : 0 ≤ Op.cmpValue o .l ↔ o = some .gt ∨ o = some .eq := by rcases o with _ | (_ | _ | _) <;> decide
theorem fc_lt_g (o : Option Ordering) : Op.cmpValue o .g < 0 ↔ o = some .lt := by rcases o with _ | (_ | _ | _) <;> decide
theorem fc_le_g (o : Option Ordering) : Op.cmpValue o .g ≤ 0 ↔ o = some .lt ∨ o = some .eq := by rcases o with _ | (_ | _ | _) <;> decide
theorem fc_eq_g (o : Option Ordering) : Op.cmpValue o .g = 0 ↔ o = some .eq := by rcases o with _ | (_ | _ | _) <;> decide
theorem fc_gt_g (o : Option Ordering) : 0 < Op.cmpValue o .g ↔ o = some .gt ∨ o = none := by rcases o with _ | (_ | _ | _) <;> decide
theorem fc_ge_g (o : Option Ordering) : 0 ≤ Op.cmpValue o .g ↔ o ≠ some .lt := by rcases o with _ | (_ | _ | _) <;> decide
end
section
-- what the document calls A, C, S, P, LN, LEVEL, LOUD, FAR, D, WARP: as functions on bits
def hd_1 : UInt64 := 4607182418800017408
def hd_2 : UInt64 := 4611686018427387904
def hd_h : UInt64 := 4602678819172646912
def hd_ep : UInt64 := 4457293557087583675
def hd_15 : UInt64 := 4609434218613702656
def hd_75 : UInt64 := 4604930618986332160
def hd_l : UInt64 := 4604418534313441775
def hd_A (n : Nat) : UInt64 := FP.dmul (FP.i2d (if 17 ≤ n then nI n - 32 else nI n)) 4596242258042563864
def hd_sr (o : Nat) (y : UInt64) : Nat → UInt64
  | 0 => hd_1
  | k + 1 => FP.dsub hd_1 (FP.ddiv (FP.dmul y (hd_sr o y k)) (FP.i2d (nI ((24 - 2 * k + o) * (24 - 2 * k + o - 1)))))
def hd_C (n : Nat) : UInt64 := hd_sr 0 (FP.dmul (hd_A n) (hd_A n)) 12
def hd_S (n : Nat) : UInt64 := FP.dmul (hd_A n) (hd_sr 1 (FP.dmul (hd_A n) (hd_A n)) 12)
def hd_W (n : Nat) : UInt64 := FP.dsub hd_h (FP.dmul hd_h (hd_C n))
def hd_v (sa : Nat → UInt64) (f i : Nat) : UInt64 := FP.dmul (sa (16 * f + i)) (hd_W i)
def hd_re (sa : Nat → UInt64) (f k : Nat) : Nat → UInt64
  | 0 => 0
  | i + 1 => FP.dadd (hd_re sa f k i) (FP.dmul (hd_v sa f i) (hd_C (k * i % 32)))
def hd_im (sa : Nat → UInt64) (f k : Nat) : Nat → UInt64
  | 0 => 0
  | i + 1 => FP.dsub (hd_im sa f k i) (FP.dmul (hd_v sa f i) (hd_S (k * i % 32)))
def hd_P (sa : Nat → UInt64) (f k : Nat) : UInt64 := FP.dadd (FP.dmul (hd_re sa f k 32) (hd_re sa f k 32)) (FP.dmul (hd_im sa f k 32) (hd_im sa f k 32))
def hd_bl (b : Nat) : Nat := if b = 0 then 1 else if b = 1 then 3 else if b = 2 then 5 else 9
def hd_bn (b : Nat) : Nat := if b = 0 then 2 else if b = 1 then 2 else if b = 2 then 4 else 8
def hd_bs (sa : Nat → UInt64) (f lo : Nat) : Nat → UInt64
  | 0 => 0
  | m + 1 => FP.dadd (hd_bs sa f lo m) (hd_P sa f (lo + m))
def hd_su (sa : Nat → UInt64) (f b : Nat) : UInt64 := hd_bs sa f (hd_bl b) (hd_bn b)
def hd_lo (sa : Nat → UInt64) (f : Nat) : Nat → UInt64
  | 0 => 0
  | b + 1 => FP.dadd (hd_lo sa f b) (hd_su sa f b)
-- LN: halved as long as it is 1.5 or more, doubled as long as it is below 0.75 (the fuel is never used up), then the series
def hd_l1 : Nat → UInt64 → Int32 → UInt64 × Int32
  | 0, x, k => (x, k)
  | n + 1, x, k => if FP.dcmp x hd_15 = some .gt ∨ FP.dcmp x hd_15 = some .eq then hd_l1 n (FP.ddiv x hd_2) (k + 1) else (x, k)
def hd_l2 : Nat → UInt64 → Int32 → UInt64 × Int32
  | 0, x, k => (x, k)
  | n + 1, x, k => if FP.dcmp x hd_75 = some .lt then hd_l2 n (FP.dmul x hd_2) (k - 1) else (x, k)
def hd_l3 (y : UInt64) : Nat → UInt64
  | 0 => 0
  | k + 1 => FP.dadd (FP.dmul (hd_l3 y k) y) (FP.ddiv hd_1 (FP.i2d (nI (19 - 2 * k))))
def hd_z (x : UInt64) : UInt64 := FP.ddiv (FP.dsub x hd_1) (FP.dadd x hd_1)
def hd_le (x : UInt64) (k : Int32) : UInt64 := FP.dadd (FP.dmul (FP.dmul hd_2 (hd_z x)) (hd_l3 (FP.dmul (hd_z x) (hd_z x)) 10)) (FP.dmul (FP.i2d k) hd_l)
def hd_x2 (x : UInt64) : UInt64 × Int32 := hd_l2 2000 (hd_l1 2000 x 0).1 (hd_l1 2000 x 0).2
def hd_ln (x : UInt64) : UInt64 := hd_le (hd_x2 x).1 (hd_x2 x).2
def hd_fl (s : UInt64) : UInt64 := if FP.dcmp s hd_ep = some .gt then s else hd_ep
def hd_lev (sa : Nat → UInt64) (f b : Nat) : UInt64 := hd_ln (hd_fl (hd_su sa f b))
-- bounds
theorem hd_C_b : ∀ n, n < 32 → (hd_C n).toNat % 2 ^ 63 < 1024 * 2 ^ 52 := by decide +kernel
theorem hd_S_b : ∀ n, n < 32 → (hd_S n).toNat % 2 ^ 63 < 1024 * 2 ^ 52 := by decide +kernel
theorem hd_W_b : ∀ n, n < 32 → (hd_W n).toNat % 2 ^ 63 < 1024 * 2 ^ 52 := by decide +kernel
theorem hd_v_b {sa : Nat → UInt64} {f : Nat} (h : ∀ i, i < 32 → fb_ 1057 (sa (16 * f + i))) {i : Nat} (hi : i < 32) : fb_ 1059 (hd_v sa f i) := fb_mono (fb_mul (h i hi) (hd_W_b i hi) (by decide) (by decide)) (by omega)
theorem hd_vc_b {sa : Nat → UInt64} {f : Nat} (h : ∀ i, i < 32 → fb_ 1057 (sa (16 * f + i))) {i j : Nat} (hi : i < 32) (hj : j < 32) : fb_ 1061 (FP.dmul (hd_v sa f i) (hd_C j)) := fb_mono (fb_mul (hd_v_b h hi) (hd_C_b j hj) (by decide) (by decide)) (by omega)
theorem hd_vs_b {sa : Nat → UInt64} {f : Nat} (h : ∀ i, i < 32 → fb_ 1057 (sa (16 * f + i))) {i j : Nat} (hi : i < 32) (hj : j < 32) : fb_ 1061 (FP.dmul (hd_v sa f i) (hd_S j)) := fb_mono (fb_mul (hd_v_b h hi) (hd_S_b j hj) (by decide) (by decide)) (by omega)
theorem hd_re_b {sa : Nat → UInt64} {f : Nat} (h : ∀ i, i < 32 → fb_ 1057 (sa (16 * f + i))) (k : Nat) : ∀ n, n ≤ 32 → fb_ (1061 + 2 * n) (hd_re sa f k n)
  | 0, _ => by unfold fb_ hd_re; decide
  | n + 1, hn => fb_mono (fb_add (hd_re_b h k n (by omega)) (fb_mono (hd_vc_b h (by omega) (Nat.mod_lt _ (by decide))) (by omega)) (by omega)) (by omega)
theorem hd_im_b {sa : Nat → UInt64} {f : Nat} (h : ∀ i, i < 32 → fb_ 1057 (sa (16 * f + i))) (k : Nat) : ∀ n, n ≤ 32 → fb_ (1061 + 2 * n) (hd_im sa f k n)
  | 0, _ => by unfold fb_ hd_im; decide
  | n + 1, hn => fb_mono (fb_sub (hd_im_b h k n (by omega)) (fb_mono (hd_vs_b h (by omega) (Nat.mod_lt _ (by decide))) (by omega)) (by omega)) (by omega)
theorem hd_re2_b {sa : Nat → UInt64} {f : Nat} (h : ∀ i, i < 32 → fb_ 1057 (sa (16 * f + i))) (k : Nat) : fb_ 1228 (FP.dmul (hd_re sa f k 32) (hd_re sa f k 32)) := fb_mono (fb_mul (hd_re_b h k 32 (by decide)) (hd_re_b h k 32 (by decide)) (by decide) (by decide)) (by omega)
theorem hd_im2_b {sa : Nat → UInt64} {f : Nat} (h : ∀ i, i < 32 → fb_ 1057 (sa (16 * f + i))) (k : Nat) : fb_ 1228 (FP.dmul (hd_im sa f k 32) (hd_im sa f k 32)) := fb_mono (fb_mul (hd_im_b h k 32 (by decide)) (hd_im_b h k 32 (by decide)) (by decide) (by decide)) (by omega)
theorem hd_P_b {sa : Nat → UInt64} {f : Nat} (h : ∀ i, i < 32 → fb_ 1057 (sa (16 * f + i))) (k : Nat) : fb_ 1230 (hd_P sa f k) := fb_mono (fb_add (hd_re2_b h k) (hd_im2_b h k) (by decide)) (by omega)
theorem hd_P_p {sa : Nat → UInt64} {f : Nat} (h : ∀ i, i < 32 → fb_ 1057 (sa (16 * f + i))) (k : Nat) : po_ (hd_P sa f k) := po_add (fb_fin (hd_re2_b h k) (by decide)) (fb_fin (hd_im2_b h k) (by decide)) (po_sq (fb_fin (hd_re_b h k 32 (by decide)) (by decide))) (po_sq (fb_fin (hd_im_b h k 32 (by decide)) (by decide)))
theorem hd_bs_b {sa : Nat → UInt64} {f : Nat} (h : ∀ i, i < 32 → fb_ 1057 (sa (16 * f + i))) (lo : Nat) : ∀ m, m ≤ 8 → fb_ (1230 + 2 * m) (hd_bs sa f lo m)
  | 0, _ => by unfold fb_ hd_bs; decide
  | m + 1, hm => fb_mono (fb_add (hd_bs_b h lo m (by omega)) (fb_mono (hd_P_b h (lo + m)) (by omega)) (by omega)) (by omega)
theorem hd_bs_p {sa : Nat → UInt64} {f : Nat} (h : ∀ i, i < 32 → fb_ 1057 (sa (16 * f + i))) (lo : Nat) : ∀ m, m ≤ 8 → po_ (hd_bs sa f lo m)
  | 0, _ => by unfold po_ hd_bs; decide
  | m + 1, hm => po_add (fb_fin (hd_bs_b h lo m (by omega)) (by omega)) (fb_fin (hd_P_b h (lo + m)) (by decide)) (hd_bs_p h lo m (by omega)) (hd_P_p h (lo + m))
theorem hd_bn_8 (b : Nat) : hd_bn b ≤ 8 := by unfold hd_bn; split <;> (try split) <;> (try split) <;> omega
theorem hd_su_b {sa : Nat → UInt64} {f : Nat} (h : ∀ i, i < 32 → fb_ 1057 (sa (16 * f + i))) (b : Nat) : fb_ 1246 (hd_su sa f b) := fb_mono (hd_bs_b h (hd_bl b) (hd_bn b) (hd_bn_8 b)) (by have := hd_bn_8 b; omega)
theorem hd_su_p {sa : Nat → UInt64} {f : Nat} (h : ∀ i, i < 32 → fb_ 1057 (sa (16 * f + i))) (b : Nat) : po_ (hd_su sa f b) := hd_bs_p h (hd_bl b) (hd_bn b) (hd_bn_8 b)
theorem hd_lo_b {sa : Nat → UInt64} {f : Nat} (h : ∀ i, i < 32 → fb_ 1057 (sa (16 * f + i))) : ∀ b, b ≤ 4 → fb_ (1246 + 2 * b) (hd_lo sa f b)
  | 0, _ => by unfold fb_ hd_lo; decide
  | b + 1, hb => fb_mono (fb_add (hd_lo_b h b (by omega)) (fb_mono (hd_su_b h b) (by omega)) (by omega)) (by omega)
-- LN: what goes in lies between 0.0000000001 and 2 ^ 223; what is left lies between 0.75 and 1.5
def hd_in (x : UInt64) : Prop := 989 * 2 ^ 52 ≤ x.toNat ∧ x.toNat < 1246 * 2 ^ 52
theorem hd_in_p {x : UInt64} (h : hd_in x) : po_ x := by unfold hd_in at h; unfold po_; omega
theorem hd_in_b {x : UInt64} (h : hd_in x) : fb_ 1246 x := by unfold hd_in at h; unfold fb_; omega
theorem hd_fl_in {s : UInt64} (h : fb_ 1246 s) (p : po_ s) : hd_in (hd_fl s) := by
  have e : hd_ep.toNat = 4457293557087583675 := by decide
  unfold hd_fl
  by_cases c : FP.dcmp s hd_ep = some .gt
  · rw [if_pos c]
    rw [fo_gt (fb_nn h (by decide)) (by decide +kernel) p (by unfold po_; decide), e] at c
    unfold hd_in
    unfold fb_ at h
    unfold po_ at p
    omega
  · rw [if_neg c]
    unfold hd_in
    rw [e]
    omega
theorem hd_15_n : hd_15.toNat = 4609434218613702656 := by decide
theorem hd_75_n : hd_75.toNat = 4604930618986332160 := by decide
theorem hd_c15 {x : UInt64} (h : hd_in x) : (FP.dcmp x hd_15 = some .gt ∨ FP.dcmp x hd_15 = some .eq) ↔ 4609434218613702656 ≤ x.toNat := by
  have n1 := fb_nn (hd_in_b h) (by decide)
  have n2 : FP.Core.val64 hd_15 ≠ .nan := by decide +kernel
  have p2 : po_ hd_15 := by unfold po_; decide
  rw [fo_gt n1 n2 (hd_in_p h) p2, fo_eq n1 n2 (hd_in_p h) p2, hd_15_n]
  omega
theorem hd_c75 {x : UInt64} (h : hd_in x) : FP.dcmp x hd_75 = some .lt ↔ x.toNat < 4604930618986332160 := by
  rw [fo_lt (fb_nn (hd_in_b h) (by decide)) (by decide +kernel) (hd_in_p h) (by unfold po_; decide), hd_75_n]
theorem hd_l1_in : ∀ (n : Nat) (x : UInt64) (k : Int32), hd_in x → x.toNat < 4609434218613702656 + n * 2 ^ 52 → hd_in (hd_l1 n x k).1 ∧ (hd_l1 n x k).1.toNat < 4609434218613702656
  | 0, x, k, h, hn => ⟨h, by show x.toNat < _; omega⟩
  | n + 1, x, k, h, hn => by
    unfold hd_l1
    by_cases c : FP.dcmp x hd_15 = some .gt ∨ FP.dcmp x hd_15 = some .eq
    · rw [if_pos c]
      have c' := (hd_c15 h).mp c
      have e : (FP.ddiv x hd_2).toNat = x.toNat - 2 ^ 52 := fn_half (by omega) (by unfold hd_in at h; omega)
      exact hd_l1_in n _ _ (by unfold hd_in at h ⊢; rw [e]; omega) (by rw [e]; omega)
    · rw [if_neg c]
      exact ⟨h, by have := mt (hd_c15 h).mpr c; show x.toNat < _; omega⟩
theorem hd_l2_in : ∀ (n : Nat) (x : UInt64) (k : Int32), hd_in x → x.toNat < 4609434218613702656 → 4604930618986332160 ≤ x.toNat + n * 2 ^ 52 → 4604930618986332160 ≤ (hd_l2 n x k).1.toNat ∧ (hd_l2 n x k).1.toNat < 4609434218613702656
  | 0, x, k, h, h1, hn => ⟨by show _ ≤ x.toNat; omega, h1⟩
  | n + 1, x, k, h, h1, hn => by
    unfold hd_l2
    by_cases c : FP.dcmp x hd_75 = some .lt
    · rw [if_pos c]
      have c' := (hd_c75 h).mp c
      have e : (FP.dmul x hd_2).toNat = x.toNat + 2 ^ 52 := fn_dbl (by unfold hd_in at h; omega) (by unfold hd_in at h; omega)
      exact hd_l2_in n _ _ (by unfold hd_in at h ⊢; rw [e]; omega) (by rw [e]; omega) (by rw [e]; omega)
    · rw [if_neg c]
      exact ⟨by have := mt (hd_c75 h).mpr c; show _ ≤ x.toNat; omega, h1⟩
theorem hd_x2_in {x : UInt64} (h : hd_in x) : 4604930618986332160 ≤ (hd_x2 x).1.toNat ∧ (hd_x2 x).1.toNat < 4609434218613702656 := by
  obtain ⟨a, b⟩ := hd_l1_in 2000 x 0 h (by unfold hd_in at h; omega)
  exact hd_l2_in 2000 _ _ a b (by unfold hd_in at a; omega)
-- the series of LN
def hd_ok (x : UInt64) : Prop := 4604930618986332160 ≤ x.toNat ∧ x.toNat < 4609434218613702656
theorem hd_ok_b {x : UInt64} (h : hd_ok x) : fb_ 1024 x := by unfold hd_ok at h; unfold fb_; omega
theorem hd_ok_p {x : UInt64} (h : hd_ok x) : po_ x := by unfold hd_ok at h; unfold po_; omega
theorem hd_1_b : fb_ 1024 hd_1 := by unfold fb_; decide
theorem hd_1_p : po_ hd_1 := by unfold po_; decide
theorem hd_m1_b {x : UInt64} (h : hd_ok x) : fb_ 1026 (FP.dsub x hd_1) := fb_mono (fb_sub (hd_ok_b h) hd_1_b (by decide)) (by omega)
theorem hd_p1_b {x : UInt64} (h : hd_ok x) : fb_ 1026 (FP.dadd x hd_1) := fb_mono (fb_add (hd_ok_b h) hd_1_b (by decide)) (by omega)
theorem hd_p1_p {x : UInt64} (h : hd_ok x) : po_ (FP.dadd x hd_1) := po_add (fb_fin (hd_ok_b h) (by decide)) (fb_fin hd_1_b (by decide)) (hd_ok_p h) hd_1_p
theorem hd_p1_g {x : UInt64} (h : hd_ok x) : 1023 * 2 ^ 52 ≤ (FP.dadd x hd_1).toNat % 2 ^ 63 := by
  have nx := fb_nn (hd_ok_b h) (by decide)
  have n1 := fb_nn hd_1_b (by decide)
  have hs := FP.Core.sum_ge FP.Core.good_b64 (fb_fin (hd_ok_b h) (by decide)) (fb_fin hd_1_b (by decide)) (FP.Core.val64_fits x) (FP.Core.val64_fits hd_1) (FP.Core.val64_fits hd_1) n1 (by have := FP.Core.zval_nonneg nx (hd_ok_p h); omega)
  rw [← FP.Core.val64_dadd] at hs
  have np := fb_nn (hd_p1_b h) (by decide)
  have hc := FP.Core.dcmp_ge.mpr ⟨np, n1, hs⟩
  have pp := hd_p1_p h
  have hc2 : hd_1.toNat ≤ (FP.dadd x hd_1).toNat := by
    rcases hc with g | g
    · exact Nat.le_of_lt ((fo_gt np n1 pp hd_1_p).mp g)
    · exact Nat.le_of_eq ((fo_eq np n1 pp hd_1_p).mp g).symm
  have e : hd_1.toNat = 4607182418800017408 := by decide
  rw [e] at hc2
  unfold po_ at pp
  omega
theorem hd_z_b {x : UInt64} (h : hd_ok x) : fb_ 1027 (hd_z x) := fb_mono (fb_div (hd_m1_b h) (hd_p1_g h) (fb_mono (hd_p1_b h) (by decide)) (by decide) (by decide)) (by omega)
theorem hd_y_b {x : UInt64} (h : hd_ok x) : fb_ 1032 (FP.dmul (hd_z x) (hd_z x)) := fb_mono (fb_mul (hd_z_b h) (hd_z_b h) (by decide) (by decide)) (by omega)
theorem hd_j_g : ∀ k, k < 10 → 1023 * 2 ^ 52 ≤ (FP.i2d (nI (19 - 2 * k))).toNat % 2 ^ 63 := by decide +kernel
theorem hd_j_b {k : Nat} (hk : k < 10) : fb_ 1025 (FP.ddiv hd_1 (FP.i2d (nI (19 - 2 * k)))) := fb_mono (fb_div hd_1_b (hd_j_g k hk) (fb_mono (fb_i2d _) (by decide)) (by decide) (by decide)) (by omega)
theorem hd_l3_b {y : UInt64} (h : fb_ 1032 y) : ∀ k, k ≤ 10 → fb_ (1025 + 12 * k) (hd_l3 y k)
  | 0, _ => by unfold fb_ hd_l3; decide
  | k + 1, hk => fb_mono (fb_add (K := 1035 + 12 * k) (fb_mono (fb_mul (hd_l3_b h k (by omega)) h (by omega) (by decide)) (by omega)) (fb_mono (hd_j_b (by omega)) (by omega)) (by omega)) (by omega)
theorem hd_l3y_b {y : UInt64} (h : fb_ 1032 y) {k : Nat} (hk : k ≤ 10) : fb_ 1155 (FP.dmul (hd_l3 y k) y) := fb_mono (fb_mul (hd_l3_b h k hk) h (by omega) (by decide)) (by omega)
theorem hd_2z_b {x : UInt64} (h : hd_ok x) : fb_ 1030 (FP.dmul hd_2 (hd_z x)) := fb_mono (fb_mul (K := 1025) (by unfold fb_; decide) (hd_z_b h) (by decide) (by decide)) (by omega)
theorem hd_2zs_b {x : UInt64} (h : hd_ok x) : fb_ 1153 (FP.dmul (FP.dmul hd_2 (hd_z x)) (hd_l3 (FP.dmul (hd_z x) (hd_z x)) 10)) := fb_mono (fb_mul (hd_2z_b h) (hd_l3_b (hd_y_b h) 10 (by decide)) (by decide) (by decide)) (by omega)
theorem hd_kl_b (k : Int32) : fb_ 1057 (FP.dmul (FP.i2d k) hd_l) := fb_mono (fb_mul (L := 1023) (fb_i2d k) (by unfold fb_; decide) (by decide) (by decide)) (by omega)
theorem hd_le_b {x : UInt64} (h : hd_ok x) (k : Int32) : fb_ 1155 (hd_le x k) := fb_mono (fb_add (hd_2zs_b h) (fb_mono (hd_kl_b k) (by decide)) (by decide)) (by omega)
theorem hd_ln_b {x : UInt64} (h : hd_in x) : fb_ 1155 (hd_ln x) := hd_le_b (hd_x2_in h) _
theorem hd_lev_b {sa : Nat → UInt64} {f : Nat} (h : ∀ i, i < 32 → fb_ 1057 (sa (16 * f + i))) (b : Nat) : fb_ 1155 (hd_lev sa f b) := hd_ln_b (hd_fl_in (hd_su_b h b) (hd_su_p h b))
-- FAR of two rows of four, D and WARP
def hd_far (a b : Nat → UInt64) : Nat → UInt64
  | 0 => 0
  | k + 1 => FP.dadd (hd_far a b k) (FP.dmul (FP.dsub (a k) (b k)) (FP.dsub (a k) (b k)))
theorem hd_df_b {x y : UInt64} (hx : fb_ 1155 x) (hy : fb_ 1155 y) : fb_ 1157 (FP.dsub x y) := fb_mono (fb_sub hx hy (by decide)) (by omega)
theorem hd_dd_b {x y : UInt64} (hx : fb_ 1155 x) (hy : fb_ 1155 y) : fb_ 1292 (FP.dmul (FP.dsub x y) (FP.dsub x y)) := fb_mono (fb_mul (hd_df_b hx hy) (hd_df_b hx hy) (by decide) (by decide)) (by omega)
theorem hd_far_b {a b : Nat → UInt64} (ha : ∀ k, k < 4 → fb_ 1155 (a k)) (hb : ∀ k, k < 4 → fb_ 1155 (b k)) : ∀ n, n ≤ 4 → fb_ (1292 + 2 * n) (hd_far a b n)
  | 0, _ => by unfold fb_ hd_far; decide
  | n + 1, hn => fb_mono (fb_add (hd_far_b ha hb n (by omega)) (fb_mono (hd_dd_b (ha n (by omega)) (hb n (by omega))) (by omega)) (by omega)) (by omega)
theorem hd_far_p {a b : Nat → UInt64} (ha : ∀ k, k < 4 → fb_ 1155 (a k)) (hb : ∀ k, k < 4 → fb_ 1155 (b k)) : ∀ n, n ≤ 4 → po_ (hd_far a b n)
  | 0, _ => by unfold po_ hd_far; decide
  | n + 1, hn => po_add (fb_fin (hd_far_b ha hb n (by omega)) (by omega)) (fb_fin (hd_dd_b (ha n (by omega)) (hb n (by omega))) (by decide)) (hd_far_p ha hb n (by omega)) (po_sq (fb_fin (hd_df_b (ha n (by omega)) (hb n (by omega))) (by decide)))
end
section
-- short rows over the kit's: the top of the stack by another name, arrays by a number as index
section RW
variable {p : Program} {l : Launch} {e : Env} {R : Room} {s : State} {m : MethodId} {args : Array Value} {below : List Frame} {meth : Method} {c : Code} {H : Heap} {locs : List Loc} {cells slots : Nat} {Q : State → Prop}
variable {cc : ByteArray} {pc : Nat} {ls : Array Slot} {rest : List Value} {D : va_G} {cl : List vw_C} {A : Nat → Prop} {a : Nat} {tys : List (ClassId × FieldType)} {ws : va_W} {H0 : Heap}
theorem rw_i {x y : Int32} (h : x = y) (k : W p l e R s m args below meth c H locs cells slots Q (F0 m pc ls (.int y :: rest))) : W p l e R s m args below meth c H locs cells slots Q (F0 m pc ls (.int x :: rest)) := h ▸ k
theorem rw_l {x y : Int64} (h : x = y) (k : W p l e R s m args below meth c H locs cells slots Q (F0 m pc ls (.long y :: rest))) : W p l e R s m args below meth c H locs cells slots Q (F0 m pc ls (.long x :: rest)) := h ▸ k
theorem rw_d {x y : UInt64} (h : x = y) (k : W p l e R s m args below meth c H locs cells slots Q (F0 m pc ls (.double y :: rest))) : W p l e R s m args below meth c H locs cells slots Q (F0 m pc ls (.double x :: rest)) := h ▸ k
theorem rw_ald_i (hexec : p.tables.exec = Jvm.exec) (hb : c.code = cc) (hK : va_K D cl tys s) (hP : va_P D cl ws H) (q0 t0 : Nat) {cA : ClassId} {n : Nat} {f : Nat → Int32} (ha : ws[q0]? = some (a, .inl (cA, n, .inl f))) (ht : tys[t0]? = some (cA, .int)) {k : Nat} (hk : k < n) (hn : n < 2 ^ 31) (hdg : decode cc pc = .ok (.iaload, 1))
    (kk : W p l e R s m args below meth c H locs cells slots Q (F0 m (pc + 1) ls (.int (f k) :: rest))) : W p l e R s m args below meth c H locs cells slots Q (F0 m pc ls (.int (nI k) :: .ref a :: rest)) := by
  refine va_iald hexec hb hK hP q0 t0 ha ht (vp_in_nI hk hn) hdg ?_
  rw [nI_clamp (by omega)]
  exact kk
theorem rw_ald_d (hexec : p.tables.exec = Jvm.exec) (hb : c.code = cc) (hK : va_K D cl tys s) (hP : va_P D cl ws H) (q0 t0 : Nat) {cA : ClassId} {n : Nat} {f : Nat → UInt64} (ha : ws[q0]? = some (a, .inl (cA, n, .inr (.inr (.inr (.inl f)))))) (ht : tys[t0]? = some (cA, .double)) {k : Nat} (hk : k < n) (hn : n < 2 ^ 31) (hdg : decode cc pc = .ok (.daload, 1))
    (kk : W p l e R s m args below meth c H locs cells slots Q (F0 m (pc + 1) ls (.double (f k) :: rest))) : W p l e R s m args below meth c H locs cells slots Q (F0 m pc ls (.int (nI k) :: .ref a :: rest)) := by
  refine va_dald hexec hb hK hP q0 t0 ha ht (vp_in_nI hk hn) hdg ?_
  rw [nI_clamp (by omega)]
  exact kk
theorem rw_ald_q (hexec : p.tables.exec = Jvm.exec) (hb : c.code = cc) (hK : va_K D cl tys s) (hP : va_P D cl ws H) (q0 t0 : Nat) {cA : ClassId} {C : String} {n : Nat} {f : Nat → Option Nat} (ha : ws[q0]? = some (a, .inl (cA, n, .inr (.inr (.inr (.inr f)))))) (ht : tys[t0]? = some (cA, .object C)) {k x : Nat} (hx : f k = some x) (hk : k < n) (hn : n < 2 ^ 31) (hdg : decode cc pc = .ok (.aaload, 1))
    (kk : W p l e R s m args below meth c H locs cells slots Q (F0 m (pc + 1) ls (.ref x :: rest))) : W p l e R s m args below meth c H locs cells slots Q (F0 m pc ls (.int (nI k) :: .ref a :: rest)) := by
  refine va_aldq hexec hb hK hP q0 t0 ha ht (vp_in_nI hk hn) hdg ?_
  rw [nI_clamp (by omega), hx]
  exact kk
theorem rw_ast_i (hexec : p.tables.exec = Jvm.exec) (hb : c.code = cc) (hK : va_K D cl tys s) (hP : va_P D cl ws H) (hD : va_D A ws) (hS : va_S A H0 H locs) (q0 t0 : Nat) {cA : ClassId} {n : Nat} {f : Nat → Int32} (ha : ws[q0]? = some (a, .inl (cA, n, .inl f))) (ht : tys[t0]? = some (cA, .int)) {k : Nat} {x : Int32} (hk : k < n) (hn : n < 2 ^ 31) (hdg : decode cc pc = .ok (.iastore, 1))
    (kk : ∀ (H1 : Heap) (locs1 : List Loc), va_P D cl (ws.set q0 (a, .inl (cA, n, .inl (upd f k x)))) H1 → va_D A (ws.set q0 (a, .inl (cA, n, .inl (upd f k x)))) → va_S A H0 H1 locs1 → W p l e R s m args below meth c H1 locs1 cells slots Q (F0 m (pc + 1) ls rest)) : W p l e R s m args below meth c H locs cells slots Q (F0 m pc ls (.int x :: .int (nI k) :: .ref a :: rest)) := by
  refine va_iast hexec hb hK hP hD hS q0 t0 ha ht (vp_in_nI hk hn) hdg ?_
  rw [nI_clamp (by omega)]
  exact kk
theorem rw_ast_d (hexec : p.tables.exec = Jvm.exec) (hb : c.code = cc) (hK : va_K D cl tys s) (hP : va_P D cl ws H) (hD : va_D A ws) (hS : va_S A H0 H locs) (q0 t0 : Nat) {cA : ClassId} {n : Nat} {f : Nat → UInt64} (ha : ws[q0]? = some (a, .inl (cA, n, .inr (.inr (.inr (.inl f)))))) (ht : tys[t0]? = some (cA, .double)) {k : Nat} {x : UInt64} (hk : k < n) (hn : n < 2 ^ 31) (hdg : decode cc pc = .ok (.dastore, 1))
    (kk : ∀ (H1 : Heap) (locs1 : List Loc), va_P D cl (ws.set q0 (a, .inl (cA, n, .inr (.inr (.inr (.inl (vf_upd f k x))))))) H1 → va_D A (ws.set q0 (a, .inl (cA, n, .inr (.inr (.inr (.inl (vf_upd f k x))))))) → va_S A H0 H1 locs1 → W p l e R s m args below meth c H1 locs1 cells slots Q (F0 m (pc + 1) ls rest)) : W p l e R s m args below meth c H locs cells slots Q (F0 m pc ls (.double x :: .int (nI k) :: .ref a :: rest)) := by
  refine va_dast hexec hb hK hP hD hS q0 t0 ha ht (vp_in_nI hk hn) hdg ?_
  rw [nI_clamp (by omega)]
  exact kk
theorem rw_ast_q (hexec : p.tables.exec = Jvm.exec) (hb : c.code = cc) (hK : va_K D cl tys s) (hP : va_P D cl ws H) (hD : va_D A ws) (hS : va_S A H0 H locs) (q0 t0 qk ci : Nat) {cA : ClassId} {r : vw_C} {n v : Nat} {vs : List Value} {f : Nat → Option Nat} (ha : ws[q0]? = some (a, .inl (cA, n, .inr (.inr (.inr (.inr f)))))) (ht : tys[t0]? = some (cA, .object r.1)) (hv : ws[qk]? = some (v, .inr (ci, vs))) (hc : cl[ci]? = some r) {k : Nat} (hk : k < n) (hn : n < 2 ^ 31) (hdg : decode cc pc = .ok (.aastore, 1))
    (kk : ∀ (H1 : Heap) (locs1 : List Loc), va_P D cl (ws.set q0 (a, .inl (cA, n, .inr (.inr (.inr (.inr (va_up f k (some v)))))))) H1 → va_D A (ws.set q0 (a, .inl (cA, n, .inr (.inr (.inr (.inr (va_up f k (some v)))))))) → va_S A H0 H1 locs1 → W p l e R s m args below meth c H1 locs1 cells slots Q (F0 m (pc + 1) ls rest)) : W p l e R s m args below meth c H locs cells slots Q (F0 m pc ls (.ref v :: .int (nI k) :: .ref a :: rest)) := by
  refine va_astq hexec hb hK hP hD hS q0 t0 qk ci ha ht hv hc (vp_in_nI hk hn) hdg ?_
  rw [nI_clamp (by omega)]
  exact kk
end RW
end
section
-- methods that return or throw: their contract, a throw that leaves a method, a call of such a method, the catch in the caller
/-- a method's end: as Qc says, or an exception of a class E as XC says; in both the room and the places that were written -/
def ex_Q (Qc : Array Value → State → Outcome → State → Prop) (XC : String → State → State → Prop) (mc ms : Nat) (free : Addr → Prop) : Array Value → State → Outcome → State → Prop := fun a st o t =>
  (Qc a st o t ∧ ∃ L, FrameEnd st o t L mc ms ∧ ∀ q ∈ L, free q.base) ∨
  (∃ (q : Addr) (E : String) (ce : Cell) (L : List Loc), o = .threw q ∧ XC E st t ∧ t.heap[q]? = some ce ∧ ce.vm = .none ∧ st.vm.findClass E = some ce.cls ∧ st.WarmedH t.vm ∧ st.sameButNew ({ t with vm := st.vm } : State) L mc ms ∧ ∀ z ∈ L, free z.base)
def ex_Met (l : Launch) (y : MethodName) (ws : List Cond) (rm : Room) (Pc : Array Value → State → Prop) (Qc : Array Value → State → Outcome → State → Prop) (XC : String → State → State → Prop) (mc ms : Nat) (free : Addr → Prop) : Prop :=
  MetFree l y (headSpec ws rm) Pc (fun _ _ _ _ _ => True) (ex_Q Qc XC mc ms free)
def ex_MQ (below : List Frame) (Qc : Array Value → State → Outcome → State → Prop) (XC : String → State → State → Prop) (a : Array Value) (s : State) (mc ms : Nat) (free : Addr → Prop) : State → Prop := fun t =>
  ∃ o, t.status = .running ∧ Ended t below o ∧ ex_Q Qc XC mc ms free a s o t
theorem ex_met {l : Launch} {y : MethodName} {ws ws' : List Cond} {rm : Room} {Pc : Array Value → State → Prop} {Qc : Array Value → State → Outcome → State → Prop} {XC : String → State → State → Prop} {mc ms : Nat} {free : Addr → Prop} {cc : ByteArray} {maxL : Nat} {ret : Option FieldType}
    (hy : plainName y.cls = true) (hw : ws = Cond.code y cc maxL ret :: ws')
    (body : ∀ p e s m args below meth c s₁, BodyLoose p l y (headSpec ws rm) cc maxL ret e s m args below meth c s₁ → c.maxLocals = maxL → c.exceptionTable.toList = [] → Pc args s →
      W p l e (headSpec ws rm).room s m args below meth c s.heap [] 0 0 (ex_MQ below Qc XC args s mc ms free) (entryFrame m args maxL)) : ex_Met l y ws rm Pc Qc XC mc ms free := by
  refine MetFree.of_bodyS (code := cc) (maxLocals := maxL) (ret := ret) hy ?_ ?_
  · intro args s m h hn
    obtain ⟨meth, c, h1, h2, h3, h4, h5, h6, -, -⟩ := Cond.code_spec hn (atoms_spec (ws := ws) h _ (by rw [hw]; exact List.mem_cons_self))
    exact ⟨meth, c, h1, h2, h3, h4, h5, h6⟩
  · intro p e s m args below meth c s₁ B hml hP _
    have X := Stand.of_body B
    have hh0 : s₁.heap = s.heap := by rw [B.state]; rfl
    have htab : c.exceptionTable.toList = [] := by
      obtain ⟨meth', c', g1, g2, -, -, -, -, g7, -⟩ := Cond.code_spec B.named (atoms_spec (ws := ws) B.pre _ (by rw [hw]; exact List.mem_cons_self))
      cases Option.some.inj (g1.symm.trans B.method)
      cases Option.some.inj (g2.symm.trans X.code)
      simpa using g7
    obtain ⟨t, a1, o, b1, b2, b3⟩ := body p e s m args below meth c s₁ B hml htab hP s₁ hh0 X
    exact ⟨t, o, a1, b1, b2, b3⟩
section EX
variable {p : Program} {l : Launch} {e : Env} {R : Room} {s : State} {m : MethodId} {args : Array Value} {below : List Frame} {meth : Method} {c : Code} {H : Heap} {locs : List Loc} {cells slots : Nat} {Q : State → Prop}
variable {Qc : Array Value → State → Outcome → State → Prop} {XC : String → State → State → Prop} {mc ms : Nat} {free : Addr → Prop}
theorem ex_ret {g : JFrame} (k : W p l e R s m args below meth c H locs cells slots (MQ below Qc args s mc ms free) g) : W p l e R s m args below meth c H locs cells slots (ex_MQ below Qc XC args s mc ms free) g := by
  intro T hT X
  obtain ⟨t, a1, o, b1, b2, b3⟩ := k T hT X
  exact ⟨t, a1, o, b1, b2, Or.inl b3⟩
end EX
end
section
section EY
variable {p : Program} {l : Launch} {e : Env} {R : Room} {s : State} {m : MethodId} {args : Array Value} {below : List Frame} {meth : Method} {c : Code} {T : State} {H : Heap} {locs : List Loc} {cells slots : Nat} {Q : State → Prop}
variable {Qc : Array Value → State → Outcome → State → Prop} {XC : String → State → State → Prop} {mc ms : Nat} {free : Addr → Prop}
/-- the state of a walk, taken as if its method began there: all that was written before is part of the start -/
def ex_at (s T : State) (m : MethodId) (args : Array Value) (below : List Frame) : State := (T.setVm s.vm).setFrames (.invoking m args :: below)
theorem ex_at_heap : (ex_at s T m args below).heap = T.heap := rfl
theorem ex_at_vm : (ex_at s T m args below).vm = s.vm := rfl
theorem ex_here (X : Stand p l e R s m args below meth c T locs cells slots) {R' : Room} (hf : R'.frames ≤ R.frames) (hl : R'.locals ≤ R.locals) (hc : cells + R'.cells ≤ R.cells) (hs : slots + R'.slots ≤ R.slots) :
    Stand p l e R' (ex_at s T m args below) m args below meth c T [] 0 0 := by
  obtain ⟨g₀, hg₀⟩ := X.frames_eq
  have hg₁ : (T.setVm s.vm).frames = .java g₀ :: below := hg₀
  have hcur : (T.setVm s.vm).cur < (T.setVm s.vm).threads.size := State.cur_lt_of_frames hg₁
  have hF : (ex_at s T m args below).frames = .invoking m args :: below := State.frames_setFrames _ hcur
  have hroom : (ex_at s T m args below).hasRoom e.platform R' = true := by
    have h := X.room
    have hu : (ex_at s T m args below).localsInUse = s.localsInUse := by
      rw [State.localsInUse_invoking hF (meth := meth) (c := c) X.method X.code, State.localsInUse_invoking X.frames X.method X.code]
    have h1 := X.heapSize
    have h2 := X.used
    have h3 : e.platform.stackLimits (ex_at s T m args below).me = e.platform.stackLimits s.me := by
      unfold ex_at
      rw [State.stackLimits_setFrames]
      exact X.limits
    have h4 : (ex_at s T m args below).me.stackBytes = s.me.stackBytes := by
      unfold ex_at
      rw [State.stackBytes_setFrames]
      exact X.bytes
    have h5 : (ex_at s T m args below).heap.size = T.heap.size := rfl
    have h6 : (ex_at s T m args below).slotsUsed = T.slotsUsed := rfl
    have h7 : (ex_at s T m args below).slotsTrue = true := X.book
    simp only [State.hasRoom, Bool.and_eq_true, decide_eq_true_eq] at h ⊢
    obtain ⟨⟨⟨⟨a1, a2, a3, a4, a5, a6⟩, a7⟩, a8⟩, a9⟩ := h
    rw [X.frames, List.length_cons] at a2 a3
    simp only [hF, hu, h3, h4, h5, h6, List.length_cons]
    exact ⟨⟨⟨⟨by omega, by omega, by omega, by omega, by omega, a6⟩, by omega⟩, by omega⟩, h7⟩
  have hsame : (ex_at s T m args below).sameButNew (T.setVm (ex_at s T m args below).vm) [] 0 0 := by
    refine ⟨?_, Nat.le_refl _, Nat.le_refl _, ?_, ?_, fun a c9 h9 => ⟨c9, h9, rfl, rfl, fun _ _ => rfl⟩⟩
    · obtain ⟨t, ht, -⟩ := State.frames_cons hg₁
      show T.setVm s.vm = { (ex_at s T m args below).setFrames (T.setVm s.vm).frames with heap := T.heap, slotsUsed := T.slotsUsed }
      unfold ex_at
      rw [State.setFrames_setFrames, State.setFrames_self ht]
      rfl
    · have hd : T.heap.toList.drop T.heap.size = [] := List.drop_eq_nil_of_le (Nat.le_of_eq Array.length_toList)
      show T.slotsUsed = T.slotsUsed + ((T.heap.toList.drop T.heap.size).map (·.slots.size)).sum
      rw [hd]
      rfl
    · have hd : T.heap.toList.drop T.heap.size = [] := List.drop_eq_nil_of_le (Nat.le_of_eq Array.length_toList)
      show ((T.heap.toList.drop T.heap.size).map (·.slots.size)).sum ≤ 0
      rw [hd]
      exact Nat.le_refl _
  exact ⟨X.admits, X.cas, X.clock, hF, hroom, X.hears, X.method, X.code, X.here, X.tail, X.warmed, by unfold ex_at; rw [State.stackLimits_setFrames]; rfl, by unfold ex_at; rw [State.stackBytes_setFrames]; rfl, hsame⟩
/-- 'throw new E("text")' where nothing here catches it -/
theorem ex_throw {cc : ByteArray} {pc : Nat} {ls : Array Slot} {rest : List Value} (hexec : p.tables.exec = Jvm.exec) (hb : c.code = cc) (hl : l.stackTraces = false) {own cls text : String} {names : List String} {ik is ic sa : Nat}
    (hown : s.vm.findClass own = some m.cls) (hcls : Bundle.fit cls = true) (hnames : ∀ n ∈ names, Bundle.fit n = true)
    (hw : ∀ T : State, T.heap = H → s.WarmedH T.vm → ∀ w ∈ Cond.classLink own ik cls :: Cond.initialized cls :: Cond.stringRef own is text :: Bundle.ownAtoms own ic cls names, w.before args (ex_at s T m args below) = true)
    (hstr : ∀ T : State, T.heap = H → s.WarmedH T.vm → (Term.string own is).eval args (ex_at s T m args below) none [] (ex_at s T m args below) = some (.ref sa)) (hsize : ls.size = c.maxLocals) (htab : c.exceptionTable.toList = [])
    (d0 : decode cc pc = .ok (.new ik, 3)) (d3 : decode cc (pc + 3) = .ok (.dup, 1)) (d4 : decode cc (pc + 4) = .ok (.ldc is, 2)) (d6 : decode cc (pc + 6) = .ok (.invokespecial ic, 3)) (d9 : decode cc (pc + 9) = .ok (.athrow, 1))
    (hfr : names.length + 3 < R.frames) (hlo : (rest.map fun v => v.category).sum + (13 * (names.length + 1) + 43) ≤ R.locals) (hce : cells + 1 ≤ R.cells) (hsl : slots + 6 ≤ R.slots) (hlocks : meth.locks = false)
    (hx : ∀ t : State, H.size ≤ t.heap.size → (∀ q : Nat, q < H.size → t.heap[q]? = H[q]?) → XC cls s t)
    (hf : ∀ z ∈ locs, free z.base) (hc : cells + 1 ≤ mc) (hs : slots + 6 ≤ ms) :
    W p l e R s m args below meth c H locs cells slots (ex_MQ below Qc XC args s mc ms free) (F0 m pc ls rest) := by
  intro T hT X
  have htr : e.platform.stackTraces = false := (show e.platform.stackTraces = l.stackTraces by rw [X.admits.platform]).trans hl
  have Y := ex_here X (R' := { frames := R.frames, locals := R.locals, cells := 1, slots := 6 }) (Nat.le_refl _) (Nat.le_refl _) hce hsl
  have ws := hw T hT X.warmed
  have hev := hstr T hT X.warmed
  generalize hZ : ex_at s T m args below = Z at Y ws hev
  have zvm : Z.vm = s.vm := by rw [← hZ]; rfl
  have zhp : Z.heap = T.heap := by rw [← hZ]; rfl
  have hownZ : Z.vm.findClass own = some m.cls := by rw [zvm]; exact hown
  have w0 := ws _ List.mem_cons_self
  have w1 := ws _ (List.mem_cons_of_mem _ List.mem_cons_self)
  have w2 := ws _ (List.mem_cons_of_mem _ (List.mem_cons_of_mem _ List.mem_cons_self))
  have w3 : ∀ w ∈ Bundle.ownAtoms own ic cls names, w.before args Z = true := fun w h => ws w (List.mem_cons_of_mem _ (List.mem_cons_of_mem _ (List.mem_cons_of_mem _ h)))
  have wi : (Cond.instantiable cls 6).before args Z = true := w3 _ (by simp [Bundle.ownAtoms])
  obtain ⟨vm₁, cX, kX, hfX, hkX, -, -, X₁, st1⟩ := Y.newCold hexec hownZ w0 wi w1 (g := F0 m pc ls rest) rfl (by rw [hb]; exact d0) (Nat.le_refl _) (Nat.le_refl _)
  generalize hT1 : (T.setVm vm₁).pushCell { cls := cX, slots := kX.instanceTypes.map defaultValue, vm := .none } = T1 at X₁ st1
  have hnew : T1.heap[T.heap.size]? = some (freshCell cX kX) := by rw [← hT1]; exact State.heap_pushCell_size _ _
  have d3' : decode c.code (pc + 3) = .ok (.dup, 1) := by rw [hb]; exact d3
  obtain ⟨U, hsteps, hrun, hend, hW, hsame, ce, hce9, hO⟩ := X₁.ctorThrowS hexec htr (own := own) (cls := cls) (names := names) (ic := ic) hownZ hcls hnames w3 (fun x hx => nomatch hx) hfX hkX hnew (by rw [zhp]; exact Nat.le_refl _) (msg := .ref sa) rfl
    (g := { method := m, pc := pc + 6, locals := ls, stack := .ref sa :: .ref T.heap.size :: .ref T.heap.size :: rest, locked := none }) rfl hsize rfl rfl (rest := rest) rfl
    (by rw [hb]; exact d6) (by rw [hb]; exact d9) (by rw [htab]; exact fun x hx => nomatch hx) hfr (by
      have hcat : (Value.ref T.heap.size).category = 1 := rfl
      simp only [List.map_cons, List.sum_cons, hcat, JFrame.monitorRoom]
      simp
      omega) hlocks
  have hkeep : T.heap.size ≤ U.heap.size ∧ ∀ q : Nat, q < T.heap.size → U.heap[q]? = T.heap[q]? := by
    obtain ⟨-, k2, -, -, -, k6⟩ := hsame
    rw [zhp] at k2 k6
    refine ⟨k2, fun q hq => ?_⟩
    obtain ⟨c9, e1, e2, e3, e4⟩ := k6 q _ (Array.getElem?_eq_getElem hq)
    have hsl9 : c9.slots = (T.heap[q]).slots := Array.ext_getElem? fun i => e4 i (fun hm => nomatch hm)
    have h9 : c9 = T.heap[q] := by
      rw [hsl9] at e2
      exact e2
    have e5 : U.heap[q]? = some c9 := e1
    rw [e5, h9, Array.getElem?_eq_getElem hq]
  have hWs : s.WarmedH U.vm := by
    have h9 := hW
    rw [← hZ] at h9
    exact h9
  have hcl : s.vm.findClass cls = some ce.cls := by
    have h9 := hO.cls
    rw [zvm] at h9
    exact h9
  have hall : s.sameButNew ({ U with vm := s.vm } : State) locs mc ms := by
    subst hZ
    obtain ⟨e1, e2⟩ := hsame
    unfold ex_at at e1
    rw [State.setFrames_setFrames] at e1
    have h2 : (T.setVm s.vm).sameButNew ({ U with vm := s.vm } : State) [] (0 + 1) (0 + 6) := ⟨e1, e2⟩
    have h3 := X.same.trans h2
    rw [List.append_nil] at h3
    exact h3.mono hc hs
  refine ⟨U, ?_, .threw T.heap.size, hrun, hend, Or.inr ⟨T.heap.size, cls, ce, locs, rfl, hx U (by rw [← hT]; exact hkeep.1) (fun q hq => by rw [← hT] at hq ⊢; exact hkeep.2 q hq), hce9, hO.vm, hcl, hWs, hall, hf⟩⟩
  refine st1 _ ?_
  show Steps p.tables e below (T1.setTop { method := m, pc := pc + 3, locals := ls, stack := .ref T.heap.size :: rest, locked := none }) _
  jvm_step X₁.here [X₁.here.top, hexec, d3', Value.category]
  exact X₁.ldcString hexec (own := own) (text := text) (index := is) (a := sa) hownZ w2 hev
    (g := { method := m, pc := pc + 4, locals := ls, stack := .ref T.heap.size :: .ref T.heap.size :: rest, locked := none }) rfl (by rw [hb]; exact d4) _ hsteps
end EY
end
section
section EZ
variable {p : Program} {l : Launch} {e : Env} {R : Room} {s : State} {m : MethodId} {args : Array Value} {below : List Frame} {meth : Method} {c : Code} {T : State} {H : Heap} {locs : List Loc} {cells slots : Nat} {Q : State → Prop}
variable {Qc : Array Value → State → Outcome → State → Prop} {XC : String → State → State → Prop} {mc ms : Nat} {free : Addr → Prop}
/-- the method's frame g, an exception q thrown over it -/
def ex_W (p : Program) (l : Launch) (e : Env) (R : Room) (s : State) (m : MethodId) (args : Array Value) (below : List Frame) (meth : Method) (c : Code) (H : Heap) (locs : List Loc) (cells slots : Nat) (Q : State → Prop) (g : JFrame) (q : Addr) : Prop :=
  ∀ T : State, T.heap = H → Stand p l e R s m args below meth c T locs cells slots → ∃ t, Steps p.tables e below ((T.setTop g).pushFrame (.throwing q)) t ∧ Q t
/-- a virtual call of a method that returns or throws: two roads on -/
theorem ex_callV {y : MethodName} {bytes cc : ByteArray} {maxL nL n index : Nat} {ret : Option FieldType} {ws : List Cond} {rm : Room} {Pc : Array Value → State → Prop} {Ts : List Cond} {own C : String} {b : Addr} {As rest : List Value} {pc : Nat} {ls : Array Slot} {st0 : List Value}
    (S : CallFix p m c cc nL s args Ts own) (hM : ex_Met l y ws rm Pc Qc XC mc ms free) (cw : CallW R s args own C index y bytes maxL ret ws rm mc ms n) (hp : PreV s H C b Pc As)
    (hn : As.length = n) (hsize : ls.size = nL) (hstack : st0 = As.reverse ++ .ref b :: rest) (hW : (rest.map fun v => v.category).sum ≤ 8) (hdg : decode cc pc = .ok (.invokevirtual index, 3)) (hf : cells + mc ≤ R.cells ∧ slots + ms ≤ R.slots)
    (kr : ∀ (v : Option Value) (st t : State) (L : List Loc), st.heap = H → s.vm.Alike t.vm → (∀ q ∈ L, free q.base) → Qc (Value.ref b :: As).toArray st (.returned v) t → W p l e R s m args below meth c t.heap (locs ++ L) (cells + mc) (slots + ms) Q (F0 m (pc + 3) ls (v.toList ++ rest)))
    (kx : ∀ (E : String) (ce : Cell) (q : Addr) (st t : State) (L : List Loc), st.heap = H → s.vm.Alike t.vm → (∀ q ∈ L, free q.base) → XC E st t → t.heap[q]? = some ce → ce.vm = .none → s.vm.findClass E = some ce.cls → ex_W p l e R s m args below meth c t.heap (locs ++ L) (cells + mc) (slots + ms) Q (F0 m pc ls rest) q) :
    W p l e R s m args below meth c H locs cells slots Q (F0 m pc ls st0) := by
  obtain ⟨⟨hrc, hrs, hfr, hlo, hws, hcw, hcode, hini, hy, hlen, hl⟩, hin, hse⟩ := cw
  obtain ⟨hx, hb, hml, ho, -⟩ := S
  obtain ⟨hbl, ⟨cellB, hcB, hoB, hclB⟩, hPc⟩ := hp
  intro T hT X
  obtain ⟨mk, methM, hnamed, hmethM, hstM, habM⟩ := Cond.instanceMethod_spec hin
  obtain ⟨methM', cM, hmethM', -, -, -, -, -, -, hsigM⟩ := Cond.code_spec hnamed hcode
  cases hmethM.symm.trans hmethM'
  obtain ⟨c2, r2, m2, q1, q2, q3, q4, kP, hkP, hkPi⟩ := Cond.selects_spec hse
  cases hclB.symm.trans q1
  cases (State.methodFound?_of_named hnamed hy).symm.trans q2
  cases hnamed.symm.trans q3
  have hselP : selectMethod e.platform s.vm cellB.cls mk = .method mk := by rw [Launch.admits_selectMethod X.admits]; exact q4
  obtain ⟨vm₁, X₁, hstep₁⟩ := X.invokevirtual hx ho hl hnamed hmethM hstM hkP hkPi hy (a := b) (cell := cellB) (by rw [hT]; exact hcB)
    (fun z h => by rw [h] at hoB; cases hoB) hselP hmethM habM hkP hkPi (g := F0 m pc ls st0) rfl (argsL := As) (rest := rest) (hn.trans (hlen _ hsigM)) hstack (by rw [hb]; exact hdg)
  have hg9 : ({ F0 m pc ls st0 with stack := rest } : JFrame) = F0 m pc ls rest := rfl
  rw [hg9] at hstep₁
  have hdg' : decode c.code (F0 m pc ls rest).pc = .ok (.invokevirtual index, 3) := by rw [hb]; exact hdg
  have hsz : (F0 m pc ls rest).locals.size = c.maxLocals := hsize.trans hml.symm
  have hn₁ : (T.setVm vm₁).methodNamed? y = some mk := X₁.named hnamed
  have hcode₁ : (Cond.code y bytes maxL ret).before (Value.ref b :: As).toArray (T.setVm vm₁) = true := hws _ hcw _ _ X₁.warmed
  have hini₁ : (Cond.initialized y.cls).before (Value.ref b :: As).toArray (T.setVm vm₁) = true := word_at X₁.warmed (Or.inl (by first | rfl | simp [Cond.onTables, Cond.keeps, Cond.steady])) hini
  obtain ⟨methY, cY, hmY, hcY, -, hlY, -⟩ := Cond.code_spec hn₁ hcode₁
  obtain ⟨kY, hkY, -⟩ := className_of_methodNamed hn₁
  have hinitY : kY.init = .initialized := Cond.initialized_spec (findClass_of_methodNamed hn₁) hkY hini₁
  have hroom : ((T.setVm vm₁).calling (F0 m pc ls rest) mk (Value.ref b :: As).toArray).hasRoom e.platform (headSpec ws rm).room = true :=
    X₁.room_calling (g := F0 m pc ls rest) (R' := (headSpec ws rm).room) hsz hmY hcY hfr (by
      rw [hlY]
      show 2 * 0 + (rest.map fun v => v.category).sum + (maxL + 11) + rm.locals ≤ R.locals
      omega) (by rw [show (headSpec ws rm).room.cells = mc from hrc]; exact hf.1) (by rw [show (headSpec ws rm).room.slots = ms from hrs]; exact hf.2)
  have happ : (headSpec ws rm).appliesLoose y e.platform ((T.setVm vm₁).calling (F0 m pc ls rest) mk (Value.ref b :: As).toArray) = true :=
    Spec.appliesLoose_calling (g := F0 m pc ls rest) X₁.here hdg' hn₁ hkY hinitY hroom (atoms_intro fun w hw => hws w hw _ _ X₁.warmed)
  have hfr₁ : ((T.setVm vm₁).setTop (F0 m pc ls rest)).frames = .java (F0 m pc ls rest) :: below := by rw [State.frames_setTop' _ X₁.here.top, X₁.tail]
  have hP₁ : Pc (Value.ref b :: As).toArray ((T.setVm vm₁).calling (F0 m pc ls rest) mk (Value.ref b :: As).toArray) := hbl _ _ _ _ (hPc (T.setVm vm₁) hT X₁.warmed)
  obtain ⟨o, t, hsteps, -, hend, hq⟩ := Steps.callFree hM p X.admits X.cas X.clock (acts := []) (mid := [.java (F0 m pc ls rest)]) (below := below) hfr₁ happ hP₁ trivial
  rw [hfr₁] at hend
  have hst0 : ((T.setVm vm₁).calling (F0 m pc ls rest) mk (Value.ref b :: As).toArray).heap = H := hT
  have hq' : ex_Q Qc XC mc ms free (Value.ref b :: As).toArray ((T.setVm vm₁).calling (F0 m pc ls rest) mk (Value.ref b :: As).toArray) o t := hq
  rcases hq' with ⟨hqc, L, hfe, hL⟩ | ⟨q, E, ce, L, rfl, hxc, hce, hcv, hcl, hW₂, hsm, hL⟩
  · obtain ⟨⟨v, rfl⟩, hW₂, hsm⟩ := hfe
    obtain ⟨T', X', hw', hs', ht⟩ := X₁.outOf (g := F0 m pc ls rest) rfl hdg' hend hW₂ hsm
    have hth : t.heap = T'.heap := by rw [ht]; rfl
    have htv : t.vm = T'.vm := by rw [ht]; rfl
    obtain ⟨t2, a1, b1⟩ := kr v _ t L hst0 (by rw [htv]; exact X'.warmed.alike) hL hqc T' hth.symm X'
    refine ⟨t2, hstep₁ _ fun acts => ?_, b1⟩
    rw [doInvoke_state]
    refine hsteps.trans ?_
    rw [ht]
    exact a1
  · obtain ⟨T', X', hw', hs', ht⟩ := X₁.outOfThrown (g := F0 m pc ls rest) rfl hend hW₂ hsm
    have hth : t.heap = T'.heap := by rw [ht]; exact Stand.throwing_heap _ _ _
    have htv : t.vm = T'.vm := by rw [ht]; exact Stand.throwing_vm _ _ _
    have hcl9 : s.vm.findClass E = some ce.cls := by
      have h9 : (T.setVm vm₁).vm.findClass E = some ce.cls := hcl
      rw [X₁.warmed.alike.findClass] at h9
      exact h9
    obtain ⟨t2, a1, b1⟩ := kx E ce q _ t L hst0 (by rw [htv]; exact X'.warmed.alike) hL hxc hce hcv hcl9 T' hth.symm X'
    refine ⟨t2, hstep₁ _ fun acts => ?_, b1⟩
    rw [doInvoke_state]
    refine hsteps.trans ?_
    rw [ht]
    exact a1
end EZ
end
section
-- the search of a handler, entries of the method's own table in their order, each linked when it is asked
def ex_F (e : Env) (s : State) (f : JFrame) (a : Addr) (h : Handler) (vm' : Vm) : Prop :=
  ∀ (Q : Handler → Pre) (E : CtlPost) (d : Bool) (acts : List Action), Sem.wp (findHandler f a) Q E e d acts s ↔ Q h d acts (s.setVm vm')
theorem ex_go_ask {e : Env} {s : State} {f : JFrame} {a : Addr} {x : ExceptionTableEntry} {t : List ExceptionTableEntry} {c : ClassId} {cell : Cell} (hx : covers x f.pc = true) (h0 : x.catchType ≠ 0)
    (hl : s.vm.ClassLinks e.platform f.method.cls x.catchType c) (hcell : s.heap[a]? = some cell) (hobj : ∀ k, cell.vm ≠ .statics k)
    (hk : ∃ k, s.vm.classes[cell.cls]? = some k) (hc : ∃ k, s.vm.classes[c]? = some k) (Q : Handler → Pre) (E : CtlPost) (d : Bool) (acts : List Action) :
    Sem.wp (findHandler.go f a (x :: t)) Q E e d acts s ↔
      if s.vm.assignable cell.cls c = true then Q (.found x.handlerPc) d acts (s.setVm (s.vm.noted f.method.cls x.catchType (.cls c))) else Sem.wp (findHandler.go f a t) Q E e d acts (s.setVm (s.vm.noted f.method.cls x.catchType (.cls c))) := by
  simp only [covers] at hx
  obtain ⟨ha, ht⟩ := (resolveClass_links e.toSetting hl).op (op := VmOp.resolveClass f.method.cls x.catchType) rfl
  have hal : s.vm.Alike (s.vm.noted f.method.cls x.catchType (.cls c)) := (Vm.Alike.refl s.vm).noted _ _ _
  obtain ⟨k1, hk1⟩ := hk
  obtain ⟨k2, hk2⟩ := hc
  obtain ⟨k1', hk1', -⟩ := hal.2.2 _ _ hk1
  obtain ⟨k2', hk2', -⟩ := hal.2.2 _ _ hk2
  cases hfit : s.vm.assignable cell.cls c
  · have hf9 : (s.vm.noted f.method.cls x.catchType (.cls c)).assignable cell.cls c = false := by rw [hal.assignable]; exact hfit
    simp [findHandler.go, hx, h0, ha, ht, hcell, hobj, hk1', hk2', hf9, VmOp.dirties, VmOp.acts]
  · have hf9 : (s.vm.noted f.method.cls x.catchType (.cls c)).assignable cell.cls c = true := by rw [hal.assignable]; exact hfit
    simp [findHandler.go, hx, h0, ha, ht, hcell, hobj, hk1', hk2', hf9, VmOp.dirties, VmOp.acts]
/-- the first entry whose class takes an E is the one of handler h; all cover the place -/
def ex_hit (own : String) (args : Array Value) (s : State) (E : String) (pc h : Nat) : List (Nat × Nat × Nat × Nat) → Prop
  | [] => False
  | y :: ys => y.1 ≤ pc ∧ pc < y.2.1 ∧ y.2.2.2 ≠ 0 ∧ ∃ name : String, (Cond.classLink own y.2.2.2 name).before args s = true ∧ (((Cond.castable E name).before args s = true ∧ y.2.2.1 = h) ∨ (va_Nc E name s ∧ ex_hit own args s E pc h ys))
theorem ex_go {e : Env} {s₀ : State} {f : JFrame} {a : Addr} {cell : Cell} {args : Array Value} {own E : String} {h : Nat} (hpl : e.platform.magicAccessors = ({} : Platform).magicAccessors) (hobj : ∀ k, cell.vm ≠ .statics k) (hcl : s₀.vm.findClass E = some cell.cls) (hown : s₀.vm.findClass own = some f.method.cls) :
    ∀ (tab : List ExceptionTableEntry) (S : State), s₀.WarmedH S.vm → S.heap[a]? = some cell → ex_hit own args s₀ E f.pc h (tab.map fun x => (x.startPc, x.endPc, x.handlerPc, x.catchType)) →
      ∃ vm', s₀.WarmedH vm' ∧ ∀ (Q : Handler → Pre) (E : CtlPost) (d : Bool) (acts : List Action), Sem.wp (findHandler.go f a tab) Q E e d acts S ↔ Q (.found h) d acts (S.setVm vm') := by
  obtain ⟨k0, hk0, -⟩ := Vm.findClass_spec hcl
  intro tab
  induction tab with
  | nil => intro S _ _ hh; exact absurd hh (fun z => z)
  | cons x t ih =>
    intro S hW hcell hh
    obtain ⟨c1, c2, c3, name, hlink, hor⟩ := hh
    have hcov : covers x f.pc = true := by
      have h1 : x.startPc ≤ f.pc := c1
      have h2 : f.pc < x.endPc := c2
      simp [covers, h1, h2]
    have h0 : x.catchType ≠ 0 := c3
    obtain ⟨cN, hcN, hlk⟩ := Cond.classLink_spec hown hlink e.platform hpl
    obtain ⟨dk, _, _, kt, hd, _, _, _, _, hkt, _, hopen⟩ := hlk.here
    obtain ⟨k0', hk0', -⟩ := hW.alike.2.2 _ _ hk0
    obtain ⟨kt', hkt', -⟩ := hW.alike.2.2 _ _ hkt
    have hWn : s₀.WarmedH (S.vm.noted f.method.cls x.catchType (.cls cN)) := hW.noted hd hopen (State.rightAt_cls hlk)
    have hask := fun (Q : Handler → Pre) (E : CtlPost) (d : Bool) (acts : List Action) => ex_go_ask (t := t) hcov h0 (hW.classLinks hlk) hcell hobj ⟨k0', hk0'⟩ ⟨kt', hkt'⟩ Q E d acts
    rcases hor with ⟨hcast, hh⟩ | ⟨hno, hrest⟩
    · obtain ⟨e1, e2, f1, f2, hasg⟩ := Cond.castable_spec hcast
      cases Option.some.inj (f1.symm.trans hcl)
      cases Option.some.inj (f2.symm.trans hcN)
      have hfit : S.vm.assignable cell.cls cN = true := by rw [hW.alike.assignable]; exact hasg
      have hh' : x.handlerPc = h := hh
      exact ⟨_, hWn, fun Q E d acts => by rw [hask Q E d acts, if_pos hfit, hh']⟩
    · obtain ⟨e1, e2, f1, f2, hasg⟩ := hno
      cases Option.some.inj (f1.symm.trans hcl)
      cases Option.some.inj (f2.symm.trans hcN)
      have hfit : ¬ S.vm.assignable cell.cls cN = true := by rw [hW.alike.assignable, hasg]; decide
      obtain ⟨vm', hW', hq⟩ := ih (S.setVm (S.vm.noted f.method.cls x.catchType (.cls cN))) hWn hcell hrest
      exact ⟨vm', hW', fun Q E d acts => by rw [hask Q E d acts, if_neg hfit]; exact hq Q E d acts⟩
theorem ex_stepTo {e : Env} {s : State} {a : Addr} {f : JFrame} {r : List Frame} {pc : Nat} {vm' : Vm} (hfind : ex_F e s f a (.found pc) vm') :
    (stepThrowing e s a (.java f :: r)).Is ((s.setVm vm').setFrames (.java { f with pc := pc, stack := [.ref a] } :: r)) [] := by
  simp only [stepThrowing, searchFrame, vmDo]
  generalize hr : Sem.go _ e false [] s = res
  obtain ⟨as, rfl, ha⟩ := Sem.eq_ok_of hr (a := Handler.found pc) (s' := s.setVm vm') (acts' := []) (by simp [hfind _ _ _ _])
  exact ⟨rfl, ha⟩
section EC
variable {p : Program} {l : Launch} {e : Env} {R : Room} {s : State} {m : MethodId} {args : Array Value} {below : List Frame} {meth : Method} {c : Code} {H : Heap} {locs : List Loc} {cells slots : Nat} {Q : State → Prop}
/-- an exception that a call here has thrown is caught here -/
theorem ex_catch {own E : String} {ce : Cell} {q : Addr} {pc h : Nat} {ls : Array Slot} {rest : List Value} {hs : List (Nat × Nat × Nat × Nat)} (hown : s.vm.findClass own = some m.cls) (htab : c.exceptionTable.toList.map (fun x => (x.startPc, x.endPc, x.handlerPc, x.catchType)) = hs) (hhit : ex_hit own args s E pc h hs)
    (hcell : H[q]? = some ce) (hv : ce.vm = .none) (hcl : s.vm.findClass E = some ce.cls)
    (kk : W p l e R s m args below meth c H locs cells slots Q (F0 m h ls [.ref q])) : ex_W p l e R s m args below meth c H locs cells slots Q (F0 m pc ls rest) q := by
  intro T hT X
  have hpl : e.platform.magicAccessors = ({} : Platform).magicAccessors := by rw [X.admits.platform]
  have hh0 : ((T.setTop (F0 m pc ls rest)).pushFrame (.throwing q)).heap = T.heap := Stand.throwing_heap _ _ _
  have hv0 : ((T.setTop (F0 m pc ls rest)).pushFrame (.throwing q)).vm = T.vm := Stand.throwing_vm _ _ _
  obtain ⟨vm', hW', hq⟩ := ex_go (e := e) (s₀ := s) (f := F0 m pc ls rest) (a := q) (cell := ce) (args := args) (own := own) (E := E) (h := h) hpl (fun k z => by rw [hv] at z; cases z) hcl hown c.exceptionTable.toList
    ((T.setTop (F0 m pc ls rest)).pushFrame (.throwing q)) (by rw [hv0]; exact X.warmed) (by rw [hh0, hT]; exact hcell) (by rw [htab]; exact hhit)
  have hfind : ex_F e ((T.setTop (F0 m pc ls rest)).pushFrame (.throwing q)) (F0 m pc ls rest) q (.found h) vm' := by
    intro Q9 E9 d9 acts9
    rw [_root_.Jvm.W.findHandler_eq (meth := meth) (code := c) (by rw [hv0]; exact X.method') X.code]
    exact hq Q9 E9 d9 acts9
  obtain ⟨t, a1, b1⟩ := kk (T.setVm vm') hT (X.noted hW')
  refine ⟨t, ?_, b1⟩
  obtain ⟨hgo, hw⟩ := (show At T (F0 m pc ls rest).method c below from X.here).throwing q
  refine Steps.head hgo hw ?_
  rw [stepThread_throwing (frames_entered X.here.top _), (ex_stepTo (s := (T.setTop (F0 m pc ls rest)).pushFrame (.throwing q)) hfind).1]
  obtain ⟨g₀, hg₀⟩ := X.frames_eq
  have hr' : (T.setVm vm').frames = .java g₀ :: below := hg₀
  rw [State.setTop_of_frames _ hr'] at a1
  rw [hg₀, List.tail_cons, State.pushFrame, State.setTop_of_frames _ hg₀]
  have e1 : ∀ (u : State) (F G : List Frame), ((u.setFrames F).setVm vm').setFrames G = (u.setVm vm').setFrames G := fun u F G => by
    have h1 : (u.setFrames F).setVm vm' = (u.setVm vm').setFrames F := rfl
    rw [h1, State.setFrames_setFrames]
  rw [e1, e1]
  exact a1
end EC
end
section
-- ===== PART A: goes FIRST, ahead of the names: the tables' words, and 'selects' of the private methods out of them =====
/-- a private method of a class that the tables say can be made, by its rows of tables_1 -/
def lw_okq (q : MethodName × Nat) : Prop := (q.1.cls ≠ "java/lang/invoke/MethodHandle" ∧ q.1.cls ≠ "java/lang/invoke/VarHandle") ∧ Cond.instantiable q.1.cls q.2 ∈ tables_1 ∧ Cond.privateMethod q.1 ∈ tables_1 ∧ Cond.instanceMethod q.1 ∈ tables_1
theorem lw_p0 : lw_okq (⟨"HearingDesk$Word", "begin", "(I)V"⟩, 5) := ⟨⟨by decide +kernel, by decide +kernel⟩, List.mem_of_getElem? (i := 151) (by decide +kernel), List.mem_of_getElem? (i := 157) (by decide +kernel), List.mem_of_getElem? (i := 158) (by decide +kernel)⟩
theorem lw_p1 : lw_okq (⟨"java/lang/Throwable", "fillInStackTrace", "(I)Ljava/lang/Throwable;"⟩, 6) := ⟨⟨by decide +kernel, by decide +kernel⟩, List.mem_of_getElem? (i := 288) (by decide +kernel), List.mem_of_getElem? (i := 286) (by decide +kernel), List.mem_of_getElem? (i := 287) (by decide +kernel)⟩
theorem lw_p2 : lw_okq (⟨"HearingDesk$SoundFile", "firstWrongOfHead", "()I"⟩, 2) := ⟨⟨by decide +kernel, by decide +kernel⟩, List.mem_of_getElem? (i := 28) (by decide +kernel), List.mem_of_getElem? (i := 349) (by decide +kernel), List.mem_of_getElem? (i := 350) (by decide +kernel)⟩
theorem lw_p3 : lw_okq (⟨"HearingDesk$SoundFile", "spells", "(IIIII)Z"⟩, 2) := ⟨⟨by decide +kernel, by decide +kernel⟩, List.mem_of_getElem? (i := 28) (by decide +kernel), List.mem_of_getElem? (i := 353) (by decide +kernel), List.mem_of_getElem? (i := 354) (by decide +kernel)⟩
theorem lw_p4 : lw_okq (⟨"HearingDesk$SoundFile", "four", "(I)J"⟩, 2) := ⟨⟨by decide +kernel, by decide +kernel⟩, List.mem_of_getElem? (i := 28) (by decide +kernel), List.mem_of_getElem? (i := 357) (by decide +kernel), List.mem_of_getElem? (i := 358) (by decide +kernel)⟩
theorem lw_p5 : lw_okq (⟨"HearingDesk$SoundFile", "two", "(I)I"⟩, 2) := ⟨⟨by decide +kernel, by decide +kernel⟩, List.mem_of_getElem? (i := 28) (by decide +kernel), List.mem_of_getElem? (i := 361) (by decide +kernel), List.mem_of_getElem? (i := 362) (by decide +kernel)⟩
theorem lw_p6 : lw_okq (⟨"HearingDesk$SoundFile", "firstWrongOfForm", "()I"⟩, 2) := ⟨⟨by decide +kernel, by decide +kernel⟩, List.mem_of_getElem? (i := 28) (by decide +kernel), List.mem_of_getElem? (i := 367) (by decide +kernel), List.mem_of_getElem? (i := 368) (by decide +kernel)⟩
theorem lw_p7 : lw_okq (⟨"HearingDesk$SoundFile", "channels", "()I"⟩, 2) := ⟨⟨by decide +kernel, by decide +kernel⟩, List.mem_of_getElem? (i := 28) (by decide +kernel), List.mem_of_getElem? (i := 371) (by decide +kernel), List.mem_of_getElem? (i := 372) (by decide +kernel)⟩
theorem lw_p8 : lw_okq (⟨"HearingDesk$SoundFile", "width", "()I"⟩, 2) := ⟨⟨by decide +kernel, by decide +kernel⟩, List.mem_of_getElem? (i := 28) (by decide +kernel), List.mem_of_getElem? (i := 381) (by decide +kernel), List.mem_of_getElem? (i := 382) (by decide +kernel)⟩
theorem lw_p9 : lw_okq (⟨"HearingDesk$SoundFile", "bits", "()I"⟩, 2) := ⟨⟨by decide +kernel, by decide +kernel⟩, List.mem_of_getElem? (i := 28) (by decide +kernel), List.mem_of_getElem? (i := 385) (by decide +kernel), List.mem_of_getElem? (i := 386) (by decide +kernel)⟩
theorem lw_p10 : lw_okq (⟨"HearingDesk$SoundFile", "channelAt", "(I)D"⟩, 2) := ⟨⟨by decide +kernel, by decide +kernel⟩, List.mem_of_getElem? (i := 28) (by decide +kernel), List.mem_of_getElem? (i := 403) (by decide +kernel), List.mem_of_getElem? (i := 404) (by decide +kernel)⟩
theorem lw_p11 : lw_okq (⟨"HearingDesk$Sound", "judgeBand", "(III)V"⟩, 7) := ⟨⟨by decide +kernel, by decide +kernel⟩, List.mem_of_getElem? (i := 69) (by decide +kernel), List.mem_of_getElem? (i := 476) (by decide +kernel), List.mem_of_getElem? (i := 477) (by decide +kernel)⟩
theorem lw_p12 : lw_okq (⟨"HearingDesk$PatternBook", "leastBefore", "(II)D"⟩, 3) := ⟨⟨by decide +kernel, by decide +kernel⟩, List.mem_of_getElem? (i := 101) (by decide +kernel), List.mem_of_getElem? (i := 555) (by decide +kernel), List.mem_of_getElem? (i := 556) (by decide +kernel)⟩
theorem lw_p13 : lw_okq (⟨"HearingDesk$Word", "reach", "(I)V"⟩, 5) := ⟨⟨by decide +kernel, by decide +kernel⟩, List.mem_of_getElem? (i := 151) (by decide +kernel), List.mem_of_getElem? (i := 596) (by decide +kernel), List.mem_of_getElem? (i := 597) (by decide +kernel)⟩
theorem lw_p14 : lw_okq (⟨"HearingDesk", "milliseconds", "(I)I"⟩, 10) := ⟨⟨by decide +kernel, by decide +kernel⟩, List.mem_of_getElem? (i := 20) (by decide +kernel), List.mem_of_getElem? (i := 613) (by decide +kernel), List.mem_of_getElem? (i := 614) (by decide +kernel)⟩
theorem lw_p15 : lw_okq (⟨"HearingDesk", "loudFrames", "()I"⟩, 10) := ⟨⟨by decide +kernel, by decide +kernel⟩, List.mem_of_getElem? (i := 20) (by decide +kernel), List.mem_of_getElem? (i := 633) (by decide +kernel), List.mem_of_getElem? (i := 634) (by decide +kernel)⟩
def lw_privs_1 : List (MethodName × Nat) := [(⟨"HearingDesk$Word", "begin", "(I)V"⟩, 5), (⟨"java/lang/Throwable", "fillInStackTrace", "(I)Ljava/lang/Throwable;"⟩, 6), (⟨"HearingDesk$SoundFile", "firstWrongOfHead", "()I"⟩, 2), (⟨"HearingDesk$SoundFile", "spells", "(IIIII)Z"⟩, 2), (⟨"HearingDesk$SoundFile", "four", "(I)J"⟩, 2), (⟨"HearingDesk$SoundFile", "two", "(I)I"⟩, 2), (⟨"HearingDesk$SoundFile", "firstWrongOfForm", "()I"⟩, 2), (⟨"HearingDesk$SoundFile", "channels", "()I"⟩, 2), (⟨"HearingDesk$SoundFile", "width", "()I"⟩, 2), (⟨"HearingDesk$SoundFile", "bits", "()I"⟩, 2), (⟨"HearingDesk$SoundFile", "channelAt", "(I)D"⟩, 2), (⟨"HearingDesk$Sound", "judgeBand", "(III)V"⟩, 7), (⟨"HearingDesk$PatternBook", "leastBefore", "(II)D"⟩, 3), (⟨"HearingDesk$Word", "reach", "(I)V"⟩, 5), (⟨"HearingDesk", "milliseconds", "(I)I"⟩, 10), (⟨"HearingDesk", "loudFrames", "()I"⟩, 10)]
theorem lw_r1 : ∀ q ∈ lw_privs_1, lw_okq q := List.forall_mem_cons.mpr ⟨lw_p0, List.forall_mem_cons.mpr ⟨lw_p1, List.forall_mem_cons.mpr ⟨lw_p2, List.forall_mem_cons.mpr ⟨lw_p3, List.forall_mem_cons.mpr ⟨lw_p4, List.forall_mem_cons.mpr ⟨lw_p5, List.forall_mem_cons.mpr ⟨lw_p6, List.forall_mem_cons.mpr ⟨lw_p7, List.forall_mem_cons.mpr ⟨lw_p8, List.forall_mem_cons.mpr ⟨lw_p9, List.forall_mem_cons.mpr ⟨lw_p10, List.forall_mem_cons.mpr ⟨lw_p11, List.forall_mem_cons.mpr ⟨lw_p12, List.forall_mem_cons.mpr ⟨lw_p13, List.forall_mem_cons.mpr ⟨lw_p14, List.forall_mem_cons.mpr ⟨lw_p15, fun _ h => absurd h List.not_mem_nil⟩⟩⟩⟩⟩⟩⟩⟩⟩⟩⟩⟩⟩⟩⟩⟩
theorem lw_p16 : lw_okq (⟨"HearingDeskModel", "fails", "(ZI)Z"⟩, 27) := ⟨⟨by decide +kernel, by decide +kernel⟩, List.mem_of_getElem? (i := 639) (by decide +kernel), List.mem_of_getElem? (i := 742) (by decide +kernel), List.mem_of_getElem? (i := 743) (by decide +kernel)⟩
theorem lw_p17 : lw_okq (⟨"HearingDeskModel", "wrong", "()I"⟩, 27) := ⟨⟨by decide +kernel, by decide +kernel⟩, List.mem_of_getElem? (i := 639) (by decide +kernel), List.mem_of_getElem? (i := 751) (by decide +kernel), List.mem_of_getElem? (i := 752) (by decide +kernel)⟩
theorem lw_p18 : lw_okq (⟨"HearingDeskModel", "number", "(II)J"⟩, 27) := ⟨⟨by decide +kernel, by decide +kernel⟩, List.mem_of_getElem? (i := 639) (by decide +kernel), List.mem_of_getElem? (i := 755) (by decide +kernel), List.mem_of_getElem? (i := 756) (by decide +kernel)⟩
theorem lw_p19 : lw_okq (⟨"HearingDeskModel", "spells", "(IIIII)Z"⟩, 27) := ⟨⟨by decide +kernel, by decide +kernel⟩, List.mem_of_getElem? (i := 639) (by decide +kernel), List.mem_of_getElem? (i := 759) (by decide +kernel), List.mem_of_getElem? (i := 760) (by decide +kernel)⟩
theorem lw_p20 : lw_okq (⟨"HearingDeskModel", "heard", "(II)D"⟩, 27) := ⟨⟨by decide +kernel, by decide +kernel⟩, List.mem_of_getElem? (i := 639) (by decide +kernel), List.mem_of_getElem? (i := 767) (by decide +kernel), List.mem_of_getElem? (i := 768) (by decide +kernel)⟩
theorem lw_p21 : lw_okq (⟨"HearingDeskModel", "frames", "()I"⟩, 27) := ⟨⟨by decide +kernel, by decide +kernel⟩, List.mem_of_getElem? (i := 639) (by decide +kernel), List.mem_of_getElem? (i := 795) (by decide +kernel), List.mem_of_getElem? (i := 796) (by decide +kernel)⟩
theorem lw_p22 : lw_okq (⟨"HearingDeskModel", "powerOf", "(II)D"⟩, 27) := ⟨⟨by decide +kernel, by decide +kernel⟩, List.mem_of_getElem? (i := 639) (by decide +kernel), List.mem_of_getElem? (i := 799) (by decide +kernel), List.mem_of_getElem? (i := 800) (by decide +kernel)⟩
theorem lw_p23 : lw_okq (⟨"HearingDeskModel", "levelOf", "(II)D"⟩, 27) := ⟨⟨by decide +kernel, by decide +kernel⟩, List.mem_of_getElem? (i := 639) (by decide +kernel), List.mem_of_getElem? (i := 809) (by decide +kernel), List.mem_of_getElem? (i := 810) (by decide +kernel)⟩
theorem lw_p24 : lw_okq (⟨"HearingDeskModel", "bandOf", "(II)D"⟩, 27) := ⟨⟨by decide +kernel, by decide +kernel⟩, List.mem_of_getElem? (i := 639) (by decide +kernel), List.mem_of_getElem? (i := 813) (by decide +kernel), List.mem_of_getElem? (i := 814) (by decide +kernel)⟩
theorem lw_p25 : lw_okq (⟨"HearingDeskModel", "takes", "([DI)V"⟩, 27) := ⟨⟨by decide +kernel, by decide +kernel⟩, List.mem_of_getElem? (i := 639) (by decide +kernel), List.mem_of_getElem? (i := 843) (by decide +kernel), List.mem_of_getElem? (i := 844) (by decide +kernel)⟩
theorem lw_p26 : lw_okq (⟨"HearingDeskModel", "warps", "()D"⟩, 27) := ⟨⟨by decide +kernel, by decide +kernel⟩, List.mem_of_getElem? (i := 639) (by decide +kernel), List.mem_of_getElem? (i := 847) (by decide +kernel), List.mem_of_getElem? (i := 848) (by decide +kernel)⟩
theorem lw_p27 : lw_okq (⟨"HearingDeskModel", "isLoud", "(I)Z"⟩, 27) := ⟨⟨by decide +kernel, by decide +kernel⟩, List.mem_of_getElem? (i := 639) (by decide +kernel), List.mem_of_getElem? (i := 855) (by decide +kernel), List.mem_of_getElem? (i := 856) (by decide +kernel)⟩
theorem lw_p28 : lw_okq (⟨"HearingDeskModel", "writes", "(II)V"⟩, 27) := ⟨⟨by decide +kernel, by decide +kernel⟩, List.mem_of_getElem? (i := 639) (by decide +kernel), List.mem_of_getElem? (i := 859) (by decide +kernel), List.mem_of_getElem? (i := 860) (by decide +kernel)⟩
def lw_privs_2 : List (MethodName × Nat) := [(⟨"HearingDeskModel", "fails", "(ZI)Z"⟩, 27), (⟨"HearingDeskModel", "wrong", "()I"⟩, 27), (⟨"HearingDeskModel", "number", "(II)J"⟩, 27), (⟨"HearingDeskModel", "spells", "(IIIII)Z"⟩, 27), (⟨"HearingDeskModel", "heard", "(II)D"⟩, 27), (⟨"HearingDeskModel", "frames", "()I"⟩, 27), (⟨"HearingDeskModel", "powerOf", "(II)D"⟩, 27), (⟨"HearingDeskModel", "levelOf", "(II)D"⟩, 27), (⟨"HearingDeskModel", "bandOf", "(II)D"⟩, 27), (⟨"HearingDeskModel", "takes", "([DI)V"⟩, 27), (⟨"HearingDeskModel", "warps", "()D"⟩, 27), (⟨"HearingDeskModel", "isLoud", "(I)Z"⟩, 27), (⟨"HearingDeskModel", "writes", "(II)V"⟩, 27)]
theorem lw_r2 : ∀ q ∈ lw_privs_2, lw_okq q := List.forall_mem_cons.mpr ⟨lw_p16, List.forall_mem_cons.mpr ⟨lw_p17, List.forall_mem_cons.mpr ⟨lw_p18, List.forall_mem_cons.mpr ⟨lw_p19, List.forall_mem_cons.mpr ⟨lw_p20, List.forall_mem_cons.mpr ⟨lw_p21, List.forall_mem_cons.mpr ⟨lw_p22, List.forall_mem_cons.mpr ⟨lw_p23, List.forall_mem_cons.mpr ⟨lw_p24, List.forall_mem_cons.mpr ⟨lw_p25, List.forall_mem_cons.mpr ⟨lw_p26, List.forall_mem_cons.mpr ⟨lw_p27, List.forall_mem_cons.mpr ⟨lw_p28, fun _ h => absurd h List.not_mem_nil⟩⟩⟩⟩⟩⟩⟩⟩⟩⟩⟩⟩⟩
def lw_privs : List (MethodName × Nat) := lw_privs_1 ++ (lw_privs_2)
def lw_tbl : List Cond := k2_sels lw_privs ++ tables_1
theorem lw_privs_ok : ∀ q ∈ lw_privs, lw_okq q := by
  show ∀ q ∈ lw_privs_1 ++ (lw_privs_2), lw_okq q
  exact List.forall_mem_append.mpr ⟨lw_r1, lw_r2⟩
end
section
-- the words that all methods here share: those of the tables that stand as long as the tables are only read
def W0 : List Cond := lw_tbl.filter goodWord
theorem W0_ok : ∀ w ∈ W0, w ∈ lw_tbl := fun w h => (List.mem_filter.mp h).1
theorem W0_good {w : Cond} (h : w ∈ W0) : (w.onTables && w.keeps) = true ∨ ∃ ty, w = .arrayClass ty := good_of_word (List.mem_filter.mp h).2
theorem tw_0 : (Jvm.Cond.initialized "HearingDeskLaw") ∈ W0 := List.mem_filter.mpr ⟨List.mem_append_right _ (List.mem_of_getElem? (i := 0) (by decide +kernel)), rfl⟩
theorem tw_1 : (Jvm.Cond.initialized "HearingDesk") ∈ W0 := List.mem_filter.mpr ⟨List.mem_append_right _ (List.mem_of_getElem? (i := 1) (by decide +kernel)), rfl⟩
theorem tw_2 : (Jvm.Cond.initialized "HearingDesk$SoundFile") ∈ W0 := List.mem_filter.mpr ⟨List.mem_append_right _ (List.mem_of_getElem? (i := 2) (by decide +kernel)), rfl⟩
theorem tw_3 : (Jvm.Cond.initialized "HearingDesk$Circle") ∈ W0 := List.mem_filter.mpr ⟨List.mem_append_right _ (List.mem_of_getElem? (i := 3) (by decide +kernel)), rfl⟩
theorem tw_4 : (Jvm.Cond.initialized "HearingDesk$Sound") ∈ W0 := List.mem_filter.mpr ⟨List.mem_append_right _ (List.mem_of_getElem? (i := 4) (by decide +kernel)), rfl⟩
theorem tw_5 : (Jvm.Cond.initialized "HearingDesk$PatternBook") ∈ W0 := List.mem_filter.mpr ⟨List.mem_append_right _ (List.mem_of_getElem? (i := 5) (by decide +kernel)), rfl⟩
theorem tw_6 : (Jvm.Cond.initialized "HearingDesk$Pattern") ∈ W0 := List.mem_filter.mpr ⟨List.mem_append_right _ (List.mem_of_getElem? (i := 6) (by decide +kernel)), rfl⟩
theorem tw_7 : (Jvm.Cond.initialized "HearingDesk$WordList") ∈ W0 := List.mem_filter.mpr ⟨List.mem_append_right _ (List.mem_of_getElem? (i := 7) (by decide +kernel)), rfl⟩
theorem tw_8 : (Jvm.Cond.initialized "HearingDesk$Word") ∈ W0 := List.mem_filter.mpr ⟨List.mem_append_right _ (List.mem_of_getElem? (i := 8) (by decide +kernel)), rfl⟩
theorem tw_9 : (Jvm.Cond.initialized "HearingDeskModel") ∈ W0 := List.mem_filter.mpr ⟨List.mem_append_right _ (List.mem_of_getElem? (i := 9) (by decide +kernel)), rfl⟩
theorem tw_15 : (Jvm.Cond.initialized "HearingDesk$Numbers") ∈ W0 := List.mem_filter.mpr ⟨List.mem_append_right _ (List.mem_of_getElem? (i := 15) (by decide +kernel)), rfl⟩
theorem tw_19 : (Jvm.Cond.classLink "HearingDeskLaw" (8 : Nat) "HearingDesk") ∈ W0 := List.mem_filter.mpr ⟨List.mem_append_right _ (List.mem_of_getElem? (i := 19) (by decide +kernel)), rfl⟩
theorem tw_20 : (Jvm.Cond.instantiable "HearingDesk" (10 : Nat)) ∈ W0 := List.mem_filter.mpr ⟨List.mem_append_right _ (List.mem_of_getElem? (i := 20) (by decide +kernel)), rfl⟩
theorem tw_21 : (Jvm.Cond.methodLink "HearingDeskLaw" (68 : Nat) ({ cls := "HearingDesk", name := "<init>", desc := "()V" } : Jvm.MethodName)) ∈ W0 := List.mem_filter.mpr ⟨List.mem_append_right _ (List.mem_of_getElem? (i := 21) (by decide +kernel)), rfl⟩
theorem tw_22 : (Jvm.Cond.instanceMethod ({ cls := "HearingDesk", name := "<init>", desc := "()V" } : Jvm.MethodName)) ∈ W0 := List.mem_filter.mpr ⟨List.mem_append_right _ (List.mem_of_getElem? (i := 22) (by decide +kernel)), rfl⟩
theorem tw_23 : (Jvm.Cond.code ({ cls := "HearingDesk", name := "<init>", desc := "()V" } : Jvm.MethodName) prog_1_method_1_code (1 : Nat) (Option.none : Option Jvm.ClassFile.FieldType)) ∈ W0 := List.mem_filter.mpr ⟨List.mem_append_right _ (List.mem_of_getElem? (i := 23) (by decide +kernel)), rfl⟩
theorem tw_24 : (Jvm.Cond.methodLink "HearingDesk" (3 : Nat) ({ cls := "java/lang/Object", name := "<init>", desc := "()V" } : Jvm.MethodName)) ∈ W0 := List.mem_filter.mpr ⟨List.mem_append_right _ (List.mem_of_getElem? (i := 24) (by decide +kernel)), rfl⟩
theorem tw_27 : (Jvm.Cond.classLink "HearingDesk" (9 : Nat) "HearingDesk$SoundFile") ∈ W0 := List.mem_filter.mpr ⟨List.mem_append_right _ (List.mem_of_getElem? (i := 27) (by decide +kernel)), rfl⟩
theorem tw_28 : (Jvm.Cond.instantiable "HearingDesk$SoundFile" (2 : Nat)) ∈ W0 := List.mem_filter.mpr ⟨List.mem_append_right _ (List.mem_of_getElem? (i := 28) (by decide +kernel)), rfl⟩
theorem tw_29 : (Jvm.Cond.methodLink "HearingDesk" (11 : Nat) ({ cls := "HearingDesk$SoundFile", name := "<init>", desc := "()V" } : Jvm.MethodName)) ∈ W0 := List.mem_filter.mpr ⟨List.mem_append_right _ (List.mem_of_getElem? (i := 29) (by decide +kernel)), rfl⟩
theorem tw_30 : (Jvm.Cond.instanceMethod ({ cls := "HearingDesk$SoundFile", name := "<init>", desc := "()V" } : Jvm.MethodName)) ∈ W0 := List.mem_filter.mpr ⟨List.mem_append_right _ (List.mem_of_getElem? (i := 30) (by decide +kernel)), rfl⟩
theorem tw_31 : (Jvm.Cond.code ({ cls := "HearingDesk$SoundFile", name := "<init>", desc := "()V" } : Jvm.MethodName) prog_7_method_1_code (1 : Nat) (Option.none : Option Jvm.ClassFile.FieldType)) ∈ W0 := List.mem_filter.mpr ⟨List.mem_append_right _ (List.mem_of_getElem? (i := 31) (by decide +kernel)), rfl⟩
theorem tw_32 : (Jvm.Cond.methodLink "HearingDesk$SoundFile" (3 : Nat) ({ cls := "java/lang/Object", name := "<init>", desc := "()V" } : Jvm.MethodName)) ∈ W0 := List.mem_filter.mpr ⟨List.mem_append_right _ (List.mem_of_getElem? (i := 32) (by decide +kernel)), rfl⟩
theorem tw_33 : (Jvm.Cond.fieldLink "HearingDesk$SoundFile" (9 : Nat) "HearingDesk$SoundFile" "octets" "[I") ∈ W0 := List.mem_filter.mpr ⟨List.mem_append_right _ (List.mem_of_getElem? (i := 33) (by decide +kernel)), rfl⟩
theorem tw_34 : (Jvm.Cond.fieldLink "HearingDesk$SoundFile" (15 : Nat) "HearingDesk$SoundFile" "size" "I") ∈ W0 := List.mem_filter.mpr ⟨List.mem_append_right _ (List.mem_of_getElem? (i := 34) (by decide +kernel)), rfl⟩
theorem tw_36 : (Jvm.Cond.laysFinal "HearingDesk$SoundFile" "HearingDesk$SoundFile" "octets" "[I") ∈ W0 := List.mem_filter.mpr ⟨List.mem_append_right _ (List.mem_of_getElem? (i := 36) (by decide +kernel)), rfl⟩
theorem tw_38 : (Jvm.Cond.lays "HearingDesk$SoundFile" "HearingDesk$SoundFile" "size" "I") ∈ W0 := List.mem_filter.mpr ⟨List.mem_append_right _ (List.mem_of_getElem? (i := 38) (by decide +kernel)), rfl⟩
theorem tw_41 : (Jvm.Cond.arrayClass Jvm.ClassFile.FieldType.int) ∈ W0 := List.mem_filter.mpr ⟨List.mem_append_right _ (List.mem_of_getElem? (i := 41) (by decide +kernel)), rfl⟩
theorem tw_42 : (Jvm.Cond.classLink "HearingDesk" (16 : Nat) "HearingDesk$Circle") ∈ W0 := List.mem_filter.mpr ⟨List.mem_append_right _ (List.mem_of_getElem? (i := 42) (by decide +kernel)), rfl⟩
theorem tw_43 : (Jvm.Cond.instantiable "HearingDesk$Circle" (3 : Nat)) ∈ W0 := List.mem_filter.mpr ⟨List.mem_append_right _ (List.mem_of_getElem? (i := 43) (by decide +kernel)), rfl⟩
theorem tw_44 : (Jvm.Cond.methodLink "HearingDesk" (18 : Nat) ({ cls := "HearingDesk$Circle", name := "<init>", desc := "()V" } : Jvm.MethodName)) ∈ W0 := List.mem_filter.mpr ⟨List.mem_append_right _ (List.mem_of_getElem? (i := 44) (by decide +kernel)), rfl⟩
theorem tw_45 : (Jvm.Cond.instanceMethod ({ cls := "HearingDesk$Circle", name := "<init>", desc := "()V" } : Jvm.MethodName)) ∈ W0 := List.mem_filter.mpr ⟨List.mem_append_right _ (List.mem_of_getElem? (i := 45) (by decide +kernel)), rfl⟩
theorem tw_46 : (Jvm.Cond.code ({ cls := "HearingDesk$Circle", name := "<init>", desc := "()V" } : Jvm.MethodName) prog_2_method_1_code (4 : Nat) (Option.none : Option Jvm.ClassFile.FieldType)) ∈ W0 := List.mem_filter.mpr ⟨List.mem_append_right _ (List.mem_of_getElem? (i := 46) (by decide +kernel)), rfl⟩
theorem tw_47 : (Jvm.Cond.methodLink "HearingDesk$Circle" (3 : Nat) ({ cls := "java/lang/Object", name := "<init>", desc := "()V" } : Jvm.MethodName)) ∈ W0 := List.mem_filter.mpr ⟨List.mem_append_right _ (List.mem_of_getElem? (i := 47) (by decide +kernel)), rfl⟩
theorem tw_48 : (Jvm.Cond.constantDouble "HearingDesk$Circle" (21 : Nat) (4596242258042563864 : UInt64)) ∈ W0 := List.mem_filter.mpr ⟨List.mem_append_right _ (List.mem_of_getElem? (i := 48) (by decide +kernel)), rfl⟩
theorem tw_49 : (Jvm.Cond.methodLink "HearingDesk$Circle" (23 : Nat) ({ cls := "HearingDesk$Circle", name := "series", desc := "(DI)D" } : Jvm.MethodName)) ∈ W0 := List.mem_filter.mpr ⟨List.mem_append_right _ (List.mem_of_getElem? (i := 49) (by decide +kernel)), rfl⟩
theorem tw_50 : (Jvm.Cond.static ({ cls := "HearingDesk$Circle", name := "series", desc := "(DI)D" } : Jvm.MethodName)) ∈ W0 := List.mem_filter.mpr ⟨List.mem_append_right _ (List.mem_of_getElem? (i := 50) (by decide +kernel)), rfl⟩
theorem tw_51 : (Jvm.Cond.code ({ cls := "HearingDesk$Circle", name := "series", desc := "(DI)D" } : Jvm.MethodName) prog_2_method_2_code (6 : Nat) (Option.some Jvm.ClassFile.FieldType.double)) ∈ W0 := List.mem_filter.mpr ⟨List.mem_append_right _ (List.mem_of_getElem? (i := 51) (by decide +kernel)), rfl⟩
theorem tw_52 : (Jvm.Cond.constantDouble "HearingDesk$Circle" (27 : Nat) (4602678819172646912 : UInt64)) ∈ W0 := List.mem_filter.mpr ⟨List.mem_append_right _ (List.mem_of_getElem? (i := 52) (by decide +kernel)), rfl⟩
theorem tw_53 : (Jvm.Cond.fieldLink "HearingDesk$Circle" (9 : Nat) "HearingDesk$Circle" "cosines" "[D") ∈ W0 := List.mem_filter.mpr ⟨List.mem_append_right _ (List.mem_of_getElem? (i := 53) (by decide +kernel)), rfl⟩
theorem tw_56 : (Jvm.Cond.fieldLink "HearingDesk$Circle" (15 : Nat) "HearingDesk$Circle" "sines" "[D") ∈ W0 := List.mem_filter.mpr ⟨List.mem_append_right _ (List.mem_of_getElem? (i := 56) (by decide +kernel)), rfl⟩
theorem tw_58 : (Jvm.Cond.fieldLink "HearingDesk$Circle" (18 : Nat) "HearingDesk$Circle" "window" "[D") ∈ W0 := List.mem_filter.mpr ⟨List.mem_append_right _ (List.mem_of_getElem? (i := 58) (by decide +kernel)), rfl⟩
theorem tw_60 : (Jvm.Cond.laysFinal "HearingDesk$Circle" "HearingDesk$Circle" "cosines" "[D") ∈ W0 := List.mem_filter.mpr ⟨List.mem_append_right _ (List.mem_of_getElem? (i := 60) (by decide +kernel)), rfl⟩
theorem tw_62 : (Jvm.Cond.laysFinal "HearingDesk$Circle" "HearingDesk$Circle" "sines" "[D") ∈ W0 := List.mem_filter.mpr ⟨List.mem_append_right _ (List.mem_of_getElem? (i := 62) (by decide +kernel)), rfl⟩
theorem tw_64 : (Jvm.Cond.laysFinal "HearingDesk$Circle" "HearingDesk$Circle" "window" "[D") ∈ W0 := List.mem_filter.mpr ⟨List.mem_append_right _ (List.mem_of_getElem? (i := 64) (by decide +kernel)), rfl⟩
theorem tw_67 : (Jvm.Cond.arrayClass Jvm.ClassFile.FieldType.double) ∈ W0 := List.mem_filter.mpr ⟨List.mem_append_right _ (List.mem_of_getElem? (i := 67) (by decide +kernel)), rfl⟩
theorem tw_68 : (Jvm.Cond.classLink "HearingDesk" (23 : Nat) "HearingDesk$Sound") ∈ W0 := List.mem_filter.mpr ⟨List.mem_append_right _ (List.mem_of_getElem? (i := 68) (by decide +kernel)), rfl⟩
theorem tw_69 : (Jvm.Cond.instantiable "HearingDesk$Sound" (7 : Nat)) ∈ W0 := List.mem_filter.mpr ⟨List.mem_append_right _ (List.mem_of_getElem? (i := 69) (by decide +kernel)), rfl⟩
theorem tw_70 : (Jvm.Cond.methodLink "HearingDesk" (25 : Nat) ({ cls := "HearingDesk$Sound", name := "<init>", desc := "(LHearingDesk$Circle;)V" } : Jvm.MethodName)) ∈ W0 := List.mem_filter.mpr ⟨List.mem_append_right _ (List.mem_of_getElem? (i := 70) (by decide +kernel)), rfl⟩
theorem tw_71 : (Jvm.Cond.instanceMethod ({ cls := "HearingDesk$Sound", name := "<init>", desc := "(LHearingDesk$Circle;)V" } : Jvm.MethodName)) ∈ W0 := List.mem_filter.mpr ⟨List.mem_append_right _ (List.mem_of_getElem? (i := 71) (by decide +kernel)), rfl⟩
theorem tw_72 : (Jvm.Cond.code ({ cls := "HearingDesk$Sound", name := "<init>", desc := "(LHearingDesk$Circle;)V" } : Jvm.MethodName) prog_6_method_1_code (2 : Nat) (Option.none : Option Jvm.ClassFile.FieldType)) ∈ W0 := List.mem_filter.mpr ⟨List.mem_append_right _ (List.mem_of_getElem? (i := 72) (by decide +kernel)), rfl⟩
theorem tw_73 : (Jvm.Cond.methodLink "HearingDesk$Sound" (3 : Nat) ({ cls := "java/lang/Object", name := "<init>", desc := "()V" } : Jvm.MethodName)) ∈ W0 := List.mem_filter.mpr ⟨List.mem_append_right _ (List.mem_of_getElem? (i := 73) (by decide +kernel)), rfl⟩
theorem tw_74 : (Jvm.Cond.fieldLink "HearingDesk$Sound" (9 : Nat) "HearingDesk$Sound" "circle" "LHearingDesk$Circle;") ∈ W0 := List.mem_filter.mpr ⟨List.mem_append_right _ (List.mem_of_getElem? (i := 74) (by decide +kernel)), rfl⟩
theorem tw_75 : (Jvm.Cond.fieldLink "HearingDesk$Sound" (15 : Nat) "HearingDesk$Sound" "samples" "[D") ∈ W0 := List.mem_filter.mpr ⟨List.mem_append_right _ (List.mem_of_getElem? (i := 75) (by decide +kernel)), rfl⟩
theorem tw_77 : (Jvm.Cond.fieldLink "HearingDesk$Sound" (19 : Nat) "HearingDesk$Sound" "weighed" "[D") ∈ W0 := List.mem_filter.mpr ⟨List.mem_append_right _ (List.mem_of_getElem? (i := 77) (by decide +kernel)), rfl⟩
theorem tw_78 : (Jvm.Cond.fieldLink "HearingDesk$Sound" (22 : Nat) "HearingDesk$Sound" "sums" "[D") ∈ W0 := List.mem_filter.mpr ⟨List.mem_append_right _ (List.mem_of_getElem? (i := 78) (by decide +kernel)), rfl⟩
theorem tw_79 : (Jvm.Cond.fieldLink "HearingDesk$Sound" (25 : Nat) "HearingDesk$Sound" "levels" "[D") ∈ W0 := List.mem_filter.mpr ⟨List.mem_append_right _ (List.mem_of_getElem? (i := 79) (by decide +kernel)), rfl⟩
theorem tw_82 : (Jvm.Cond.fieldLink "HearingDesk$Sound" (28 : Nat) "HearingDesk$Sound" "size" "I") ∈ W0 := List.mem_filter.mpr ⟨List.mem_append_right _ (List.mem_of_getElem? (i := 82) (by decide +kernel)), rfl⟩
theorem tw_84 : (Jvm.Cond.fieldLink "HearingDesk$Sound" (32 : Nat) "HearingDesk$Sound" "judged" "I") ∈ W0 := List.mem_filter.mpr ⟨List.mem_append_right _ (List.mem_of_getElem? (i := 84) (by decide +kernel)), rfl⟩
theorem tw_85 : (Jvm.Cond.laysFinal "HearingDesk$Sound" "HearingDesk$Sound" "circle" "LHearingDesk$Circle;") ∈ W0 := List.mem_filter.mpr ⟨List.mem_append_right _ (List.mem_of_getElem? (i := 85) (by decide +kernel)), rfl⟩
theorem tw_87 : (Jvm.Cond.laysFinal "HearingDesk$Sound" "HearingDesk$Sound" "samples" "[D") ∈ W0 := List.mem_filter.mpr ⟨List.mem_append_right _ (List.mem_of_getElem? (i := 87) (by decide +kernel)), rfl⟩
theorem tw_89 : (Jvm.Cond.laysFinal "HearingDesk$Sound" "HearingDesk$Sound" "weighed" "[D") ∈ W0 := List.mem_filter.mpr ⟨List.mem_append_right _ (List.mem_of_getElem? (i := 89) (by decide +kernel)), rfl⟩
theorem tw_91 : (Jvm.Cond.laysFinal "HearingDesk$Sound" "HearingDesk$Sound" "sums" "[D") ∈ W0 := List.mem_filter.mpr ⟨List.mem_append_right _ (List.mem_of_getElem? (i := 91) (by decide +kernel)), rfl⟩
theorem tw_93 : (Jvm.Cond.laysFinal "HearingDesk$Sound" "HearingDesk$Sound" "levels" "[D") ∈ W0 := List.mem_filter.mpr ⟨List.mem_append_right _ (List.mem_of_getElem? (i := 93) (by decide +kernel)), rfl⟩
theorem tw_95 : (Jvm.Cond.lays "HearingDesk$Sound" "HearingDesk$Sound" "size" "I") ∈ W0 := List.mem_filter.mpr ⟨List.mem_append_right _ (List.mem_of_getElem? (i := 95) (by decide +kernel)), rfl⟩
theorem tw_97 : (Jvm.Cond.lays "HearingDesk$Sound" "HearingDesk$Sound" "judged" "I") ∈ W0 := List.mem_filter.mpr ⟨List.mem_append_right _ (List.mem_of_getElem? (i := 97) (by decide +kernel)), rfl⟩
theorem tw_100 : (Jvm.Cond.classLink "HearingDesk" (32 : Nat) "HearingDesk$PatternBook") ∈ W0 := List.mem_filter.mpr ⟨List.mem_append_right _ (List.mem_of_getElem? (i := 100) (by decide +kernel)), rfl⟩
theorem tw_101 : (Jvm.Cond.instantiable "HearingDesk$PatternBook" (3 : Nat)) ∈ W0 := List.mem_filter.mpr ⟨List.mem_append_right _ (List.mem_of_getElem? (i := 101) (by decide +kernel)), rfl⟩
theorem tw_102 : (Jvm.Cond.methodLink "HearingDesk" (34 : Nat) ({ cls := "HearingDesk$PatternBook", name := "<init>", desc := "()V" } : Jvm.MethodName)) ∈ W0 := List.mem_filter.mpr ⟨List.mem_append_right _ (List.mem_of_getElem? (i := 102) (by decide +kernel)), rfl⟩
theorem tw_103 : (Jvm.Cond.instanceMethod ({ cls := "HearingDesk$PatternBook", name := "<init>", desc := "()V" } : Jvm.MethodName)) ∈ W0 := List.mem_filter.mpr ⟨List.mem_append_right _ (List.mem_of_getElem? (i := 103) (by decide +kernel)), rfl⟩
theorem tw_104 : (Jvm.Cond.code ({ cls := "HearingDesk$PatternBook", name := "<init>", desc := "()V" } : Jvm.MethodName) prog_5_method_1_code (2 : Nat) (Option.none : Option Jvm.ClassFile.FieldType)) ∈ W0 := List.mem_filter.mpr ⟨List.mem_append_right _ (List.mem_of_getElem? (i := 104) (by decide +kernel)), rfl⟩
theorem tw_105 : (Jvm.Cond.methodLink "HearingDesk$PatternBook" (3 : Nat) ({ cls := "java/lang/Object", name := "<init>", desc := "()V" } : Jvm.MethodName)) ∈ W0 := List.mem_filter.mpr ⟨List.mem_append_right _ (List.mem_of_getElem? (i := 105) (by decide +kernel)), rfl⟩
theorem tw_106 : (Jvm.Cond.classLink "HearingDesk$PatternBook" (9 : Nat) "HearingDesk$Pattern") ∈ W0 := List.mem_filter.mpr ⟨List.mem_append_right _ (List.mem_of_getElem? (i := 106) (by decide +kernel)), rfl⟩
theorem tw_108 : (Jvm.Cond.instantiable "HearingDesk$Pattern" (3 : Nat)) ∈ W0 := List.mem_filter.mpr ⟨List.mem_append_right _ (List.mem_of_getElem? (i := 108) (by decide +kernel)), rfl⟩
theorem tw_109 : (Jvm.Cond.methodLink "HearingDesk$PatternBook" (17 : Nat) ({ cls := "HearingDesk$Pattern", name := "<init>", desc := "()V" } : Jvm.MethodName)) ∈ W0 := List.mem_filter.mpr ⟨List.mem_append_right _ (List.mem_of_getElem? (i := 109) (by decide +kernel)), rfl⟩
theorem tw_110 : (Jvm.Cond.instanceMethod ({ cls := "HearingDesk$Pattern", name := "<init>", desc := "()V" } : Jvm.MethodName)) ∈ W0 := List.mem_filter.mpr ⟨List.mem_append_right _ (List.mem_of_getElem? (i := 110) (by decide +kernel)), rfl⟩
theorem tw_111 : (Jvm.Cond.code ({ cls := "HearingDesk$Pattern", name := "<init>", desc := "()V" } : Jvm.MethodName) prog_4_method_1_code (1 : Nat) (Option.none : Option Jvm.ClassFile.FieldType)) ∈ W0 := List.mem_filter.mpr ⟨List.mem_append_right _ (List.mem_of_getElem? (i := 111) (by decide +kernel)), rfl⟩
theorem tw_112 : (Jvm.Cond.methodLink "HearingDesk$Pattern" (3 : Nat) ({ cls := "java/lang/Object", name := "<init>", desc := "()V" } : Jvm.MethodName)) ∈ W0 := List.mem_filter.mpr ⟨List.mem_append_right _ (List.mem_of_getElem? (i := 112) (by decide +kernel)), rfl⟩
theorem tw_113 : (Jvm.Cond.fieldLink "HearingDesk$Pattern" (9 : Nat) "HearingDesk$Pattern" "levels" "[D") ∈ W0 := List.mem_filter.mpr ⟨List.mem_append_right _ (List.mem_of_getElem? (i := 113) (by decide +kernel)), rfl⟩
theorem tw_116 : (Jvm.Cond.fieldLink "HearingDesk$Pattern" (15 : Nat) "HearingDesk$Pattern" "letter" "I") ∈ W0 := List.mem_filter.mpr ⟨List.mem_append_right _ (List.mem_of_getElem? (i := 116) (by decide +kernel)), rfl⟩
theorem tw_119 : (Jvm.Cond.fieldLink "HearingDesk$Pattern" (19 : Nat) "HearingDesk$Pattern" "rows" "I") ∈ W0 := List.mem_filter.mpr ⟨List.mem_append_right _ (List.mem_of_getElem? (i := 119) (by decide +kernel)), rfl⟩
theorem tw_122 : (Jvm.Cond.laysFinal "HearingDesk$Pattern" "HearingDesk$Pattern" "levels" "[D") ∈ W0 := List.mem_filter.mpr ⟨List.mem_append_right _ (List.mem_of_getElem? (i := 122) (by decide +kernel)), rfl⟩
theorem tw_124 : (Jvm.Cond.lays "HearingDesk$Pattern" "HearingDesk$Pattern" "letter" "I") ∈ W0 := List.mem_filter.mpr ⟨List.mem_append_right _ (List.mem_of_getElem? (i := 124) (by decide +kernel)), rfl⟩
theorem tw_126 : (Jvm.Cond.lays "HearingDesk$Pattern" "HearingDesk$Pattern" "rows" "I") ∈ W0 := List.mem_filter.mpr ⟨List.mem_append_right _ (List.mem_of_getElem? (i := 126) (by decide +kernel)), rfl⟩
theorem tw_129 : (Jvm.Cond.fieldLink "HearingDesk$PatternBook" (11 : Nat) "HearingDesk$PatternBook" "patterns" "[LHearingDesk$Pattern;") ∈ W0 := List.mem_filter.mpr ⟨List.mem_append_right _ (List.mem_of_getElem? (i := 129) (by decide +kernel)), rfl⟩
theorem tw_132 : (Jvm.Cond.fieldLink "HearingDesk$PatternBook" (18 : Nat) "HearingDesk$PatternBook" "paths" "[D") ∈ W0 := List.mem_filter.mpr ⟨List.mem_append_right _ (List.mem_of_getElem? (i := 132) (by decide +kernel)), rfl⟩
theorem tw_133 : (Jvm.Cond.fieldLink "HearingDesk$PatternBook" (22 : Nat) "HearingDesk$PatternBook" "size" "I") ∈ W0 := List.mem_filter.mpr ⟨List.mem_append_right _ (List.mem_of_getElem? (i := 133) (by decide +kernel)), rfl⟩
theorem tw_136 : (Jvm.Cond.laysFinal "HearingDesk$PatternBook" "HearingDesk$PatternBook" "patterns" "[LHearingDesk$Pattern;") ∈ W0 := List.mem_filter.mpr ⟨List.mem_append_right _ (List.mem_of_getElem? (i := 136) (by decide +kernel)), rfl⟩
theorem tw_138 : (Jvm.Cond.laysFinal "HearingDesk$PatternBook" "HearingDesk$PatternBook" "paths" "[D") ∈ W0 := List.mem_filter.mpr ⟨List.mem_append_right _ (List.mem_of_getElem? (i := 138) (by decide +kernel)), rfl⟩
theorem tw_140 : (Jvm.Cond.lays "HearingDesk$PatternBook" "HearingDesk$PatternBook" "size" "I") ∈ W0 := List.mem_filter.mpr ⟨List.mem_append_right _ (List.mem_of_getElem? (i := 140) (by decide +kernel)), rfl⟩
theorem tw_143 : (Jvm.Cond.classLink "HearingDesk" (39 : Nat) "HearingDesk$WordList") ∈ W0 := List.mem_filter.mpr ⟨List.mem_append_right _ (List.mem_of_getElem? (i := 143) (by decide +kernel)), rfl⟩
theorem tw_144 : (Jvm.Cond.instantiable "HearingDesk$WordList" (2 : Nat)) ∈ W0 := List.mem_filter.mpr ⟨List.mem_append_right _ (List.mem_of_getElem? (i := 144) (by decide +kernel)), rfl⟩
theorem tw_145 : (Jvm.Cond.methodLink "HearingDesk" (41 : Nat) ({ cls := "HearingDesk$WordList", name := "<init>", desc := "()V" } : Jvm.MethodName)) ∈ W0 := List.mem_filter.mpr ⟨List.mem_append_right _ (List.mem_of_getElem? (i := 145) (by decide +kernel)), rfl⟩
theorem tw_146 : (Jvm.Cond.instanceMethod ({ cls := "HearingDesk$WordList", name := "<init>", desc := "()V" } : Jvm.MethodName)) ∈ W0 := List.mem_filter.mpr ⟨List.mem_append_right _ (List.mem_of_getElem? (i := 146) (by decide +kernel)), rfl⟩
theorem tw_147 : (Jvm.Cond.code ({ cls := "HearingDesk$WordList", name := "<init>", desc := "()V" } : Jvm.MethodName) prog_9_method_1_code (2 : Nat) (Option.none : Option Jvm.ClassFile.FieldType)) ∈ W0 := List.mem_filter.mpr ⟨List.mem_append_right _ (List.mem_of_getElem? (i := 147) (by decide +kernel)), rfl⟩
theorem tw_148 : (Jvm.Cond.methodLink "HearingDesk$WordList" (3 : Nat) ({ cls := "java/lang/Object", name := "<init>", desc := "()V" } : Jvm.MethodName)) ∈ W0 := List.mem_filter.mpr ⟨List.mem_append_right _ (List.mem_of_getElem? (i := 148) (by decide +kernel)), rfl⟩
theorem tw_149 : (Jvm.Cond.classLink "HearingDesk$WordList" (9 : Nat) "HearingDesk$Word") ∈ W0 := List.mem_filter.mpr ⟨List.mem_append_right _ (List.mem_of_getElem? (i := 149) (by decide +kernel)), rfl⟩
theorem tw_151 : (Jvm.Cond.instantiable "HearingDesk$Word" (5 : Nat)) ∈ W0 := List.mem_filter.mpr ⟨List.mem_append_right _ (List.mem_of_getElem? (i := 151) (by decide +kernel)), rfl⟩
theorem tw_152 : (Jvm.Cond.methodLink "HearingDesk$WordList" (17 : Nat) ({ cls := "HearingDesk$Word", name := "<init>", desc := "()V" } : Jvm.MethodName)) ∈ W0 := List.mem_filter.mpr ⟨List.mem_append_right _ (List.mem_of_getElem? (i := 152) (by decide +kernel)), rfl⟩
theorem tw_153 : (Jvm.Cond.instanceMethod ({ cls := "HearingDesk$Word", name := "<init>", desc := "()V" } : Jvm.MethodName)) ∈ W0 := List.mem_filter.mpr ⟨List.mem_append_right _ (List.mem_of_getElem? (i := 153) (by decide +kernel)), rfl⟩
theorem tw_154 : (Jvm.Cond.code ({ cls := "HearingDesk$Word", name := "<init>", desc := "()V" } : Jvm.MethodName) prog_8_method_1_code (1 : Nat) (Option.none : Option Jvm.ClassFile.FieldType)) ∈ W0 := List.mem_filter.mpr ⟨List.mem_append_right _ (List.mem_of_getElem? (i := 154) (by decide +kernel)), rfl⟩
theorem tw_155 : (Jvm.Cond.methodLink "HearingDesk$Word" (3 : Nat) ({ cls := "java/lang/Object", name := "<init>", desc := "()V" } : Jvm.MethodName)) ∈ W0 := List.mem_filter.mpr ⟨List.mem_append_right _ (List.mem_of_getElem? (i := 155) (by decide +kernel)), rfl⟩
theorem tw_156 : (Jvm.Cond.methodLink "HearingDesk$Word" (9 : Nat) ({ cls := "HearingDesk$Word", name := "begin", desc := "(I)V" } : Jvm.MethodName)) ∈ W0 := List.mem_filter.mpr ⟨List.mem_append_right _ (List.mem_of_getElem? (i := 156) (by decide +kernel)), rfl⟩
theorem tw_158 : (Jvm.Cond.instanceMethod ({ cls := "HearingDesk$Word", name := "begin", desc := "(I)V" } : Jvm.MethodName)) ∈ W0 := List.mem_filter.mpr ⟨List.mem_append_right _ (List.mem_of_getElem? (i := 158) (by decide +kernel)), rfl⟩
theorem tw_159 : (Jvm.Cond.code ({ cls := "HearingDesk$Word", name := "begin", desc := "(I)V" } : Jvm.MethodName) prog_8_method_2_code (2 : Nat) (Option.none : Option Jvm.ClassFile.FieldType)) ∈ W0 := List.mem_filter.mpr ⟨List.mem_append_right _ (List.mem_of_getElem? (i := 159) (by decide +kernel)), rfl⟩
theorem tw_160 : (Jvm.Cond.fieldLink "HearingDesk$Word" (15 : Nat) "HearingDesk$Word" "first" "I") ∈ W0 := List.mem_filter.mpr ⟨List.mem_append_right _ (List.mem_of_getElem? (i := 160) (by decide +kernel)), rfl⟩
theorem tw_162 : (Jvm.Cond.fieldLink "HearingDesk$Word" (19 : Nat) "HearingDesk$Word" "frames" "I") ∈ W0 := List.mem_filter.mpr ⟨List.mem_append_right _ (List.mem_of_getElem? (i := 162) (by decide +kernel)), rfl⟩
theorem tw_164 : (Jvm.Cond.fieldLink "HearingDesk$Word" (22 : Nat) "HearingDesk$Word" "nearest" "I") ∈ W0 := List.mem_filter.mpr ⟨List.mem_append_right _ (List.mem_of_getElem? (i := 164) (by decide +kernel)), rfl⟩
theorem tw_166 : (Jvm.Cond.fieldLink "HearingDesk$Word" (25 : Nat) "HearingDesk$Word" "letter" "I") ∈ W0 := List.mem_filter.mpr ⟨List.mem_append_right _ (List.mem_of_getElem? (i := 166) (by decide +kernel)), rfl⟩
theorem tw_168 : (Jvm.Cond.fieldLink "HearingDesk$Word" (28 : Nat) "HearingDesk$Word" "leastWarp" "D") ∈ W0 := List.mem_filter.mpr ⟨List.mem_append_right _ (List.mem_of_getElem? (i := 168) (by decide +kernel)), rfl⟩
theorem tw_170 : (Jvm.Cond.lays "HearingDesk$Word" "HearingDesk$Word" "first" "I") ∈ W0 := List.mem_filter.mpr ⟨List.mem_append_right _ (List.mem_of_getElem? (i := 170) (by decide +kernel)), rfl⟩
theorem tw_172 : (Jvm.Cond.lays "HearingDesk$Word" "HearingDesk$Word" "frames" "I") ∈ W0 := List.mem_filter.mpr ⟨List.mem_append_right _ (List.mem_of_getElem? (i := 172) (by decide +kernel)), rfl⟩
theorem tw_174 : (Jvm.Cond.lays "HearingDesk$Word" "HearingDesk$Word" "nearest" "I") ∈ W0 := List.mem_filter.mpr ⟨List.mem_append_right _ (List.mem_of_getElem? (i := 174) (by decide +kernel)), rfl⟩
theorem tw_176 : (Jvm.Cond.lays "HearingDesk$Word" "HearingDesk$Word" "letter" "I") ∈ W0 := List.mem_filter.mpr ⟨List.mem_append_right _ (List.mem_of_getElem? (i := 176) (by decide +kernel)), rfl⟩
theorem tw_178 : (Jvm.Cond.lays "HearingDesk$Word" "HearingDesk$Word" "leastWarp" "D") ∈ W0 := List.mem_filter.mpr ⟨List.mem_append_right _ (List.mem_of_getElem? (i := 178) (by decide +kernel)), rfl⟩
theorem tw_181 : (Jvm.Cond.fieldLink "HearingDesk$WordList" (11 : Nat) "HearingDesk$WordList" "row" "[LHearingDesk$Word;") ∈ W0 := List.mem_filter.mpr ⟨List.mem_append_right _ (List.mem_of_getElem? (i := 181) (by decide +kernel)), rfl⟩
theorem tw_183 : (Jvm.Cond.fieldLink "HearingDesk$WordList" (18 : Nat) "HearingDesk$WordList" "size" "I") ∈ W0 := List.mem_filter.mpr ⟨List.mem_append_right _ (List.mem_of_getElem? (i := 183) (by decide +kernel)), rfl⟩
theorem tw_185 : (Jvm.Cond.laysFinal "HearingDesk$WordList" "HearingDesk$WordList" "row" "[LHearingDesk$Word;") ∈ W0 := List.mem_filter.mpr ⟨List.mem_append_right _ (List.mem_of_getElem? (i := 185) (by decide +kernel)), rfl⟩
theorem tw_187 : (Jvm.Cond.lays "HearingDesk$WordList" "HearingDesk$WordList" "size" "I") ∈ W0 := List.mem_filter.mpr ⟨List.mem_append_right _ (List.mem_of_getElem? (i := 187) (by decide +kernel)), rfl⟩
theorem tw_190 : (Jvm.Cond.constantDouble "HearingDesk" (53 : Nat) (4576918229304087675 : UInt64)) ∈ W0 := List.mem_filter.mpr ⟨List.mem_append_right _ (List.mem_of_getElem? (i := 190) (by decide +kernel)), rfl⟩
theorem tw_191 : (Jvm.Cond.constantDouble "HearingDesk" (62 : Nat) (4616189618054758400 : UInt64)) ∈ W0 := List.mem_filter.mpr ⟨List.mem_append_right _ (List.mem_of_getElem? (i := 191) (by decide +kernel)), rfl⟩
theorem tw_192 : (Jvm.Cond.fieldLink "HearingDesk" (12 : Nat) "HearingDesk" "file" "LHearingDesk$SoundFile;") ∈ W0 := List.mem_filter.mpr ⟨List.mem_append_right _ (List.mem_of_getElem? (i := 192) (by decide +kernel)), rfl⟩
theorem tw_193 : (Jvm.Cond.fieldLink "HearingDesk" (19 : Nat) "HearingDesk" "circle" "LHearingDesk$Circle;") ∈ W0 := List.mem_filter.mpr ⟨List.mem_append_right _ (List.mem_of_getElem? (i := 193) (by decide +kernel)), rfl⟩
theorem tw_194 : (Jvm.Cond.fieldLink "HearingDesk" (28 : Nat) "HearingDesk" "sound" "LHearingDesk$Sound;") ∈ W0 := List.mem_filter.mpr ⟨List.mem_append_right _ (List.mem_of_getElem? (i := 194) (by decide +kernel)), rfl⟩
theorem tw_195 : (Jvm.Cond.fieldLink "HearingDesk" (35 : Nat) "HearingDesk" "book" "LHearingDesk$PatternBook;") ∈ W0 := List.mem_filter.mpr ⟨List.mem_append_right _ (List.mem_of_getElem? (i := 195) (by decide +kernel)), rfl⟩
theorem tw_196 : (Jvm.Cond.fieldLink "HearingDesk" (42 : Nat) "HearingDesk" "words" "LHearingDesk$WordList;") ∈ W0 := List.mem_filter.mpr ⟨List.mem_append_right _ (List.mem_of_getElem? (i := 196) (by decide +kernel)), rfl⟩
theorem tw_197 : (Jvm.Cond.fieldLink "HearingDesk" (46 : Nat) "HearingDesk" "rate" "I") ∈ W0 := List.mem_filter.mpr ⟨List.mem_append_right _ (List.mem_of_getElem? (i := 197) (by decide +kernel)), rfl⟩
theorem tw_198 : (Jvm.Cond.fieldLink "HearingDesk" (50 : Nat) "HearingDesk" "wrongPlace" "I") ∈ W0 := List.mem_filter.mpr ⟨List.mem_append_right _ (List.mem_of_getElem? (i := 198) (by decide +kernel)), rfl⟩
theorem tw_199 : (Jvm.Cond.fieldLink "HearingDesk" (55 : Nat) "HearingDesk" "threshold" "D") ∈ W0 := List.mem_filter.mpr ⟨List.mem_append_right _ (List.mem_of_getElem? (i := 199) (by decide +kernel)), rfl⟩
theorem tw_200 : (Jvm.Cond.fieldLink "HearingDesk" (59 : Nat) "HearingDesk" "gap" "I") ∈ W0 := List.mem_filter.mpr ⟨List.mem_append_right _ (List.mem_of_getElem? (i := 200) (by decide +kernel)), rfl⟩
theorem tw_201 : (Jvm.Cond.fieldLink "HearingDesk" (64 : Nat) "HearingDesk" "limit" "D") ∈ W0 := List.mem_filter.mpr ⟨List.mem_append_right _ (List.mem_of_getElem? (i := 201) (by decide +kernel)), rfl⟩
theorem tw_202 : (Jvm.Cond.laysFinal "HearingDesk" "HearingDesk" "file" "LHearingDesk$SoundFile;") ∈ W0 := List.mem_filter.mpr ⟨List.mem_append_right _ (List.mem_of_getElem? (i := 202) (by decide +kernel)), rfl⟩
theorem tw_204 : (Jvm.Cond.laysFinal "HearingDesk" "HearingDesk" "circle" "LHearingDesk$Circle;") ∈ W0 := List.mem_filter.mpr ⟨List.mem_append_right _ (List.mem_of_getElem? (i := 204) (by decide +kernel)), rfl⟩
theorem tw_206 : (Jvm.Cond.laysFinal "HearingDesk" "HearingDesk" "sound" "LHearingDesk$Sound;") ∈ W0 := List.mem_filter.mpr ⟨List.mem_append_right _ (List.mem_of_getElem? (i := 206) (by decide +kernel)), rfl⟩
theorem tw_208 : (Jvm.Cond.laysFinal "HearingDesk" "HearingDesk" "book" "LHearingDesk$PatternBook;") ∈ W0 := List.mem_filter.mpr ⟨List.mem_append_right _ (List.mem_of_getElem? (i := 208) (by decide +kernel)), rfl⟩
theorem tw_210 : (Jvm.Cond.laysFinal "HearingDesk" "HearingDesk" "words" "LHearingDesk$WordList;") ∈ W0 := List.mem_filter.mpr ⟨List.mem_append_right _ (List.mem_of_getElem? (i := 210) (by decide +kernel)), rfl⟩
theorem tw_212 : (Jvm.Cond.lays "HearingDesk" "HearingDesk" "rate" "I") ∈ W0 := List.mem_filter.mpr ⟨List.mem_append_right _ (List.mem_of_getElem? (i := 212) (by decide +kernel)), rfl⟩
theorem tw_214 : (Jvm.Cond.lays "HearingDesk" "HearingDesk" "wrongPlace" "I") ∈ W0 := List.mem_filter.mpr ⟨List.mem_append_right _ (List.mem_of_getElem? (i := 214) (by decide +kernel)), rfl⟩
theorem tw_216 : (Jvm.Cond.lays "HearingDesk" "HearingDesk" "threshold" "D") ∈ W0 := List.mem_filter.mpr ⟨List.mem_append_right _ (List.mem_of_getElem? (i := 216) (by decide +kernel)), rfl⟩
theorem tw_218 : (Jvm.Cond.lays "HearingDesk" "HearingDesk" "gap" "I") ∈ W0 := List.mem_filter.mpr ⟨List.mem_append_right _ (List.mem_of_getElem? (i := 218) (by decide +kernel)), rfl⟩
theorem tw_220 : (Jvm.Cond.lays "HearingDesk" "HearingDesk" "limit" "D") ∈ W0 := List.mem_filter.mpr ⟨List.mem_append_right _ (List.mem_of_getElem? (i := 220) (by decide +kernel)), rfl⟩
theorem tw_223 : (Jvm.Cond.methodLink "HearingDeskLaw" (87 : Nat) ({ cls := "HearingDesk", name := "place", desc := "()I" } : Jvm.MethodName)) ∈ W0 := List.mem_filter.mpr ⟨List.mem_append_right _ (List.mem_of_getElem? (i := 223) (by decide +kernel)), rfl⟩
theorem tw_224 : (Jvm.Cond.instanceMethod ({ cls := "HearingDesk", name := "place", desc := "()I" } : Jvm.MethodName)) ∈ W0 := List.mem_filter.mpr ⟨List.mem_append_right _ (List.mem_of_getElem? (i := 224) (by decide +kernel)), rfl⟩
theorem tw_225 : (Jvm.Cond.selects "HearingDesk" ({ cls := "HearingDesk", name := "place", desc := "()I" } : Jvm.MethodName) ({ cls := "HearingDesk", name := "place", desc := "()I" } : Jvm.MethodName)) ∈ W0 := List.mem_filter.mpr ⟨List.mem_append_right _ (List.mem_of_getElem? (i := 225) (by decide +kernel)), rfl⟩
theorem tw_226 : (Jvm.Cond.code ({ cls := "HearingDesk", name := "place", desc := "()I" } : Jvm.MethodName) prog_1_method_4_code (1 : Nat) (Option.some Jvm.ClassFile.FieldType.int)) ∈ W0 := List.mem_filter.mpr ⟨List.mem_append_right _ (List.mem_of_getElem? (i := 226) (by decide +kernel)), rfl⟩
theorem tw_227 : (Jvm.Cond.methodLink "HearingDeskLaw" (97 : Nat) ({ cls := "HearingDesk", name := "clear", desc := "()I" } : Jvm.MethodName)) ∈ W0 := List.mem_filter.mpr ⟨List.mem_append_right _ (List.mem_of_getElem? (i := 227) (by decide +kernel)), rfl⟩
theorem tw_228 : (Jvm.Cond.instanceMethod ({ cls := "HearingDesk", name := "clear", desc := "()I" } : Jvm.MethodName)) ∈ W0 := List.mem_filter.mpr ⟨List.mem_append_right _ (List.mem_of_getElem? (i := 228) (by decide +kernel)), rfl⟩
theorem tw_229 : (Jvm.Cond.selects "HearingDesk" ({ cls := "HearingDesk", name := "clear", desc := "()I" } : Jvm.MethodName) ({ cls := "HearingDesk", name := "clear", desc := "()I" } : Jvm.MethodName)) ∈ W0 := List.mem_filter.mpr ⟨List.mem_append_right _ (List.mem_of_getElem? (i := 229) (by decide +kernel)), rfl⟩
theorem tw_230 : (Jvm.Cond.code ({ cls := "HearingDesk", name := "clear", desc := "()I" } : Jvm.MethodName) prog_1_method_6_code (2 : Nat) (Option.some Jvm.ClassFile.FieldType.int)) ∈ W0 := List.mem_filter.mpr ⟨List.mem_append_right _ (List.mem_of_getElem? (i := 230) (by decide +kernel)), rfl⟩
theorem tw_231 : (Jvm.Cond.methodLink "HearingDesk" (100 : Nat) ({ cls := "HearingDesk$Sound", name := "empty", desc := "()V" } : Jvm.MethodName)) ∈ W0 := List.mem_filter.mpr ⟨List.mem_append_right _ (List.mem_of_getElem? (i := 231) (by decide +kernel)), rfl⟩
theorem tw_232 : (Jvm.Cond.instanceMethod ({ cls := "HearingDesk$Sound", name := "empty", desc := "()V" } : Jvm.MethodName)) ∈ W0 := List.mem_filter.mpr ⟨List.mem_append_right _ (List.mem_of_getElem? (i := 232) (by decide +kernel)), rfl⟩
theorem tw_233 : (Jvm.Cond.selects "HearingDesk$Sound" ({ cls := "HearingDesk$Sound", name := "empty", desc := "()V" } : Jvm.MethodName) ({ cls := "HearingDesk$Sound", name := "empty", desc := "()V" } : Jvm.MethodName)) ∈ W0 := List.mem_filter.mpr ⟨List.mem_append_right _ (List.mem_of_getElem? (i := 233) (by decide +kernel)), rfl⟩
theorem tw_234 : (Jvm.Cond.code ({ cls := "HearingDesk$Sound", name := "empty", desc := "()V" } : Jvm.MethodName) prog_6_method_3_code (1 : Nat) (Option.none : Option Jvm.ClassFile.FieldType)) ∈ W0 := List.mem_filter.mpr ⟨List.mem_append_right _ (List.mem_of_getElem? (i := 234) (by decide +kernel)), rfl⟩
theorem tw_235 : (Jvm.Cond.methodLink "HearingDesk" (112 : Nat) ({ cls := "HearingDesk$WordList", name := "empty", desc := "()V" } : Jvm.MethodName)) ∈ W0 := List.mem_filter.mpr ⟨List.mem_append_right _ (List.mem_of_getElem? (i := 235) (by decide +kernel)), rfl⟩
theorem tw_236 : (Jvm.Cond.instanceMethod ({ cls := "HearingDesk$WordList", name := "empty", desc := "()V" } : Jvm.MethodName)) ∈ W0 := List.mem_filter.mpr ⟨List.mem_append_right _ (List.mem_of_getElem? (i := 236) (by decide +kernel)), rfl⟩
theorem tw_237 : (Jvm.Cond.selects "HearingDesk$WordList" ({ cls := "HearingDesk$WordList", name := "empty", desc := "()V" } : Jvm.MethodName) ({ cls := "HearingDesk$WordList", name := "empty", desc := "()V" } : Jvm.MethodName)) ∈ W0 := List.mem_filter.mpr ⟨List.mem_append_right _ (List.mem_of_getElem? (i := 237) (by decide +kernel)), rfl⟩
theorem tw_238 : (Jvm.Cond.code ({ cls := "HearingDesk$WordList", name := "empty", desc := "()V" } : Jvm.MethodName) prog_9_method_2_code (1 : Nat) (Option.none : Option Jvm.ClassFile.FieldType)) ∈ W0 := List.mem_filter.mpr ⟨List.mem_append_right _ (List.mem_of_getElem? (i := 238) (by decide +kernel)), rfl⟩
theorem tw_239 : (Jvm.Cond.methodLink "HearingDeskLaw" (74 : Nat) ({ cls := "HearingDeskLaw", name := "octets", desc := "(LHearingDesk;IJ[J)I" } : Jvm.MethodName)) ∈ W0 := List.mem_filter.mpr ⟨List.mem_append_right _ (List.mem_of_getElem? (i := 239) (by decide +kernel)), rfl⟩
theorem tw_240 : (Jvm.Cond.static ({ cls := "HearingDeskLaw", name := "octets", desc := "(LHearingDesk;IJ[J)I" } : Jvm.MethodName)) ∈ W0 := List.mem_filter.mpr ⟨List.mem_append_right _ (List.mem_of_getElem? (i := 240) (by decide +kernel)), rfl⟩
theorem tw_241 : (Jvm.Cond.codeWith ({ cls := "HearingDeskLaw", name := "octets", desc := "(LHearingDesk;IJ[J)I" } : Jvm.MethodName) method_3_code (6 : Nat) (Option.some Jvm.ClassFile.FieldType.int) [((0 : Nat), (11 : Nat), (14 : Nat), (13 : Nat)), ((0 : Nat), (11 : Nat), (18 : Nat), (15 : Nat))]) ∈ W0 := List.mem_filter.mpr ⟨List.mem_append_right _ (List.mem_of_getElem? (i := 241) (by decide +kernel)), rfl⟩
theorem tw_242 : (Jvm.Cond.classLink "HearingDeskLaw" (13 : Nat) "java/lang/IllegalArgumentException") ∈ W0 := List.mem_filter.mpr ⟨List.mem_append_right _ (List.mem_of_getElem? (i := 242) (by decide +kernel)), rfl⟩
theorem tw_243 : (Jvm.Cond.classLink "HearingDeskLaw" (15 : Nat) "java/lang/IndexOutOfBoundsException") ∈ W0 := List.mem_filter.mpr ⟨List.mem_append_right _ (List.mem_of_getElem? (i := 243) (by decide +kernel)), rfl⟩
theorem tw_244 : (Jvm.Cond.methodLink "HearingDeskLaw" (7 : Nat) ({ cls := "HearingDesk", name := "octets", desc := "(IJ)I" } : Jvm.MethodName)) ∈ W0 := List.mem_filter.mpr ⟨List.mem_append_right _ (List.mem_of_getElem? (i := 244) (by decide +kernel)), rfl⟩
theorem tw_245 : (Jvm.Cond.instanceMethod ({ cls := "HearingDesk", name := "octets", desc := "(IJ)I" } : Jvm.MethodName)) ∈ W0 := List.mem_filter.mpr ⟨List.mem_append_right _ (List.mem_of_getElem? (i := 245) (by decide +kernel)), rfl⟩
theorem tw_246 : (Jvm.Cond.selects "HearingDesk" ({ cls := "HearingDesk", name := "octets", desc := "(IJ)I" } : Jvm.MethodName) ({ cls := "HearingDesk", name := "octets", desc := "(IJ)I" } : Jvm.MethodName)) ∈ W0 := List.mem_filter.mpr ⟨List.mem_append_right _ (List.mem_of_getElem? (i := 246) (by decide +kernel)), rfl⟩
theorem tw_247 : (Jvm.Cond.code ({ cls := "HearingDesk", name := "octets", desc := "(IJ)I" } : Jvm.MethodName) prog_1_method_2_code (5 : Nat) (Option.some Jvm.ClassFile.FieldType.int)) ∈ W0 := List.mem_filter.mpr ⟨List.mem_append_right _ (List.mem_of_getElem? (i := 247) (by decide +kernel)), rfl⟩
theorem tw_248 : (Jvm.Cond.classLink "HearingDesk" (67 : Nat) "java/lang/IllegalArgumentException") ∈ W0 := List.mem_filter.mpr ⟨List.mem_append_right _ (List.mem_of_getElem? (i := 248) (by decide +kernel)), rfl⟩
theorem tw_289 : (Jvm.Cond.native ({ cls := "java/lang/Throwable", name := "fillInStackTrace", desc := "(I)Ljava/lang/Throwable;" } : Jvm.MethodName)) ∈ W0 := List.mem_filter.mpr ⟨List.mem_append_right _ (List.mem_of_getElem? (i := 289) (by decide +kernel)), rfl⟩
theorem tw_291 : (Jvm.Cond.methodLink "HearingDesk" (71 : Nat) ({ cls := "java/lang/IllegalArgumentException", name := "<init>", desc := "(Ljava/lang/String;)V" } : Jvm.MethodName)) ∈ W0 := List.mem_filter.mpr ⟨List.mem_append_right _ (List.mem_of_getElem? (i := 291) (by decide +kernel)), rfl⟩
theorem tw_316 : (Jvm.Cond.arrayClass Jvm.ClassFile.FieldType.byte) ∈ W0 := List.mem_filter.mpr ⟨List.mem_append_right _ (List.mem_of_getElem? (i := 316) (by decide +kernel)), rfl⟩
theorem tw_317 : (Jvm.Cond.classLink "HearingDesk" (77 : Nat) "java/lang/IndexOutOfBoundsException") ∈ W0 := List.mem_filter.mpr ⟨List.mem_append_right _ (List.mem_of_getElem? (i := 317) (by decide +kernel)), rfl⟩
theorem tw_327 : (Jvm.Cond.methodLink "HearingDesk" (81 : Nat) ({ cls := "java/lang/IndexOutOfBoundsException", name := "<init>", desc := "(Ljava/lang/String;)V" } : Jvm.MethodName)) ∈ W0 := List.mem_filter.mpr ⟨List.mem_append_right _ (List.mem_of_getElem? (i := 327) (by decide +kernel)), rfl⟩
theorem tw_333 : (Jvm.Cond.methodLink "HearingDesk" (82 : Nat) ({ cls := "HearingDesk$SoundFile", name := "append", desc := "(I)V" } : Jvm.MethodName)) ∈ W0 := List.mem_filter.mpr ⟨List.mem_append_right _ (List.mem_of_getElem? (i := 333) (by decide +kernel)), rfl⟩
theorem tw_334 : (Jvm.Cond.instanceMethod ({ cls := "HearingDesk$SoundFile", name := "append", desc := "(I)V" } : Jvm.MethodName)) ∈ W0 := List.mem_filter.mpr ⟨List.mem_append_right _ (List.mem_of_getElem? (i := 334) (by decide +kernel)), rfl⟩
theorem tw_335 : (Jvm.Cond.selects "HearingDesk$SoundFile" ({ cls := "HearingDesk$SoundFile", name := "append", desc := "(I)V" } : Jvm.MethodName) ({ cls := "HearingDesk$SoundFile", name := "append", desc := "(I)V" } : Jvm.MethodName)) ∈ W0 := List.mem_filter.mpr ⟨List.mem_append_right _ (List.mem_of_getElem? (i := 335) (by decide +kernel)), rfl⟩
theorem tw_336 : (Jvm.Cond.code ({ cls := "HearingDesk$SoundFile", name := "append", desc := "(I)V" } : Jvm.MethodName) prog_7_method_2_code (2 : Nat) (Option.none : Option Jvm.ClassFile.FieldType)) ∈ W0 := List.mem_filter.mpr ⟨List.mem_append_right _ (List.mem_of_getElem? (i := 336) (by decide +kernel)), rfl⟩
theorem tw_337 : (Jvm.Cond.methodLink "HearingDeskLaw" (83 : Nat) ({ cls := "HearingDeskLaw", name := "read", desc := "(LHearingDesk;[J)I" } : Jvm.MethodName)) ∈ W0 := List.mem_filter.mpr ⟨List.mem_append_right _ (List.mem_of_getElem? (i := 337) (by decide +kernel)), rfl⟩
theorem tw_338 : (Jvm.Cond.static ({ cls := "HearingDeskLaw", name := "read", desc := "(LHearingDesk;[J)I" } : Jvm.MethodName)) ∈ W0 := List.mem_filter.mpr ⟨List.mem_append_right _ (List.mem_of_getElem? (i := 338) (by decide +kernel)), rfl⟩
theorem tw_339 : (Jvm.Cond.codeWith ({ cls := "HearingDeskLaw", name := "read", desc := "(LHearingDesk;[J)I" } : Jvm.MethodName) method_4_code (3 : Nat) (Option.some Jvm.ClassFile.FieldType.int) [((0 : Nat), (8 : Nat), (11 : Nat), (13 : Nat)), ((0 : Nat), (8 : Nat), (14 : Nat), (15 : Nat))]) ∈ W0 := List.mem_filter.mpr ⟨List.mem_append_right _ (List.mem_of_getElem? (i := 339) (by decide +kernel)), rfl⟩
theorem tw_340 : (Jvm.Cond.methodLink "HearingDeskLaw" (17 : Nat) ({ cls := "HearingDesk", name := "read", desc := "()I" } : Jvm.MethodName)) ∈ W0 := List.mem_filter.mpr ⟨List.mem_append_right _ (List.mem_of_getElem? (i := 340) (by decide +kernel)), rfl⟩
theorem tw_341 : (Jvm.Cond.instanceMethod ({ cls := "HearingDesk", name := "read", desc := "()I" } : Jvm.MethodName)) ∈ W0 := List.mem_filter.mpr ⟨List.mem_append_right _ (List.mem_of_getElem? (i := 341) (by decide +kernel)), rfl⟩
theorem tw_342 : (Jvm.Cond.selects "HearingDesk" ({ cls := "HearingDesk", name := "read", desc := "()I" } : Jvm.MethodName) ({ cls := "HearingDesk", name := "read", desc := "()I" } : Jvm.MethodName)) ∈ W0 := List.mem_filter.mpr ⟨List.mem_append_right _ (List.mem_of_getElem? (i := 342) (by decide +kernel)), rfl⟩
theorem tw_343 : (Jvm.Cond.code ({ cls := "HearingDesk", name := "read", desc := "()I" } : Jvm.MethodName) prog_1_method_3_code (3 : Nat) (Option.some Jvm.ClassFile.FieldType.int)) ∈ W0 := List.mem_filter.mpr ⟨List.mem_append_right _ (List.mem_of_getElem? (i := 343) (by decide +kernel)), rfl⟩
theorem tw_344 : (Jvm.Cond.methodLink "HearingDesk" (86 : Nat) ({ cls := "HearingDesk$SoundFile", name := "firstWrong", desc := "()I" } : Jvm.MethodName)) ∈ W0 := List.mem_filter.mpr ⟨List.mem_append_right _ (List.mem_of_getElem? (i := 344) (by decide +kernel)), rfl⟩
theorem tw_345 : (Jvm.Cond.instanceMethod ({ cls := "HearingDesk$SoundFile", name := "firstWrong", desc := "()I" } : Jvm.MethodName)) ∈ W0 := List.mem_filter.mpr ⟨List.mem_append_right _ (List.mem_of_getElem? (i := 345) (by decide +kernel)), rfl⟩
theorem tw_346 : (Jvm.Cond.selects "HearingDesk$SoundFile" ({ cls := "HearingDesk$SoundFile", name := "firstWrong", desc := "()I" } : Jvm.MethodName) ({ cls := "HearingDesk$SoundFile", name := "firstWrong", desc := "()I" } : Jvm.MethodName)) ∈ W0 := List.mem_filter.mpr ⟨List.mem_append_right _ (List.mem_of_getElem? (i := 346) (by decide +kernel)), rfl⟩
theorem tw_347 : (Jvm.Cond.code ({ cls := "HearingDesk$SoundFile", name := "firstWrong", desc := "()I" } : Jvm.MethodName) prog_7_method_4_code (2 : Nat) (Option.some Jvm.ClassFile.FieldType.int)) ∈ W0 := List.mem_filter.mpr ⟨List.mem_append_right _ (List.mem_of_getElem? (i := 347) (by decide +kernel)), rfl⟩
theorem tw_348 : (Jvm.Cond.methodLink "HearingDesk$SoundFile" (19 : Nat) ({ cls := "HearingDesk$SoundFile", name := "firstWrongOfHead", desc := "()I" } : Jvm.MethodName)) ∈ W0 := List.mem_filter.mpr ⟨List.mem_append_right _ (List.mem_of_getElem? (i := 348) (by decide +kernel)), rfl⟩
theorem tw_350 : (Jvm.Cond.instanceMethod ({ cls := "HearingDesk$SoundFile", name := "firstWrongOfHead", desc := "()I" } : Jvm.MethodName)) ∈ W0 := List.mem_filter.mpr ⟨List.mem_append_right _ (List.mem_of_getElem? (i := 350) (by decide +kernel)), rfl⟩
theorem tw_351 : (Jvm.Cond.code ({ cls := "HearingDesk$SoundFile", name := "firstWrongOfHead", desc := "()I" } : Jvm.MethodName) prog_7_method_5_code (1 : Nat) (Option.some Jvm.ClassFile.FieldType.int)) ∈ W0 := List.mem_filter.mpr ⟨List.mem_append_right _ (List.mem_of_getElem? (i := 351) (by decide +kernel)), rfl⟩
theorem tw_352 : (Jvm.Cond.methodLink "HearingDesk$SoundFile" (26 : Nat) ({ cls := "HearingDesk$SoundFile", name := "spells", desc := "(IIIII)Z" } : Jvm.MethodName)) ∈ W0 := List.mem_filter.mpr ⟨List.mem_append_right _ (List.mem_of_getElem? (i := 352) (by decide +kernel)), rfl⟩
theorem tw_354 : (Jvm.Cond.instanceMethod ({ cls := "HearingDesk$SoundFile", name := "spells", desc := "(IIIII)Z" } : Jvm.MethodName)) ∈ W0 := List.mem_filter.mpr ⟨List.mem_append_right _ (List.mem_of_getElem? (i := 354) (by decide +kernel)), rfl⟩
theorem tw_355 : (Jvm.Cond.code ({ cls := "HearingDesk$SoundFile", name := "spells", desc := "(IIIII)Z" } : Jvm.MethodName) prog_7_method_7_code (6 : Nat) (Option.some Jvm.ClassFile.FieldType.boolean)) ∈ W0 := List.mem_filter.mpr ⟨List.mem_append_right _ (List.mem_of_getElem? (i := 355) (by decide +kernel)), rfl⟩
theorem tw_356 : (Jvm.Cond.methodLink "HearingDesk$SoundFile" (30 : Nat) ({ cls := "HearingDesk$SoundFile", name := "four", desc := "(I)J" } : Jvm.MethodName)) ∈ W0 := List.mem_filter.mpr ⟨List.mem_append_right _ (List.mem_of_getElem? (i := 356) (by decide +kernel)), rfl⟩
theorem tw_358 : (Jvm.Cond.instanceMethod ({ cls := "HearingDesk$SoundFile", name := "four", desc := "(I)J" } : Jvm.MethodName)) ∈ W0 := List.mem_filter.mpr ⟨List.mem_append_right _ (List.mem_of_getElem? (i := 358) (by decide +kernel)), rfl⟩
theorem tw_359 : (Jvm.Cond.code ({ cls := "HearingDesk$SoundFile", name := "four", desc := "(I)J" } : Jvm.MethodName) prog_7_method_9_code (2 : Nat) (Option.some Jvm.ClassFile.FieldType.long)) ∈ W0 := List.mem_filter.mpr ⟨List.mem_append_right _ (List.mem_of_getElem? (i := 359) (by decide +kernel)), rfl⟩
theorem tw_360 : (Jvm.Cond.methodLink "HearingDesk$SoundFile" (36 : Nat) ({ cls := "HearingDesk$SoundFile", name := "two", desc := "(I)I" } : Jvm.MethodName)) ∈ W0 := List.mem_filter.mpr ⟨List.mem_append_right _ (List.mem_of_getElem? (i := 360) (by decide +kernel)), rfl⟩
theorem tw_362 : (Jvm.Cond.instanceMethod ({ cls := "HearingDesk$SoundFile", name := "two", desc := "(I)I" } : Jvm.MethodName)) ∈ W0 := List.mem_filter.mpr ⟨List.mem_append_right _ (List.mem_of_getElem? (i := 362) (by decide +kernel)), rfl⟩
theorem tw_363 : (Jvm.Cond.code ({ cls := "HearingDesk$SoundFile", name := "two", desc := "(I)I" } : Jvm.MethodName) prog_7_method_8_code (2 : Nat) (Option.some Jvm.ClassFile.FieldType.int)) ∈ W0 := List.mem_filter.mpr ⟨List.mem_append_right _ (List.mem_of_getElem? (i := 363) (by decide +kernel)), rfl⟩
theorem tw_364 : (Jvm.Cond.constantLong "HearingDesk$SoundFile" (57 : Nat) (65536 : Int64)) ∈ W0 := List.mem_filter.mpr ⟨List.mem_append_right _ (List.mem_of_getElem? (i := 364) (by decide +kernel)), rfl⟩
theorem tw_365 : (Jvm.Cond.constantLong "HearingDesk$SoundFile" (34 : Nat) (16 : Int64)) ∈ W0 := List.mem_filter.mpr ⟨List.mem_append_right _ (List.mem_of_getElem? (i := 365) (by decide +kernel)), rfl⟩
theorem tw_366 : (Jvm.Cond.methodLink "HearingDesk$SoundFile" (23 : Nat) ({ cls := "HearingDesk$SoundFile", name := "firstWrongOfForm", desc := "()I" } : Jvm.MethodName)) ∈ W0 := List.mem_filter.mpr ⟨List.mem_append_right _ (List.mem_of_getElem? (i := 366) (by decide +kernel)), rfl⟩
theorem tw_368 : (Jvm.Cond.instanceMethod ({ cls := "HearingDesk$SoundFile", name := "firstWrongOfForm", desc := "()I" } : Jvm.MethodName)) ∈ W0 := List.mem_filter.mpr ⟨List.mem_append_right _ (List.mem_of_getElem? (i := 368) (by decide +kernel)), rfl⟩
theorem tw_369 : (Jvm.Cond.code ({ cls := "HearingDesk$SoundFile", name := "firstWrongOfForm", desc := "()I" } : Jvm.MethodName) prog_7_method_6_code (1 : Nat) (Option.some Jvm.ClassFile.FieldType.int)) ∈ W0 := List.mem_filter.mpr ⟨List.mem_append_right _ (List.mem_of_getElem? (i := 369) (by decide +kernel)), rfl⟩
theorem tw_370 : (Jvm.Cond.methodLink "HearingDesk$SoundFile" (40 : Nat) ({ cls := "HearingDesk$SoundFile", name := "channels", desc := "()I" } : Jvm.MethodName)) ∈ W0 := List.mem_filter.mpr ⟨List.mem_append_right _ (List.mem_of_getElem? (i := 370) (by decide +kernel)), rfl⟩
theorem tw_372 : (Jvm.Cond.instanceMethod ({ cls := "HearingDesk$SoundFile", name := "channels", desc := "()I" } : Jvm.MethodName)) ∈ W0 := List.mem_filter.mpr ⟨List.mem_append_right _ (List.mem_of_getElem? (i := 372) (by decide +kernel)), rfl⟩
theorem tw_373 : (Jvm.Cond.code ({ cls := "HearingDesk$SoundFile", name := "channels", desc := "()I" } : Jvm.MethodName) prog_7_method_10_code (1 : Nat) (Option.some Jvm.ClassFile.FieldType.int)) ∈ W0 := List.mem_filter.mpr ⟨List.mem_append_right _ (List.mem_of_getElem? (i := 373) (by decide +kernel)), rfl⟩
theorem tw_374 : (Jvm.Cond.methodLink "HearingDesk$SoundFile" (43 : Nat) ({ cls := "HearingDesk$SoundFile", name := "rateSaid", desc := "()J" } : Jvm.MethodName)) ∈ W0 := List.mem_filter.mpr ⟨List.mem_append_right _ (List.mem_of_getElem? (i := 374) (by decide +kernel)), rfl⟩
theorem tw_375 : (Jvm.Cond.instanceMethod ({ cls := "HearingDesk$SoundFile", name := "rateSaid", desc := "()J" } : Jvm.MethodName)) ∈ W0 := List.mem_filter.mpr ⟨List.mem_append_right _ (List.mem_of_getElem? (i := 375) (by decide +kernel)), rfl⟩
theorem tw_376 : (Jvm.Cond.selects "HearingDesk$SoundFile" ({ cls := "HearingDesk$SoundFile", name := "rateSaid", desc := "()J" } : Jvm.MethodName) ({ cls := "HearingDesk$SoundFile", name := "rateSaid", desc := "()J" } : Jvm.MethodName)) ∈ W0 := List.mem_filter.mpr ⟨List.mem_append_right _ (List.mem_of_getElem? (i := 376) (by decide +kernel)), rfl⟩
theorem tw_377 : (Jvm.Cond.code ({ cls := "HearingDesk$SoundFile", name := "rateSaid", desc := "()J" } : Jvm.MethodName) prog_7_method_11_code (1 : Nat) (Option.some Jvm.ClassFile.FieldType.long)) ∈ W0 := List.mem_filter.mpr ⟨List.mem_append_right _ (List.mem_of_getElem? (i := 377) (by decide +kernel)), rfl⟩
theorem tw_378 : (Jvm.Cond.constantLong "HearingDesk$SoundFile" (47 : Nat) (1000 : Int64)) ∈ W0 := List.mem_filter.mpr ⟨List.mem_append_right _ (List.mem_of_getElem? (i := 378) (by decide +kernel)), rfl⟩
theorem tw_379 : (Jvm.Cond.constantLong "HearingDesk$SoundFile" (49 : Nat) (48000 : Int64)) ∈ W0 := List.mem_filter.mpr ⟨List.mem_append_right _ (List.mem_of_getElem? (i := 379) (by decide +kernel)), rfl⟩
theorem tw_380 : (Jvm.Cond.methodLink "HearingDesk$SoundFile" (51 : Nat) ({ cls := "HearingDesk$SoundFile", name := "width", desc := "()I" } : Jvm.MethodName)) ∈ W0 := List.mem_filter.mpr ⟨List.mem_append_right _ (List.mem_of_getElem? (i := 380) (by decide +kernel)), rfl⟩
theorem tw_382 : (Jvm.Cond.instanceMethod ({ cls := "HearingDesk$SoundFile", name := "width", desc := "()I" } : Jvm.MethodName)) ∈ W0 := List.mem_filter.mpr ⟨List.mem_append_right _ (List.mem_of_getElem? (i := 382) (by decide +kernel)), rfl⟩
theorem tw_383 : (Jvm.Cond.code ({ cls := "HearingDesk$SoundFile", name := "width", desc := "()I" } : Jvm.MethodName) prog_7_method_12_code (1 : Nat) (Option.some Jvm.ClassFile.FieldType.int)) ∈ W0 := List.mem_filter.mpr ⟨List.mem_append_right _ (List.mem_of_getElem? (i := 383) (by decide +kernel)), rfl⟩
theorem tw_384 : (Jvm.Cond.methodLink "HearingDesk$SoundFile" (54 : Nat) ({ cls := "HearingDesk$SoundFile", name := "bits", desc := "()I" } : Jvm.MethodName)) ∈ W0 := List.mem_filter.mpr ⟨List.mem_append_right _ (List.mem_of_getElem? (i := 384) (by decide +kernel)), rfl⟩
theorem tw_386 : (Jvm.Cond.instanceMethod ({ cls := "HearingDesk$SoundFile", name := "bits", desc := "()I" } : Jvm.MethodName)) ∈ W0 := List.mem_filter.mpr ⟨List.mem_append_right _ (List.mem_of_getElem? (i := 386) (by decide +kernel)), rfl⟩
theorem tw_387 : (Jvm.Cond.code ({ cls := "HearingDesk$SoundFile", name := "bits", desc := "()I" } : Jvm.MethodName) prog_7_method_13_code (1 : Nat) (Option.some Jvm.ClassFile.FieldType.int)) ∈ W0 := List.mem_filter.mpr ⟨List.mem_append_right _ (List.mem_of_getElem? (i := 387) (by decide +kernel)), rfl⟩
theorem tw_388 : (Jvm.Cond.methodLink "HearingDesk" (90 : Nat) ({ cls := "HearingDesk$SoundFile", name := "empty", desc := "()V" } : Jvm.MethodName)) ∈ W0 := List.mem_filter.mpr ⟨List.mem_append_right _ (List.mem_of_getElem? (i := 388) (by decide +kernel)), rfl⟩
theorem tw_389 : (Jvm.Cond.instanceMethod ({ cls := "HearingDesk$SoundFile", name := "empty", desc := "()V" } : Jvm.MethodName)) ∈ W0 := List.mem_filter.mpr ⟨List.mem_append_right _ (List.mem_of_getElem? (i := 389) (by decide +kernel)), rfl⟩
theorem tw_390 : (Jvm.Cond.selects "HearingDesk$SoundFile" ({ cls := "HearingDesk$SoundFile", name := "empty", desc := "()V" } : Jvm.MethodName) ({ cls := "HearingDesk$SoundFile", name := "empty", desc := "()V" } : Jvm.MethodName)) ∈ W0 := List.mem_filter.mpr ⟨List.mem_append_right _ (List.mem_of_getElem? (i := 390) (by decide +kernel)), rfl⟩
theorem tw_391 : (Jvm.Cond.code ({ cls := "HearingDesk$SoundFile", name := "empty", desc := "()V" } : Jvm.MethodName) prog_7_method_3_code (1 : Nat) (Option.none : Option Jvm.ClassFile.FieldType)) ∈ W0 := List.mem_filter.mpr ⟨List.mem_append_right _ (List.mem_of_getElem? (i := 391) (by decide +kernel)), rfl⟩
theorem tw_393 : (Jvm.Cond.methodLink "HearingDesk" (95 : Nat) ({ cls := "HearingDesk$SoundFile", name := "sampleCount", desc := "()I" } : Jvm.MethodName)) ∈ W0 := List.mem_filter.mpr ⟨List.mem_append_right _ (List.mem_of_getElem? (i := 393) (by decide +kernel)), rfl⟩
theorem tw_394 : (Jvm.Cond.instanceMethod ({ cls := "HearingDesk$SoundFile", name := "sampleCount", desc := "()I" } : Jvm.MethodName)) ∈ W0 := List.mem_filter.mpr ⟨List.mem_append_right _ (List.mem_of_getElem? (i := 394) (by decide +kernel)), rfl⟩
theorem tw_395 : (Jvm.Cond.selects "HearingDesk$SoundFile" ({ cls := "HearingDesk$SoundFile", name := "sampleCount", desc := "()I" } : Jvm.MethodName) ({ cls := "HearingDesk$SoundFile", name := "sampleCount", desc := "()I" } : Jvm.MethodName)) ∈ W0 := List.mem_filter.mpr ⟨List.mem_append_right _ (List.mem_of_getElem? (i := 395) (by decide +kernel)), rfl⟩
theorem tw_396 : (Jvm.Cond.code ({ cls := "HearingDesk$SoundFile", name := "sampleCount", desc := "()I" } : Jvm.MethodName) prog_7_method_14_code (1 : Nat) (Option.some Jvm.ClassFile.FieldType.int)) ∈ W0 := List.mem_filter.mpr ⟨List.mem_append_right _ (List.mem_of_getElem? (i := 396) (by decide +kernel)), rfl⟩
theorem tw_398 : (Jvm.Cond.methodLink "HearingDesk" (101 : Nat) ({ cls := "HearingDesk$SoundFile", name := "sampleAt", desc := "(I)D" } : Jvm.MethodName)) ∈ W0 := List.mem_filter.mpr ⟨List.mem_append_right _ (List.mem_of_getElem? (i := 398) (by decide +kernel)), rfl⟩
theorem tw_399 : (Jvm.Cond.instanceMethod ({ cls := "HearingDesk$SoundFile", name := "sampleAt", desc := "(I)D" } : Jvm.MethodName)) ∈ W0 := List.mem_filter.mpr ⟨List.mem_append_right _ (List.mem_of_getElem? (i := 399) (by decide +kernel)), rfl⟩
theorem tw_400 : (Jvm.Cond.selects "HearingDesk$SoundFile" ({ cls := "HearingDesk$SoundFile", name := "sampleAt", desc := "(I)D" } : Jvm.MethodName) ({ cls := "HearingDesk$SoundFile", name := "sampleAt", desc := "(I)D" } : Jvm.MethodName)) ∈ W0 := List.mem_filter.mpr ⟨List.mem_append_right _ (List.mem_of_getElem? (i := 400) (by decide +kernel)), rfl⟩
theorem tw_401 : (Jvm.Cond.code ({ cls := "HearingDesk$SoundFile", name := "sampleAt", desc := "(I)D" } : Jvm.MethodName) prog_7_method_15_code (3 : Nat) (Option.some Jvm.ClassFile.FieldType.double)) ∈ W0 := List.mem_filter.mpr ⟨List.mem_append_right _ (List.mem_of_getElem? (i := 401) (by decide +kernel)), rfl⟩
theorem tw_402 : (Jvm.Cond.methodLink "HearingDesk$SoundFile" (59 : Nat) ({ cls := "HearingDesk$SoundFile", name := "channelAt", desc := "(I)D" } : Jvm.MethodName)) ∈ W0 := List.mem_filter.mpr ⟨List.mem_append_right _ (List.mem_of_getElem? (i := 402) (by decide +kernel)), rfl⟩
theorem tw_404 : (Jvm.Cond.instanceMethod ({ cls := "HearingDesk$SoundFile", name := "channelAt", desc := "(I)D" } : Jvm.MethodName)) ∈ W0 := List.mem_filter.mpr ⟨List.mem_append_right _ (List.mem_of_getElem? (i := 404) (by decide +kernel)), rfl⟩
theorem tw_405 : (Jvm.Cond.code ({ cls := "HearingDesk$SoundFile", name := "channelAt", desc := "(I)D" } : Jvm.MethodName) prog_7_method_16_code (3 : Nat) (Option.some Jvm.ClassFile.FieldType.double)) ∈ W0 := List.mem_filter.mpr ⟨List.mem_append_right _ (List.mem_of_getElem? (i := 405) (by decide +kernel)), rfl⟩
theorem tw_406 : (Jvm.Cond.constantDouble "HearingDesk$SoundFile" (65 : Nat) (4674736413210574848 : UInt64)) ∈ W0 := List.mem_filter.mpr ⟨List.mem_append_right _ (List.mem_of_getElem? (i := 406) (by decide +kernel)), rfl⟩
theorem tw_407 : (Jvm.Cond.constant "HearingDesk$SoundFile" (67 : Nat) (32768 : Int32)) ∈ W0 := List.mem_filter.mpr ⟨List.mem_append_right _ (List.mem_of_getElem? (i := 407) (by decide +kernel)), rfl⟩
theorem tw_408 : (Jvm.Cond.constant "HearingDesk$SoundFile" (68 : Nat) (65536 : Int32)) ∈ W0 := List.mem_filter.mpr ⟨List.mem_append_right _ (List.mem_of_getElem? (i := 408) (by decide +kernel)), rfl⟩
theorem tw_409 : (Jvm.Cond.constantDouble "HearingDesk$SoundFile" (63 : Nat) (4611686018427387904 : UInt64)) ∈ W0 := List.mem_filter.mpr ⟨List.mem_append_right _ (List.mem_of_getElem? (i := 409) (by decide +kernel)), rfl⟩
theorem tw_410 : (Jvm.Cond.methodLink "HearingDesk" (105 : Nat) ({ cls := "HearingDesk$Sound", name := "append", desc := "(D)V" } : Jvm.MethodName)) ∈ W0 := List.mem_filter.mpr ⟨List.mem_append_right _ (List.mem_of_getElem? (i := 410) (by decide +kernel)), rfl⟩
theorem tw_411 : (Jvm.Cond.instanceMethod ({ cls := "HearingDesk$Sound", name := "append", desc := "(D)V" } : Jvm.MethodName)) ∈ W0 := List.mem_filter.mpr ⟨List.mem_append_right _ (List.mem_of_getElem? (i := 411) (by decide +kernel)), rfl⟩
theorem tw_412 : (Jvm.Cond.selects "HearingDesk$Sound" ({ cls := "HearingDesk$Sound", name := "append", desc := "(D)V" } : Jvm.MethodName) ({ cls := "HearingDesk$Sound", name := "append", desc := "(D)V" } : Jvm.MethodName)) ∈ W0 := List.mem_filter.mpr ⟨List.mem_append_right _ (List.mem_of_getElem? (i := 412) (by decide +kernel)), rfl⟩
theorem tw_413 : (Jvm.Cond.code ({ cls := "HearingDesk$Sound", name := "append", desc := "(D)V" } : Jvm.MethodName) prog_6_method_2_code (3 : Nat) (Option.none : Option Jvm.ClassFile.FieldType)) ∈ W0 := List.mem_filter.mpr ⟨List.mem_append_right _ (List.mem_of_getElem? (i := 413) (by decide +kernel)), rfl⟩
theorem tw_414 : (Jvm.Cond.methodLink "HearingDesk" (108 : Nat) ({ cls := "HearingDesk$SoundFile", name := "rateSaid", desc := "()J" } : Jvm.MethodName)) ∈ W0 := List.mem_filter.mpr ⟨List.mem_append_right _ (List.mem_of_getElem? (i := 414) (by decide +kernel)), rfl⟩
theorem tw_415 : (Jvm.Cond.methodLink "HearingDeskLaw" (93 : Nat) ({ cls := "HearingDeskLaw", name := "wave", desc := "(LHearingDesk;IID[J)I" } : Jvm.MethodName)) ∈ W0 := List.mem_filter.mpr ⟨List.mem_append_right _ (List.mem_of_getElem? (i := 415) (by decide +kernel)), rfl⟩
theorem tw_416 : (Jvm.Cond.static ({ cls := "HearingDeskLaw", name := "wave", desc := "(LHearingDesk;IID[J)I" } : Jvm.MethodName)) ∈ W0 := List.mem_filter.mpr ⟨List.mem_append_right _ (List.mem_of_getElem? (i := 416) (by decide +kernel)), rfl⟩
theorem tw_417 : (Jvm.Cond.codeWith ({ cls := "HearingDeskLaw", name := "wave", desc := "(LHearingDesk;IID[J)I" } : Jvm.MethodName) method_5_code (7 : Nat) (Option.some Jvm.ClassFile.FieldType.int) [((0 : Nat), (12 : Nat), (15 : Nat), (13 : Nat)), ((0 : Nat), (12 : Nat), (19 : Nat), (15 : Nat))]) ∈ W0 := List.mem_filter.mpr ⟨List.mem_append_right _ (List.mem_of_getElem? (i := 417) (by decide +kernel)), rfl⟩
theorem tw_418 : (Jvm.Cond.methodLink "HearingDeskLaw" (21 : Nat) ({ cls := "HearingDesk", name := "wave", desc := "(IID)I" } : Jvm.MethodName)) ∈ W0 := List.mem_filter.mpr ⟨List.mem_append_right _ (List.mem_of_getElem? (i := 418) (by decide +kernel)), rfl⟩
theorem tw_419 : (Jvm.Cond.instanceMethod ({ cls := "HearingDesk", name := "wave", desc := "(IID)I" } : Jvm.MethodName)) ∈ W0 := List.mem_filter.mpr ⟨List.mem_append_right _ (List.mem_of_getElem? (i := 419) (by decide +kernel)), rfl⟩
theorem tw_420 : (Jvm.Cond.selects "HearingDesk" ({ cls := "HearingDesk", name := "wave", desc := "(IID)I" } : Jvm.MethodName) ({ cls := "HearingDesk", name := "wave", desc := "(IID)I" } : Jvm.MethodName)) ∈ W0 := List.mem_filter.mpr ⟨List.mem_append_right _ (List.mem_of_getElem? (i := 420) (by decide +kernel)), rfl⟩
theorem tw_421 : (Jvm.Cond.code ({ cls := "HearingDesk", name := "wave", desc := "(IID)I" } : Jvm.MethodName) prog_1_method_5_code (6 : Nat) (Option.some Jvm.ClassFile.FieldType.int)) ∈ W0 := List.mem_filter.mpr ⟨List.mem_append_right _ (List.mem_of_getElem? (i := 421) (by decide +kernel)), rfl⟩
theorem tw_423 : (Jvm.Cond.methodLink "HearingDesk" (120 : Nat) ({ cls := "HearingDesk$Numbers", name := "swing", desc := "(DD)D" } : Jvm.MethodName)) ∈ W0 := List.mem_filter.mpr ⟨List.mem_append_right _ (List.mem_of_getElem? (i := 423) (by decide +kernel)), rfl⟩
theorem tw_424 : (Jvm.Cond.static ({ cls := "HearingDesk$Numbers", name := "swing", desc := "(DD)D" } : Jvm.MethodName)) ∈ W0 := List.mem_filter.mpr ⟨List.mem_append_right _ (List.mem_of_getElem? (i := 424) (by decide +kernel)), rfl⟩
theorem tw_425 : (Jvm.Cond.code ({ cls := "HearingDesk$Numbers", name := "swing", desc := "(DD)D" } : Jvm.MethodName) prog_3_method_3_code (4 : Nat) (Option.some Jvm.ClassFile.FieldType.double)) ∈ W0 := List.mem_filter.mpr ⟨List.mem_append_right _ (List.mem_of_getElem? (i := 425) (by decide +kernel)), rfl⟩
theorem tw_426 : (Jvm.Cond.methodLink "HearingDesk$Numbers" (11 : Nat) ({ cls := "HearingDesk$Numbers", name := "finite", desc := "(D)D" } : Jvm.MethodName)) ∈ W0 := List.mem_filter.mpr ⟨List.mem_append_right _ (List.mem_of_getElem? (i := 426) (by decide +kernel)), rfl⟩
theorem tw_427 : (Jvm.Cond.static ({ cls := "HearingDesk$Numbers", name := "finite", desc := "(D)D" } : Jvm.MethodName)) ∈ W0 := List.mem_filter.mpr ⟨List.mem_append_right _ (List.mem_of_getElem? (i := 427) (by decide +kernel)), rfl⟩
theorem tw_428 : (Jvm.Cond.code ({ cls := "HearingDesk$Numbers", name := "finite", desc := "(D)D" } : Jvm.MethodName) prog_3_method_2_code (2 : Nat) (Option.some Jvm.ClassFile.FieldType.double)) ∈ W0 := List.mem_filter.mpr ⟨List.mem_append_right _ (List.mem_of_getElem? (i := 428) (by decide +kernel)), rfl⟩
theorem tw_429 : (Jvm.Cond.constantDouble "HearingDesk$Numbers" (7 : Nat) (9218868437227405311 : UInt64)) ∈ W0 := List.mem_filter.mpr ⟨List.mem_append_right _ (List.mem_of_getElem? (i := 429) (by decide +kernel)), rfl⟩
theorem tw_430 : (Jvm.Cond.constantDouble "HearingDesk$Numbers" (9 : Nat) (18442240474082181119 : UInt64)) ∈ W0 := List.mem_filter.mpr ⟨List.mem_append_right _ (List.mem_of_getElem? (i := 430) (by decide +kernel)), rfl⟩
theorem tw_431 : (Jvm.Cond.methodLink "HearingDeskLaw" (101 : Nat) ({ cls := "HearingDeskLaw", name := "sample", desc := "(LHearingDesk;I[D)I" } : Jvm.MethodName)) ∈ W0 := List.mem_filter.mpr ⟨List.mem_append_right _ (List.mem_of_getElem? (i := 431) (by decide +kernel)), rfl⟩
theorem tw_432 : (Jvm.Cond.static ({ cls := "HearingDeskLaw", name := "sample", desc := "(LHearingDesk;I[D)I" } : Jvm.MethodName)) ∈ W0 := List.mem_filter.mpr ⟨List.mem_append_right _ (List.mem_of_getElem? (i := 432) (by decide +kernel)), rfl⟩
theorem tw_433 : (Jvm.Cond.codeWith ({ cls := "HearingDeskLaw", name := "sample", desc := "(LHearingDesk;I[D)I" } : Jvm.MethodName) method_6_code (4 : Nat) (Option.some Jvm.ClassFile.FieldType.int) [((0 : Nat), (8 : Nat), (11 : Nat), (15 : Nat))]) ∈ W0 := List.mem_filter.mpr ⟨List.mem_append_right _ (List.mem_of_getElem? (i := 433) (by decide +kernel)), rfl⟩
theorem tw_434 : (Jvm.Cond.methodLink "HearingDeskLaw" (25 : Nat) ({ cls := "HearingDesk", name := "sample", desc := "(I)D" } : Jvm.MethodName)) ∈ W0 := List.mem_filter.mpr ⟨List.mem_append_right _ (List.mem_of_getElem? (i := 434) (by decide +kernel)), rfl⟩
theorem tw_435 : (Jvm.Cond.instanceMethod ({ cls := "HearingDesk", name := "sample", desc := "(I)D" } : Jvm.MethodName)) ∈ W0 := List.mem_filter.mpr ⟨List.mem_append_right _ (List.mem_of_getElem? (i := 435) (by decide +kernel)), rfl⟩
theorem tw_436 : (Jvm.Cond.selects "HearingDesk" ({ cls := "HearingDesk", name := "sample", desc := "(I)D" } : Jvm.MethodName) ({ cls := "HearingDesk", name := "sample", desc := "(I)D" } : Jvm.MethodName)) ∈ W0 := List.mem_filter.mpr ⟨List.mem_append_right _ (List.mem_of_getElem? (i := 436) (by decide +kernel)), rfl⟩
theorem tw_437 : (Jvm.Cond.code ({ cls := "HearingDesk", name := "sample", desc := "(I)D" } : Jvm.MethodName) prog_1_method_7_code (2 : Nat) (Option.some Jvm.ClassFile.FieldType.double)) ∈ W0 := List.mem_filter.mpr ⟨List.mem_append_right _ (List.mem_of_getElem? (i := 437) (by decide +kernel)), rfl⟩
theorem tw_439 : (Jvm.Cond.methodLink "HearingDeskLaw" (105 : Nat) ({ cls := "HearingDeskLaw", name := "power", desc := "(LHearingDesk;II[D)I" } : Jvm.MethodName)) ∈ W0 := List.mem_filter.mpr ⟨List.mem_append_right _ (List.mem_of_getElem? (i := 439) (by decide +kernel)), rfl⟩
theorem tw_440 : (Jvm.Cond.static ({ cls := "HearingDeskLaw", name := "power", desc := "(LHearingDesk;II[D)I" } : Jvm.MethodName)) ∈ W0 := List.mem_filter.mpr ⟨List.mem_append_right _ (List.mem_of_getElem? (i := 440) (by decide +kernel)), rfl⟩
theorem tw_441 : (Jvm.Cond.codeWith ({ cls := "HearingDeskLaw", name := "power", desc := "(LHearingDesk;II[D)I" } : Jvm.MethodName) method_7_code (5 : Nat) (Option.some Jvm.ClassFile.FieldType.int) [((0 : Nat), (9 : Nat), (12 : Nat), (15 : Nat)), ((0 : Nat), (9 : Nat), (16 : Nat), (13 : Nat))]) ∈ W0 := List.mem_filter.mpr ⟨List.mem_append_right _ (List.mem_of_getElem? (i := 441) (by decide +kernel)), rfl⟩
theorem tw_442 : (Jvm.Cond.methodLink "HearingDeskLaw" (29 : Nat) ({ cls := "HearingDesk", name := "power", desc := "(II)D" } : Jvm.MethodName)) ∈ W0 := List.mem_filter.mpr ⟨List.mem_append_right _ (List.mem_of_getElem? (i := 442) (by decide +kernel)), rfl⟩
theorem tw_443 : (Jvm.Cond.instanceMethod ({ cls := "HearingDesk", name := "power", desc := "(II)D" } : Jvm.MethodName)) ∈ W0 := List.mem_filter.mpr ⟨List.mem_append_right _ (List.mem_of_getElem? (i := 443) (by decide +kernel)), rfl⟩
theorem tw_444 : (Jvm.Cond.selects "HearingDesk" ({ cls := "HearingDesk", name := "power", desc := "(II)D" } : Jvm.MethodName) ({ cls := "HearingDesk", name := "power", desc := "(II)D" } : Jvm.MethodName)) ∈ W0 := List.mem_filter.mpr ⟨List.mem_append_right _ (List.mem_of_getElem? (i := 444) (by decide +kernel)), rfl⟩
theorem tw_445 : (Jvm.Cond.code ({ cls := "HearingDesk", name := "power", desc := "(II)D" } : Jvm.MethodName) prog_1_method_8_code (3 : Nat) (Option.some Jvm.ClassFile.FieldType.double)) ∈ W0 := List.mem_filter.mpr ⟨List.mem_append_right _ (List.mem_of_getElem? (i := 445) (by decide +kernel)), rfl⟩
theorem tw_446 : (Jvm.Cond.methodLink "HearingDesk" (131 : Nat) ({ cls := "HearingDesk$Sound", name := "frames", desc := "()I" } : Jvm.MethodName)) ∈ W0 := List.mem_filter.mpr ⟨List.mem_append_right _ (List.mem_of_getElem? (i := 446) (by decide +kernel)), rfl⟩
theorem tw_447 : (Jvm.Cond.instanceMethod ({ cls := "HearingDesk$Sound", name := "frames", desc := "()I" } : Jvm.MethodName)) ∈ W0 := List.mem_filter.mpr ⟨List.mem_append_right _ (List.mem_of_getElem? (i := 447) (by decide +kernel)), rfl⟩
theorem tw_448 : (Jvm.Cond.selects "HearingDesk$Sound" ({ cls := "HearingDesk$Sound", name := "frames", desc := "()I" } : Jvm.MethodName) ({ cls := "HearingDesk$Sound", name := "frames", desc := "()I" } : Jvm.MethodName)) ∈ W0 := List.mem_filter.mpr ⟨List.mem_append_right _ (List.mem_of_getElem? (i := 448) (by decide +kernel)), rfl⟩
theorem tw_449 : (Jvm.Cond.code ({ cls := "HearingDesk$Sound", name := "frames", desc := "()I" } : Jvm.MethodName) prog_6_method_4_code (1 : Nat) (Option.some Jvm.ClassFile.FieldType.int)) ∈ W0 := List.mem_filter.mpr ⟨List.mem_append_right _ (List.mem_of_getElem? (i := 449) (by decide +kernel)), rfl⟩
theorem tw_452 : (Jvm.Cond.methodLink "HearingDesk" (138 : Nat) ({ cls := "HearingDesk$Sound", name := "weigh", desc := "(I)V" } : Jvm.MethodName)) ∈ W0 := List.mem_filter.mpr ⟨List.mem_append_right _ (List.mem_of_getElem? (i := 452) (by decide +kernel)), rfl⟩
theorem tw_453 : (Jvm.Cond.instanceMethod ({ cls := "HearingDesk$Sound", name := "weigh", desc := "(I)V" } : Jvm.MethodName)) ∈ W0 := List.mem_filter.mpr ⟨List.mem_append_right _ (List.mem_of_getElem? (i := 453) (by decide +kernel)), rfl⟩
theorem tw_454 : (Jvm.Cond.selects "HearingDesk$Sound" ({ cls := "HearingDesk$Sound", name := "weigh", desc := "(I)V" } : Jvm.MethodName) ({ cls := "HearingDesk$Sound", name := "weigh", desc := "(I)V" } : Jvm.MethodName)) ∈ W0 := List.mem_filter.mpr ⟨List.mem_append_right _ (List.mem_of_getElem? (i := 454) (by decide +kernel)), rfl⟩
theorem tw_455 : (Jvm.Cond.code ({ cls := "HearingDesk$Sound", name := "weigh", desc := "(I)V" } : Jvm.MethodName) prog_6_method_5_code (3 : Nat) (Option.none : Option Jvm.ClassFile.FieldType)) ∈ W0 := List.mem_filter.mpr ⟨List.mem_append_right _ (List.mem_of_getElem? (i := 455) (by decide +kernel)), rfl⟩
theorem tw_456 : (Jvm.Cond.methodLink "HearingDesk$Sound" (35 : Nat) ({ cls := "HearingDesk$Numbers", name := "finite", desc := "(D)D" } : Jvm.MethodName)) ∈ W0 := List.mem_filter.mpr ⟨List.mem_append_right _ (List.mem_of_getElem? (i := 456) (by decide +kernel)), rfl⟩
theorem tw_457 : (Jvm.Cond.methodLink "HearingDesk" (141 : Nat) ({ cls := "HearingDesk$Sound", name := "strength", desc := "(I)D" } : Jvm.MethodName)) ∈ W0 := List.mem_filter.mpr ⟨List.mem_append_right _ (List.mem_of_getElem? (i := 457) (by decide +kernel)), rfl⟩
theorem tw_458 : (Jvm.Cond.instanceMethod ({ cls := "HearingDesk$Sound", name := "strength", desc := "(I)D" } : Jvm.MethodName)) ∈ W0 := List.mem_filter.mpr ⟨List.mem_append_right _ (List.mem_of_getElem? (i := 458) (by decide +kernel)), rfl⟩
theorem tw_459 : (Jvm.Cond.selects "HearingDesk$Sound" ({ cls := "HearingDesk$Sound", name := "strength", desc := "(I)D" } : Jvm.MethodName) ({ cls := "HearingDesk$Sound", name := "strength", desc := "(I)D" } : Jvm.MethodName)) ∈ W0 := List.mem_filter.mpr ⟨List.mem_append_right _ (List.mem_of_getElem? (i := 459) (by decide +kernel)), rfl⟩
theorem tw_460 : (Jvm.Cond.code ({ cls := "HearingDesk$Sound", name := "strength", desc := "(I)D" } : Jvm.MethodName) prog_6_method_6_code (8 : Nat) (Option.some Jvm.ClassFile.FieldType.double)) ∈ W0 := List.mem_filter.mpr ⟨List.mem_append_right _ (List.mem_of_getElem? (i := 460) (by decide +kernel)), rfl⟩
theorem tw_461 : (Jvm.Cond.methodLink "HearingDeskLaw" (109 : Nat) ({ cls := "HearingDeskLaw", name := "level", desc := "(LHearingDesk;II[D)I" } : Jvm.MethodName)) ∈ W0 := List.mem_filter.mpr ⟨List.mem_append_right _ (List.mem_of_getElem? (i := 461) (by decide +kernel)), rfl⟩
theorem tw_462 : (Jvm.Cond.static ({ cls := "HearingDeskLaw", name := "level", desc := "(LHearingDesk;II[D)I" } : Jvm.MethodName)) ∈ W0 := List.mem_filter.mpr ⟨List.mem_append_right _ (List.mem_of_getElem? (i := 462) (by decide +kernel)), rfl⟩
theorem tw_463 : (Jvm.Cond.codeWith ({ cls := "HearingDeskLaw", name := "level", desc := "(LHearingDesk;II[D)I" } : Jvm.MethodName) method_8_code (5 : Nat) (Option.some Jvm.ClassFile.FieldType.int) [((0 : Nat), (9 : Nat), (12 : Nat), (15 : Nat)), ((0 : Nat), (9 : Nat), (16 : Nat), (13 : Nat))]) ∈ W0 := List.mem_filter.mpr ⟨List.mem_append_right _ (List.mem_of_getElem? (i := 463) (by decide +kernel)), rfl⟩
theorem tw_464 : (Jvm.Cond.methodLink "HearingDeskLaw" (33 : Nat) ({ cls := "HearingDesk", name := "level", desc := "(II)D" } : Jvm.MethodName)) ∈ W0 := List.mem_filter.mpr ⟨List.mem_append_right _ (List.mem_of_getElem? (i := 464) (by decide +kernel)), rfl⟩
theorem tw_465 : (Jvm.Cond.instanceMethod ({ cls := "HearingDesk", name := "level", desc := "(II)D" } : Jvm.MethodName)) ∈ W0 := List.mem_filter.mpr ⟨List.mem_append_right _ (List.mem_of_getElem? (i := 465) (by decide +kernel)), rfl⟩
theorem tw_466 : (Jvm.Cond.selects "HearingDesk" ({ cls := "HearingDesk", name := "level", desc := "(II)D" } : Jvm.MethodName) ({ cls := "HearingDesk", name := "level", desc := "(II)D" } : Jvm.MethodName)) ∈ W0 := List.mem_filter.mpr ⟨List.mem_append_right _ (List.mem_of_getElem? (i := 466) (by decide +kernel)), rfl⟩
theorem tw_467 : (Jvm.Cond.code ({ cls := "HearingDesk", name := "level", desc := "(II)D" } : Jvm.MethodName) prog_1_method_9_code (3 : Nat) (Option.some Jvm.ClassFile.FieldType.double)) ∈ W0 := List.mem_filter.mpr ⟨List.mem_append_right _ (List.mem_of_getElem? (i := 467) (by decide +kernel)), rfl⟩
theorem tw_469 : (Jvm.Cond.methodLink "HearingDesk" (146 : Nat) ({ cls := "HearingDesk$Sound", name := "judge", desc := "()V" } : Jvm.MethodName)) ∈ W0 := List.mem_filter.mpr ⟨List.mem_append_right _ (List.mem_of_getElem? (i := 469) (by decide +kernel)), rfl⟩
theorem tw_470 : (Jvm.Cond.instanceMethod ({ cls := "HearingDesk$Sound", name := "judge", desc := "()V" } : Jvm.MethodName)) ∈ W0 := List.mem_filter.mpr ⟨List.mem_append_right _ (List.mem_of_getElem? (i := 470) (by decide +kernel)), rfl⟩
theorem tw_471 : (Jvm.Cond.selects "HearingDesk$Sound" ({ cls := "HearingDesk$Sound", name := "judge", desc := "()V" } : Jvm.MethodName) ({ cls := "HearingDesk$Sound", name := "judge", desc := "()V" } : Jvm.MethodName)) ∈ W0 := List.mem_filter.mpr ⟨List.mem_append_right _ (List.mem_of_getElem? (i := 471) (by decide +kernel)), rfl⟩
theorem tw_472 : (Jvm.Cond.code ({ cls := "HearingDesk$Sound", name := "judge", desc := "()V" } : Jvm.MethodName) prog_6_method_7_code (3 : Nat) (Option.none : Option Jvm.ClassFile.FieldType)) ∈ W0 := List.mem_filter.mpr ⟨List.mem_append_right _ (List.mem_of_getElem? (i := 472) (by decide +kernel)), rfl⟩
theorem tw_473 : (Jvm.Cond.methodLink "HearingDesk$Sound" (52 : Nat) ({ cls := "HearingDesk$Sound", name := "frames", desc := "()I" } : Jvm.MethodName)) ∈ W0 := List.mem_filter.mpr ⟨List.mem_append_right _ (List.mem_of_getElem? (i := 473) (by decide +kernel)), rfl⟩
theorem tw_474 : (Jvm.Cond.methodLink "HearingDesk$Sound" (56 : Nat) ({ cls := "HearingDesk$Sound", name := "weigh", desc := "(I)V" } : Jvm.MethodName)) ∈ W0 := List.mem_filter.mpr ⟨List.mem_append_right _ (List.mem_of_getElem? (i := 474) (by decide +kernel)), rfl⟩
theorem tw_475 : (Jvm.Cond.methodLink "HearingDesk$Sound" (60 : Nat) ({ cls := "HearingDesk$Sound", name := "judgeBand", desc := "(III)V" } : Jvm.MethodName)) ∈ W0 := List.mem_filter.mpr ⟨List.mem_append_right _ (List.mem_of_getElem? (i := 475) (by decide +kernel)), rfl⟩
theorem tw_477 : (Jvm.Cond.instanceMethod ({ cls := "HearingDesk$Sound", name := "judgeBand", desc := "(III)V" } : Jvm.MethodName)) ∈ W0 := List.mem_filter.mpr ⟨List.mem_append_right _ (List.mem_of_getElem? (i := 477) (by decide +kernel)), rfl⟩
theorem tw_478 : (Jvm.Cond.code ({ cls := "HearingDesk$Sound", name := "judgeBand", desc := "(III)V" } : Jvm.MethodName) prog_6_method_8_code (7 : Nat) (Option.none : Option Jvm.ClassFile.FieldType)) ∈ W0 := List.mem_filter.mpr ⟨List.mem_append_right _ (List.mem_of_getElem? (i := 478) (by decide +kernel)), rfl⟩
theorem tw_479 : (Jvm.Cond.methodLink "HearingDesk$Sound" (64 : Nat) ({ cls := "HearingDesk$Sound", name := "strength", desc := "(I)D" } : Jvm.MethodName)) ∈ W0 := List.mem_filter.mpr ⟨List.mem_append_right _ (List.mem_of_getElem? (i := 479) (by decide +kernel)), rfl⟩
theorem tw_480 : (Jvm.Cond.constantDouble "HearingDesk$Sound" (68 : Nat) (4457293557087583675 : UInt64)) ∈ W0 := List.mem_filter.mpr ⟨List.mem_append_right _ (List.mem_of_getElem? (i := 480) (by decide +kernel)), rfl⟩
theorem tw_481 : (Jvm.Cond.methodLink "HearingDesk$Sound" (70 : Nat) ({ cls := "HearingDesk$Numbers", name := "logarithm", desc := "(D)D" } : Jvm.MethodName)) ∈ W0 := List.mem_filter.mpr ⟨List.mem_append_right _ (List.mem_of_getElem? (i := 481) (by decide +kernel)), rfl⟩
theorem tw_482 : (Jvm.Cond.static ({ cls := "HearingDesk$Numbers", name := "logarithm", desc := "(D)D" } : Jvm.MethodName)) ∈ W0 := List.mem_filter.mpr ⟨List.mem_append_right _ (List.mem_of_getElem? (i := 482) (by decide +kernel)), rfl⟩
theorem tw_483 : (Jvm.Cond.code ({ cls := "HearingDesk$Numbers", name := "logarithm", desc := "(D)D" } : Jvm.MethodName) prog_3_method_4_code (12 : Nat) (Option.some Jvm.ClassFile.FieldType.double)) ∈ W0 := List.mem_filter.mpr ⟨List.mem_append_right _ (List.mem_of_getElem? (i := 483) (by decide +kernel)), rfl⟩
theorem tw_484 : (Jvm.Cond.constantDouble "HearingDesk$Numbers" (17 : Nat) (4609434218613702656 : UInt64)) ∈ W0 := List.mem_filter.mpr ⟨List.mem_append_right _ (List.mem_of_getElem? (i := 484) (by decide +kernel)), rfl⟩
theorem tw_485 : (Jvm.Cond.constantDouble "HearingDesk$Numbers" (19 : Nat) (4611686018427387904 : UInt64)) ∈ W0 := List.mem_filter.mpr ⟨List.mem_append_right _ (List.mem_of_getElem? (i := 485) (by decide +kernel)), rfl⟩
theorem tw_486 : (Jvm.Cond.constantDouble "HearingDesk$Numbers" (21 : Nat) (4604930618986332160 : UInt64)) ∈ W0 := List.mem_filter.mpr ⟨List.mem_append_right _ (List.mem_of_getElem? (i := 486) (by decide +kernel)), rfl⟩
theorem tw_487 : (Jvm.Cond.constantDouble "HearingDesk$Numbers" (23 : Nat) (4604418534313441775 : UInt64)) ∈ W0 := List.mem_filter.mpr ⟨List.mem_append_right _ (List.mem_of_getElem? (i := 487) (by decide +kernel)), rfl⟩
theorem tw_488 : (Jvm.Cond.methodLink "HearingDeskLaw" (112 : Nat) ({ cls := "HearingDeskLaw", name := "ways", desc := "(LHearingDesk;DID)I" } : Jvm.MethodName)) ∈ W0 := List.mem_filter.mpr ⟨List.mem_append_right _ (List.mem_of_getElem? (i := 488) (by decide +kernel)), rfl⟩
theorem tw_489 : (Jvm.Cond.static ({ cls := "HearingDeskLaw", name := "ways", desc := "(LHearingDesk;DID)I" } : Jvm.MethodName)) ∈ W0 := List.mem_filter.mpr ⟨List.mem_append_right _ (List.mem_of_getElem? (i := 489) (by decide +kernel)), rfl⟩
theorem tw_490 : (Jvm.Cond.codeWith ({ cls := "HearingDeskLaw", name := "ways", desc := "(LHearingDesk;DID)I" } : Jvm.MethodName) method_9_code (7 : Nat) (Option.some Jvm.ClassFile.FieldType.int) [((0 : Nat), (8 : Nat), (11 : Nat), (13 : Nat))]) ∈ W0 := List.mem_filter.mpr ⟨List.mem_append_right _ (List.mem_of_getElem? (i := 490) (by decide +kernel)), rfl⟩
theorem tw_491 : (Jvm.Cond.methodLink "HearingDeskLaw" (36 : Nat) ({ cls := "HearingDesk", name := "ways", desc := "(DID)V" } : Jvm.MethodName)) ∈ W0 := List.mem_filter.mpr ⟨List.mem_append_right _ (List.mem_of_getElem? (i := 491) (by decide +kernel)), rfl⟩
theorem tw_492 : (Jvm.Cond.instanceMethod ({ cls := "HearingDesk", name := "ways", desc := "(DID)V" } : Jvm.MethodName)) ∈ W0 := List.mem_filter.mpr ⟨List.mem_append_right _ (List.mem_of_getElem? (i := 492) (by decide +kernel)), rfl⟩
theorem tw_493 : (Jvm.Cond.selects "HearingDesk" ({ cls := "HearingDesk", name := "ways", desc := "(DID)V" } : Jvm.MethodName) ({ cls := "HearingDesk", name := "ways", desc := "(DID)V" } : Jvm.MethodName)) ∈ W0 := List.mem_filter.mpr ⟨List.mem_append_right _ (List.mem_of_getElem? (i := 493) (by decide +kernel)), rfl⟩
theorem tw_494 : (Jvm.Cond.code ({ cls := "HearingDesk", name := "ways", desc := "(DID)V" } : Jvm.MethodName) prog_1_method_10_code (6 : Nat) (Option.none : Option Jvm.ClassFile.FieldType)) ∈ W0 := List.mem_filter.mpr ⟨List.mem_append_right _ (List.mem_of_getElem? (i := 494) (by decide +kernel)), rfl⟩
theorem tw_496 : (Jvm.Cond.methodLink "HearingDeskLaw" (116 : Nat) ({ cls := "HearingDeskLaw", name := "learn", desc := "(LHearingDesk;III[J)I" } : Jvm.MethodName)) ∈ W0 := List.mem_filter.mpr ⟨List.mem_append_right _ (List.mem_of_getElem? (i := 496) (by decide +kernel)), rfl⟩
theorem tw_497 : (Jvm.Cond.static ({ cls := "HearingDeskLaw", name := "learn", desc := "(LHearingDesk;III[J)I" } : Jvm.MethodName)) ∈ W0 := List.mem_filter.mpr ⟨List.mem_append_right _ (List.mem_of_getElem? (i := 497) (by decide +kernel)), rfl⟩
theorem tw_498 : (Jvm.Cond.codeWith ({ cls := "HearingDeskLaw", name := "learn", desc := "(LHearingDesk;III[J)I" } : Jvm.MethodName) method_10_code (6 : Nat) (Option.some Jvm.ClassFile.FieldType.int) [((0 : Nat), (12 : Nat), (15 : Nat), (13 : Nat)), ((0 : Nat), (12 : Nat), (19 : Nat), (15 : Nat))]) ∈ W0 := List.mem_filter.mpr ⟨List.mem_append_right _ (List.mem_of_getElem? (i := 498) (by decide +kernel)), rfl⟩
theorem tw_499 : (Jvm.Cond.methodLink "HearingDeskLaw" (40 : Nat) ({ cls := "HearingDesk", name := "learn", desc := "(III)I" } : Jvm.MethodName)) ∈ W0 := List.mem_filter.mpr ⟨List.mem_append_right _ (List.mem_of_getElem? (i := 499) (by decide +kernel)), rfl⟩
theorem tw_500 : (Jvm.Cond.instanceMethod ({ cls := "HearingDesk", name := "learn", desc := "(III)I" } : Jvm.MethodName)) ∈ W0 := List.mem_filter.mpr ⟨List.mem_append_right _ (List.mem_of_getElem? (i := 500) (by decide +kernel)), rfl⟩
theorem tw_501 : (Jvm.Cond.selects "HearingDesk" ({ cls := "HearingDesk", name := "learn", desc := "(III)I" } : Jvm.MethodName) ({ cls := "HearingDesk", name := "learn", desc := "(III)I" } : Jvm.MethodName)) ∈ W0 := List.mem_filter.mpr ⟨List.mem_append_right _ (List.mem_of_getElem? (i := 501) (by decide +kernel)), rfl⟩
theorem tw_502 : (Jvm.Cond.code ({ cls := "HearingDesk", name := "learn", desc := "(III)I" } : Jvm.MethodName) prog_1_method_11_code (4 : Nat) (Option.some Jvm.ClassFile.FieldType.int)) ∈ W0 := List.mem_filter.mpr ⟨List.mem_append_right _ (List.mem_of_getElem? (i := 502) (by decide +kernel)), rfl⟩
theorem tw_505 : (Jvm.Cond.methodLink "HearingDesk" (159 : Nat) ({ cls := "HearingDesk$PatternBook", name := "append", desc := "(I[DII)V" } : Jvm.MethodName)) ∈ W0 := List.mem_filter.mpr ⟨List.mem_append_right _ (List.mem_of_getElem? (i := 505) (by decide +kernel)), rfl⟩
theorem tw_506 : (Jvm.Cond.instanceMethod ({ cls := "HearingDesk$PatternBook", name := "append", desc := "(I[DII)V" } : Jvm.MethodName)) ∈ W0 := List.mem_filter.mpr ⟨List.mem_append_right _ (List.mem_of_getElem? (i := 506) (by decide +kernel)), rfl⟩
theorem tw_507 : (Jvm.Cond.selects "HearingDesk$PatternBook" ({ cls := "HearingDesk$PatternBook", name := "append", desc := "(I[DII)V" } : Jvm.MethodName) ({ cls := "HearingDesk$PatternBook", name := "append", desc := "(I[DII)V" } : Jvm.MethodName)) ∈ W0 := List.mem_filter.mpr ⟨List.mem_append_right _ (List.mem_of_getElem? (i := 507) (by decide +kernel)), rfl⟩
theorem tw_508 : (Jvm.Cond.code ({ cls := "HearingDesk$PatternBook", name := "append", desc := "(I[DII)V" } : Jvm.MethodName) prog_5_method_2_code (6 : Nat) (Option.none : Option Jvm.ClassFile.FieldType)) ∈ W0 := List.mem_filter.mpr ⟨List.mem_append_right _ (List.mem_of_getElem? (i := 508) (by decide +kernel)), rfl⟩
theorem tw_509 : (Jvm.Cond.methodLink "HearingDesk$PatternBook" (35 : Nat) ({ cls := "java/lang/System", name := "arraycopy", desc := "(Ljava/lang/Object;ILjava/lang/Object;II)V" } : Jvm.MethodName)) ∈ W0 := List.mem_filter.mpr ⟨List.mem_append_right _ (List.mem_of_getElem? (i := 509) (by decide +kernel)), rfl⟩
theorem tw_510 : (Jvm.Cond.static ({ cls := "java/lang/System", name := "arraycopy", desc := "(Ljava/lang/Object;ILjava/lang/Object;II)V" } : Jvm.MethodName)) ∈ W0 := List.mem_filter.mpr ⟨List.mem_append_right _ (List.mem_of_getElem? (i := 510) (by decide +kernel)), rfl⟩
theorem tw_511 : (Jvm.Cond.native ({ cls := "java/lang/System", name := "arraycopy", desc := "(Ljava/lang/Object;ILjava/lang/Object;II)V" } : Jvm.MethodName)) ∈ W0 := List.mem_filter.mpr ⟨List.mem_append_right _ (List.mem_of_getElem? (i := 511) (by decide +kernel)), rfl⟩
theorem tw_512 : (Jvm.Cond.methodLink "HearingDeskLaw" (120 : Nat) ({ cls := "HearingDeskLaw", name := "forget", desc := "(LHearingDesk;I[J)I" } : Jvm.MethodName)) ∈ W0 := List.mem_filter.mpr ⟨List.mem_append_right _ (List.mem_of_getElem? (i := 512) (by decide +kernel)), rfl⟩
theorem tw_513 : (Jvm.Cond.static ({ cls := "HearingDeskLaw", name := "forget", desc := "(LHearingDesk;I[J)I" } : Jvm.MethodName)) ∈ W0 := List.mem_filter.mpr ⟨List.mem_append_right _ (List.mem_of_getElem? (i := 513) (by decide +kernel)), rfl⟩
theorem tw_514 : (Jvm.Cond.codeWith ({ cls := "HearingDeskLaw", name := "forget", desc := "(LHearingDesk;I[J)I" } : Jvm.MethodName) method_11_code (4 : Nat) (Option.some Jvm.ClassFile.FieldType.int) [((0 : Nat), (9 : Nat), (12 : Nat), (48 : Nat))]) ∈ W0 := List.mem_filter.mpr ⟨List.mem_append_right _ (List.mem_of_getElem? (i := 514) (by decide +kernel)), rfl⟩
theorem tw_515 : (Jvm.Cond.classLink "HearingDeskLaw" (48 : Nat) "java/util/NoSuchElementException") ∈ W0 := List.mem_filter.mpr ⟨List.mem_append_right _ (List.mem_of_getElem? (i := 515) (by decide +kernel)), rfl⟩
theorem tw_516 : (Jvm.Cond.methodLink "HearingDeskLaw" (44 : Nat) ({ cls := "HearingDesk", name := "forget", desc := "(I)I" } : Jvm.MethodName)) ∈ W0 := List.mem_filter.mpr ⟨List.mem_append_right _ (List.mem_of_getElem? (i := 516) (by decide +kernel)), rfl⟩
theorem tw_517 : (Jvm.Cond.instanceMethod ({ cls := "HearingDesk", name := "forget", desc := "(I)I" } : Jvm.MethodName)) ∈ W0 := List.mem_filter.mpr ⟨List.mem_append_right _ (List.mem_of_getElem? (i := 517) (by decide +kernel)), rfl⟩
theorem tw_518 : (Jvm.Cond.selects "HearingDesk" ({ cls := "HearingDesk", name := "forget", desc := "(I)I" } : Jvm.MethodName) ({ cls := "HearingDesk", name := "forget", desc := "(I)I" } : Jvm.MethodName)) ∈ W0 := List.mem_filter.mpr ⟨List.mem_append_right _ (List.mem_of_getElem? (i := 518) (by decide +kernel)), rfl⟩
theorem tw_519 : (Jvm.Cond.code ({ cls := "HearingDesk", name := "forget", desc := "(I)I" } : Jvm.MethodName) prog_1_method_12_code (2 : Nat) (Option.some Jvm.ClassFile.FieldType.int)) ∈ W0 := List.mem_filter.mpr ⟨List.mem_append_right _ (List.mem_of_getElem? (i := 519) (by decide +kernel)), rfl⟩
theorem tw_520 : (Jvm.Cond.classLink "HearingDesk" (162 : Nat) "java/util/NoSuchElementException") ∈ W0 := List.mem_filter.mpr ⟨List.mem_append_right _ (List.mem_of_getElem? (i := 520) (by decide +kernel)), rfl⟩
theorem tw_530 : (Jvm.Cond.methodLink "HearingDesk" (166 : Nat) ({ cls := "java/util/NoSuchElementException", name := "<init>", desc := "(Ljava/lang/String;)V" } : Jvm.MethodName)) ∈ W0 := List.mem_filter.mpr ⟨List.mem_append_right _ (List.mem_of_getElem? (i := 530) (by decide +kernel)), rfl⟩
theorem tw_536 : (Jvm.Cond.methodLink "HearingDesk" (167 : Nat) ({ cls := "HearingDesk$PatternBook", name := "takeOut", desc := "(I)I" } : Jvm.MethodName)) ∈ W0 := List.mem_filter.mpr ⟨List.mem_append_right _ (List.mem_of_getElem? (i := 536) (by decide +kernel)), rfl⟩
theorem tw_537 : (Jvm.Cond.instanceMethod ({ cls := "HearingDesk$PatternBook", name := "takeOut", desc := "(I)I" } : Jvm.MethodName)) ∈ W0 := List.mem_filter.mpr ⟨List.mem_append_right _ (List.mem_of_getElem? (i := 537) (by decide +kernel)), rfl⟩
theorem tw_538 : (Jvm.Cond.selects "HearingDesk$PatternBook" ({ cls := "HearingDesk$PatternBook", name := "takeOut", desc := "(I)I" } : Jvm.MethodName) ({ cls := "HearingDesk$PatternBook", name := "takeOut", desc := "(I)I" } : Jvm.MethodName)) ∈ W0 := List.mem_filter.mpr ⟨List.mem_append_right _ (List.mem_of_getElem? (i := 538) (by decide +kernel)), rfl⟩
theorem tw_539 : (Jvm.Cond.code ({ cls := "HearingDesk$PatternBook", name := "takeOut", desc := "(I)I" } : Jvm.MethodName) prog_5_method_3_code (4 : Nat) (Option.some Jvm.ClassFile.FieldType.int)) ∈ W0 := List.mem_filter.mpr ⟨List.mem_append_right _ (List.mem_of_getElem? (i := 539) (by decide +kernel)), rfl⟩
theorem tw_540 : (Jvm.Cond.methodLink "HearingDeskLaw" (124 : Nat) ({ cls := "HearingDeskLaw", name := "warp", desc := "(LHearingDesk;II[D)I" } : Jvm.MethodName)) ∈ W0 := List.mem_filter.mpr ⟨List.mem_append_right _ (List.mem_of_getElem? (i := 540) (by decide +kernel)), rfl⟩
theorem tw_541 : (Jvm.Cond.static ({ cls := "HearingDeskLaw", name := "warp", desc := "(LHearingDesk;II[D)I" } : Jvm.MethodName)) ∈ W0 := List.mem_filter.mpr ⟨List.mem_append_right _ (List.mem_of_getElem? (i := 541) (by decide +kernel)), rfl⟩
theorem tw_542 : (Jvm.Cond.codeWith ({ cls := "HearingDeskLaw", name := "warp", desc := "(LHearingDesk;II[D)I" } : Jvm.MethodName) method_12_code (5 : Nat) (Option.some Jvm.ClassFile.FieldType.int) [((0 : Nat), (9 : Nat), (12 : Nat), (48 : Nat))]) ∈ W0 := List.mem_filter.mpr ⟨List.mem_append_right _ (List.mem_of_getElem? (i := 542) (by decide +kernel)), rfl⟩
theorem tw_543 : (Jvm.Cond.methodLink "HearingDeskLaw" (50 : Nat) ({ cls := "HearingDesk", name := "warp", desc := "(II)D" } : Jvm.MethodName)) ∈ W0 := List.mem_filter.mpr ⟨List.mem_append_right _ (List.mem_of_getElem? (i := 543) (by decide +kernel)), rfl⟩
theorem tw_544 : (Jvm.Cond.instanceMethod ({ cls := "HearingDesk", name := "warp", desc := "(II)D" } : Jvm.MethodName)) ∈ W0 := List.mem_filter.mpr ⟨List.mem_append_right _ (List.mem_of_getElem? (i := 544) (by decide +kernel)), rfl⟩
theorem tw_545 : (Jvm.Cond.selects "HearingDesk" ({ cls := "HearingDesk", name := "warp", desc := "(II)D" } : Jvm.MethodName) ({ cls := "HearingDesk", name := "warp", desc := "(II)D" } : Jvm.MethodName)) ∈ W0 := List.mem_filter.mpr ⟨List.mem_append_right _ (List.mem_of_getElem? (i := 545) (by decide +kernel)), rfl⟩
theorem tw_546 : (Jvm.Cond.code ({ cls := "HearingDesk", name := "warp", desc := "(II)D" } : Jvm.MethodName) prog_1_method_13_code (3 : Nat) (Option.some Jvm.ClassFile.FieldType.double)) ∈ W0 := List.mem_filter.mpr ⟨List.mem_append_right _ (List.mem_of_getElem? (i := 546) (by decide +kernel)), rfl⟩
theorem tw_547 : (Jvm.Cond.methodLink "HearingDesk" (181 : Nat) ({ cls := "HearingDesk$PatternBook", name := "distance", desc := "([DIILHearingDesk$Pattern;)D" } : Jvm.MethodName)) ∈ W0 := List.mem_filter.mpr ⟨List.mem_append_right _ (List.mem_of_getElem? (i := 547) (by decide +kernel)), rfl⟩
theorem tw_548 : (Jvm.Cond.instanceMethod ({ cls := "HearingDesk$PatternBook", name := "distance", desc := "([DIILHearingDesk$Pattern;)D" } : Jvm.MethodName)) ∈ W0 := List.mem_filter.mpr ⟨List.mem_append_right _ (List.mem_of_getElem? (i := 548) (by decide +kernel)), rfl⟩
theorem tw_549 : (Jvm.Cond.selects "HearingDesk$PatternBook" ({ cls := "HearingDesk$PatternBook", name := "distance", desc := "([DIILHearingDesk$Pattern;)D" } : Jvm.MethodName) ({ cls := "HearingDesk$PatternBook", name := "distance", desc := "([DIILHearingDesk$Pattern;)D" } : Jvm.MethodName)) ∈ W0 := List.mem_filter.mpr ⟨List.mem_append_right _ (List.mem_of_getElem? (i := 549) (by decide +kernel)), rfl⟩
theorem tw_550 : (Jvm.Cond.code ({ cls := "HearingDesk$PatternBook", name := "distance", desc := "([DIILHearingDesk$Pattern;)D" } : Jvm.MethodName) prog_5_method_4_code (8 : Nat) (Option.some Jvm.ClassFile.FieldType.double)) ∈ W0 := List.mem_filter.mpr ⟨List.mem_append_right _ (List.mem_of_getElem? (i := 550) (by decide +kernel)), rfl⟩
theorem tw_551 : (Jvm.Cond.methodLink "HearingDesk$PatternBook" (41 : Nat) ({ cls := "HearingDesk$PatternBook", name := "far", desc := "([DI[DI)D" } : Jvm.MethodName)) ∈ W0 := List.mem_filter.mpr ⟨List.mem_append_right _ (List.mem_of_getElem? (i := 551) (by decide +kernel)), rfl⟩
theorem tw_552 : (Jvm.Cond.static ({ cls := "HearingDesk$PatternBook", name := "far", desc := "([DI[DI)D" } : Jvm.MethodName)) ∈ W0 := List.mem_filter.mpr ⟨List.mem_append_right _ (List.mem_of_getElem? (i := 552) (by decide +kernel)), rfl⟩
theorem tw_553 : (Jvm.Cond.code ({ cls := "HearingDesk$PatternBook", name := "far", desc := "([DI[DI)D" } : Jvm.MethodName) prog_5_method_5_code (9 : Nat) (Option.some Jvm.ClassFile.FieldType.double)) ∈ W0 := List.mem_filter.mpr ⟨List.mem_append_right _ (List.mem_of_getElem? (i := 553) (by decide +kernel)), rfl⟩
theorem tw_554 : (Jvm.Cond.methodLink "HearingDesk$PatternBook" (45 : Nat) ({ cls := "HearingDesk$PatternBook", name := "leastBefore", desc := "(II)D" } : Jvm.MethodName)) ∈ W0 := List.mem_filter.mpr ⟨List.mem_append_right _ (List.mem_of_getElem? (i := 554) (by decide +kernel)), rfl⟩
theorem tw_556 : (Jvm.Cond.instanceMethod ({ cls := "HearingDesk$PatternBook", name := "leastBefore", desc := "(II)D" } : Jvm.MethodName)) ∈ W0 := List.mem_filter.mpr ⟨List.mem_append_right _ (List.mem_of_getElem? (i := 556) (by decide +kernel)), rfl⟩
theorem tw_557 : (Jvm.Cond.code ({ cls := "HearingDesk$PatternBook", name := "leastBefore", desc := "(II)D" } : Jvm.MethodName) prog_5_method_6_code (6 : Nat) (Option.some Jvm.ClassFile.FieldType.double)) ∈ W0 := List.mem_filter.mpr ⟨List.mem_append_right _ (List.mem_of_getElem? (i := 557) (by decide +kernel)), rfl⟩
theorem tw_558 : (Jvm.Cond.methodLink "HearingDesk$PatternBook" (49 : Nat) ({ cls := "HearingDesk$PatternBook", name := "lesser", desc := "(DD)D" } : Jvm.MethodName)) ∈ W0 := List.mem_filter.mpr ⟨List.mem_append_right _ (List.mem_of_getElem? (i := 558) (by decide +kernel)), rfl⟩
theorem tw_559 : (Jvm.Cond.static ({ cls := "HearingDesk$PatternBook", name := "lesser", desc := "(DD)D" } : Jvm.MethodName)) ∈ W0 := List.mem_filter.mpr ⟨List.mem_append_right _ (List.mem_of_getElem? (i := 559) (by decide +kernel)), rfl⟩
theorem tw_560 : (Jvm.Cond.code ({ cls := "HearingDesk$PatternBook", name := "lesser", desc := "(DD)D" } : Jvm.MethodName) prog_5_method_7_code (4 : Nat) (Option.some Jvm.ClassFile.FieldType.double)) ∈ W0 := List.mem_filter.mpr ⟨List.mem_append_right _ (List.mem_of_getElem? (i := 560) (by decide +kernel)), rfl⟩
theorem tw_561 : (Jvm.Cond.methodLink "HearingDeskLaw" (127 : Nat) ({ cls := "HearingDeskLaw", name := "hear", desc := "(LHearingDesk;[J)I" } : Jvm.MethodName)) ∈ W0 := List.mem_filter.mpr ⟨List.mem_append_right _ (List.mem_of_getElem? (i := 561) (by decide +kernel)), rfl⟩
theorem tw_562 : (Jvm.Cond.static ({ cls := "HearingDeskLaw", name := "hear", desc := "(LHearingDesk;[J)I" } : Jvm.MethodName)) ∈ W0 := List.mem_filter.mpr ⟨List.mem_append_right _ (List.mem_of_getElem? (i := 562) (by decide +kernel)), rfl⟩
theorem tw_563 : (Jvm.Cond.codeWith ({ cls := "HearingDeskLaw", name := "hear", desc := "(LHearingDesk;[J)I" } : Jvm.MethodName) method_13_code (3 : Nat) (Option.some Jvm.ClassFile.FieldType.int) [((0 : Nat), (8 : Nat), (11 : Nat), (56 : Nat))]) ∈ W0 := List.mem_filter.mpr ⟨List.mem_append_right _ (List.mem_of_getElem? (i := 563) (by decide +kernel)), rfl⟩
theorem tw_564 : (Jvm.Cond.classLink "HearingDeskLaw" (56 : Nat) "java/lang/IllegalStateException") ∈ W0 := List.mem_filter.mpr ⟨List.mem_append_right _ (List.mem_of_getElem? (i := 564) (by decide +kernel)), rfl⟩
theorem tw_565 : (Jvm.Cond.methodLink "HearingDeskLaw" (53 : Nat) ({ cls := "HearingDesk", name := "hear", desc := "()I" } : Jvm.MethodName)) ∈ W0 := List.mem_filter.mpr ⟨List.mem_append_right _ (List.mem_of_getElem? (i := 565) (by decide +kernel)), rfl⟩
theorem tw_566 : (Jvm.Cond.instanceMethod ({ cls := "HearingDesk", name := "hear", desc := "()I" } : Jvm.MethodName)) ∈ W0 := List.mem_filter.mpr ⟨List.mem_append_right _ (List.mem_of_getElem? (i := 566) (by decide +kernel)), rfl⟩
theorem tw_567 : (Jvm.Cond.selects "HearingDesk" ({ cls := "HearingDesk", name := "hear", desc := "()I" } : Jvm.MethodName) ({ cls := "HearingDesk", name := "hear", desc := "()I" } : Jvm.MethodName)) ∈ W0 := List.mem_filter.mpr ⟨List.mem_append_right _ (List.mem_of_getElem? (i := 567) (by decide +kernel)), rfl⟩
theorem tw_568 : (Jvm.Cond.code ({ cls := "HearingDesk", name := "hear", desc := "()I" } : Jvm.MethodName) prog_1_method_14_code (2 : Nat) (Option.some Jvm.ClassFile.FieldType.int)) ∈ W0 := List.mem_filter.mpr ⟨List.mem_append_right _ (List.mem_of_getElem? (i := 568) (by decide +kernel)), rfl⟩
theorem tw_569 : (Jvm.Cond.classLink "HearingDesk" (185 : Nat) "java/lang/IllegalStateException") ∈ W0 := List.mem_filter.mpr ⟨List.mem_append_right _ (List.mem_of_getElem? (i := 569) (by decide +kernel)), rfl⟩
theorem tw_579 : (Jvm.Cond.methodLink "HearingDesk" (189 : Nat) ({ cls := "java/lang/IllegalStateException", name := "<init>", desc := "(Ljava/lang/String;)V" } : Jvm.MethodName)) ∈ W0 := List.mem_filter.mpr ⟨List.mem_append_right _ (List.mem_of_getElem? (i := 579) (by decide +kernel)), rfl⟩
theorem tw_585 : (Jvm.Cond.methodLink "HearingDesk" (190 : Nat) ({ cls := "HearingDesk$WordList", name := "cutOut", desc := "(LHearingDesk$Sound;DI)V" } : Jvm.MethodName)) ∈ W0 := List.mem_filter.mpr ⟨List.mem_append_right _ (List.mem_of_getElem? (i := 585) (by decide +kernel)), rfl⟩
theorem tw_586 : (Jvm.Cond.instanceMethod ({ cls := "HearingDesk$WordList", name := "cutOut", desc := "(LHearingDesk$Sound;DI)V" } : Jvm.MethodName)) ∈ W0 := List.mem_filter.mpr ⟨List.mem_append_right _ (List.mem_of_getElem? (i := 586) (by decide +kernel)), rfl⟩
theorem tw_587 : (Jvm.Cond.selects "HearingDesk$WordList" ({ cls := "HearingDesk$WordList", name := "cutOut", desc := "(LHearingDesk$Sound;DI)V" } : Jvm.MethodName) ({ cls := "HearingDesk$WordList", name := "cutOut", desc := "(LHearingDesk$Sound;DI)V" } : Jvm.MethodName)) ∈ W0 := List.mem_filter.mpr ⟨List.mem_append_right _ (List.mem_of_getElem? (i := 587) (by decide +kernel)), rfl⟩
theorem tw_588 : (Jvm.Cond.code ({ cls := "HearingDesk$WordList", name := "cutOut", desc := "(LHearingDesk$Sound;DI)V" } : Jvm.MethodName) prog_9_method_3_code (9 : Nat) (Option.none : Option Jvm.ClassFile.FieldType)) ∈ W0 := List.mem_filter.mpr ⟨List.mem_append_right _ (List.mem_of_getElem? (i := 588) (by decide +kernel)), rfl⟩
theorem tw_589 : (Jvm.Cond.methodLink "HearingDesk$WordList" (22 : Nat) ({ cls := "HearingDesk$Sound", name := "frames", desc := "()I" } : Jvm.MethodName)) ∈ W0 := List.mem_filter.mpr ⟨List.mem_append_right _ (List.mem_of_getElem? (i := 589) (by decide +kernel)), rfl⟩
theorem tw_590 : (Jvm.Cond.methodLink "HearingDesk$WordList" (28 : Nat) ({ cls := "HearingDesk$Sound", name := "loudness", desc := "(I)D" } : Jvm.MethodName)) ∈ W0 := List.mem_filter.mpr ⟨List.mem_append_right _ (List.mem_of_getElem? (i := 590) (by decide +kernel)), rfl⟩
theorem tw_591 : (Jvm.Cond.instanceMethod ({ cls := "HearingDesk$Sound", name := "loudness", desc := "(I)D" } : Jvm.MethodName)) ∈ W0 := List.mem_filter.mpr ⟨List.mem_append_right _ (List.mem_of_getElem? (i := 591) (by decide +kernel)), rfl⟩
theorem tw_592 : (Jvm.Cond.selects "HearingDesk$Sound" ({ cls := "HearingDesk$Sound", name := "loudness", desc := "(I)D" } : Jvm.MethodName) ({ cls := "HearingDesk$Sound", name := "loudness", desc := "(I)D" } : Jvm.MethodName)) ∈ W0 := List.mem_filter.mpr ⟨List.mem_append_right _ (List.mem_of_getElem? (i := 592) (by decide +kernel)), rfl⟩
theorem tw_593 : (Jvm.Cond.code ({ cls := "HearingDesk$Sound", name := "loudness", desc := "(I)D" } : Jvm.MethodName) prog_6_method_9_code (5 : Nat) (Option.some Jvm.ClassFile.FieldType.double)) ∈ W0 := List.mem_filter.mpr ⟨List.mem_append_right _ (List.mem_of_getElem? (i := 593) (by decide +kernel)), rfl⟩
theorem tw_597 : (Jvm.Cond.instanceMethod ({ cls := "HearingDesk$Word", name := "reach", desc := "(I)V" } : Jvm.MethodName)) ∈ W0 := List.mem_filter.mpr ⟨List.mem_append_right _ (List.mem_of_getElem? (i := 597) (by decide +kernel)), rfl⟩
theorem tw_598 : (Jvm.Cond.code ({ cls := "HearingDesk$Word", name := "reach", desc := "(I)V" } : Jvm.MethodName) prog_8_method_3_code (2 : Nat) (Option.none : Option Jvm.ClassFile.FieldType)) ∈ W0 := List.mem_filter.mpr ⟨List.mem_append_right _ (List.mem_of_getElem? (i := 598) (by decide +kernel)), rfl⟩
theorem tw_599 : (Jvm.Cond.methodLink "HearingDesk" (199 : Nat) ({ cls := "HearingDesk$Word", name := "recognise", desc := "(LHearingDesk$Sound;LHearingDesk$PatternBook;D)V" } : Jvm.MethodName)) ∈ W0 := List.mem_filter.mpr ⟨List.mem_append_right _ (List.mem_of_getElem? (i := 599) (by decide +kernel)), rfl⟩
theorem tw_600 : (Jvm.Cond.instanceMethod ({ cls := "HearingDesk$Word", name := "recognise", desc := "(LHearingDesk$Sound;LHearingDesk$PatternBook;D)V" } : Jvm.MethodName)) ∈ W0 := List.mem_filter.mpr ⟨List.mem_append_right _ (List.mem_of_getElem? (i := 600) (by decide +kernel)), rfl⟩
theorem tw_601 : (Jvm.Cond.selects "HearingDesk$Word" ({ cls := "HearingDesk$Word", name := "recognise", desc := "(LHearingDesk$Sound;LHearingDesk$PatternBook;D)V" } : Jvm.MethodName) ({ cls := "HearingDesk$Word", name := "recognise", desc := "(LHearingDesk$Sound;LHearingDesk$PatternBook;D)V" } : Jvm.MethodName)) ∈ W0 := List.mem_filter.mpr ⟨List.mem_append_right _ (List.mem_of_getElem? (i := 601) (by decide +kernel)), rfl⟩
theorem tw_602 : (Jvm.Cond.code ({ cls := "HearingDesk$Word", name := "recognise", desc := "(LHearingDesk$Sound;LHearingDesk$PatternBook;D)V" } : Jvm.MethodName) prog_8_method_4_code (8 : Nat) (Option.none : Option Jvm.ClassFile.FieldType)) ∈ W0 := List.mem_filter.mpr ⟨List.mem_append_right _ (List.mem_of_getElem? (i := 602) (by decide +kernel)), rfl⟩
theorem tw_603 : (Jvm.Cond.methodLink "HearingDesk$Word" (47 : Nat) ({ cls := "HearingDesk$PatternBook", name := "distance", desc := "([DIILHearingDesk$Pattern;)D" } : Jvm.MethodName)) ∈ W0 := List.mem_filter.mpr ⟨List.mem_append_right _ (List.mem_of_getElem? (i := 603) (by decide +kernel)), rfl⟩
theorem tw_604 : (Jvm.Cond.methodLink "HearingDeskLaw" (130 : Nat) ({ cls := "HearingDeskLaw", name := "word", desc := "(LHearingDesk;II[J)I" } : Jvm.MethodName)) ∈ W0 := List.mem_filter.mpr ⟨List.mem_append_right _ (List.mem_of_getElem? (i := 604) (by decide +kernel)), rfl⟩
theorem tw_605 : (Jvm.Cond.static ({ cls := "HearingDeskLaw", name := "word", desc := "(LHearingDesk;II[J)I" } : Jvm.MethodName)) ∈ W0 := List.mem_filter.mpr ⟨List.mem_append_right _ (List.mem_of_getElem? (i := 605) (by decide +kernel)), rfl⟩
theorem tw_606 : (Jvm.Cond.codeWith ({ cls := "HearingDeskLaw", name := "word", desc := "(LHearingDesk;II[J)I" } : Jvm.MethodName) method_14_code (5 : Nat) (Option.some Jvm.ClassFile.FieldType.int) [((0 : Nat), (10 : Nat), (13 : Nat), (48 : Nat)), ((0 : Nat), (10 : Nat), (17 : Nat), (13 : Nat))]) ∈ W0 := List.mem_filter.mpr ⟨List.mem_append_right _ (List.mem_of_getElem? (i := 606) (by decide +kernel)), rfl⟩
theorem tw_607 : (Jvm.Cond.methodLink "HearingDeskLaw" (58 : Nat) ({ cls := "HearingDesk", name := "word", desc := "(II)I" } : Jvm.MethodName)) ∈ W0 := List.mem_filter.mpr ⟨List.mem_append_right _ (List.mem_of_getElem? (i := 607) (by decide +kernel)), rfl⟩
theorem tw_608 : (Jvm.Cond.instanceMethod ({ cls := "HearingDesk", name := "word", desc := "(II)I" } : Jvm.MethodName)) ∈ W0 := List.mem_filter.mpr ⟨List.mem_append_right _ (List.mem_of_getElem? (i := 608) (by decide +kernel)), rfl⟩
theorem tw_609 : (Jvm.Cond.selects "HearingDesk" ({ cls := "HearingDesk", name := "word", desc := "(II)I" } : Jvm.MethodName) ({ cls := "HearingDesk", name := "word", desc := "(II)I" } : Jvm.MethodName)) ∈ W0 := List.mem_filter.mpr ⟨List.mem_append_right _ (List.mem_of_getElem? (i := 609) (by decide +kernel)), rfl⟩
theorem tw_610 : (Jvm.Cond.code ({ cls := "HearingDesk", name := "word", desc := "(II)I" } : Jvm.MethodName) prog_1_method_15_code (4 : Nat) (Option.some Jvm.ClassFile.FieldType.int)) ∈ W0 := List.mem_filter.mpr ⟨List.mem_append_right _ (List.mem_of_getElem? (i := 610) (by decide +kernel)), rfl⟩
theorem tw_612 : (Jvm.Cond.methodLink "HearingDesk" (218 : Nat) ({ cls := "HearingDesk", name := "milliseconds", desc := "(I)I" } : Jvm.MethodName)) ∈ W0 := List.mem_filter.mpr ⟨List.mem_append_right _ (List.mem_of_getElem? (i := 612) (by decide +kernel)), rfl⟩
theorem tw_614 : (Jvm.Cond.instanceMethod ({ cls := "HearingDesk", name := "milliseconds", desc := "(I)I" } : Jvm.MethodName)) ∈ W0 := List.mem_filter.mpr ⟨List.mem_append_right _ (List.mem_of_getElem? (i := 614) (by decide +kernel)), rfl⟩
theorem tw_615 : (Jvm.Cond.code ({ cls := "HearingDesk", name := "milliseconds", desc := "(I)I" } : Jvm.MethodName) prog_1_method_18_code (2 : Nat) (Option.some Jvm.ClassFile.FieldType.int)) ∈ W0 := List.mem_filter.mpr ⟨List.mem_append_right _ (List.mem_of_getElem? (i := 615) (by decide +kernel)), rfl⟩
theorem tw_617 : (Jvm.Cond.methodLink "HearingDeskLaw" (134 : Nat) ({ cls := "HearingDeskLaw", name := "cost", desc := "(LHearingDesk;I[D)I" } : Jvm.MethodName)) ∈ W0 := List.mem_filter.mpr ⟨List.mem_append_right _ (List.mem_of_getElem? (i := 617) (by decide +kernel)), rfl⟩
theorem tw_618 : (Jvm.Cond.static ({ cls := "HearingDeskLaw", name := "cost", desc := "(LHearingDesk;I[D)I" } : Jvm.MethodName)) ∈ W0 := List.mem_filter.mpr ⟨List.mem_append_right _ (List.mem_of_getElem? (i := 618) (by decide +kernel)), rfl⟩
theorem tw_619 : (Jvm.Cond.codeWith ({ cls := "HearingDeskLaw", name := "cost", desc := "(LHearingDesk;I[D)I" } : Jvm.MethodName) method_15_code (4 : Nat) (Option.some Jvm.ClassFile.FieldType.int) [((0 : Nat), (8 : Nat), (11 : Nat), (48 : Nat)), ((0 : Nat), (8 : Nat), (14 : Nat), (56 : Nat))]) ∈ W0 := List.mem_filter.mpr ⟨List.mem_append_right _ (List.mem_of_getElem? (i := 619) (by decide +kernel)), rfl⟩
theorem tw_620 : (Jvm.Cond.methodLink "HearingDeskLaw" (62 : Nat) ({ cls := "HearingDesk", name := "cost", desc := "(I)D" } : Jvm.MethodName)) ∈ W0 := List.mem_filter.mpr ⟨List.mem_append_right _ (List.mem_of_getElem? (i := 620) (by decide +kernel)), rfl⟩
theorem tw_621 : (Jvm.Cond.instanceMethod ({ cls := "HearingDesk", name := "cost", desc := "(I)D" } : Jvm.MethodName)) ∈ W0 := List.mem_filter.mpr ⟨List.mem_append_right _ (List.mem_of_getElem? (i := 621) (by decide +kernel)), rfl⟩
theorem tw_622 : (Jvm.Cond.selects "HearingDesk" ({ cls := "HearingDesk", name := "cost", desc := "(I)D" } : Jvm.MethodName) ({ cls := "HearingDesk", name := "cost", desc := "(I)D" } : Jvm.MethodName)) ∈ W0 := List.mem_filter.mpr ⟨List.mem_append_right _ (List.mem_of_getElem? (i := 622) (by decide +kernel)), rfl⟩
theorem tw_623 : (Jvm.Cond.code ({ cls := "HearingDesk", name := "cost", desc := "(I)D" } : Jvm.MethodName) prog_1_method_16_code (2 : Nat) (Option.some Jvm.ClassFile.FieldType.double)) ∈ W0 := List.mem_filter.mpr ⟨List.mem_append_right _ (List.mem_of_getElem? (i := 623) (by decide +kernel)), rfl⟩
theorem tw_625 : (Jvm.Cond.methodLink "HearingDeskLaw" (137 : Nat) ({ cls := "HearingDeskLaw", name := "count", desc := "(LHearingDesk;I[J)I" } : Jvm.MethodName)) ∈ W0 := List.mem_filter.mpr ⟨List.mem_append_right _ (List.mem_of_getElem? (i := 625) (by decide +kernel)), rfl⟩
theorem tw_626 : (Jvm.Cond.static ({ cls := "HearingDeskLaw", name := "count", desc := "(LHearingDesk;I[J)I" } : Jvm.MethodName)) ∈ W0 := List.mem_filter.mpr ⟨List.mem_append_right _ (List.mem_of_getElem? (i := 626) (by decide +kernel)), rfl⟩
theorem tw_627 : (Jvm.Cond.codeWith ({ cls := "HearingDeskLaw", name := "count", desc := "(LHearingDesk;I[J)I" } : Jvm.MethodName) method_16_code (4 : Nat) (Option.some Jvm.ClassFile.FieldType.int) [((0 : Nat), (9 : Nat), (12 : Nat), (13 : Nat))]) ∈ W0 := List.mem_filter.mpr ⟨List.mem_append_right _ (List.mem_of_getElem? (i := 627) (by decide +kernel)), rfl⟩
theorem tw_628 : (Jvm.Cond.methodLink "HearingDeskLaw" (65 : Nat) ({ cls := "HearingDesk", name := "count", desc := "(I)I" } : Jvm.MethodName)) ∈ W0 := List.mem_filter.mpr ⟨List.mem_append_right _ (List.mem_of_getElem? (i := 628) (by decide +kernel)), rfl⟩
theorem tw_629 : (Jvm.Cond.instanceMethod ({ cls := "HearingDesk", name := "count", desc := "(I)I" } : Jvm.MethodName)) ∈ W0 := List.mem_filter.mpr ⟨List.mem_append_right _ (List.mem_of_getElem? (i := 629) (by decide +kernel)), rfl⟩
theorem tw_630 : (Jvm.Cond.selects "HearingDesk" ({ cls := "HearingDesk", name := "count", desc := "(I)I" } : Jvm.MethodName) ({ cls := "HearingDesk", name := "count", desc := "(I)I" } : Jvm.MethodName)) ∈ W0 := List.mem_filter.mpr ⟨List.mem_append_right _ (List.mem_of_getElem? (i := 630) (by decide +kernel)), rfl⟩
theorem tw_631 : (Jvm.Cond.code ({ cls := "HearingDesk", name := "count", desc := "(I)I" } : Jvm.MethodName) prog_1_method_17_code (2 : Nat) (Option.some Jvm.ClassFile.FieldType.int)) ∈ W0 := List.mem_filter.mpr ⟨List.mem_append_right _ (List.mem_of_getElem? (i := 631) (by decide +kernel)), rfl⟩
theorem tw_632 : (Jvm.Cond.methodLink "HearingDesk" (228 : Nat) ({ cls := "HearingDesk", name := "loudFrames", desc := "()I" } : Jvm.MethodName)) ∈ W0 := List.mem_filter.mpr ⟨List.mem_append_right _ (List.mem_of_getElem? (i := 632) (by decide +kernel)), rfl⟩
theorem tw_634 : (Jvm.Cond.instanceMethod ({ cls := "HearingDesk", name := "loudFrames", desc := "()I" } : Jvm.MethodName)) ∈ W0 := List.mem_filter.mpr ⟨List.mem_append_right _ (List.mem_of_getElem? (i := 634) (by decide +kernel)), rfl⟩
theorem tw_635 : (Jvm.Cond.code ({ cls := "HearingDesk", name := "loudFrames", desc := "()I" } : Jvm.MethodName) prog_1_method_19_code (3 : Nat) (Option.some Jvm.ClassFile.FieldType.int)) ∈ W0 := List.mem_filter.mpr ⟨List.mem_append_right _ (List.mem_of_getElem? (i := 635) (by decide +kernel)), rfl⟩
theorem tw_636 : (Jvm.Cond.methodLink "HearingDesk" (233 : Nat) ({ cls := "HearingDesk$Sound", name := "loudness", desc := "(I)D" } : Jvm.MethodName)) ∈ W0 := List.mem_filter.mpr ⟨List.mem_append_right _ (List.mem_of_getElem? (i := 636) (by decide +kernel)), rfl⟩
theorem tw_638 : (Jvm.Cond.classLink "HearingDeskLaw" (69 : Nat) "HearingDeskModel") ∈ W0 := List.mem_filter.mpr ⟨List.mem_append_right _ (List.mem_of_getElem? (i := 638) (by decide +kernel)), rfl⟩
theorem tw_639 : (Jvm.Cond.instantiable "HearingDeskModel" (27 : Nat)) ∈ W0 := List.mem_filter.mpr ⟨List.mem_append_right _ (List.mem_of_getElem? (i := 639) (by decide +kernel)), rfl⟩
theorem tw_640 : (Jvm.Cond.methodLink "HearingDeskLaw" (71 : Nat) ({ cls := "HearingDeskModel", name := "<init>", desc := "()V" } : Jvm.MethodName)) ∈ W0 := List.mem_filter.mpr ⟨List.mem_append_right _ (List.mem_of_getElem? (i := 640) (by decide +kernel)), rfl⟩
theorem tw_641 : (Jvm.Cond.instanceMethod ({ cls := "HearingDeskModel", name := "<init>", desc := "()V" } : Jvm.MethodName)) ∈ W0 := List.mem_filter.mpr ⟨List.mem_append_right _ (List.mem_of_getElem? (i := 641) (by decide +kernel)), rfl⟩
theorem tw_642 : (Jvm.Cond.code ({ cls := "HearingDeskModel", name := "<init>", desc := "()V" } : Jvm.MethodName) prog_11_method_1_code (11 : Nat) (Option.none : Option Jvm.ClassFile.FieldType)) ∈ W0 := List.mem_filter.mpr ⟨List.mem_append_right _ (List.mem_of_getElem? (i := 642) (by decide +kernel)), rfl⟩
theorem tw_643 : (Jvm.Cond.methodLink "HearingDeskModel" (1 : Nat) ({ cls := "java/lang/Object", name := "<init>", desc := "()V" } : Jvm.MethodName)) ∈ W0 := List.mem_filter.mpr ⟨List.mem_append_right _ (List.mem_of_getElem? (i := 643) (by decide +kernel)), rfl⟩
theorem tw_644 : (Jvm.Cond.constantDouble "HearingDeskModel" (19 : Nat) (4576918229304087675 : UInt64)) ∈ W0 := List.mem_filter.mpr ⟨List.mem_append_right _ (List.mem_of_getElem? (i := 644) (by decide +kernel)), rfl⟩
theorem tw_645 : (Jvm.Cond.constantDouble "HearingDeskModel" (25 : Nat) (4616189618054758400 : UInt64)) ∈ W0 := List.mem_filter.mpr ⟨List.mem_append_right _ (List.mem_of_getElem? (i := 645) (by decide +kernel)), rfl⟩
theorem tw_646 : (Jvm.Cond.constantDouble "HearingDeskModel" (77 : Nat) (4596242258042563864 : UInt64)) ∈ W0 := List.mem_filter.mpr ⟨List.mem_append_right _ (List.mem_of_getElem? (i := 646) (by decide +kernel)), rfl⟩
theorem tw_647 : (Jvm.Cond.fieldLink "HearingDeskModel" (79 : Nat) "HearingDeskModel" "err" "I") ∈ W0 := List.mem_filter.mpr ⟨List.mem_append_right _ (List.mem_of_getElem? (i := 647) (by decide +kernel)), rfl⟩
theorem tw_648 : (Jvm.Cond.fieldLink "HearingDeskModel" (92 : Nat) "HearingDeskModel" "filed" "I") ∈ W0 := List.mem_filter.mpr ⟨List.mem_append_right _ (List.mem_of_getElem? (i := 648) (by decide +kernel)), rfl⟩
theorem tw_649 : (Jvm.Cond.fieldLink "HearingDeskModel" (7 : Nat) "HearingDeskModel" "wrongAt" "I") ∈ W0 := List.mem_filter.mpr ⟨List.mem_append_right _ (List.mem_of_getElem? (i := 649) (by decide +kernel)), rfl⟩
theorem tw_650 : (Jvm.Cond.fieldLink "HearingDeskModel" (125 : Nat) "HearingDeskModel" "samples" "I") ∈ W0 := List.mem_filter.mpr ⟨List.mem_append_right _ (List.mem_of_getElem? (i := 650) (by decide +kernel)), rfl⟩
theorem tw_651 : (Jvm.Cond.fieldLink "HearingDeskModel" (13 : Nat) "HearingDeskModel" "rate" "I") ∈ W0 := List.mem_filter.mpr ⟨List.mem_append_right _ (List.mem_of_getElem? (i := 651) (by decide +kernel)), rfl⟩
theorem tw_652 : (Jvm.Cond.fieldLink "HearingDeskModel" (169 : Nat) "HearingDeskModel" "patterns" "I") ∈ W0 := List.mem_filter.mpr ⟨List.mem_append_right _ (List.mem_of_getElem? (i := 652) (by decide +kernel)), rfl⟩
theorem tw_653 : (Jvm.Cond.fieldLink "HearingDeskModel" (128 : Nat) "HearingDeskModel" "words" "I") ∈ W0 := List.mem_filter.mpr ⟨List.mem_append_right _ (List.mem_of_getElem? (i := 653) (by decide +kernel)), rfl⟩
theorem tw_654 : (Jvm.Cond.fieldLink "HearingDeskModel" (16 : Nat) "HearingDeskModel" "gap" "I") ∈ W0 := List.mem_filter.mpr ⟨List.mem_append_right _ (List.mem_of_getElem? (i := 654) (by decide +kernel)), rfl⟩
theorem tw_655 : (Jvm.Cond.fieldLink "HearingDeskModel" (172 : Nat) "HearingDeskModel" "first" "I") ∈ W0 := List.mem_filter.mpr ⟨List.mem_append_right _ (List.mem_of_getElem? (i := 655) (by decide +kernel)), rfl⟩
theorem tw_656 : (Jvm.Cond.fieldLink "HearingDeskModel" (175 : Nat) "HearingDeskModel" "second" "I") ∈ W0 := List.mem_filter.mpr ⟨List.mem_append_right _ (List.mem_of_getElem? (i := 656) (by decide +kernel)), rfl⟩
theorem tw_657 : (Jvm.Cond.fieldLink "HearingDeskModel" (21 : Nat) "HearingDeskModel" "threshold" "D") ∈ W0 := List.mem_filter.mpr ⟨List.mem_append_right _ (List.mem_of_getElem? (i := 657) (by decide +kernel)), rfl⟩
theorem tw_658 : (Jvm.Cond.fieldLink "HearingDeskModel" (27 : Nat) "HearingDeskModel" "limit" "D") ∈ W0 := List.mem_filter.mpr ⟨List.mem_append_right _ (List.mem_of_getElem? (i := 658) (by decide +kernel)), rfl⟩
theorem tw_659 : (Jvm.Cond.fieldLink "HearingDeskModel" (30 : Nat) "HearingDeskModel" "file" "[I") ∈ W0 := List.mem_filter.mpr ⟨List.mem_append_right _ (List.mem_of_getElem? (i := 659) (by decide +kernel)), rfl⟩
theorem tw_660 : (Jvm.Cond.fieldLink "HearingDeskModel" (34 : Nat) "HearingDeskModel" "letter" "[I") ∈ W0 := List.mem_filter.mpr ⟨List.mem_append_right _ (List.mem_of_getElem? (i := 660) (by decide +kernel)), rfl⟩
theorem tw_661 : (Jvm.Cond.fieldLink "HearingDeskModel" (37 : Nat) "HearingDeskModel" "rows" "[I") ∈ W0 := List.mem_filter.mpr ⟨List.mem_append_right _ (List.mem_of_getElem? (i := 661) (by decide +kernel)), rfl⟩
theorem tw_662 : (Jvm.Cond.fieldLink "HearingDeskModel" (40 : Nat) "HearingDeskModel" "wordLetter" "[I") ∈ W0 := List.mem_filter.mpr ⟨List.mem_append_right _ (List.mem_of_getElem? (i := 662) (by decide +kernel)), rfl⟩
theorem tw_663 : (Jvm.Cond.fieldLink "HearingDeskModel" (43 : Nat) "HearingDeskModel" "wordFirst" "[I") ∈ W0 := List.mem_filter.mpr ⟨List.mem_append_right _ (List.mem_of_getElem? (i := 663) (by decide +kernel)), rfl⟩
theorem tw_664 : (Jvm.Cond.fieldLink "HearingDeskModel" (46 : Nat) "HearingDeskModel" "wordSize" "[I") ∈ W0 := List.mem_filter.mpr ⟨List.mem_append_right _ (List.mem_of_getElem? (i := 664) (by decide +kernel)), rfl⟩
theorem tw_665 : (Jvm.Cond.fieldLink "HearingDeskModel" (49 : Nat) "HearingDeskModel" "wordPattern" "[I") ∈ W0 := List.mem_filter.mpr ⟨List.mem_append_right _ (List.mem_of_getElem? (i := 665) (by decide +kernel)), rfl⟩
theorem tw_666 : (Jvm.Cond.fieldLink "HearingDeskModel" (52 : Nat) "HearingDeskModel" "sample" "[D") ∈ W0 := List.mem_filter.mpr ⟨List.mem_append_right _ (List.mem_of_getElem? (i := 666) (by decide +kernel)), rfl⟩
theorem tw_667 : (Jvm.Cond.fieldLink "HearingDeskModel" (56 : Nat) "HearingDeskModel" "levels" "[D") ∈ W0 := List.mem_filter.mpr ⟨List.mem_append_right _ (List.mem_of_getElem? (i := 667) (by decide +kernel)), rfl⟩
theorem tw_668 : (Jvm.Cond.fieldLink "HearingDeskModel" (59 : Nat) "HearingDeskModel" "wordCost" "[D") ∈ W0 := List.mem_filter.mpr ⟨List.mem_append_right _ (List.mem_of_getElem? (i := 668) (by decide +kernel)), rfl⟩
theorem tw_669 : (Jvm.Cond.fieldLink "HearingDeskModel" (62 : Nat) "HearingDeskModel" "one" "[D") ∈ W0 := List.mem_filter.mpr ⟨List.mem_append_right _ (List.mem_of_getElem? (i := 669) (by decide +kernel)), rfl⟩
theorem tw_670 : (Jvm.Cond.fieldLink "HearingDeskModel" (65 : Nat) "HearingDeskModel" "two" "[D") ∈ W0 := List.mem_filter.mpr ⟨List.mem_append_right _ (List.mem_of_getElem? (i := 670) (by decide +kernel)), rfl⟩
theorem tw_671 : (Jvm.Cond.fieldLink "HearingDeskModel" (68 : Nat) "HearingDeskModel" "way" "[D") ∈ W0 := List.mem_filter.mpr ⟨List.mem_append_right _ (List.mem_of_getElem? (i := 671) (by decide +kernel)), rfl⟩
theorem tw_672 : (Jvm.Cond.fieldLink "HearingDeskModel" (71 : Nat) "HearingDeskModel" "cosines" "[D") ∈ W0 := List.mem_filter.mpr ⟨List.mem_append_right _ (List.mem_of_getElem? (i := 672) (by decide +kernel)), rfl⟩
theorem tw_673 : (Jvm.Cond.fieldLink "HearingDeskModel" (74 : Nat) "HearingDeskModel" "sines" "[D") ∈ W0 := List.mem_filter.mpr ⟨List.mem_append_right _ (List.mem_of_getElem? (i := 673) (by decide +kernel)), rfl⟩
theorem tw_674 : (Jvm.Cond.lays "HearingDeskModel" "HearingDeskModel" "err" "I") ∈ W0 := List.mem_filter.mpr ⟨List.mem_append_right _ (List.mem_of_getElem? (i := 674) (by decide +kernel)), rfl⟩
theorem tw_676 : (Jvm.Cond.lays "HearingDeskModel" "HearingDeskModel" "filed" "I") ∈ W0 := List.mem_filter.mpr ⟨List.mem_append_right _ (List.mem_of_getElem? (i := 676) (by decide +kernel)), rfl⟩
theorem tw_678 : (Jvm.Cond.lays "HearingDeskModel" "HearingDeskModel" "wrongAt" "I") ∈ W0 := List.mem_filter.mpr ⟨List.mem_append_right _ (List.mem_of_getElem? (i := 678) (by decide +kernel)), rfl⟩
theorem tw_680 : (Jvm.Cond.lays "HearingDeskModel" "HearingDeskModel" "samples" "I") ∈ W0 := List.mem_filter.mpr ⟨List.mem_append_right _ (List.mem_of_getElem? (i := 680) (by decide +kernel)), rfl⟩
theorem tw_682 : (Jvm.Cond.lays "HearingDeskModel" "HearingDeskModel" "rate" "I") ∈ W0 := List.mem_filter.mpr ⟨List.mem_append_right _ (List.mem_of_getElem? (i := 682) (by decide +kernel)), rfl⟩
theorem tw_684 : (Jvm.Cond.lays "HearingDeskModel" "HearingDeskModel" "patterns" "I") ∈ W0 := List.mem_filter.mpr ⟨List.mem_append_right _ (List.mem_of_getElem? (i := 684) (by decide +kernel)), rfl⟩
theorem tw_686 : (Jvm.Cond.lays "HearingDeskModel" "HearingDeskModel" "words" "I") ∈ W0 := List.mem_filter.mpr ⟨List.mem_append_right _ (List.mem_of_getElem? (i := 686) (by decide +kernel)), rfl⟩
theorem tw_688 : (Jvm.Cond.lays "HearingDeskModel" "HearingDeskModel" "gap" "I") ∈ W0 := List.mem_filter.mpr ⟨List.mem_append_right _ (List.mem_of_getElem? (i := 688) (by decide +kernel)), rfl⟩
theorem tw_690 : (Jvm.Cond.lays "HearingDeskModel" "HearingDeskModel" "first" "I") ∈ W0 := List.mem_filter.mpr ⟨List.mem_append_right _ (List.mem_of_getElem? (i := 690) (by decide +kernel)), rfl⟩
theorem tw_692 : (Jvm.Cond.lays "HearingDeskModel" "HearingDeskModel" "second" "I") ∈ W0 := List.mem_filter.mpr ⟨List.mem_append_right _ (List.mem_of_getElem? (i := 692) (by decide +kernel)), rfl⟩
theorem tw_694 : (Jvm.Cond.lays "HearingDeskModel" "HearingDeskModel" "threshold" "D") ∈ W0 := List.mem_filter.mpr ⟨List.mem_append_right _ (List.mem_of_getElem? (i := 694) (by decide +kernel)), rfl⟩
theorem tw_696 : (Jvm.Cond.lays "HearingDeskModel" "HearingDeskModel" "limit" "D") ∈ W0 := List.mem_filter.mpr ⟨List.mem_append_right _ (List.mem_of_getElem? (i := 696) (by decide +kernel)), rfl⟩
theorem tw_698 : (Jvm.Cond.laysFinal "HearingDeskModel" "HearingDeskModel" "file" "[I") ∈ W0 := List.mem_filter.mpr ⟨List.mem_append_right _ (List.mem_of_getElem? (i := 698) (by decide +kernel)), rfl⟩
theorem tw_700 : (Jvm.Cond.laysFinal "HearingDeskModel" "HearingDeskModel" "letter" "[I") ∈ W0 := List.mem_filter.mpr ⟨List.mem_append_right _ (List.mem_of_getElem? (i := 700) (by decide +kernel)), rfl⟩
theorem tw_702 : (Jvm.Cond.laysFinal "HearingDeskModel" "HearingDeskModel" "rows" "[I") ∈ W0 := List.mem_filter.mpr ⟨List.mem_append_right _ (List.mem_of_getElem? (i := 702) (by decide +kernel)), rfl⟩
theorem tw_704 : (Jvm.Cond.laysFinal "HearingDeskModel" "HearingDeskModel" "wordLetter" "[I") ∈ W0 := List.mem_filter.mpr ⟨List.mem_append_right _ (List.mem_of_getElem? (i := 704) (by decide +kernel)), rfl⟩
theorem tw_706 : (Jvm.Cond.laysFinal "HearingDeskModel" "HearingDeskModel" "wordFirst" "[I") ∈ W0 := List.mem_filter.mpr ⟨List.mem_append_right _ (List.mem_of_getElem? (i := 706) (by decide +kernel)), rfl⟩
theorem tw_708 : (Jvm.Cond.laysFinal "HearingDeskModel" "HearingDeskModel" "wordSize" "[I") ∈ W0 := List.mem_filter.mpr ⟨List.mem_append_right _ (List.mem_of_getElem? (i := 708) (by decide +kernel)), rfl⟩
theorem tw_710 : (Jvm.Cond.laysFinal "HearingDeskModel" "HearingDeskModel" "wordPattern" "[I") ∈ W0 := List.mem_filter.mpr ⟨List.mem_append_right _ (List.mem_of_getElem? (i := 710) (by decide +kernel)), rfl⟩
theorem tw_712 : (Jvm.Cond.laysFinal "HearingDeskModel" "HearingDeskModel" "sample" "[D") ∈ W0 := List.mem_filter.mpr ⟨List.mem_append_right _ (List.mem_of_getElem? (i := 712) (by decide +kernel)), rfl⟩
theorem tw_714 : (Jvm.Cond.laysFinal "HearingDeskModel" "HearingDeskModel" "levels" "[D") ∈ W0 := List.mem_filter.mpr ⟨List.mem_append_right _ (List.mem_of_getElem? (i := 714) (by decide +kernel)), rfl⟩
theorem tw_716 : (Jvm.Cond.laysFinal "HearingDeskModel" "HearingDeskModel" "wordCost" "[D") ∈ W0 := List.mem_filter.mpr ⟨List.mem_append_right _ (List.mem_of_getElem? (i := 716) (by decide +kernel)), rfl⟩
theorem tw_718 : (Jvm.Cond.laysFinal "HearingDeskModel" "HearingDeskModel" "one" "[D") ∈ W0 := List.mem_filter.mpr ⟨List.mem_append_right _ (List.mem_of_getElem? (i := 718) (by decide +kernel)), rfl⟩
theorem tw_720 : (Jvm.Cond.laysFinal "HearingDeskModel" "HearingDeskModel" "two" "[D") ∈ W0 := List.mem_filter.mpr ⟨List.mem_append_right _ (List.mem_of_getElem? (i := 720) (by decide +kernel)), rfl⟩
theorem tw_722 : (Jvm.Cond.laysFinal "HearingDeskModel" "HearingDeskModel" "way" "[D") ∈ W0 := List.mem_filter.mpr ⟨List.mem_append_right _ (List.mem_of_getElem? (i := 722) (by decide +kernel)), rfl⟩
theorem tw_724 : (Jvm.Cond.laysFinal "HearingDeskModel" "HearingDeskModel" "cosines" "[D") ∈ W0 := List.mem_filter.mpr ⟨List.mem_append_right _ (List.mem_of_getElem? (i := 724) (by decide +kernel)), rfl⟩
theorem tw_726 : (Jvm.Cond.laysFinal "HearingDeskModel" "HearingDeskModel" "sines" "[D") ∈ W0 := List.mem_filter.mpr ⟨List.mem_append_right _ (List.mem_of_getElem? (i := 726) (by decide +kernel)), rfl⟩
theorem tw_729 : (Jvm.Cond.methodLink "HearingDeskLaw" (80 : Nat) ({ cls := "HearingDeskModel", name := "thrown", desc := "()I" } : Jvm.MethodName)) ∈ W0 := List.mem_filter.mpr ⟨List.mem_append_right _ (List.mem_of_getElem? (i := 729) (by decide +kernel)), rfl⟩
theorem tw_730 : (Jvm.Cond.instanceMethod ({ cls := "HearingDeskModel", name := "thrown", desc := "()I" } : Jvm.MethodName)) ∈ W0 := List.mem_filter.mpr ⟨List.mem_append_right _ (List.mem_of_getElem? (i := 730) (by decide +kernel)), rfl⟩
theorem tw_731 : (Jvm.Cond.selects "HearingDeskModel" ({ cls := "HearingDeskModel", name := "thrown", desc := "()I" } : Jvm.MethodName) ({ cls := "HearingDeskModel", name := "thrown", desc := "()I" } : Jvm.MethodName)) ∈ W0 := List.mem_filter.mpr ⟨List.mem_append_right _ (List.mem_of_getElem? (i := 731) (by decide +kernel)), rfl⟩
theorem tw_732 : (Jvm.Cond.code ({ cls := "HearingDeskModel", name := "thrown", desc := "()I" } : Jvm.MethodName) prog_11_method_2_code (1 : Nat) (Option.some Jvm.ClassFile.FieldType.int)) ∈ W0 := List.mem_filter.mpr ⟨List.mem_append_right _ (List.mem_of_getElem? (i := 732) (by decide +kernel)), rfl⟩
theorem tw_733 : (Jvm.Cond.methodLink "HearingDeskLaw" (79 : Nat) ({ cls := "HearingDeskModel", name := "octets", desc := "(IJ)I" } : Jvm.MethodName)) ∈ W0 := List.mem_filter.mpr ⟨List.mem_append_right _ (List.mem_of_getElem? (i := 733) (by decide +kernel)), rfl⟩
theorem tw_734 : (Jvm.Cond.instanceMethod ({ cls := "HearingDeskModel", name := "octets", desc := "(IJ)I" } : Jvm.MethodName)) ∈ W0 := List.mem_filter.mpr ⟨List.mem_append_right _ (List.mem_of_getElem? (i := 734) (by decide +kernel)), rfl⟩
theorem tw_735 : (Jvm.Cond.selects "HearingDeskModel" ({ cls := "HearingDeskModel", name := "octets", desc := "(IJ)I" } : Jvm.MethodName) ({ cls := "HearingDeskModel", name := "octets", desc := "(IJ)I" } : Jvm.MethodName)) ∈ W0 := List.mem_filter.mpr ⟨List.mem_append_right _ (List.mem_of_getElem? (i := 735) (by decide +kernel)), rfl⟩
theorem tw_736 : (Jvm.Cond.code ({ cls := "HearingDeskModel", name := "octets", desc := "(IJ)I" } : Jvm.MethodName) prog_11_method_5_code (5 : Nat) (Option.some Jvm.ClassFile.FieldType.int)) ∈ W0 := List.mem_filter.mpr ⟨List.mem_append_right _ (List.mem_of_getElem? (i := 736) (by decide +kernel)), rfl⟩
theorem tw_737 : (Jvm.Cond.constantLong "HearingDeskModel" (82 : Nat) (8 : Int64)) ∈ W0 := List.mem_filter.mpr ⟨List.mem_append_right _ (List.mem_of_getElem? (i := 737) (by decide +kernel)), rfl⟩
theorem tw_738 : (Jvm.Cond.methodLink "HearingDeskModel" (84 : Nat) ({ cls := "HearingDeskModel", name := "in", desc := "(JJJ)Z" } : Jvm.MethodName)) ∈ W0 := List.mem_filter.mpr ⟨List.mem_append_right _ (List.mem_of_getElem? (i := 738) (by decide +kernel)), rfl⟩
theorem tw_739 : (Jvm.Cond.static ({ cls := "HearingDeskModel", name := "in", desc := "(JJJ)Z" } : Jvm.MethodName)) ∈ W0 := List.mem_filter.mpr ⟨List.mem_append_right _ (List.mem_of_getElem? (i := 739) (by decide +kernel)), rfl⟩
theorem tw_740 : (Jvm.Cond.code ({ cls := "HearingDeskModel", name := "in", desc := "(JJJ)Z" } : Jvm.MethodName) prog_11_method_3_code (6 : Nat) (Option.some Jvm.ClassFile.FieldType.boolean)) ∈ W0 := List.mem_filter.mpr ⟨List.mem_append_right _ (List.mem_of_getElem? (i := 740) (by decide +kernel)), rfl⟩
theorem tw_741 : (Jvm.Cond.methodLink "HearingDeskModel" (88 : Nat) ({ cls := "HearingDeskModel", name := "fails", desc := "(ZI)Z" } : Jvm.MethodName)) ∈ W0 := List.mem_filter.mpr ⟨List.mem_append_right _ (List.mem_of_getElem? (i := 741) (by decide +kernel)), rfl⟩
theorem tw_743 : (Jvm.Cond.instanceMethod ({ cls := "HearingDeskModel", name := "fails", desc := "(ZI)Z" } : Jvm.MethodName)) ∈ W0 := List.mem_filter.mpr ⟨List.mem_append_right _ (List.mem_of_getElem? (i := 743) (by decide +kernel)), rfl⟩
theorem tw_744 : (Jvm.Cond.code ({ cls := "HearingDeskModel", name := "fails", desc := "(ZI)Z" } : Jvm.MethodName) prog_11_method_4_code (3 : Nat) (Option.some Jvm.ClassFile.FieldType.boolean)) ∈ W0 := List.mem_filter.mpr ⟨List.mem_append_right _ (List.mem_of_getElem? (i := 744) (by decide +kernel)), rfl⟩
theorem tw_745 : (Jvm.Cond.constantLong "HearingDeskModel" (95 : Nat) (255 : Int64)) ∈ W0 := List.mem_filter.mpr ⟨List.mem_append_right _ (List.mem_of_getElem? (i := 745) (by decide +kernel)), rfl⟩
theorem tw_746 : (Jvm.Cond.methodLink "HearingDeskLaw" (86 : Nat) ({ cls := "HearingDeskModel", name := "read", desc := "()I" } : Jvm.MethodName)) ∈ W0 := List.mem_filter.mpr ⟨List.mem_append_right _ (List.mem_of_getElem? (i := 746) (by decide +kernel)), rfl⟩
theorem tw_747 : (Jvm.Cond.instanceMethod ({ cls := "HearingDeskModel", name := "read", desc := "()I" } : Jvm.MethodName)) ∈ W0 := List.mem_filter.mpr ⟨List.mem_append_right _ (List.mem_of_getElem? (i := 747) (by decide +kernel)), rfl⟩
theorem tw_748 : (Jvm.Cond.selects "HearingDeskModel" ({ cls := "HearingDeskModel", name := "read", desc := "()I" } : Jvm.MethodName) ({ cls := "HearingDeskModel", name := "read", desc := "()I" } : Jvm.MethodName)) ∈ W0 := List.mem_filter.mpr ⟨List.mem_append_right _ (List.mem_of_getElem? (i := 748) (by decide +kernel)), rfl⟩
theorem tw_749 : (Jvm.Cond.code ({ cls := "HearingDeskModel", name := "read", desc := "()I" } : Jvm.MethodName) prog_11_method_10_code (8 : Nat) (Option.some Jvm.ClassFile.FieldType.int)) ∈ W0 := List.mem_filter.mpr ⟨List.mem_append_right _ (List.mem_of_getElem? (i := 749) (by decide +kernel)), rfl⟩
theorem tw_750 : (Jvm.Cond.methodLink "HearingDeskModel" (115 : Nat) ({ cls := "HearingDeskModel", name := "wrong", desc := "()I" } : Jvm.MethodName)) ∈ W0 := List.mem_filter.mpr ⟨List.mem_append_right _ (List.mem_of_getElem? (i := 750) (by decide +kernel)), rfl⟩
theorem tw_752 : (Jvm.Cond.instanceMethod ({ cls := "HearingDeskModel", name := "wrong", desc := "()I" } : Jvm.MethodName)) ∈ W0 := List.mem_filter.mpr ⟨List.mem_append_right _ (List.mem_of_getElem? (i := 752) (by decide +kernel)), rfl⟩
theorem tw_753 : (Jvm.Cond.code ({ cls := "HearingDeskModel", name := "wrong", desc := "()I" } : Jvm.MethodName) prog_11_method_8_code (9 : Nat) (Option.some Jvm.ClassFile.FieldType.int)) ∈ W0 := List.mem_filter.mpr ⟨List.mem_append_right _ (List.mem_of_getElem? (i := 753) (by decide +kernel)), rfl⟩
theorem tw_754 : (Jvm.Cond.methodLink "HearingDeskModel" (97 : Nat) ({ cls := "HearingDeskModel", name := "number", desc := "(II)J" } : Jvm.MethodName)) ∈ W0 := List.mem_filter.mpr ⟨List.mem_append_right _ (List.mem_of_getElem? (i := 754) (by decide +kernel)), rfl⟩
theorem tw_756 : (Jvm.Cond.instanceMethod ({ cls := "HearingDeskModel", name := "number", desc := "(II)J" } : Jvm.MethodName)) ∈ W0 := List.mem_filter.mpr ⟨List.mem_append_right _ (List.mem_of_getElem? (i := 756) (by decide +kernel)), rfl⟩
theorem tw_757 : (Jvm.Cond.code ({ cls := "HearingDeskModel", name := "number", desc := "(II)J" } : Jvm.MethodName) prog_11_method_6_code (6 : Nat) (Option.some Jvm.ClassFile.FieldType.long)) ∈ W0 := List.mem_filter.mpr ⟨List.mem_append_right _ (List.mem_of_getElem? (i := 757) (by decide +kernel)), rfl⟩
theorem tw_758 : (Jvm.Cond.methodLink "HearingDeskModel" (101 : Nat) ({ cls := "HearingDeskModel", name := "spells", desc := "(IIIII)Z" } : Jvm.MethodName)) ∈ W0 := List.mem_filter.mpr ⟨List.mem_append_right _ (List.mem_of_getElem? (i := 758) (by decide +kernel)), rfl⟩
theorem tw_760 : (Jvm.Cond.instanceMethod ({ cls := "HearingDeskModel", name := "spells", desc := "(IIIII)Z" } : Jvm.MethodName)) ∈ W0 := List.mem_filter.mpr ⟨List.mem_append_right _ (List.mem_of_getElem? (i := 760) (by decide +kernel)), rfl⟩
theorem tw_761 : (Jvm.Cond.code ({ cls := "HearingDeskModel", name := "spells", desc := "(IIIII)Z" } : Jvm.MethodName) prog_11_method_7_code (6 : Nat) (Option.some Jvm.ClassFile.FieldType.boolean)) ∈ W0 := List.mem_filter.mpr ⟨List.mem_append_right _ (List.mem_of_getElem? (i := 761) (by decide +kernel)), rfl⟩
theorem tw_762 : (Jvm.Cond.constantLong "HearingDeskModel" (105 : Nat) (16 : Int64)) ∈ W0 := List.mem_filter.mpr ⟨List.mem_append_right _ (List.mem_of_getElem? (i := 762) (by decide +kernel)), rfl⟩
theorem tw_763 : (Jvm.Cond.constantLong "HearingDeskModel" (107 : Nat) (2 : Int64)) ∈ W0 := List.mem_filter.mpr ⟨List.mem_append_right _ (List.mem_of_getElem? (i := 763) (by decide +kernel)), rfl⟩
theorem tw_764 : (Jvm.Cond.constantLong "HearingDeskModel" (109 : Nat) (1000 : Int64)) ∈ W0 := List.mem_filter.mpr ⟨List.mem_append_right _ (List.mem_of_getElem? (i := 764) (by decide +kernel)), rfl⟩
theorem tw_765 : (Jvm.Cond.constantLong "HearingDeskModel" (111 : Nat) (48000 : Int64)) ∈ W0 := List.mem_filter.mpr ⟨List.mem_append_right _ (List.mem_of_getElem? (i := 765) (by decide +kernel)), rfl⟩
theorem tw_766 : (Jvm.Cond.methodLink "HearingDeskModel" (119 : Nat) ({ cls := "HearingDeskModel", name := "heard", desc := "(II)D" } : Jvm.MethodName)) ∈ W0 := List.mem_filter.mpr ⟨List.mem_append_right _ (List.mem_of_getElem? (i := 766) (by decide +kernel)), rfl⟩
theorem tw_768 : (Jvm.Cond.instanceMethod ({ cls := "HearingDeskModel", name := "heard", desc := "(II)D" } : Jvm.MethodName)) ∈ W0 := List.mem_filter.mpr ⟨List.mem_append_right _ (List.mem_of_getElem? (i := 768) (by decide +kernel)), rfl⟩
theorem tw_769 : (Jvm.Cond.code ({ cls := "HearingDeskModel", name := "heard", desc := "(II)D" } : Jvm.MethodName) prog_11_method_9_code (4 : Nat) (Option.some Jvm.ClassFile.FieldType.double)) ∈ W0 := List.mem_filter.mpr ⟨List.mem_append_right _ (List.mem_of_getElem? (i := 769) (by decide +kernel)), rfl⟩
theorem tw_770 : (Jvm.Cond.constantDouble "HearingDeskModel" (113 : Nat) (4674736413210574848 : UInt64)) ∈ W0 := List.mem_filter.mpr ⟨List.mem_append_right _ (List.mem_of_getElem? (i := 770) (by decide +kernel)), rfl⟩
theorem tw_771 : (Jvm.Cond.constantDouble "HearingDeskModel" (123 : Nat) (4611686018427387904 : UInt64)) ∈ W0 := List.mem_filter.mpr ⟨List.mem_append_right _ (List.mem_of_getElem? (i := 771) (by decide +kernel)), rfl⟩
theorem tw_772 : (Jvm.Cond.methodLink "HearingDeskLaw" (90 : Nat) ({ cls := "HearingDeskModel", name := "place", desc := "()I" } : Jvm.MethodName)) ∈ W0 := List.mem_filter.mpr ⟨List.mem_append_right _ (List.mem_of_getElem? (i := 772) (by decide +kernel)), rfl⟩
theorem tw_773 : (Jvm.Cond.instanceMethod ({ cls := "HearingDeskModel", name := "place", desc := "()I" } : Jvm.MethodName)) ∈ W0 := List.mem_filter.mpr ⟨List.mem_append_right _ (List.mem_of_getElem? (i := 773) (by decide +kernel)), rfl⟩
theorem tw_774 : (Jvm.Cond.selects "HearingDeskModel" ({ cls := "HearingDeskModel", name := "place", desc := "()I" } : Jvm.MethodName) ({ cls := "HearingDeskModel", name := "place", desc := "()I" } : Jvm.MethodName)) ∈ W0 := List.mem_filter.mpr ⟨List.mem_append_right _ (List.mem_of_getElem? (i := 774) (by decide +kernel)), rfl⟩
theorem tw_775 : (Jvm.Cond.code ({ cls := "HearingDeskModel", name := "place", desc := "()I" } : Jvm.MethodName) prog_11_method_11_code (1 : Nat) (Option.some Jvm.ClassFile.FieldType.int)) ∈ W0 := List.mem_filter.mpr ⟨List.mem_append_right _ (List.mem_of_getElem? (i := 775) (by decide +kernel)), rfl⟩
theorem tw_776 : (Jvm.Cond.methodLink "HearingDeskLaw" (96 : Nat) ({ cls := "HearingDeskModel", name := "wave", desc := "(IID)I" } : Jvm.MethodName)) ∈ W0 := List.mem_filter.mpr ⟨List.mem_append_right _ (List.mem_of_getElem? (i := 776) (by decide +kernel)), rfl⟩
theorem tw_777 : (Jvm.Cond.instanceMethod ({ cls := "HearingDeskModel", name := "wave", desc := "(IID)I" } : Jvm.MethodName)) ∈ W0 := List.mem_filter.mpr ⟨List.mem_append_right _ (List.mem_of_getElem? (i := 777) (by decide +kernel)), rfl⟩
theorem tw_778 : (Jvm.Cond.selects "HearingDeskModel" ({ cls := "HearingDeskModel", name := "wave", desc := "(IID)I" } : Jvm.MethodName) ({ cls := "HearingDeskModel", name := "wave", desc := "(IID)I" } : Jvm.MethodName)) ∈ W0 := List.mem_filter.mpr ⟨List.mem_append_right _ (List.mem_of_getElem? (i := 778) (by decide +kernel)), rfl⟩
theorem tw_779 : (Jvm.Cond.code ({ cls := "HearingDeskModel", name := "wave", desc := "(IID)I" } : Jvm.MethodName) prog_11_method_12_code (6 : Nat) (Option.some Jvm.ClassFile.FieldType.int)) ∈ W0 := List.mem_filter.mpr ⟨List.mem_append_right _ (List.mem_of_getElem? (i := 779) (by decide +kernel)), rfl⟩
theorem tw_780 : (Jvm.Cond.constantLong "HearingDeskModel" (131 : Nat) (64 : Int64)) ∈ W0 := List.mem_filter.mpr ⟨List.mem_append_right _ (List.mem_of_getElem? (i := 780) (by decide +kernel)), rfl⟩
theorem tw_781 : (Jvm.Cond.constantLong "HearingDeskModel" (133 : Nat) (31 : Int64)) ∈ W0 := List.mem_filter.mpr ⟨List.mem_append_right _ (List.mem_of_getElem? (i := 781) (by decide +kernel)), rfl⟩
theorem tw_782 : (Jvm.Cond.methodLink "HearingDeskLaw" (100 : Nat) ({ cls := "HearingDeskModel", name := "clear", desc := "()I" } : Jvm.MethodName)) ∈ W0 := List.mem_filter.mpr ⟨List.mem_append_right _ (List.mem_of_getElem? (i := 782) (by decide +kernel)), rfl⟩
theorem tw_783 : (Jvm.Cond.instanceMethod ({ cls := "HearingDeskModel", name := "clear", desc := "()I" } : Jvm.MethodName)) ∈ W0 := List.mem_filter.mpr ⟨List.mem_append_right _ (List.mem_of_getElem? (i := 783) (by decide +kernel)), rfl⟩
theorem tw_784 : (Jvm.Cond.selects "HearingDeskModel" ({ cls := "HearingDeskModel", name := "clear", desc := "()I" } : Jvm.MethodName) ({ cls := "HearingDeskModel", name := "clear", desc := "()I" } : Jvm.MethodName)) ∈ W0 := List.mem_filter.mpr ⟨List.mem_append_right _ (List.mem_of_getElem? (i := 784) (by decide +kernel)), rfl⟩
theorem tw_785 : (Jvm.Cond.code ({ cls := "HearingDeskModel", name := "clear", desc := "()I" } : Jvm.MethodName) prog_11_method_13_code (2 : Nat) (Option.some Jvm.ClassFile.FieldType.int)) ∈ W0 := List.mem_filter.mpr ⟨List.mem_append_right _ (List.mem_of_getElem? (i := 785) (by decide +kernel)), rfl⟩
theorem tw_786 : (Jvm.Cond.methodLink "HearingDeskLaw" (104 : Nat) ({ cls := "HearingDeskModel", name := "sample", desc := "(I)D" } : Jvm.MethodName)) ∈ W0 := List.mem_filter.mpr ⟨List.mem_append_right _ (List.mem_of_getElem? (i := 786) (by decide +kernel)), rfl⟩
theorem tw_787 : (Jvm.Cond.instanceMethod ({ cls := "HearingDeskModel", name := "sample", desc := "(I)D" } : Jvm.MethodName)) ∈ W0 := List.mem_filter.mpr ⟨List.mem_append_right _ (List.mem_of_getElem? (i := 787) (by decide +kernel)), rfl⟩
theorem tw_788 : (Jvm.Cond.selects "HearingDeskModel" ({ cls := "HearingDeskModel", name := "sample", desc := "(I)D" } : Jvm.MethodName) ({ cls := "HearingDeskModel", name := "sample", desc := "(I)D" } : Jvm.MethodName)) ∈ W0 := List.mem_filter.mpr ⟨List.mem_append_right _ (List.mem_of_getElem? (i := 788) (by decide +kernel)), rfl⟩
theorem tw_789 : (Jvm.Cond.code ({ cls := "HearingDeskModel", name := "sample", desc := "(I)D" } : Jvm.MethodName) prog_11_method_14_code (2 : Nat) (Option.some Jvm.ClassFile.FieldType.double)) ∈ W0 := List.mem_filter.mpr ⟨List.mem_append_right _ (List.mem_of_getElem? (i := 789) (by decide +kernel)), rfl⟩
theorem tw_790 : (Jvm.Cond.methodLink "HearingDeskLaw" (108 : Nat) ({ cls := "HearingDeskModel", name := "power", desc := "(II)D" } : Jvm.MethodName)) ∈ W0 := List.mem_filter.mpr ⟨List.mem_append_right _ (List.mem_of_getElem? (i := 790) (by decide +kernel)), rfl⟩
theorem tw_791 : (Jvm.Cond.instanceMethod ({ cls := "HearingDeskModel", name := "power", desc := "(II)D" } : Jvm.MethodName)) ∈ W0 := List.mem_filter.mpr ⟨List.mem_append_right _ (List.mem_of_getElem? (i := 791) (by decide +kernel)), rfl⟩
theorem tw_792 : (Jvm.Cond.selects "HearingDeskModel" ({ cls := "HearingDeskModel", name := "power", desc := "(II)D" } : Jvm.MethodName) ({ cls := "HearingDeskModel", name := "power", desc := "(II)D" } : Jvm.MethodName)) ∈ W0 := List.mem_filter.mpr ⟨List.mem_append_right _ (List.mem_of_getElem? (i := 792) (by decide +kernel)), rfl⟩
theorem tw_793 : (Jvm.Cond.code ({ cls := "HearingDeskModel", name := "power", desc := "(II)D" } : Jvm.MethodName) prog_11_method_21_code (3 : Nat) (Option.some Jvm.ClassFile.FieldType.double)) ∈ W0 := List.mem_filter.mpr ⟨List.mem_append_right _ (List.mem_of_getElem? (i := 793) (by decide +kernel)), rfl⟩
theorem tw_794 : (Jvm.Cond.methodLink "HearingDeskModel" (155 : Nat) ({ cls := "HearingDeskModel", name := "frames", desc := "()I" } : Jvm.MethodName)) ∈ W0 := List.mem_filter.mpr ⟨List.mem_append_right _ (List.mem_of_getElem? (i := 794) (by decide +kernel)), rfl⟩
theorem tw_796 : (Jvm.Cond.instanceMethod ({ cls := "HearingDeskModel", name := "frames", desc := "()I" } : Jvm.MethodName)) ∈ W0 := List.mem_filter.mpr ⟨List.mem_append_right _ (List.mem_of_getElem? (i := 796) (by decide +kernel)), rfl⟩
theorem tw_797 : (Jvm.Cond.code ({ cls := "HearingDeskModel", name := "frames", desc := "()I" } : Jvm.MethodName) prog_11_method_15_code (1 : Nat) (Option.some Jvm.ClassFile.FieldType.int)) ∈ W0 := List.mem_filter.mpr ⟨List.mem_append_right _ (List.mem_of_getElem? (i := 797) (by decide +kernel)), rfl⟩
theorem tw_798 : (Jvm.Cond.methodLink "HearingDeskModel" (137 : Nat) ({ cls := "HearingDeskModel", name := "powerOf", desc := "(II)D" } : Jvm.MethodName)) ∈ W0 := List.mem_filter.mpr ⟨List.mem_append_right _ (List.mem_of_getElem? (i := 798) (by decide +kernel)), rfl⟩
theorem tw_800 : (Jvm.Cond.instanceMethod ({ cls := "HearingDeskModel", name := "powerOf", desc := "(II)D" } : Jvm.MethodName)) ∈ W0 := List.mem_filter.mpr ⟨List.mem_append_right _ (List.mem_of_getElem? (i := 800) (by decide +kernel)), rfl⟩
theorem tw_801 : (Jvm.Cond.code ({ cls := "HearingDeskModel", name := "powerOf", desc := "(II)D" } : Jvm.MethodName) prog_11_method_16_code (10 : Nat) (Option.some Jvm.ClassFile.FieldType.double)) ∈ W0 := List.mem_filter.mpr ⟨List.mem_append_right _ (List.mem_of_getElem? (i := 801) (by decide +kernel)), rfl⟩
theorem tw_802 : (Jvm.Cond.constantDouble "HearingDeskModel" (135 : Nat) (4602678819172646912 : UInt64)) ∈ W0 := List.mem_filter.mpr ⟨List.mem_append_right _ (List.mem_of_getElem? (i := 802) (by decide +kernel)), rfl⟩
theorem tw_803 : (Jvm.Cond.methodLink "HearingDeskLaw" (111 : Nat) ({ cls := "HearingDeskModel", name := "level", desc := "(II)D" } : Jvm.MethodName)) ∈ W0 := List.mem_filter.mpr ⟨List.mem_append_right _ (List.mem_of_getElem? (i := 803) (by decide +kernel)), rfl⟩
theorem tw_804 : (Jvm.Cond.instanceMethod ({ cls := "HearingDeskModel", name := "level", desc := "(II)D" } : Jvm.MethodName)) ∈ W0 := List.mem_filter.mpr ⟨List.mem_append_right _ (List.mem_of_getElem? (i := 804) (by decide +kernel)), rfl⟩
theorem tw_805 : (Jvm.Cond.selects "HearingDeskModel" ({ cls := "HearingDeskModel", name := "level", desc := "(II)D" } : Jvm.MethodName) ({ cls := "HearingDeskModel", name := "level", desc := "(II)D" } : Jvm.MethodName)) ∈ W0 := List.mem_filter.mpr ⟨List.mem_append_right _ (List.mem_of_getElem? (i := 805) (by decide +kernel)), rfl⟩
theorem tw_806 : (Jvm.Cond.code ({ cls := "HearingDeskModel", name := "level", desc := "(II)D" } : Jvm.MethodName) prog_11_method_22_code (3 : Nat) (Option.some Jvm.ClassFile.FieldType.double)) ∈ W0 := List.mem_filter.mpr ⟨List.mem_append_right _ (List.mem_of_getElem? (i := 806) (by decide +kernel)), rfl⟩
theorem tw_807 : (Jvm.Cond.constantLong "HearingDeskModel" (158 : Nat) (3 : Int64)) ∈ W0 := List.mem_filter.mpr ⟨List.mem_append_right _ (List.mem_of_getElem? (i := 807) (by decide +kernel)), rfl⟩
theorem tw_808 : (Jvm.Cond.methodLink "HearingDeskModel" (160 : Nat) ({ cls := "HearingDeskModel", name := "levelOf", desc := "(II)D" } : Jvm.MethodName)) ∈ W0 := List.mem_filter.mpr ⟨List.mem_append_right _ (List.mem_of_getElem? (i := 808) (by decide +kernel)), rfl⟩
theorem tw_810 : (Jvm.Cond.instanceMethod ({ cls := "HearingDeskModel", name := "levelOf", desc := "(II)D" } : Jvm.MethodName)) ∈ W0 := List.mem_filter.mpr ⟨List.mem_append_right _ (List.mem_of_getElem? (i := 810) (by decide +kernel)), rfl⟩
theorem tw_811 : (Jvm.Cond.code ({ cls := "HearingDeskModel", name := "levelOf", desc := "(II)D" } : Jvm.MethodName) prog_11_method_19_code (5 : Nat) (Option.some Jvm.ClassFile.FieldType.double)) ∈ W0 := List.mem_filter.mpr ⟨List.mem_append_right _ (List.mem_of_getElem? (i := 811) (by decide +kernel)), rfl⟩
theorem tw_812 : (Jvm.Cond.methodLink "HearingDeskModel" (146 : Nat) ({ cls := "HearingDeskModel", name := "bandOf", desc := "(II)D" } : Jvm.MethodName)) ∈ W0 := List.mem_filter.mpr ⟨List.mem_append_right _ (List.mem_of_getElem? (i := 812) (by decide +kernel)), rfl⟩
theorem tw_814 : (Jvm.Cond.instanceMethod ({ cls := "HearingDeskModel", name := "bandOf", desc := "(II)D" } : Jvm.MethodName)) ∈ W0 := List.mem_filter.mpr ⟨List.mem_append_right _ (List.mem_of_getElem? (i := 814) (by decide +kernel)), rfl⟩
theorem tw_815 : (Jvm.Cond.code ({ cls := "HearingDeskModel", name := "bandOf", desc := "(II)D" } : Jvm.MethodName) prog_11_method_17_code (8 : Nat) (Option.some Jvm.ClassFile.FieldType.double)) ∈ W0 := List.mem_filter.mpr ⟨List.mem_append_right _ (List.mem_of_getElem? (i := 815) (by decide +kernel)), rfl⟩
theorem tw_816 : (Jvm.Cond.constantDouble "HearingDeskModel" (149 : Nat) (4457293557087583675 : UInt64)) ∈ W0 := List.mem_filter.mpr ⟨List.mem_append_right _ (List.mem_of_getElem? (i := 816) (by decide +kernel)), rfl⟩
theorem tw_817 : (Jvm.Cond.methodLink "HearingDeskModel" (151 : Nat) ({ cls := "HearingDeskModel", name := "logarithm", desc := "(D)D" } : Jvm.MethodName)) ∈ W0 := List.mem_filter.mpr ⟨List.mem_append_right _ (List.mem_of_getElem? (i := 817) (by decide +kernel)), rfl⟩
theorem tw_818 : (Jvm.Cond.static ({ cls := "HearingDeskModel", name := "logarithm", desc := "(D)D" } : Jvm.MethodName)) ∈ W0 := List.mem_filter.mpr ⟨List.mem_append_right _ (List.mem_of_getElem? (i := 818) (by decide +kernel)), rfl⟩
theorem tw_819 : (Jvm.Cond.code ({ cls := "HearingDeskModel", name := "logarithm", desc := "(D)D" } : Jvm.MethodName) prog_11_method_18_code (12 : Nat) (Option.some Jvm.ClassFile.FieldType.double)) ∈ W0 := List.mem_filter.mpr ⟨List.mem_append_right _ (List.mem_of_getElem? (i := 819) (by decide +kernel)), rfl⟩
theorem tw_820 : (Jvm.Cond.constantDouble "HearingDeskModel" (140 : Nat) (4609434218613702656 : UInt64)) ∈ W0 := List.mem_filter.mpr ⟨List.mem_append_right _ (List.mem_of_getElem? (i := 820) (by decide +kernel)), rfl⟩
theorem tw_821 : (Jvm.Cond.constantDouble "HearingDeskModel" (142 : Nat) (4604930618986332160 : UInt64)) ∈ W0 := List.mem_filter.mpr ⟨List.mem_append_right _ (List.mem_of_getElem? (i := 821) (by decide +kernel)), rfl⟩
theorem tw_822 : (Jvm.Cond.constantDouble "HearingDeskModel" (144 : Nat) (4604418534313441775 : UInt64)) ∈ W0 := List.mem_filter.mpr ⟨List.mem_append_right _ (List.mem_of_getElem? (i := 822) (by decide +kernel)), rfl⟩
theorem tw_823 : (Jvm.Cond.methodLink "HearingDeskLaw" (115 : Nat) ({ cls := "HearingDeskModel", name := "ways", desc := "(DID)V" } : Jvm.MethodName)) ∈ W0 := List.mem_filter.mpr ⟨List.mem_append_right _ (List.mem_of_getElem? (i := 823) (by decide +kernel)), rfl⟩
theorem tw_824 : (Jvm.Cond.instanceMethod ({ cls := "HearingDeskModel", name := "ways", desc := "(DID)V" } : Jvm.MethodName)) ∈ W0 := List.mem_filter.mpr ⟨List.mem_append_right _ (List.mem_of_getElem? (i := 824) (by decide +kernel)), rfl⟩
theorem tw_825 : (Jvm.Cond.selects "HearingDeskModel" ({ cls := "HearingDeskModel", name := "ways", desc := "(DID)V" } : Jvm.MethodName) ({ cls := "HearingDeskModel", name := "ways", desc := "(DID)V" } : Jvm.MethodName)) ∈ W0 := List.mem_filter.mpr ⟨List.mem_append_right _ (List.mem_of_getElem? (i := 825) (by decide +kernel)), rfl⟩
theorem tw_826 : (Jvm.Cond.code ({ cls := "HearingDeskModel", name := "ways", desc := "(DID)V" } : Jvm.MethodName) prog_11_method_23_code (6 : Nat) (Option.none : Option Jvm.ClassFile.FieldType)) ∈ W0 := List.mem_filter.mpr ⟨List.mem_append_right _ (List.mem_of_getElem? (i := 826) (by decide +kernel)), rfl⟩
theorem tw_827 : (Jvm.Cond.constantLong "HearingDeskModel" (163 : Nat) (4 : Int64)) ∈ W0 := List.mem_filter.mpr ⟨List.mem_append_right _ (List.mem_of_getElem? (i := 827) (by decide +kernel)), rfl⟩
theorem tw_828 : (Jvm.Cond.methodLink "HearingDeskLaw" (119 : Nat) ({ cls := "HearingDeskModel", name := "learn", desc := "(III)I" } : Jvm.MethodName)) ∈ W0 := List.mem_filter.mpr ⟨List.mem_append_right _ (List.mem_of_getElem? (i := 828) (by decide +kernel)), rfl⟩
theorem tw_829 : (Jvm.Cond.instanceMethod ({ cls := "HearingDeskModel", name := "learn", desc := "(III)I" } : Jvm.MethodName)) ∈ W0 := List.mem_filter.mpr ⟨List.mem_append_right _ (List.mem_of_getElem? (i := 829) (by decide +kernel)), rfl⟩
theorem tw_830 : (Jvm.Cond.selects "HearingDeskModel" ({ cls := "HearingDeskModel", name := "learn", desc := "(III)I" } : Jvm.MethodName) ({ cls := "HearingDeskModel", name := "learn", desc := "(III)I" } : Jvm.MethodName)) ∈ W0 := List.mem_filter.mpr ⟨List.mem_append_right _ (List.mem_of_getElem? (i := 830) (by decide +kernel)), rfl⟩
theorem tw_831 : (Jvm.Cond.code ({ cls := "HearingDeskModel", name := "learn", desc := "(III)I" } : Jvm.MethodName) prog_11_method_24_code (6 : Nat) (Option.some Jvm.ClassFile.FieldType.int)) ∈ W0 := List.mem_filter.mpr ⟨List.mem_append_right _ (List.mem_of_getElem? (i := 831) (by decide +kernel)), rfl⟩
theorem tw_832 : (Jvm.Cond.constantLong "HearingDeskModel" (165 : Nat) (97 : Int64)) ∈ W0 := List.mem_filter.mpr ⟨List.mem_append_right _ (List.mem_of_getElem? (i := 832) (by decide +kernel)), rfl⟩
theorem tw_833 : (Jvm.Cond.constantLong "HearingDeskModel" (167 : Nat) (122 : Int64)) ∈ W0 := List.mem_filter.mpr ⟨List.mem_append_right _ (List.mem_of_getElem? (i := 833) (by decide +kernel)), rfl⟩
theorem tw_834 : (Jvm.Cond.methodLink "HearingDeskLaw" (123 : Nat) ({ cls := "HearingDeskModel", name := "forget", desc := "(I)I" } : Jvm.MethodName)) ∈ W0 := List.mem_filter.mpr ⟨List.mem_append_right _ (List.mem_of_getElem? (i := 834) (by decide +kernel)), rfl⟩
theorem tw_835 : (Jvm.Cond.instanceMethod ({ cls := "HearingDeskModel", name := "forget", desc := "(I)I" } : Jvm.MethodName)) ∈ W0 := List.mem_filter.mpr ⟨List.mem_append_right _ (List.mem_of_getElem? (i := 835) (by decide +kernel)), rfl⟩
theorem tw_836 : (Jvm.Cond.selects "HearingDeskModel" ({ cls := "HearingDeskModel", name := "forget", desc := "(I)I" } : Jvm.MethodName) ({ cls := "HearingDeskModel", name := "forget", desc := "(I)I" } : Jvm.MethodName)) ∈ W0 := List.mem_filter.mpr ⟨List.mem_append_right _ (List.mem_of_getElem? (i := 836) (by decide +kernel)), rfl⟩
theorem tw_837 : (Jvm.Cond.code ({ cls := "HearingDeskModel", name := "forget", desc := "(I)I" } : Jvm.MethodName) prog_11_method_25_code (5 : Nat) (Option.some Jvm.ClassFile.FieldType.int)) ∈ W0 := List.mem_filter.mpr ⟨List.mem_append_right _ (List.mem_of_getElem? (i := 837) (by decide +kernel)), rfl⟩
theorem tw_838 : (Jvm.Cond.methodLink "HearingDeskLaw" (126 : Nat) ({ cls := "HearingDeskModel", name := "warp", desc := "(II)D" } : Jvm.MethodName)) ∈ W0 := List.mem_filter.mpr ⟨List.mem_append_right _ (List.mem_of_getElem? (i := 838) (by decide +kernel)), rfl⟩
theorem tw_839 : (Jvm.Cond.instanceMethod ({ cls := "HearingDeskModel", name := "warp", desc := "(II)D" } : Jvm.MethodName)) ∈ W0 := List.mem_filter.mpr ⟨List.mem_append_right _ (List.mem_of_getElem? (i := 839) (by decide +kernel)), rfl⟩
theorem tw_840 : (Jvm.Cond.selects "HearingDeskModel" ({ cls := "HearingDeskModel", name := "warp", desc := "(II)D" } : Jvm.MethodName) ({ cls := "HearingDeskModel", name := "warp", desc := "(II)D" } : Jvm.MethodName)) ∈ W0 := List.mem_filter.mpr ⟨List.mem_append_right _ (List.mem_of_getElem? (i := 840) (by decide +kernel)), rfl⟩
theorem tw_841 : (Jvm.Cond.code ({ cls := "HearingDeskModel", name := "warp", desc := "(II)D" } : Jvm.MethodName) prog_11_method_28_code (3 : Nat) (Option.some Jvm.ClassFile.FieldType.double)) ∈ W0 := List.mem_filter.mpr ⟨List.mem_append_right _ (List.mem_of_getElem? (i := 841) (by decide +kernel)), rfl⟩
theorem tw_842 : (Jvm.Cond.methodLink "HearingDeskModel" (178 : Nat) ({ cls := "HearingDeskModel", name := "takes", desc := "([DI)V" } : Jvm.MethodName)) ∈ W0 := List.mem_filter.mpr ⟨List.mem_append_right _ (List.mem_of_getElem? (i := 842) (by decide +kernel)), rfl⟩
theorem tw_844 : (Jvm.Cond.instanceMethod ({ cls := "HearingDeskModel", name := "takes", desc := "([DI)V" } : Jvm.MethodName)) ∈ W0 := List.mem_filter.mpr ⟨List.mem_append_right _ (List.mem_of_getElem? (i := 844) (by decide +kernel)), rfl⟩
theorem tw_845 : (Jvm.Cond.code ({ cls := "HearingDeskModel", name := "takes", desc := "([DI)V" } : Jvm.MethodName) prog_11_method_26_code (4 : Nat) (Option.none : Option Jvm.ClassFile.FieldType)) ∈ W0 := List.mem_filter.mpr ⟨List.mem_append_right _ (List.mem_of_getElem? (i := 845) (by decide +kernel)), rfl⟩
theorem tw_846 : (Jvm.Cond.methodLink "HearingDeskModel" (182 : Nat) ({ cls := "HearingDeskModel", name := "warps", desc := "()D" } : Jvm.MethodName)) ∈ W0 := List.mem_filter.mpr ⟨List.mem_append_right _ (List.mem_of_getElem? (i := 846) (by decide +kernel)), rfl⟩
theorem tw_848 : (Jvm.Cond.instanceMethod ({ cls := "HearingDeskModel", name := "warps", desc := "()D" } : Jvm.MethodName)) ∈ W0 := List.mem_filter.mpr ⟨List.mem_append_right _ (List.mem_of_getElem? (i := 848) (by decide +kernel)), rfl⟩
theorem tw_849 : (Jvm.Cond.code ({ cls := "HearingDeskModel", name := "warps", desc := "()D" } : Jvm.MethodName) prog_11_method_27_code (8 : Nat) (Option.some Jvm.ClassFile.FieldType.double)) ∈ W0 := List.mem_filter.mpr ⟨List.mem_append_right _ (List.mem_of_getElem? (i := 849) (by decide +kernel)), rfl⟩
theorem tw_850 : (Jvm.Cond.methodLink "HearingDeskLaw" (129 : Nat) ({ cls := "HearingDeskModel", name := "hear", desc := "()I" } : Jvm.MethodName)) ∈ W0 := List.mem_filter.mpr ⟨List.mem_append_right _ (List.mem_of_getElem? (i := 850) (by decide +kernel)), rfl⟩
theorem tw_851 : (Jvm.Cond.instanceMethod ({ cls := "HearingDeskModel", name := "hear", desc := "()I" } : Jvm.MethodName)) ∈ W0 := List.mem_filter.mpr ⟨List.mem_append_right _ (List.mem_of_getElem? (i := 851) (by decide +kernel)), rfl⟩
theorem tw_852 : (Jvm.Cond.selects "HearingDeskModel" ({ cls := "HearingDeskModel", name := "hear", desc := "()I" } : Jvm.MethodName) ({ cls := "HearingDeskModel", name := "hear", desc := "()I" } : Jvm.MethodName)) ∈ W0 := List.mem_filter.mpr ⟨List.mem_append_right _ (List.mem_of_getElem? (i := 852) (by decide +kernel)), rfl⟩
theorem tw_853 : (Jvm.Cond.code ({ cls := "HearingDeskModel", name := "hear", desc := "()I" } : Jvm.MethodName) prog_11_method_30_code (7 : Nat) (Option.some Jvm.ClassFile.FieldType.int)) ∈ W0 := List.mem_filter.mpr ⟨List.mem_append_right _ (List.mem_of_getElem? (i := 853) (by decide +kernel)), rfl⟩
theorem tw_854 : (Jvm.Cond.methodLink "HearingDeskModel" (186 : Nat) ({ cls := "HearingDeskModel", name := "isLoud", desc := "(I)Z" } : Jvm.MethodName)) ∈ W0 := List.mem_filter.mpr ⟨List.mem_append_right _ (List.mem_of_getElem? (i := 854) (by decide +kernel)), rfl⟩
theorem tw_856 : (Jvm.Cond.instanceMethod ({ cls := "HearingDeskModel", name := "isLoud", desc := "(I)Z" } : Jvm.MethodName)) ∈ W0 := List.mem_filter.mpr ⟨List.mem_append_right _ (List.mem_of_getElem? (i := 856) (by decide +kernel)), rfl⟩
theorem tw_857 : (Jvm.Cond.code ({ cls := "HearingDeskModel", name := "isLoud", desc := "(I)Z" } : Jvm.MethodName) prog_11_method_20_code (5 : Nat) (Option.some Jvm.ClassFile.FieldType.boolean)) ∈ W0 := List.mem_filter.mpr ⟨List.mem_append_right _ (List.mem_of_getElem? (i := 857) (by decide +kernel)), rfl⟩
theorem tw_858 : (Jvm.Cond.methodLink "HearingDeskModel" (190 : Nat) ({ cls := "HearingDeskModel", name := "writes", desc := "(II)V" } : Jvm.MethodName)) ∈ W0 := List.mem_filter.mpr ⟨List.mem_append_right _ (List.mem_of_getElem? (i := 858) (by decide +kernel)), rfl⟩
theorem tw_860 : (Jvm.Cond.instanceMethod ({ cls := "HearingDeskModel", name := "writes", desc := "(II)V" } : Jvm.MethodName)) ∈ W0 := List.mem_filter.mpr ⟨List.mem_append_right _ (List.mem_of_getElem? (i := 860) (by decide +kernel)), rfl⟩
theorem tw_861 : (Jvm.Cond.code ({ cls := "HearingDeskModel", name := "writes", desc := "(II)V" } : Jvm.MethodName) prog_11_method_29_code (7 : Nat) (Option.none : Option Jvm.ClassFile.FieldType)) ∈ W0 := List.mem_filter.mpr ⟨List.mem_append_right _ (List.mem_of_getElem? (i := 861) (by decide +kernel)), rfl⟩
theorem tw_862 : (Jvm.Cond.methodLink "HearingDeskLaw" (133 : Nat) ({ cls := "HearingDeskModel", name := "word", desc := "(II)I" } : Jvm.MethodName)) ∈ W0 := List.mem_filter.mpr ⟨List.mem_append_right _ (List.mem_of_getElem? (i := 862) (by decide +kernel)), rfl⟩
theorem tw_863 : (Jvm.Cond.instanceMethod ({ cls := "HearingDeskModel", name := "word", desc := "(II)I" } : Jvm.MethodName)) ∈ W0 := List.mem_filter.mpr ⟨List.mem_append_right _ (List.mem_of_getElem? (i := 863) (by decide +kernel)), rfl⟩
theorem tw_864 : (Jvm.Cond.selects "HearingDeskModel" ({ cls := "HearingDeskModel", name := "word", desc := "(II)I" } : Jvm.MethodName) ({ cls := "HearingDeskModel", name := "word", desc := "(II)I" } : Jvm.MethodName)) ∈ W0 := List.mem_filter.mpr ⟨List.mem_append_right _ (List.mem_of_getElem? (i := 864) (by decide +kernel)), rfl⟩
theorem tw_865 : (Jvm.Cond.code ({ cls := "HearingDeskModel", name := "word", desc := "(II)I" } : Jvm.MethodName) prog_11_method_31_code (3 : Nat) (Option.some Jvm.ClassFile.FieldType.int)) ∈ W0 := List.mem_filter.mpr ⟨List.mem_append_right _ (List.mem_of_getElem? (i := 865) (by decide +kernel)), rfl⟩
theorem tw_866 : (Jvm.Cond.constantLong "HearingDeskModel" (194 : Nat) (5 : Int64)) ∈ W0 := List.mem_filter.mpr ⟨List.mem_append_right _ (List.mem_of_getElem? (i := 866) (by decide +kernel)), rfl⟩
theorem tw_867 : (Jvm.Cond.methodLink "HearingDeskLaw" (136 : Nat) ({ cls := "HearingDeskModel", name := "cost", desc := "(I)D" } : Jvm.MethodName)) ∈ W0 := List.mem_filter.mpr ⟨List.mem_append_right _ (List.mem_of_getElem? (i := 867) (by decide +kernel)), rfl⟩
theorem tw_868 : (Jvm.Cond.instanceMethod ({ cls := "HearingDeskModel", name := "cost", desc := "(I)D" } : Jvm.MethodName)) ∈ W0 := List.mem_filter.mpr ⟨List.mem_append_right _ (List.mem_of_getElem? (i := 868) (by decide +kernel)), rfl⟩
theorem tw_869 : (Jvm.Cond.selects "HearingDeskModel" ({ cls := "HearingDeskModel", name := "cost", desc := "(I)D" } : Jvm.MethodName) ({ cls := "HearingDeskModel", name := "cost", desc := "(I)D" } : Jvm.MethodName)) ∈ W0 := List.mem_filter.mpr ⟨List.mem_append_right _ (List.mem_of_getElem? (i := 869) (by decide +kernel)), rfl⟩
theorem tw_870 : (Jvm.Cond.code ({ cls := "HearingDeskModel", name := "cost", desc := "(I)D" } : Jvm.MethodName) prog_11_method_32_code (2 : Nat) (Option.some Jvm.ClassFile.FieldType.double)) ∈ W0 := List.mem_filter.mpr ⟨List.mem_append_right _ (List.mem_of_getElem? (i := 870) (by decide +kernel)), rfl⟩
theorem tw_871 : (Jvm.Cond.methodLink "HearingDeskLaw" (139 : Nat) ({ cls := "HearingDeskModel", name := "count", desc := "(I)I" } : Jvm.MethodName)) ∈ W0 := List.mem_filter.mpr ⟨List.mem_append_right _ (List.mem_of_getElem? (i := 871) (by decide +kernel)), rfl⟩
theorem tw_872 : (Jvm.Cond.instanceMethod ({ cls := "HearingDeskModel", name := "count", desc := "(I)I" } : Jvm.MethodName)) ∈ W0 := List.mem_filter.mpr ⟨List.mem_append_right _ (List.mem_of_getElem? (i := 872) (by decide +kernel)), rfl⟩
theorem tw_873 : (Jvm.Cond.selects "HearingDeskModel" ({ cls := "HearingDeskModel", name := "count", desc := "(I)I" } : Jvm.MethodName) ({ cls := "HearingDeskModel", name := "count", desc := "(I)I" } : Jvm.MethodName)) ∈ W0 := List.mem_filter.mpr ⟨List.mem_append_right _ (List.mem_of_getElem? (i := 873) (by decide +kernel)), rfl⟩
theorem tw_874 : (Jvm.Cond.code ({ cls := "HearingDeskModel", name := "count", desc := "(I)I" } : Jvm.MethodName) prog_11_method_33_code (4 : Nat) (Option.some Jvm.ClassFile.FieldType.int)) ∈ W0 := List.mem_filter.mpr ⟨List.mem_append_right _ (List.mem_of_getElem? (i := 874) (by decide +kernel)), rfl⟩
theorem tw_875 : (Jvm.Cond.constantLong "HearingDeskModel" (196 : Nat) (6 : Int64)) ∈ W0 := List.mem_filter.mpr ⟨List.mem_append_right _ (List.mem_of_getElem? (i := 875) (by decide +kernel)), rfl⟩
theorem tw_876 : (Jvm.Cond.constantLong "HearingDeskLaw" (72 : Nat) (4294967295 : Int64)) ∈ W0 := List.mem_filter.mpr ⟨List.mem_append_right _ (List.mem_of_getElem? (i := 876) (by decide +kernel)), rfl⟩
theorem tw_877 : (Jvm.Cond.constantDouble "HearingDeskLaw" (91 : Nat) (4593671619917905920 : UInt64)) ∈ W0 := List.mem_filter.mpr ⟨List.mem_append_right _ (List.mem_of_getElem? (i := 877) (by decide +kernel)), rfl⟩
theorem tw_878 : (Jvm.Cond.arrayClass Jvm.ClassFile.FieldType.long) ∈ W0 := List.mem_filter.mpr ⟨List.mem_append_right _ (List.mem_of_getElem? (i := 878) (by decide +kernel)), rfl⟩
theorem sl_Wo_begin : Cond.selects "HearingDesk$Word" ⟨"HearingDesk$Word", "begin", "(I)V"⟩ ⟨"HearingDesk$Word", "begin", "(I)V"⟩ ∈ W0 := List.mem_filter.mpr ⟨List.mem_append_left _ (List.mem_of_getElem? (i := 0) (by decide +kernel)), rfl⟩
theorem sl_Fi_firstWrongOfHead : Cond.selects "HearingDesk$SoundFile" ⟨"HearingDesk$SoundFile", "firstWrongOfHead", "()I"⟩ ⟨"HearingDesk$SoundFile", "firstWrongOfHead", "()I"⟩ ∈ W0 := List.mem_filter.mpr ⟨List.mem_append_left _ (List.mem_of_getElem? (i := 2) (by decide +kernel)), rfl⟩
theorem sl_Fi_spells : Cond.selects "HearingDesk$SoundFile" ⟨"HearingDesk$SoundFile", "spells", "(IIIII)Z"⟩ ⟨"HearingDesk$SoundFile", "spells", "(IIIII)Z"⟩ ∈ W0 := List.mem_filter.mpr ⟨List.mem_append_left _ (List.mem_of_getElem? (i := 3) (by decide +kernel)), rfl⟩
theorem sl_Fi_four : Cond.selects "HearingDesk$SoundFile" ⟨"HearingDesk$SoundFile", "four", "(I)J"⟩ ⟨"HearingDesk$SoundFile", "four", "(I)J"⟩ ∈ W0 := List.mem_filter.mpr ⟨List.mem_append_left _ (List.mem_of_getElem? (i := 4) (by decide +kernel)), rfl⟩
theorem sl_Fi_two : Cond.selects "HearingDesk$SoundFile" ⟨"HearingDesk$SoundFile", "two", "(I)I"⟩ ⟨"HearingDesk$SoundFile", "two", "(I)I"⟩ ∈ W0 := List.mem_filter.mpr ⟨List.mem_append_left _ (List.mem_of_getElem? (i := 5) (by decide +kernel)), rfl⟩
theorem sl_Fi_firstWrongOfForm : Cond.selects "HearingDesk$SoundFile" ⟨"HearingDesk$SoundFile", "firstWrongOfForm", "()I"⟩ ⟨"HearingDesk$SoundFile", "firstWrongOfForm", "()I"⟩ ∈ W0 := List.mem_filter.mpr ⟨List.mem_append_left _ (List.mem_of_getElem? (i := 6) (by decide +kernel)), rfl⟩
theorem sl_Fi_channels : Cond.selects "HearingDesk$SoundFile" ⟨"HearingDesk$SoundFile", "channels", "()I"⟩ ⟨"HearingDesk$SoundFile", "channels", "()I"⟩ ∈ W0 := List.mem_filter.mpr ⟨List.mem_append_left _ (List.mem_of_getElem? (i := 7) (by decide +kernel)), rfl⟩
theorem sl_Fi_width : Cond.selects "HearingDesk$SoundFile" ⟨"HearingDesk$SoundFile", "width", "()I"⟩ ⟨"HearingDesk$SoundFile", "width", "()I"⟩ ∈ W0 := List.mem_filter.mpr ⟨List.mem_append_left _ (List.mem_of_getElem? (i := 8) (by decide +kernel)), rfl⟩
theorem sl_Fi_bits : Cond.selects "HearingDesk$SoundFile" ⟨"HearingDesk$SoundFile", "bits", "()I"⟩ ⟨"HearingDesk$SoundFile", "bits", "()I"⟩ ∈ W0 := List.mem_filter.mpr ⟨List.mem_append_left _ (List.mem_of_getElem? (i := 9) (by decide +kernel)), rfl⟩
theorem sl_Fi_channelAt : Cond.selects "HearingDesk$SoundFile" ⟨"HearingDesk$SoundFile", "channelAt", "(I)D"⟩ ⟨"HearingDesk$SoundFile", "channelAt", "(I)D"⟩ ∈ W0 := List.mem_filter.mpr ⟨List.mem_append_left _ (List.mem_of_getElem? (i := 10) (by decide +kernel)), rfl⟩
theorem sl_So_judgeBand : Cond.selects "HearingDesk$Sound" ⟨"HearingDesk$Sound", "judgeBand", "(III)V"⟩ ⟨"HearingDesk$Sound", "judgeBand", "(III)V"⟩ ∈ W0 := List.mem_filter.mpr ⟨List.mem_append_left _ (List.mem_of_getElem? (i := 11) (by decide +kernel)), rfl⟩
theorem sl_Bo_leastBefore : Cond.selects "HearingDesk$PatternBook" ⟨"HearingDesk$PatternBook", "leastBefore", "(II)D"⟩ ⟨"HearingDesk$PatternBook", "leastBefore", "(II)D"⟩ ∈ W0 := List.mem_filter.mpr ⟨List.mem_append_left _ (List.mem_of_getElem? (i := 12) (by decide +kernel)), rfl⟩
theorem sl_Wo_reach : Cond.selects "HearingDesk$Word" ⟨"HearingDesk$Word", "reach", "(I)V"⟩ ⟨"HearingDesk$Word", "reach", "(I)V"⟩ ∈ W0 := List.mem_filter.mpr ⟨List.mem_append_left _ (List.mem_of_getElem? (i := 13) (by decide +kernel)), rfl⟩
theorem sl_De_milliseconds : Cond.selects "HearingDesk" ⟨"HearingDesk", "milliseconds", "(I)I"⟩ ⟨"HearingDesk", "milliseconds", "(I)I"⟩ ∈ W0 := List.mem_filter.mpr ⟨List.mem_append_left _ (List.mem_of_getElem? (i := 14) (by decide +kernel)), rfl⟩
theorem sl_De_loudFrames : Cond.selects "HearingDesk" ⟨"HearingDesk", "loudFrames", "()I"⟩ ⟨"HearingDesk", "loudFrames", "()I"⟩ ∈ W0 := List.mem_filter.mpr ⟨List.mem_append_left _ (List.mem_of_getElem? (i := 15) (by decide +kernel)), rfl⟩
theorem sl_Mo_fails : Cond.selects "HearingDeskModel" ⟨"HearingDeskModel", "fails", "(ZI)Z"⟩ ⟨"HearingDeskModel", "fails", "(ZI)Z"⟩ ∈ W0 := List.mem_filter.mpr ⟨List.mem_append_left _ (List.mem_of_getElem? (i := 16) (by decide +kernel)), rfl⟩
theorem sl_Mo_wrong : Cond.selects "HearingDeskModel" ⟨"HearingDeskModel", "wrong", "()I"⟩ ⟨"HearingDeskModel", "wrong", "()I"⟩ ∈ W0 := List.mem_filter.mpr ⟨List.mem_append_left _ (List.mem_of_getElem? (i := 17) (by decide +kernel)), rfl⟩
theorem sl_Mo_number : Cond.selects "HearingDeskModel" ⟨"HearingDeskModel", "number", "(II)J"⟩ ⟨"HearingDeskModel", "number", "(II)J"⟩ ∈ W0 := List.mem_filter.mpr ⟨List.mem_append_left _ (List.mem_of_getElem? (i := 18) (by decide +kernel)), rfl⟩
theorem sl_Mo_spells : Cond.selects "HearingDeskModel" ⟨"HearingDeskModel", "spells", "(IIIII)Z"⟩ ⟨"HearingDeskModel", "spells", "(IIIII)Z"⟩ ∈ W0 := List.mem_filter.mpr ⟨List.mem_append_left _ (List.mem_of_getElem? (i := 19) (by decide +kernel)), rfl⟩
theorem sl_Mo_heard : Cond.selects "HearingDeskModel" ⟨"HearingDeskModel", "heard", "(II)D"⟩ ⟨"HearingDeskModel", "heard", "(II)D"⟩ ∈ W0 := List.mem_filter.mpr ⟨List.mem_append_left _ (List.mem_of_getElem? (i := 20) (by decide +kernel)), rfl⟩
theorem sl_Mo_frames : Cond.selects "HearingDeskModel" ⟨"HearingDeskModel", "frames", "()I"⟩ ⟨"HearingDeskModel", "frames", "()I"⟩ ∈ W0 := List.mem_filter.mpr ⟨List.mem_append_left _ (List.mem_of_getElem? (i := 21) (by decide +kernel)), rfl⟩
theorem sl_Mo_powerOf : Cond.selects "HearingDeskModel" ⟨"HearingDeskModel", "powerOf", "(II)D"⟩ ⟨"HearingDeskModel", "powerOf", "(II)D"⟩ ∈ W0 := List.mem_filter.mpr ⟨List.mem_append_left _ (List.mem_of_getElem? (i := 22) (by decide +kernel)), rfl⟩
theorem sl_Mo_levelOf : Cond.selects "HearingDeskModel" ⟨"HearingDeskModel", "levelOf", "(II)D"⟩ ⟨"HearingDeskModel", "levelOf", "(II)D"⟩ ∈ W0 := List.mem_filter.mpr ⟨List.mem_append_left _ (List.mem_of_getElem? (i := 23) (by decide +kernel)), rfl⟩
theorem sl_Mo_bandOf : Cond.selects "HearingDeskModel" ⟨"HearingDeskModel", "bandOf", "(II)D"⟩ ⟨"HearingDeskModel", "bandOf", "(II)D"⟩ ∈ W0 := List.mem_filter.mpr ⟨List.mem_append_left _ (List.mem_of_getElem? (i := 24) (by decide +kernel)), rfl⟩
theorem sl_Mo_takes : Cond.selects "HearingDeskModel" ⟨"HearingDeskModel", "takes", "([DI)V"⟩ ⟨"HearingDeskModel", "takes", "([DI)V"⟩ ∈ W0 := List.mem_filter.mpr ⟨List.mem_append_left _ (List.mem_of_getElem? (i := 25) (by decide +kernel)), rfl⟩
theorem sl_Mo_warps : Cond.selects "HearingDeskModel" ⟨"HearingDeskModel", "warps", "()D"⟩ ⟨"HearingDeskModel", "warps", "()D"⟩ ∈ W0 := List.mem_filter.mpr ⟨List.mem_append_left _ (List.mem_of_getElem? (i := 26) (by decide +kernel)), rfl⟩
theorem sl_Mo_isLoud : Cond.selects "HearingDeskModel" ⟨"HearingDeskModel", "isLoud", "(I)Z"⟩ ⟨"HearingDeskModel", "isLoud", "(I)Z"⟩ ∈ W0 := List.mem_filter.mpr ⟨List.mem_append_left _ (List.mem_of_getElem? (i := 27) (by decide +kernel)), rfl⟩
theorem sl_Mo_writes : Cond.selects "HearingDeskModel" ⟨"HearingDeskModel", "writes", "(II)V"⟩ ⟨"HearingDeskModel", "writes", "(II)V"⟩ ∈ W0 := List.mem_filter.mpr ⟨List.mem_append_left _ (List.mem_of_getElem? (i := 28) (by decide +kernel)), rfl⟩
end
section
abbrev RCi : String := "HearingDesk$Circle"
def TCi : u_T := fun k => match k with
  | 0 => ("HearingDesk$Circle", "cosines", "[D", true)
  | 1 => ("HearingDesk$Circle", "sines", "[D", true)
  | _ => ("HearingDesk$Circle", "window", "[D", true)
def tyCi : Nat → FieldType := fun k => match k with
  | 0 => .array .double
  | 1 => .array .double
  | _ => .array .double
theorem nmCi : ∀ a, a < 3 → ∀ b, b < 3 → a ≠ b → (TCi a).2.1 ≠ (TCi b).2.1 := by decide +kernel
theorem tyCi_ok : ∀ k, k < 3 → parseFieldDescriptor (TCi k).2.2.1 = some (tyCi k) := by decide +kernel
theorem inCi : ∀ w ∈ u_ws RCi TCi 3, w ∈ W0 := by
  intro w h
  obtain ⟨k, hk, rfl⟩ := List.mem_map.mp h
  have hk := List.mem_range.mp hk
  match k, hk with
  | 0, _ => exact tw_60
  | 1, _ => exact tw_62
  | 2, _ => exact tw_64
  | k + 3, hk => exact absurd hk (by omega)
abbrev RPa : String := "HearingDesk$Pattern"
def TPa : u_T := fun k => match k with
  | 0 => ("HearingDesk$Pattern", "levels", "[D", true)
  | 1 => ("HearingDesk$Pattern", "letter", "I", false)
  | _ => ("HearingDesk$Pattern", "rows", "I", false)
def tyPa : Nat → FieldType := fun k => match k with
  | 0 => .array .double
  | 1 => .int
  | _ => .int
theorem nmPa : ∀ a, a < 3 → ∀ b, b < 3 → a ≠ b → (TPa a).2.1 ≠ (TPa b).2.1 := by decide +kernel
theorem tyPa_ok : ∀ k, k < 3 → parseFieldDescriptor (TPa k).2.2.1 = some (tyPa k) := by decide +kernel
theorem inPa : ∀ w ∈ u_ws RPa TPa 3, w ∈ W0 := by
  intro w h
  obtain ⟨k, hk, rfl⟩ := List.mem_map.mp h
  have hk := List.mem_range.mp hk
  match k, hk with
  | 0, _ => exact tw_122
  | 1, _ => exact tw_124
  | 2, _ => exact tw_126
  | k + 3, hk => exact absurd hk (by omega)
abbrev RBo : String := "HearingDesk$PatternBook"
def TBo : u_T := fun k => match k with
  | 0 => ("HearingDesk$PatternBook", "patterns", "[LHearingDesk$Pattern;", true)
  | 1 => ("HearingDesk$PatternBook", "paths", "[D", true)
  | _ => ("HearingDesk$PatternBook", "size", "I", false)
def tyBo : Nat → FieldType := fun k => match k with
  | 0 => .array (.object "HearingDesk$Pattern")
  | 1 => .array .double
  | _ => .int
theorem nmBo : ∀ a, a < 3 → ∀ b, b < 3 → a ≠ b → (TBo a).2.1 ≠ (TBo b).2.1 := by decide +kernel
theorem tyBo_ok : ∀ k, k < 3 → parseFieldDescriptor (TBo k).2.2.1 = some (tyBo k) := by decide +kernel
theorem inBo : ∀ w ∈ u_ws RBo TBo 3, w ∈ W0 := by
  intro w h
  obtain ⟨k, hk, rfl⟩ := List.mem_map.mp h
  have hk := List.mem_range.mp hk
  match k, hk with
  | 0, _ => exact tw_136
  | 1, _ => exact tw_138
  | 2, _ => exact tw_140
  | k + 3, hk => exact absurd hk (by omega)
abbrev RSo : String := "HearingDesk$Sound"
def TSo : u_T := fun k => match k with
  | 0 => ("HearingDesk$Sound", "circle", "LHearingDesk$Circle;", true)
  | 1 => ("HearingDesk$Sound", "samples", "[D", true)
  | 2 => ("HearingDesk$Sound", "weighed", "[D", true)
  | 3 => ("HearingDesk$Sound", "sums", "[D", true)
  | 4 => ("HearingDesk$Sound", "levels", "[D", true)
  | 5 => ("HearingDesk$Sound", "size", "I", false)
  | _ => ("HearingDesk$Sound", "judged", "I", false)
def tySo : Nat → FieldType := fun k => match k with
  | 0 => .object "HearingDesk$Circle"
  | 1 => .array .double
  | 2 => .array .double
  | 3 => .array .double
  | 4 => .array .double
  | 5 => .int
  | _ => .int
theorem nmSo : ∀ a, a < 7 → ∀ b, b < 7 → a ≠ b → (TSo a).2.1 ≠ (TSo b).2.1 := by decide +kernel
theorem tySo_ok : ∀ k, k < 7 → parseFieldDescriptor (TSo k).2.2.1 = some (tySo k) := by decide +kernel
theorem inSo : ∀ w ∈ u_ws RSo TSo 7, w ∈ W0 := by
  intro w h
  obtain ⟨k, hk, rfl⟩ := List.mem_map.mp h
  have hk := List.mem_range.mp hk
  match k, hk with
  | 0, _ => exact tw_85
  | 1, _ => exact tw_87
  | 2, _ => exact tw_89
  | 3, _ => exact tw_91
  | 4, _ => exact tw_93
  | 5, _ => exact tw_95
  | 6, _ => exact tw_97
  | k + 7, hk => exact absurd hk (by omega)
abbrev RFi : String := "HearingDesk$SoundFile"
def TFi : u_T := fun k => match k with
  | 0 => ("HearingDesk$SoundFile", "octets", "[I", true)
  | _ => ("HearingDesk$SoundFile", "size", "I", false)
def tyFi : Nat → FieldType := fun k => match k with
  | 0 => .array .int
  | _ => .int
theorem nmFi : ∀ a, a < 2 → ∀ b, b < 2 → a ≠ b → (TFi a).2.1 ≠ (TFi b).2.1 := by decide +kernel
theorem tyFi_ok : ∀ k, k < 2 → parseFieldDescriptor (TFi k).2.2.1 = some (tyFi k) := by decide +kernel
theorem inFi : ∀ w ∈ u_ws RFi TFi 2, w ∈ W0 := by
  intro w h
  obtain ⟨k, hk, rfl⟩ := List.mem_map.mp h
  have hk := List.mem_range.mp hk
  match k, hk with
  | 0, _ => exact tw_36
  | 1, _ => exact tw_38
  | k + 2, hk => exact absurd hk (by omega)
abbrev RWo : String := "HearingDesk$Word"
def TWo : u_T := fun k => match k with
  | 0 => ("HearingDesk$Word", "first", "I", false)
  | 1 => ("HearingDesk$Word", "frames", "I", false)
  | 2 => ("HearingDesk$Word", "nearest", "I", false)
  | 3 => ("HearingDesk$Word", "letter", "I", false)
  | _ => ("HearingDesk$Word", "leastWarp", "D", false)
def tyWo : Nat → FieldType := fun k => match k with
  | 0 => .int
  | 1 => .int
  | 2 => .int
  | 3 => .int
  | _ => .double
theorem nmWo : ∀ a, a < 5 → ∀ b, b < 5 → a ≠ b → (TWo a).2.1 ≠ (TWo b).2.1 := by decide +kernel
theorem tyWo_ok : ∀ k, k < 5 → parseFieldDescriptor (TWo k).2.2.1 = some (tyWo k) := by decide +kernel
theorem inWo : ∀ w ∈ u_ws RWo TWo 5, w ∈ W0 := by
  intro w h
  obtain ⟨k, hk, rfl⟩ := List.mem_map.mp h
  have hk := List.mem_range.mp hk
  match k, hk with
  | 0, _ => exact tw_170
  | 1, _ => exact tw_172
  | 2, _ => exact tw_174
  | 3, _ => exact tw_176
  | 4, _ => exact tw_178
  | k + 5, hk => exact absurd hk (by omega)
abbrev RLi : String := "HearingDesk$WordList"
def TLi : u_T := fun k => match k with
  | 0 => ("HearingDesk$WordList", "row", "[LHearingDesk$Word;", true)
  | _ => ("HearingDesk$WordList", "size", "I", false)
def tyLi : Nat → FieldType := fun k => match k with
  | 0 => .array (.object "HearingDesk$Word")
  | _ => .int
theorem nmLi : ∀ a, a < 2 → ∀ b, b < 2 → a ≠ b → (TLi a).2.1 ≠ (TLi b).2.1 := by decide +kernel
theorem tyLi_ok : ∀ k, k < 2 → parseFieldDescriptor (TLi k).2.2.1 = some (tyLi k) := by decide +kernel
theorem inLi : ∀ w ∈ u_ws RLi TLi 2, w ∈ W0 := by
  intro w h
  obtain ⟨k, hk, rfl⟩ := List.mem_map.mp h
  have hk := List.mem_range.mp hk
  match k, hk with
  | 0, _ => exact tw_185
  | 1, _ => exact tw_187
  | k + 2, hk => exact absurd hk (by omega)
abbrev RDe : String := "HearingDesk"
def TDe : u_T := fun k => match k with
  | 0 => ("HearingDesk", "file", "LHearingDesk$SoundFile;", true)
  | 1 => ("HearingDesk", "circle", "LHearingDesk$Circle;", true)
  | 2 => ("HearingDesk", "sound", "LHearingDesk$Sound;", true)
  | 3 => ("HearingDesk", "book", "LHearingDesk$PatternBook;", true)
  | 4 => ("HearingDesk", "words", "LHearingDesk$WordList;", true)
  | 5 => ("HearingDesk", "rate", "I", false)
  | 6 => ("HearingDesk", "wrongPlace", "I", false)
  | 7 => ("HearingDesk", "threshold", "D", false)
  | 8 => ("HearingDesk", "gap", "I", false)
  | _ => ("HearingDesk", "limit", "D", false)
def tyDe : Nat → FieldType := fun k => match k with
  | 0 => .object "HearingDesk$SoundFile"
  | 1 => .object "HearingDesk$Circle"
  | 2 => .object "HearingDesk$Sound"
  | 3 => .object "HearingDesk$PatternBook"
  | 4 => .object "HearingDesk$WordList"
  | 5 => .int
  | 6 => .int
  | 7 => .double
  | 8 => .int
  | _ => .double
theorem nmDe : ∀ a, a < 10 → ∀ b, b < 10 → a ≠ b → (TDe a).2.1 ≠ (TDe b).2.1 := by decide +kernel
theorem tyDe_ok : ∀ k, k < 10 → parseFieldDescriptor (TDe k).2.2.1 = some (tyDe k) := by decide +kernel
theorem inDe : ∀ w ∈ u_ws RDe TDe 10, w ∈ W0 := by
  intro w h
  obtain ⟨k, hk, rfl⟩ := List.mem_map.mp h
  have hk := List.mem_range.mp hk
  match k, hk with
  | 0, _ => exact tw_202
  | 1, _ => exact tw_204
  | 2, _ => exact tw_206
  | 3, _ => exact tw_208
  | 4, _ => exact tw_210
  | 5, _ => exact tw_212
  | 6, _ => exact tw_214
  | 7, _ => exact tw_216
  | 8, _ => exact tw_218
  | 9, _ => exact tw_220
  | k + 10, hk => exact absurd hk (by omega)
abbrev RMo : String := "HearingDeskModel"
def TMo : u_T := fun k => match k with
  | 0 => ("HearingDeskModel", "err", "I", false)
  | 1 => ("HearingDeskModel", "filed", "I", false)
  | 2 => ("HearingDeskModel", "wrongAt", "I", false)
  | 3 => ("HearingDeskModel", "samples", "I", false)
  | 4 => ("HearingDeskModel", "rate", "I", false)
  | 5 => ("HearingDeskModel", "patterns", "I", false)
  | 6 => ("HearingDeskModel", "words", "I", false)
  | 7 => ("HearingDeskModel", "gap", "I", false)
  | 8 => ("HearingDeskModel", "first", "I", false)
  | 9 => ("HearingDeskModel", "second", "I", false)
  | 10 => ("HearingDeskModel", "threshold", "D", false)
  | 11 => ("HearingDeskModel", "limit", "D", false)
  | 12 => ("HearingDeskModel", "file", "[I", true)
  | 13 => ("HearingDeskModel", "letter", "[I", true)
  | 14 => ("HearingDeskModel", "rows", "[I", true)
  | 15 => ("HearingDeskModel", "wordLetter", "[I", true)
  | 16 => ("HearingDeskModel", "wordFirst", "[I", true)
  | 17 => ("HearingDeskModel", "wordSize", "[I", true)
  | 18 => ("HearingDeskModel", "wordPattern", "[I", true)
  | 19 => ("HearingDeskModel", "sample", "[D", true)
  | 20 => ("HearingDeskModel", "levels", "[D", true)
  | 21 => ("HearingDeskModel", "wordCost", "[D", true)
  | 22 => ("HearingDeskModel", "one", "[D", true)
  | 23 => ("HearingDeskModel", "two", "[D", true)
  | 24 => ("HearingDeskModel", "way", "[D", true)
  | 25 => ("HearingDeskModel", "cosines", "[D", true)
  | _ => ("HearingDeskModel", "sines", "[D", true)
def tyMo : Nat → FieldType := fun k => match k with
  | 0 => .int
  | 1 => .int
  | 2 => .int
  | 3 => .int
  | 4 => .int
  | 5 => .int
  | 6 => .int
  | 7 => .int
  | 8 => .int
  | 9 => .int
  | 10 => .double
  | 11 => .double
  | 12 => .array .int
  | 13 => .array .int
  | 14 => .array .int
  | 15 => .array .int
  | 16 => .array .int
  | 17 => .array .int
  | 18 => .array .int
  | 19 => .array .double
  | 20 => .array .double
  | 21 => .array .double
  | 22 => .array .double
  | 23 => .array .double
  | 24 => .array .double
  | 25 => .array .double
  | _ => .array .double
theorem nmMo : ∀ a, a < 27 → ∀ b, b < 27 → a ≠ b → (TMo a).2.1 ≠ (TMo b).2.1 := by decide +kernel
theorem tyMo_ok : ∀ k, k < 27 → parseFieldDescriptor (TMo k).2.2.1 = some (tyMo k) := by decide +kernel
theorem inMo : ∀ w ∈ u_ws RMo TMo 27, w ∈ W0 := by
  intro w h
  obtain ⟨k, hk, rfl⟩ := List.mem_map.mp h
  have hk := List.mem_range.mp hk
  match k, hk with
  | 0, _ => exact tw_674
  | 1, _ => exact tw_676
  | 2, _ => exact tw_678
  | 3, _ => exact tw_680
  | 4, _ => exact tw_682
  | 5, _ => exact tw_684
  | 6, _ => exact tw_686
  | 7, _ => exact tw_688
  | 8, _ => exact tw_690
  | 9, _ => exact tw_692
  | 10, _ => exact tw_694
  | 11, _ => exact tw_696
  | 12, _ => exact tw_698
  | 13, _ => exact tw_700
  | 14, _ => exact tw_702
  | 15, _ => exact tw_704
  | 16, _ => exact tw_706
  | 17, _ => exact tw_708
  | 18, _ => exact tw_710
  | 19, _ => exact tw_712
  | 20, _ => exact tw_714
  | 21, _ => exact tw_716
  | 22, _ => exact tw_718
  | 23, _ => exact tw_720
  | 24, _ => exact tw_722
  | 25, _ => exact tw_724
  | 26, _ => exact tw_726
  | k + 27, hk => exact absurd hk (by omega)
abbrev RNu : String := "HearingDesk$Numbers"
abbrev RLa : String := "HearingDeskLaw"
abbrev vwCl : List vw_C := [(RCi, TCi, 3), (RPa, TPa, 3), (RBo, TBo, 3), (RSo, TSo, 7), (RFi, TFi, 2), (RWo, TWo, 5), (RLi, TLi, 2), (RDe, TDe, 10), (RMo, TMo, 27)]
abbrev cDe_init : ByteArray := prog_1_method_1_code
abbrev yDe_init : MethodName := ⟨"HearingDesk", "<init>", "()V"⟩
abbrev wDe_init : List Cond := .code yDe_init cDe_init 1 none :: W0
abbrev cFi_init : ByteArray := prog_7_method_1_code
abbrev yFi_init : MethodName := ⟨"HearingDesk$SoundFile", "<init>", "()V"⟩
abbrev wFi_init : List Cond := .code yFi_init cFi_init 1 none :: W0
abbrev cCi_init : ByteArray := prog_2_method_1_code
abbrev yCi_init : MethodName := ⟨"HearingDesk$Circle", "<init>", "()V"⟩
abbrev wCi_init : List Cond := .code yCi_init cCi_init 4 none :: W0
abbrev cCi_series : ByteArray := prog_2_method_2_code
abbrev yCi_series : MethodName := ⟨"HearingDesk$Circle", "series", "(DI)D"⟩
abbrev wCi_series : List Cond := .code yCi_series cCi_series 6 (some .double) :: W0
abbrev cSo_init : ByteArray := prog_6_method_1_code
abbrev ySo_init : MethodName := ⟨"HearingDesk$Sound", "<init>", "(LHearingDesk$Circle;)V"⟩
abbrev wSo_init : List Cond := .code ySo_init cSo_init 2 none :: W0
abbrev cBo_init : ByteArray := prog_5_method_1_code
abbrev yBo_init : MethodName := ⟨"HearingDesk$PatternBook", "<init>", "()V"⟩
abbrev wBo_init : List Cond := .code yBo_init cBo_init 2 none :: W0
abbrev cPa_init : ByteArray := prog_4_method_1_code
abbrev yPa_init : MethodName := ⟨"HearingDesk$Pattern", "<init>", "()V"⟩
abbrev wPa_init : List Cond := .code yPa_init cPa_init 1 none :: W0
abbrev cLi_init : ByteArray := prog_9_method_1_code
abbrev yLi_init : MethodName := ⟨"HearingDesk$WordList", "<init>", "()V"⟩
abbrev wLi_init : List Cond := .code yLi_init cLi_init 2 none :: W0
abbrev cWo_init : ByteArray := prog_8_method_1_code
abbrev yWo_init : MethodName := ⟨"HearingDesk$Word", "<init>", "()V"⟩
abbrev wWo_init : List Cond := .code yWo_init cWo_init 1 none :: W0
abbrev cWo_begin : ByteArray := prog_8_method_2_code
abbrev yWo_begin : MethodName := ⟨"HearingDesk$Word", "begin", "(I)V"⟩
abbrev wWo_begin : List Cond := .code yWo_begin cWo_begin 2 none :: W0
abbrev cDe_place : ByteArray := prog_1_method_4_code
abbrev yDe_place : MethodName := ⟨"HearingDesk", "place", "()I"⟩
abbrev wDe_place : List Cond := .code yDe_place cDe_place 1 (some .int) :: W0
abbrev cDe_clear : ByteArray := prog_1_method_6_code
abbrev yDe_clear : MethodName := ⟨"HearingDesk", "clear", "()I"⟩
abbrev wDe_clear : List Cond := .code yDe_clear cDe_clear 2 (some .int) :: W0
abbrev cSo_empty : ByteArray := prog_6_method_3_code
abbrev ySo_empty : MethodName := ⟨"HearingDesk$Sound", "empty", "()V"⟩
abbrev wSo_empty : List Cond := .code ySo_empty cSo_empty 1 none :: W0
abbrev cLi_empty : ByteArray := prog_9_method_2_code
abbrev yLi_empty : MethodName := ⟨"HearingDesk$WordList", "empty", "()V"⟩
abbrev wLi_empty : List Cond := .code yLi_empty cLi_empty 1 none :: W0
abbrev cLa_octets : ByteArray := method_3_code
abbrev yLa_octets : MethodName := ⟨"HearingDeskLaw", "octets", "(LHearingDesk;IJ[J)I"⟩
abbrev cDe_octets : ByteArray := prog_1_method_2_code
abbrev yDe_octets : MethodName := ⟨"HearingDesk", "octets", "(IJ)I"⟩
abbrev wDe_octets : List Cond := .code yDe_octets cDe_octets 5 (some .int) :: W0
abbrev cFi_append : ByteArray := prog_7_method_2_code
abbrev yFi_append : MethodName := ⟨"HearingDesk$SoundFile", "append", "(I)V"⟩
abbrev wFi_append : List Cond := .code yFi_append cFi_append 2 none :: W0
abbrev cLa_read : ByteArray := method_4_code
abbrev yLa_read : MethodName := ⟨"HearingDeskLaw", "read", "(LHearingDesk;[J)I"⟩
abbrev cDe_read : ByteArray := prog_1_method_3_code
abbrev yDe_read : MethodName := ⟨"HearingDesk", "read", "()I"⟩
abbrev wDe_read : List Cond := .code yDe_read cDe_read 3 (some .int) :: W0
abbrev cFi_firstWrong : ByteArray := prog_7_method_4_code
abbrev yFi_firstWrong : MethodName := ⟨"HearingDesk$SoundFile", "firstWrong", "()I"⟩
abbrev wFi_firstWrong : List Cond := .code yFi_firstWrong cFi_firstWrong 2 (some .int) :: W0
abbrev cFi_firstWrongOfHead : ByteArray := prog_7_method_5_code
abbrev yFi_firstWrongOfHead : MethodName := ⟨"HearingDesk$SoundFile", "firstWrongOfHead", "()I"⟩
abbrev wFi_firstWrongOfHead : List Cond := .code yFi_firstWrongOfHead cFi_firstWrongOfHead 1 (some .int) :: W0
abbrev cFi_spells : ByteArray := prog_7_method_7_code
abbrev yFi_spells : MethodName := ⟨"HearingDesk$SoundFile", "spells", "(IIIII)Z"⟩
abbrev wFi_spells : List Cond := .code yFi_spells cFi_spells 6 (some .boolean) :: W0
abbrev cFi_four : ByteArray := prog_7_method_9_code
abbrev yFi_four : MethodName := ⟨"HearingDesk$SoundFile", "four", "(I)J"⟩
abbrev wFi_four : List Cond := .code yFi_four cFi_four 2 (some .long) :: W0
abbrev cFi_two : ByteArray := prog_7_method_8_code
abbrev yFi_two : MethodName := ⟨"HearingDesk$SoundFile", "two", "(I)I"⟩
abbrev wFi_two : List Cond := .code yFi_two cFi_two 2 (some .int) :: W0
abbrev cFi_firstWrongOfForm : ByteArray := prog_7_method_6_code
abbrev yFi_firstWrongOfForm : MethodName := ⟨"HearingDesk$SoundFile", "firstWrongOfForm", "()I"⟩
abbrev wFi_firstWrongOfForm : List Cond := .code yFi_firstWrongOfForm cFi_firstWrongOfForm 1 (some .int) :: W0
abbrev cFi_channels : ByteArray := prog_7_method_10_code
abbrev yFi_channels : MethodName := ⟨"HearingDesk$SoundFile", "channels", "()I"⟩
abbrev wFi_channels : List Cond := .code yFi_channels cFi_channels 1 (some .int) :: W0
abbrev cFi_rateSaid : ByteArray := prog_7_method_11_code
abbrev yFi_rateSaid : MethodName := ⟨"HearingDesk$SoundFile", "rateSaid", "()J"⟩
abbrev wFi_rateSaid : List Cond := .code yFi_rateSaid cFi_rateSaid 1 (some .long) :: W0
abbrev cFi_width : ByteArray := prog_7_method_12_code
abbrev yFi_width : MethodName := ⟨"HearingDesk$SoundFile", "width", "()I"⟩
abbrev wFi_width : List Cond := .code yFi_width cFi_width 1 (some .int) :: W0
abbrev cFi_bits : ByteArray := prog_7_method_13_code
abbrev yFi_bits : MethodName := ⟨"HearingDesk$SoundFile", "bits", "()I"⟩
abbrev wFi_bits : List Cond := .code yFi_bits cFi_bits 1 (some .int) :: W0
abbrev cFi_empty : ByteArray := prog_7_method_3_code
abbrev yFi_empty : MethodName := ⟨"HearingDesk$SoundFile", "empty", "()V"⟩
abbrev wFi_empty : List Cond := .code yFi_empty cFi_empty 1 none :: W0
abbrev cFi_sampleCount : ByteArray := prog_7_method_14_code
abbrev yFi_sampleCount : MethodName := ⟨"HearingDesk$SoundFile", "sampleCount", "()I"⟩
abbrev wFi_sampleCount : List Cond := .code yFi_sampleCount cFi_sampleCount 1 (some .int) :: W0
abbrev cFi_sampleAt : ByteArray := prog_7_method_15_code
abbrev yFi_sampleAt : MethodName := ⟨"HearingDesk$SoundFile", "sampleAt", "(I)D"⟩
abbrev wFi_sampleAt : List Cond := .code yFi_sampleAt cFi_sampleAt 3 (some .double) :: W0
abbrev cFi_channelAt : ByteArray := prog_7_method_16_code
abbrev yFi_channelAt : MethodName := ⟨"HearingDesk$SoundFile", "channelAt", "(I)D"⟩
abbrev wFi_channelAt : List Cond := .code yFi_channelAt cFi_channelAt 3 (some .double) :: W0
abbrev cSo_append : ByteArray := prog_6_method_2_code
abbrev ySo_append : MethodName := ⟨"HearingDesk$Sound", "append", "(D)V"⟩
abbrev wSo_append : List Cond := .code ySo_append cSo_append 3 none :: W0
abbrev cLa_wave : ByteArray := method_5_code
abbrev yLa_wave : MethodName := ⟨"HearingDeskLaw", "wave", "(LHearingDesk;IID[J)I"⟩
abbrev cDe_wave : ByteArray := prog_1_method_5_code
abbrev yDe_wave : MethodName := ⟨"HearingDesk", "wave", "(IID)I"⟩
abbrev wDe_wave : List Cond := .code yDe_wave cDe_wave 6 (some .int) :: W0
abbrev cNu_swing : ByteArray := prog_3_method_3_code
abbrev yNu_swing : MethodName := ⟨"HearingDesk$Numbers", "swing", "(DD)D"⟩
abbrev wNu_swing : List Cond := .code yNu_swing cNu_swing 4 (some .double) :: W0
abbrev cNu_finite : ByteArray := prog_3_method_2_code
abbrev yNu_finite : MethodName := ⟨"HearingDesk$Numbers", "finite", "(D)D"⟩
abbrev wNu_finite : List Cond := .code yNu_finite cNu_finite 2 (some .double) :: W0
abbrev cLa_sample : ByteArray := method_6_code
abbrev yLa_sample : MethodName := ⟨"HearingDeskLaw", "sample", "(LHearingDesk;I[D)I"⟩
abbrev cDe_sample : ByteArray := prog_1_method_7_code
abbrev yDe_sample : MethodName := ⟨"HearingDesk", "sample", "(I)D"⟩
abbrev wDe_sample : List Cond := .code yDe_sample cDe_sample 2 (some .double) :: W0
abbrev cLa_power : ByteArray := method_7_code
abbrev yLa_power : MethodName := ⟨"HearingDeskLaw", "power", "(LHearingDesk;II[D)I"⟩
abbrev cDe_power : ByteArray := prog_1_method_8_code
abbrev yDe_power : MethodName := ⟨"HearingDesk", "power", "(II)D"⟩
abbrev wDe_power : List Cond := .code yDe_power cDe_power 3 (some .double) :: W0
abbrev cSo_frames : ByteArray := prog_6_method_4_code
abbrev ySo_frames : MethodName := ⟨"HearingDesk$Sound", "frames", "()I"⟩
abbrev wSo_frames : List Cond := .code ySo_frames cSo_frames 1 (some .int) :: W0
abbrev cSo_weigh : ByteArray := prog_6_method_5_code
abbrev ySo_weigh : MethodName := ⟨"HearingDesk$Sound", "weigh", "(I)V"⟩
abbrev wSo_weigh : List Cond := .code ySo_weigh cSo_weigh 3 none :: W0
abbrev cSo_strength : ByteArray := prog_6_method_6_code
abbrev ySo_strength : MethodName := ⟨"HearingDesk$Sound", "strength", "(I)D"⟩
abbrev wSo_strength : List Cond := .code ySo_strength cSo_strength 8 (some .double) :: W0
abbrev cLa_level : ByteArray := method_8_code
abbrev yLa_level : MethodName := ⟨"HearingDeskLaw", "level", "(LHearingDesk;II[D)I"⟩
abbrev cDe_level : ByteArray := prog_1_method_9_code
abbrev yDe_level : MethodName := ⟨"HearingDesk", "level", "(II)D"⟩
abbrev wDe_level : List Cond := .code yDe_level cDe_level 3 (some .double) :: W0
abbrev cSo_judge : ByteArray := prog_6_method_7_code
abbrev ySo_judge : MethodName := ⟨"HearingDesk$Sound", "judge", "()V"⟩
abbrev wSo_judge : List Cond := .code ySo_judge cSo_judge 3 none :: W0
abbrev cSo_judgeBand : ByteArray := prog_6_method_8_code
abbrev ySo_judgeBand : MethodName := ⟨"HearingDesk$Sound", "judgeBand", "(III)V"⟩
abbrev wSo_judgeBand : List Cond := .code ySo_judgeBand cSo_judgeBand 7 none :: W0
abbrev cNu_logarithm : ByteArray := prog_3_method_4_code
abbrev yNu_logarithm : MethodName := ⟨"HearingDesk$Numbers", "logarithm", "(D)D"⟩
abbrev wNu_logarithm : List Cond := .code yNu_logarithm cNu_logarithm 12 (some .double) :: W0
abbrev cLa_ways : ByteArray := method_9_code
abbrev yLa_ways : MethodName := ⟨"HearingDeskLaw", "ways", "(LHearingDesk;DID)I"⟩
abbrev cDe_ways : ByteArray := prog_1_method_10_code
abbrev yDe_ways : MethodName := ⟨"HearingDesk", "ways", "(DID)V"⟩
abbrev wDe_ways : List Cond := .code yDe_ways cDe_ways 6 none :: W0
abbrev cLa_learn : ByteArray := method_10_code
abbrev yLa_learn : MethodName := ⟨"HearingDeskLaw", "learn", "(LHearingDesk;III[J)I"⟩
abbrev cDe_learn : ByteArray := prog_1_method_11_code
abbrev yDe_learn : MethodName := ⟨"HearingDesk", "learn", "(III)I"⟩
abbrev wDe_learn : List Cond := .code yDe_learn cDe_learn 4 (some .int) :: W0
abbrev cBo_append : ByteArray := prog_5_method_2_code
abbrev yBo_append : MethodName := ⟨"HearingDesk$PatternBook", "append", "(I[DII)V"⟩
abbrev wBo_append : List Cond := .code yBo_append cBo_append 6 none :: W0
abbrev cLa_forget : ByteArray := method_11_code
abbrev yLa_forget : MethodName := ⟨"HearingDeskLaw", "forget", "(LHearingDesk;I[J)I"⟩
abbrev cDe_forget : ByteArray := prog_1_method_12_code
abbrev yDe_forget : MethodName := ⟨"HearingDesk", "forget", "(I)I"⟩
abbrev wDe_forget : List Cond := .code yDe_forget cDe_forget 2 (some .int) :: W0
abbrev cBo_takeOut : ByteArray := prog_5_method_3_code
abbrev yBo_takeOut : MethodName := ⟨"HearingDesk$PatternBook", "takeOut", "(I)I"⟩
abbrev wBo_takeOut : List Cond := .code yBo_takeOut cBo_takeOut 4 (some .int) :: W0
abbrev cLa_warp : ByteArray := method_12_code
abbrev yLa_warp : MethodName := ⟨"HearingDeskLaw", "warp", "(LHearingDesk;II[D)I"⟩
abbrev cDe_warp : ByteArray := prog_1_method_13_code
abbrev yDe_warp : MethodName := ⟨"HearingDesk", "warp", "(II)D"⟩
abbrev wDe_warp : List Cond := .code yDe_warp cDe_warp 3 (some .double) :: W0
abbrev cBo_distance : ByteArray := prog_5_method_4_code
abbrev yBo_distance : MethodName := ⟨"HearingDesk$PatternBook", "distance", "([DIILHearingDesk$Pattern;)D"⟩
abbrev wBo_distance : List Cond := .code yBo_distance cBo_distance 8 (some .double) :: W0
abbrev cBo_far : ByteArray := prog_5_method_5_code
abbrev yBo_far : MethodName := ⟨"HearingDesk$PatternBook", "far", "([DI[DI)D"⟩
abbrev wBo_far : List Cond := .code yBo_far cBo_far 9 (some .double) :: W0
abbrev cBo_leastBefore : ByteArray := prog_5_method_6_code
abbrev yBo_leastBefore : MethodName := ⟨"HearingDesk$PatternBook", "leastBefore", "(II)D"⟩
abbrev wBo_leastBefore : List Cond := .code yBo_leastBefore cBo_leastBefore 6 (some .double) :: W0
abbrev cBo_lesser : ByteArray := prog_5_method_7_code
abbrev yBo_lesser : MethodName := ⟨"HearingDesk$PatternBook", "lesser", "(DD)D"⟩
abbrev wBo_lesser : List Cond := .code yBo_lesser cBo_lesser 4 (some .double) :: W0
abbrev cLa_hear : ByteArray := method_13_code
abbrev yLa_hear : MethodName := ⟨"HearingDeskLaw", "hear", "(LHearingDesk;[J)I"⟩
abbrev cDe_hear : ByteArray := prog_1_method_14_code
abbrev yDe_hear : MethodName := ⟨"HearingDesk", "hear", "()I"⟩
abbrev wDe_hear : List Cond := .code yDe_hear cDe_hear 2 (some .int) :: W0
abbrev cLi_cutOut : ByteArray := prog_9_method_3_code
abbrev yLi_cutOut : MethodName := ⟨"HearingDesk$WordList", "cutOut", "(LHearingDesk$Sound;DI)V"⟩
abbrev wLi_cutOut : List Cond := .code yLi_cutOut cLi_cutOut 9 none :: W0
abbrev cSo_loudness : ByteArray := prog_6_method_9_code
abbrev ySo_loudness : MethodName := ⟨"HearingDesk$Sound", "loudness", "(I)D"⟩
abbrev wSo_loudness : List Cond := .code ySo_loudness cSo_loudness 5 (some .double) :: W0
abbrev cWo_reach : ByteArray := prog_8_method_3_code
abbrev yWo_reach : MethodName := ⟨"HearingDesk$Word", "reach", "(I)V"⟩
abbrev wWo_reach : List Cond := .code yWo_reach cWo_reach 2 none :: W0
abbrev cWo_recognise : ByteArray := prog_8_method_4_code
abbrev yWo_recognise : MethodName := ⟨"HearingDesk$Word", "recognise", "(LHearingDesk$Sound;LHearingDesk$PatternBook;D)V"⟩
abbrev wWo_recognise : List Cond := .code yWo_recognise cWo_recognise 8 none :: W0
abbrev cLa_word : ByteArray := method_14_code
abbrev yLa_word : MethodName := ⟨"HearingDeskLaw", "word", "(LHearingDesk;II[J)I"⟩
abbrev cDe_word : ByteArray := prog_1_method_15_code
abbrev yDe_word : MethodName := ⟨"HearingDesk", "word", "(II)I"⟩
abbrev wDe_word : List Cond := .code yDe_word cDe_word 4 (some .int) :: W0
abbrev cDe_milliseconds : ByteArray := prog_1_method_18_code
abbrev yDe_milliseconds : MethodName := ⟨"HearingDesk", "milliseconds", "(I)I"⟩
abbrev wDe_milliseconds : List Cond := .code yDe_milliseconds cDe_milliseconds 2 (some .int) :: W0
abbrev cLa_cost : ByteArray := method_15_code
abbrev yLa_cost : MethodName := ⟨"HearingDeskLaw", "cost", "(LHearingDesk;I[D)I"⟩
abbrev cDe_cost : ByteArray := prog_1_method_16_code
abbrev yDe_cost : MethodName := ⟨"HearingDesk", "cost", "(I)D"⟩
abbrev wDe_cost : List Cond := .code yDe_cost cDe_cost 2 (some .double) :: W0
abbrev cLa_count : ByteArray := method_16_code
abbrev yLa_count : MethodName := ⟨"HearingDeskLaw", "count", "(LHearingDesk;I[J)I"⟩
abbrev cDe_count : ByteArray := prog_1_method_17_code
abbrev yDe_count : MethodName := ⟨"HearingDesk", "count", "(I)I"⟩
abbrev wDe_count : List Cond := .code yDe_count cDe_count 2 (some .int) :: W0
abbrev cDe_loudFrames : ByteArray := prog_1_method_19_code
abbrev yDe_loudFrames : MethodName := ⟨"HearingDesk", "loudFrames", "()I"⟩
abbrev wDe_loudFrames : List Cond := .code yDe_loudFrames cDe_loudFrames 3 (some .int) :: W0
abbrev cMo_init : ByteArray := prog_11_method_1_code
abbrev yMo_init : MethodName := ⟨"HearingDeskModel", "<init>", "()V"⟩
abbrev wMo_init : List Cond := .code yMo_init cMo_init 11 none :: W0
abbrev cMo_thrown : ByteArray := prog_11_method_2_code
abbrev yMo_thrown : MethodName := ⟨"HearingDeskModel", "thrown", "()I"⟩
abbrev wMo_thrown : List Cond := .code yMo_thrown cMo_thrown 1 (some .int) :: W0
abbrev cMo_octets : ByteArray := prog_11_method_5_code
abbrev yMo_octets : MethodName := ⟨"HearingDeskModel", "octets", "(IJ)I"⟩
abbrev wMo_octets : List Cond := .code yMo_octets cMo_octets 5 (some .int) :: W0
abbrev cMo_in : ByteArray := prog_11_method_3_code
abbrev yMo_in : MethodName := ⟨"HearingDeskModel", "in", "(JJJ)Z"⟩
abbrev wMo_in : List Cond := .code yMo_in cMo_in 6 (some .boolean) :: W0
abbrev cMo_fails : ByteArray := prog_11_method_4_code
abbrev yMo_fails : MethodName := ⟨"HearingDeskModel", "fails", "(ZI)Z"⟩
abbrev wMo_fails : List Cond := .code yMo_fails cMo_fails 3 (some .boolean) :: W0
abbrev cMo_read : ByteArray := prog_11_method_10_code
abbrev yMo_read : MethodName := ⟨"HearingDeskModel", "read", "()I"⟩
abbrev wMo_read : List Cond := .code yMo_read cMo_read 8 (some .int) :: W0
abbrev cMo_wrong : ByteArray := prog_11_method_8_code
abbrev yMo_wrong : MethodName := ⟨"HearingDeskModel", "wrong", "()I"⟩
abbrev wMo_wrong : List Cond := .code yMo_wrong cMo_wrong 9 (some .int) :: W0
abbrev cMo_number : ByteArray := prog_11_method_6_code
abbrev yMo_number : MethodName := ⟨"HearingDeskModel", "number", "(II)J"⟩
abbrev wMo_number : List Cond := .code yMo_number cMo_number 6 (some .long) :: W0
abbrev cMo_spells : ByteArray := prog_11_method_7_code
abbrev yMo_spells : MethodName := ⟨"HearingDeskModel", "spells", "(IIIII)Z"⟩
abbrev wMo_spells : List Cond := .code yMo_spells cMo_spells 6 (some .boolean) :: W0
abbrev cMo_heard : ByteArray := prog_11_method_9_code
abbrev yMo_heard : MethodName := ⟨"HearingDeskModel", "heard", "(II)D"⟩
abbrev wMo_heard : List Cond := .code yMo_heard cMo_heard 4 (some .double) :: W0
abbrev cMo_place : ByteArray := prog_11_method_11_code
abbrev yMo_place : MethodName := ⟨"HearingDeskModel", "place", "()I"⟩
abbrev wMo_place : List Cond := .code yMo_place cMo_place 1 (some .int) :: W0
abbrev cMo_wave : ByteArray := prog_11_method_12_code
abbrev yMo_wave : MethodName := ⟨"HearingDeskModel", "wave", "(IID)I"⟩
abbrev wMo_wave : List Cond := .code yMo_wave cMo_wave 6 (some .int) :: W0
abbrev cMo_clear : ByteArray := prog_11_method_13_code
abbrev yMo_clear : MethodName := ⟨"HearingDeskModel", "clear", "()I"⟩
abbrev wMo_clear : List Cond := .code yMo_clear cMo_clear 2 (some .int) :: W0
abbrev cMo_sample : ByteArray := prog_11_method_14_code
abbrev yMo_sample : MethodName := ⟨"HearingDeskModel", "sample", "(I)D"⟩
abbrev wMo_sample : List Cond := .code yMo_sample cMo_sample 2 (some .double) :: W0
abbrev cMo_power : ByteArray := prog_11_method_21_code
abbrev yMo_power : MethodName := ⟨"HearingDeskModel", "power", "(II)D"⟩
abbrev wMo_power : List Cond := .code yMo_power cMo_power 3 (some .double) :: W0
abbrev cMo_frames : ByteArray := prog_11_method_15_code
abbrev yMo_frames : MethodName := ⟨"HearingDeskModel", "frames", "()I"⟩
abbrev wMo_frames : List Cond := .code yMo_frames cMo_frames 1 (some .int) :: W0
abbrev cMo_powerOf : ByteArray := prog_11_method_16_code
abbrev yMo_powerOf : MethodName := ⟨"HearingDeskModel", "powerOf", "(II)D"⟩
abbrev wMo_powerOf : List Cond := .code yMo_powerOf cMo_powerOf 10 (some .double) :: W0
abbrev cMo_level : ByteArray := prog_11_method_22_code
abbrev yMo_level : MethodName := ⟨"HearingDeskModel", "level", "(II)D"⟩
abbrev wMo_level : List Cond := .code yMo_level cMo_level 3 (some .double) :: W0
abbrev cMo_levelOf : ByteArray := prog_11_method_19_code
abbrev yMo_levelOf : MethodName := ⟨"HearingDeskModel", "levelOf", "(II)D"⟩
abbrev wMo_levelOf : List Cond := .code yMo_levelOf cMo_levelOf 5 (some .double) :: W0
abbrev cMo_bandOf : ByteArray := prog_11_method_17_code
abbrev yMo_bandOf : MethodName := ⟨"HearingDeskModel", "bandOf", "(II)D"⟩
abbrev wMo_bandOf : List Cond := .code yMo_bandOf cMo_bandOf 8 (some .double) :: W0
abbrev cMo_logarithm : ByteArray := prog_11_method_18_code
abbrev yMo_logarithm : MethodName := ⟨"HearingDeskModel", "logarithm", "(D)D"⟩
abbrev wMo_logarithm : List Cond := .code yMo_logarithm cMo_logarithm 12 (some .double) :: W0
abbrev cMo_ways : ByteArray := prog_11_method_23_code
abbrev yMo_ways : MethodName := ⟨"HearingDeskModel", "ways", "(DID)V"⟩
abbrev wMo_ways : List Cond := .code yMo_ways cMo_ways 6 none :: W0
abbrev cMo_learn : ByteArray := prog_11_method_24_code
abbrev yMo_learn : MethodName := ⟨"HearingDeskModel", "learn", "(III)I"⟩
abbrev wMo_learn : List Cond := .code yMo_learn cMo_learn 6 (some .int) :: W0
abbrev cMo_forget : ByteArray := prog_11_method_25_code
abbrev yMo_forget : MethodName := ⟨"HearingDeskModel", "forget", "(I)I"⟩
abbrev wMo_forget : List Cond := .code yMo_forget cMo_forget 5 (some .int) :: W0
abbrev cMo_warp : ByteArray := prog_11_method_28_code
abbrev yMo_warp : MethodName := ⟨"HearingDeskModel", "warp", "(II)D"⟩
abbrev wMo_warp : List Cond := .code yMo_warp cMo_warp 3 (some .double) :: W0
abbrev cMo_takes : ByteArray := prog_11_method_26_code
abbrev yMo_takes : MethodName := ⟨"HearingDeskModel", "takes", "([DI)V"⟩
abbrev wMo_takes : List Cond := .code yMo_takes cMo_takes 4 none :: W0
abbrev cMo_warps : ByteArray := prog_11_method_27_code
abbrev yMo_warps : MethodName := ⟨"HearingDeskModel", "warps", "()D"⟩
abbrev wMo_warps : List Cond := .code yMo_warps cMo_warps 8 (some .double) :: W0
abbrev cMo_hear : ByteArray := prog_11_method_30_code
abbrev yMo_hear : MethodName := ⟨"HearingDeskModel", "hear", "()I"⟩
abbrev wMo_hear : List Cond := .code yMo_hear cMo_hear 7 (some .int) :: W0
abbrev cMo_isLoud : ByteArray := prog_11_method_20_code
abbrev yMo_isLoud : MethodName := ⟨"HearingDeskModel", "isLoud", "(I)Z"⟩
abbrev wMo_isLoud : List Cond := .code yMo_isLoud cMo_isLoud 5 (some .boolean) :: W0
abbrev cMo_writes : ByteArray := prog_11_method_29_code
abbrev yMo_writes : MethodName := ⟨"HearingDeskModel", "writes", "(II)V"⟩
abbrev wMo_writes : List Cond := .code yMo_writes cMo_writes 7 none :: W0
abbrev cMo_word : ByteArray := prog_11_method_31_code
abbrev yMo_word : MethodName := ⟨"HearingDeskModel", "word", "(II)I"⟩
abbrev wMo_word : List Cond := .code yMo_word cMo_word 3 (some .int) :: W0
abbrev cMo_cost : ByteArray := prog_11_method_32_code
abbrev yMo_cost : MethodName := ⟨"HearingDeskModel", "cost", "(I)D"⟩
abbrev wMo_cost : List Cond := .code yMo_cost cMo_cost 2 (some .double) :: W0
abbrev cMo_count : ByteArray := prog_11_method_33_code
abbrev yMo_count : MethodName := ⟨"HearingDeskModel", "count", "(I)I"⟩
abbrev wMo_count : List Cond := .code yMo_count cMo_count 4 (some .int) :: W0
end
section
-- contracts over one whole world: what holds at a start, what is given back, a call of such a method
def ct_at (D : va_G) (A : Nat → Prop) (w : va_W) (t : State) : Prop := va_P D vwCl w t.heap ∧ va_D A w
def ct_pre (D : va_G) (tys : List (ClassId × FieldType)) (ev : State → Prop) (w : va_W) (sz : Nat) (U : State) : Prop := U.heap.size = sz ∧ va_P D vwCl w U.heap ∧ va_K D vwCl tys U ∧ va_D (fun _ => True) w ∧ ev U
section CT
variable {p : Program} {l : Launch} {e : Env} {R : Room} {s : State} {m : MethodId} {args : Array Value} {below : List Frame} {meth : Method} {c : Code} {H : Heap} {locs : List Loc} {cells slots : Nat} {Q : State → Prop}
variable {pc : Nat} {ls : Array Slot} {rest st0 : List Value} {a : Array Value} {A : Nat → Prop} {H0 : Heap} {mc ms : Nat} {D : va_G} {w : va_W} {tys : List (ClassId × FieldType)} {ev : State → Prop}
theorem ct_blind (he : ∀ (U : State) (g : JFrame) (mk : MethodId) (a : Array Value), ev U → ev (U.calling g mk a)) {av : List Value} {sz : Nat} : FrameBlind (va_Pc av (ct_pre D tys ev w sz)) := by
  intro a U g mk q
  obtain ⟨q0, q1, qP, qK, qD, qE⟩ := q
  exact ⟨q0, q1, qP, va_K.moved (u := U) (U := U.calling g mk a) (Vm.Alike.refl U.vm) qK, qD, he U g mk a qE⟩
theorem ct_now (hw : ∀ U : State, U.heap = H → s.WarmedH U.vm → ev U) (hP : va_P D vwCl w H) (hK : va_K D vwCl tys s) (hD : va_D A w) {av : List Value} : ∀ U : State, U.heap = H → s.WarmedH U.vm → va_Pc av (ct_pre D tys ev w H.size) av.toArray U :=
  fun U hU hW => ⟨rfl, by rw [hU], by rw [hU]; exact hP, va_K.moved hW.alike hK, hD.weaken (fun _ _ _ _ => trivial), hw U hU hW⟩
theorem ct_free (hD : va_D A w) (hS : va_S A H0 H locs) (hA : ∀ q, H0.size ≤ q → A q) : ∀ q, va_A w H.size q → A q := by
  intro q h
  rcases h with ⟨k, e, h⟩ | h
  · exact hD.2 k (q, e) h
  · exact hA q (Nat.le_trans hS.1 h)
theorem ct_i {S : Type} {post : Int32 → S → Prop} {wf : S → va_W} (hr : va_Run p l e R s m args below meth c H locs cells slots mc ms (F0 m pc ls st0) rest (va_Qi post (fun u t => ct_at D (va_A w H.size) (wf u) t) (va_A w H.size) a) (va_A w H.size)) (hD : va_D A w) (hS : va_S A H0 H locs) (hA : ∀ q, H0.size ≤ q → A q)
    (kk : ∀ (r : Int32) (u : S) (H1 : Heap) (locs1 : List Loc), post r u → va_P D vwCl (wf u) H1 → va_D A (wf u) → va_S A H0 H1 locs1 → W p l e R s m args below meth c H1 locs1 (cells + mc) (slots + ms) Q (F0 m (pc + 3) ls (.int r :: rest))) : W p l e R s m args below meth c H locs cells slots Q (F0 m pc ls st0) := by
  have hF := ct_free hD hS hA
  refine va_calli hr hS (fun q _ h => hF q h) hF (fun r u t H1 locs1 ht hvm hw hB hz hk hS1 => ?_)
  obtain ⟨hP1, hD1⟩ := hB
  rw [ht] at hP1
  exact kk r u H1 locs1 hw hP1 (hD1.weaken (fun _ q _ h => hF q.1 h)) hS1
theorem ct_l {S : Type} {post : Int64 → S → Prop} {wf : S → va_W} (hr : va_Run p l e R s m args below meth c H locs cells slots mc ms (F0 m pc ls st0) rest (va_Ql post (fun u t => ct_at D (va_A w H.size) (wf u) t) (va_A w H.size) a) (va_A w H.size)) (hD : va_D A w) (hS : va_S A H0 H locs) (hA : ∀ q, H0.size ≤ q → A q)
    (kk : ∀ (r : Int64) (u : S) (H1 : Heap) (locs1 : List Loc), post r u → va_P D vwCl (wf u) H1 → va_D A (wf u) → va_S A H0 H1 locs1 → W p l e R s m args below meth c H1 locs1 (cells + mc) (slots + ms) Q (F0 m (pc + 3) ls (.long r :: rest))) : W p l e R s m args below meth c H locs cells slots Q (F0 m pc ls st0) := by
  have hF := ct_free hD hS hA
  refine va_calll hr hS (fun q _ h => hF q h) hF (fun r u t H1 locs1 ht hvm hw hB hz hk hS1 => ?_)
  obtain ⟨hP1, hD1⟩ := hB
  rw [ht] at hP1
  exact kk r u H1 locs1 hw hP1 (hD1.weaken (fun _ q _ h => hF q.1 h)) hS1
theorem ct_d {S : Type} {post : UInt64 → S → Prop} {wf : S → va_W} (hr : va_Run p l e R s m args below meth c H locs cells slots mc ms (F0 m pc ls st0) rest (va_Qd post (fun u t => ct_at D (va_A w H.size) (wf u) t) (va_A w H.size) a) (va_A w H.size)) (hD : va_D A w) (hS : va_S A H0 H locs) (hA : ∀ q, H0.size ≤ q → A q)
    (kk : ∀ (r : UInt64) (u : S) (H1 : Heap) (locs1 : List Loc), post r u → va_P D vwCl (wf u) H1 → va_D A (wf u) → va_S A H0 H1 locs1 → W p l e R s m args below meth c H1 locs1 (cells + mc) (slots + ms) Q (F0 m (pc + 3) ls (.double r :: rest))) : W p l e R s m args below meth c H locs cells slots Q (F0 m pc ls st0) := by
  have hF := ct_free hD hS hA
  refine va_calld hr hS (fun q _ h => hF q h) hF (fun r u t H1 locs1 ht hvm hw hB hz hk hS1 => ?_)
  obtain ⟨hP1, hD1⟩ := hB
  rw [ht] at hP1
  exact kk r u H1 locs1 hw hP1 (hD1.weaken (fun _ q _ h => hF q.1 h)) hS1
theorem ct_v {S : Type} {post : S → Prop} {wf : S → va_W} (hr : va_Run p l e R s m args below meth c H locs cells slots mc ms (F0 m pc ls st0) rest (va_Qv post (fun u t => ct_at D (va_A w H.size) (wf u) t) (va_A w H.size) a) (va_A w H.size)) (hD : va_D A w) (hS : va_S A H0 H locs) (hA : ∀ q, H0.size ≤ q → A q)
    (kk : ∀ (u : S) (H1 : Heap) (locs1 : List Loc), post u → va_P D vwCl (wf u) H1 → va_D A (wf u) → va_S A H0 H1 locs1 → W p l e R s m args below meth c H1 locs1 (cells + mc) (slots + ms) Q (F0 m (pc + 3) ls rest)) : W p l e R s m args below meth c H locs cells slots Q (F0 m pc ls st0) := by
  have hF := ct_free hD hS hA
  refine va_callv hr hS (fun q _ h => hF q h) hF (fun u t H1 locs1 ht hvm hw hB hz hk hS1 => ?_)
  obtain ⟨hP1, hD1⟩ := hB
  rw [ht] at hP1
  exact kk u H1 locs1 hw hP1 (hD1.weaken (fun _ q _ h => hF q.1 h)) hS1
-- ends
theorem ct_ri {cc : ByteArray} {v : Int32} {S : Type} {post : Int32 → S → Prop} {wf : S → va_W} (hx : p.tables.exec = Jvm.exec) (hb : c.code = cc) (hr : meth.sig.returnType = some .int) (hlocks : meth.locks = false) (u : S) (hp : post v u) (hP : va_P D vwCl (wf u) H) (hD : va_D A (wf u)) (hS : va_S A s.heap H locs) (hc : cells ≤ mc) (hs : slots ≤ ms) (hdg : decode cc pc = .ok (.ireturn, 1)) :
    W p l e R s m args below meth c H locs cells slots (MQ below (va_Qi post (fun u t => ct_at D A (wf u) t) A) args s mc ms A) (F0 m pc ls [.int v]) :=
  W.widen hc hs (W.iret hx hb hr (fun t ht _ => ⟨⟨v, u, rfl, hp, by rw [ht]; exact hP, hD⟩, hS.F ht⟩) hS.2.2 hdg hlocks)
theorem ct_rl {cc : ByteArray} {v : Int64} {S : Type} {post : Int64 → S → Prop} {wf : S → va_W} (hx : p.tables.exec = Jvm.exec) (hb : c.code = cc) (hr : meth.sig.returnType = some .long) (hlocks : meth.locks = false) (u : S) (hp : post v u) (hP : va_P D vwCl (wf u) H) (hD : va_D A (wf u)) (hS : va_S A s.heap H locs) (hc : cells ≤ mc) (hs : slots ≤ ms) (hdg : decode cc pc = .ok (.lreturn, 1)) :
    W p l e R s m args below meth c H locs cells slots (MQ below (va_Ql post (fun u t => ct_at D A (wf u) t) A) args s mc ms A) (F0 m pc ls [.long v]) :=
  W.widen hc hs (W.lret hx hb hr (fun t ht _ => ⟨⟨v, u, rfl, hp, by rw [ht]; exact hP, hD⟩, hS.F ht⟩) hS.2.2 hdg hlocks)
theorem ct_rd {cc : ByteArray} {v : UInt64} {S : Type} {post : UInt64 → S → Prop} {wf : S → va_W} (hx : p.tables.exec = Jvm.exec) (hb : c.code = cc) (hr : meth.sig.returnType = some .double) (hlocks : meth.locks = false) (u : S) (hp : post v u) (hP : va_P D vwCl (wf u) H) (hD : va_D A (wf u)) (hS : va_S A s.heap H locs) (hc : cells ≤ mc) (hs : slots ≤ ms) (hdg : decode cc pc = .ok (.dreturn, 1)) :
    W p l e R s m args below meth c H locs cells slots (MQ below (va_Qd post (fun u t => ct_at D A (wf u) t) A) args s mc ms A) (F0 m pc ls [.double v]) :=
  W.widen hc hs (W.dret hx hb hr (fun t ht _ => ⟨⟨v, u, rfl, hp, by rw [ht]; exact hP, hD⟩, hS.F ht⟩) hS.2.2 hdg hlocks)
theorem ct_rv {cc : ByteArray} {S : Type} {post : S → Prop} {wf : S → va_W} (hx : p.tables.exec = Jvm.exec) (hb : c.code = cc) (hr : meth.sig.returnType = none) (hlocks : meth.locks = false) (u : S) (hp : post u) (hP : va_P D vwCl (wf u) H) (hD : va_D A (wf u)) (hS : va_S A s.heap H locs) (hc : cells ≤ mc) (hs : slots ≤ ms) (hdg : decode cc pc = .ok (.return_, 1)) :
    W p l e R s m args below meth c H locs cells slots (MQ below (va_Qv post (fun u t => ct_at D A (wf u) t) A) args s mc ms A) (F0 m pc ls []) :=
  W.widen hc hs (W.vret hx hb hr (fun t ht _ => ⟨⟨u, rfl, hp, by rw [ht]; exact hP, hD⟩, hS.F ht⟩) hS.2.2 hdg hlocks)
theorem ct_rz {cc : ByteArray} {v : Int32} {S : Type} {post : Int32 → S → Prop} {wf : S → va_W} (hx : p.tables.exec = Jvm.exec) (hb : c.code = cc) (hr : meth.sig.returnType = some .boolean) (hlocks : meth.locks = false) (u : S) (hp : post v u) (hP : va_P D vwCl (wf u) H) (hD : va_D A (wf u)) (hS : va_S A s.heap H locs) (hc : cells ≤ mc) (hs : slots ≤ ms) (hdg : decode cc pc = .ok (.ireturn, 1)) (hn : narrow .boolean (.int v) = .int v := by rfl) :
    W p l e R s m args below meth c H locs cells slots (MQ below (va_Qi post (fun u t => ct_at D A (wf u) t) A) args s mc ms A) (F0 m pc ls [.int v]) :=
  W.widen hc hs (W.zret hx hb hr hn (fun t ht _ => ⟨⟨v, u, rfl, hp, by rw [ht]; exact hP, hD⟩, hS.F ht⟩) hS.2.2 hdg hlocks)
end CT
theorem gw_V {own C : String} {idx : Nat} {y : MethodName} {b : ByteArray} {n : Nat} {r : Option FieldType} (h1 : Cond.methodLink own idx y ∈ W0) (h2 : Cond.instanceMethod y ∈ W0) (h3 : Cond.selects C y y ∈ W0) (h4 : Cond.initialized C ∈ W0) (h5 : Cond.code y b n r ∈ W0) : GoodIn W0 (wsV own idx C y (Cond.code y b n r :: W0)) := by
  intro w h
  have key : w ∈ W0 := by
    rcases List.mem_append.mp h with h | h
    · simp only [List.mem_cons, List.not_mem_nil, or_false] at h
      rcases h with rfl | rfl | rfl | rfl <;> assumption
    · rcases List.mem_cons.mp h with rfl | h
      · exact h5
      · exact h
  exact ⟨key, W0_good key⟩
theorem gw_S {own : String} {idx : Nat} {y : MethodName} {b : ByteArray} {n : Nat} {r : Option FieldType} (h1 : Cond.methodLink own idx y ∈ W0) (h2 : Cond.static y ∈ W0) (h4 : Cond.initialized y.cls ∈ W0) (h5 : Cond.code y b n r ∈ W0) : GoodIn W0 (va_wsS own idx y (Cond.code y b n r :: W0)) := by
  intro w h
  have key : w ∈ W0 := by
    rcases List.mem_append.mp h with h | h
    · simp only [List.mem_cons, List.not_mem_nil, or_false] at h
      rcases h with rfl | rfl | rfl <;> assumption
    · rcases List.mem_cons.mp h with rfl | h
      · exact h5
      · exact h
  exact ⟨key, W0_good key⟩
theorem gw_I {y : MethodName} {b : ByteArray} {n : Nat} {r : Option FieldType} (h5 : Cond.code y b n r ∈ W0) : GoodIn W0 (Cond.code y b n r :: W0) := by
  intro w h
  have key : w ∈ W0 := by
    rcases List.mem_cons.mp h with rfl | h
    · exact h5
    · exact h
  exact ⟨key, W0_good key⟩
theorem rw_dec1 {j : Nat} (h : 1 ≤ j) : nI j + Int32.ofInt (-1) = nI (j - 1) := by
  obtain ⟨n, rfl⟩ : ∃ n, j = n + 1 := ⟨j - 1, by omega⟩
  exact pk_m1 n
theorem rw_dec2 {j : Nat} (h : 2 ≤ j) : nI j + Int32.ofInt (-2) = nI (j - 2) := by
  obtain ⟨n, rfl⟩ : ∃ n, j = n + 1 + 1 := ⟨j - 2, by omega⟩
  have e : (Int32.ofInt (-2)) = (-1) + (-1) := by decide
  rw [e, ← Int32.add_assoc, pk_m1, pk_m1]
  rfl
end
section
-- the world of the reference: its object and its 15 arrays
-- ints 0: err, filed, wrongAt, samples, rate, patterns, words, gap, first, second; 1: file; 2: letter; 3: rows; 4: wordLetter; 5: wordFirst; 6: wordSize; 7: wordPattern
-- doubles 0: threshold, limit; 1: sample; 2: levels; 3: wordCost; 4: one; 5: two; 6: way; 7: cosines; 8: sines
abbrev wd_d (f : Nat → UInt64) : (Nat → Int32) ⊕ ((Nat → Int64) ⊕ ((Nat → UInt32) ⊕ ((Nat → UInt64) ⊕ (Nat → Option Nat)))) := .inr (.inr (.inr (.inl f)))
def ui (I : Nat → Nat → Int32) (c j : Nat) (x : Int32) : Nat → Nat → Int32 := fun c' => if c' = c then upd (I c) j x else I c'
def ud (D : Nat → Nat → UInt64) (c j : Nat) (x : UInt64) : Nat → Nat → UInt64 := fun c' => if c' = c then vf_upd (D c) j x else D c'
theorem ui_c (I : Nat → Nat → Int32) (c j : Nat) (x : Int32) : ui I c j x c = upd (I c) j x := if_pos rfl
theorem ui_o (I : Nat → Nat → Int32) {c c' : Nat} (j : Nat) (x : Int32) (h : c' ≠ c) : ui I c j x c' = I c' := if_neg h
theorem ui_s (I : Nat → Nat → Int32) (c j : Nat) (x : Int32) : ui I c j x c j = x := by rw [ui_c]; exact if_pos rfl
theorem ui_n (I : Nat → Nat → Int32) (c : Nat) {j i : Nat} (x : Int32) (h : i ≠ j) : ui I c j x c i = I c i := by rw [ui_c]; exact if_neg h
theorem ud_c (D : Nat → Nat → UInt64) (c j : Nat) (x : UInt64) : ud D c j x c = vf_upd (D c) j x := if_pos rfl
theorem ud_o (D : Nat → Nat → UInt64) {c c' : Nat} (j : Nat) (x : UInt64) (h : c' ≠ c) : ud D c j x c' = D c' := if_neg h
theorem ud_s (D : Nat → Nat → UInt64) (c j : Nat) (x : UInt64) : ud D c j x c j = x := by rw [ud_c]; exact if_pos rfl
theorem ud_n (D : Nat → Nat → UInt64) (c : Nat) {j i : Nat} (x : UInt64) (h : i ≠ j) : ud D c j x c i = D c i := by rw [ud_c]; exact if_neg h
def mo_f (b : Nat → Nat) (I : Nat → Nat → Int32) (D : Nat → Nat → UInt64) : List Value := [.int (I 0 0), .int (I 0 1), .int (I 0 2), .int (I 0 3), .int (I 0 4), .int (I 0 5), .int (I 0 6), .int (I 0 7), .int (I 0 8), .int (I 0 9), .double (D 0 0), .double (D 0 1), .ref (b 1), .ref (b 2), .ref (b 3), .ref (b 4), .ref (b 5), .ref (b 6), .ref (b 7), .ref (b 8), .ref (b 9), .ref (b 10), .ref (b 11), .ref (b 12), .ref (b 13), .ref (b 14), .ref (b 15)]
def wm (k : Nat → ClassId) (b : Nat → Nat) (I : Nat → Nat → Int32) (D : Nat → Nat → UInt64) : va_W := [(b 0, .inr (8, mo_f b I D)), (b 1, .inl (k 0, 400, .inl (I 1))), (b 2, .inl (k 0, 6, .inl (I 2))), (b 3, .inl (k 0, 6, .inl (I 3))), (b 4, .inl (k 0, 20, .inl (I 4))), (b 5, .inl (k 0, 20, .inl (I 5))), (b 6, .inl (k 0, 20, .inl (I 6))), (b 7, .inl (k 0, 20, .inl (I 7))), (b 8, .inl (k 1, 320, wd_d (D 1))), (b 9, .inl (k 1, 192, wd_d (D 2))), (b 10, .inl (k 1, 20, wd_d (D 3))), (b 11, .inl (k 1, 80, wd_d (D 4))), (b 12, .inl (k 1, 80, wd_d (D 5))), (b 13, .inl (k 1, 200, wd_d (D 6))), (b 14, .inl (k 1, 32, wd_d (D 7))), (b 15, .inl (k 1, 32, wd_d (D 8)))]
def mo_ty (k : Nat → ClassId) : List (ClassId × FieldType) := [(k 0, .int), (k 1, .double)]
theorem wm_p0 {k : Nat → ClassId} {b : Nat → Nat} {I : Nat → Nat → Int32} {D : Nat → Nat → UInt64} {x : Int32} : (wm k b I D).set 0 (b 0, .inr (8, (mo_f b I D).set 0 (.int x))) = wm k b (ui I 0 0 x) D := rfl
theorem wm_p1 {k : Nat → ClassId} {b : Nat → Nat} {I : Nat → Nat → Int32} {D : Nat → Nat → UInt64} {x : Int32} : (wm k b I D).set 0 (b 0, .inr (8, (mo_f b I D).set 1 (.int x))) = wm k b (ui I 0 1 x) D := rfl
theorem wm_p2 {k : Nat → ClassId} {b : Nat → Nat} {I : Nat → Nat → Int32} {D : Nat → Nat → UInt64} {x : Int32} : (wm k b I D).set 0 (b 0, .inr (8, (mo_f b I D).set 2 (.int x))) = wm k b (ui I 0 2 x) D := rfl
theorem wm_p3 {k : Nat → ClassId} {b : Nat → Nat} {I : Nat → Nat → Int32} {D : Nat → Nat → UInt64} {x : Int32} : (wm k b I D).set 0 (b 0, .inr (8, (mo_f b I D).set 3 (.int x))) = wm k b (ui I 0 3 x) D := rfl
theorem wm_p4 {k : Nat → ClassId} {b : Nat → Nat} {I : Nat → Nat → Int32} {D : Nat → Nat → UInt64} {x : Int32} : (wm k b I D).set 0 (b 0, .inr (8, (mo_f b I D).set 4 (.int x))) = wm k b (ui I 0 4 x) D := rfl
theorem wm_p5 {k : Nat → ClassId} {b : Nat → Nat} {I : Nat → Nat → Int32} {D : Nat → Nat → UInt64} {x : Int32} : (wm k b I D).set 0 (b 0, .inr (8, (mo_f b I D).set 5 (.int x))) = wm k b (ui I 0 5 x) D := rfl
theorem wm_p6 {k : Nat → ClassId} {b : Nat → Nat} {I : Nat → Nat → Int32} {D : Nat → Nat → UInt64} {x : Int32} : (wm k b I D).set 0 (b 0, .inr (8, (mo_f b I D).set 6 (.int x))) = wm k b (ui I 0 6 x) D := rfl
theorem wm_p7 {k : Nat → ClassId} {b : Nat → Nat} {I : Nat → Nat → Int32} {D : Nat → Nat → UInt64} {x : Int32} : (wm k b I D).set 0 (b 0, .inr (8, (mo_f b I D).set 7 (.int x))) = wm k b (ui I 0 7 x) D := rfl
theorem wm_p8 {k : Nat → ClassId} {b : Nat → Nat} {I : Nat → Nat → Int32} {D : Nat → Nat → UInt64} {x : Int32} : (wm k b I D).set 0 (b 0, .inr (8, (mo_f b I D).set 8 (.int x))) = wm k b (ui I 0 8 x) D := rfl
theorem wm_p9 {k : Nat → ClassId} {b : Nat → Nat} {I : Nat → Nat → Int32} {D : Nat → Nat → UInt64} {x : Int32} : (wm k b I D).set 0 (b 0, .inr (8, (mo_f b I D).set 9 (.int x))) = wm k b (ui I 0 9 x) D := rfl
theorem wm_p10 {k : Nat → ClassId} {b : Nat → Nat} {I : Nat → Nat → Int32} {D : Nat → Nat → UInt64} {x : UInt64} : (wm k b I D).set 0 (b 0, .inr (8, (mo_f b I D).set 10 (.double x))) = wm k b I (ud D 0 0 x) := rfl
theorem wm_p11 {k : Nat → ClassId} {b : Nat → Nat} {I : Nat → Nat → Int32} {D : Nat → Nat → UInt64} {x : UInt64} : (wm k b I D).set 0 (b 0, .inr (8, (mo_f b I D).set 11 (.double x))) = wm k b I (ud D 0 1 x) := rfl
theorem wm_a1 {k : Nat → ClassId} {b : Nat → Nat} {I : Nat → Nat → Int32} {D : Nat → Nat → UInt64} {j : Nat} {x : Int32} : (wm k b I D).set 1 (b 1, .inl (k 0, 400, .inl (upd (I 1) j x))) = wm k b (ui I 1 j x) D := rfl
theorem wm_a2 {k : Nat → ClassId} {b : Nat → Nat} {I : Nat → Nat → Int32} {D : Nat → Nat → UInt64} {j : Nat} {x : Int32} : (wm k b I D).set 2 (b 2, .inl (k 0, 6, .inl (upd (I 2) j x))) = wm k b (ui I 2 j x) D := rfl
theorem wm_a3 {k : Nat → ClassId} {b : Nat → Nat} {I : Nat → Nat → Int32} {D : Nat → Nat → UInt64} {j : Nat} {x : Int32} : (wm k b I D).set 3 (b 3, .inl (k 0, 6, .inl (upd (I 3) j x))) = wm k b (ui I 3 j x) D := rfl
theorem wm_a4 {k : Nat → ClassId} {b : Nat → Nat} {I : Nat → Nat → Int32} {D : Nat → Nat → UInt64} {j : Nat} {x : Int32} : (wm k b I D).set 4 (b 4, .inl (k 0, 20, .inl (upd (I 4) j x))) = wm k b (ui I 4 j x) D := rfl
theorem wm_a5 {k : Nat → ClassId} {b : Nat → Nat} {I : Nat → Nat → Int32} {D : Nat → Nat → UInt64} {j : Nat} {x : Int32} : (wm k b I D).set 5 (b 5, .inl (k 0, 20, .inl (upd (I 5) j x))) = wm k b (ui I 5 j x) D := rfl
theorem wm_a6 {k : Nat → ClassId} {b : Nat → Nat} {I : Nat → Nat → Int32} {D : Nat → Nat → UInt64} {j : Nat} {x : Int32} : (wm k b I D).set 6 (b 6, .inl (k 0, 20, .inl (upd (I 6) j x))) = wm k b (ui I 6 j x) D := rfl
theorem wm_a7 {k : Nat → ClassId} {b : Nat → Nat} {I : Nat → Nat → Int32} {D : Nat → Nat → UInt64} {j : Nat} {x : Int32} : (wm k b I D).set 7 (b 7, .inl (k 0, 20, .inl (upd (I 7) j x))) = wm k b (ui I 7 j x) D := rfl
theorem wm_a8 {k : Nat → ClassId} {b : Nat → Nat} {I : Nat → Nat → Int32} {D : Nat → Nat → UInt64} {j : Nat} {x : UInt64} : (wm k b I D).set 8 (b 8, .inl (k 1, 320, .inr (.inr (.inr (.inl (vf_upd (D 1) j x)))))) = wm k b I (ud D 1 j x) := rfl
theorem wm_a9 {k : Nat → ClassId} {b : Nat → Nat} {I : Nat → Nat → Int32} {D : Nat → Nat → UInt64} {j : Nat} {x : UInt64} : (wm k b I D).set 9 (b 9, .inl (k 1, 192, .inr (.inr (.inr (.inl (vf_upd (D 2) j x)))))) = wm k b I (ud D 2 j x) := rfl
theorem wm_a10 {k : Nat → ClassId} {b : Nat → Nat} {I : Nat → Nat → Int32} {D : Nat → Nat → UInt64} {j : Nat} {x : UInt64} : (wm k b I D).set 10 (b 10, .inl (k 1, 20, .inr (.inr (.inr (.inl (vf_upd (D 3) j x)))))) = wm k b I (ud D 3 j x) := rfl
theorem wm_a11 {k : Nat → ClassId} {b : Nat → Nat} {I : Nat → Nat → Int32} {D : Nat → Nat → UInt64} {j : Nat} {x : UInt64} : (wm k b I D).set 11 (b 11, .inl (k 1, 80, .inr (.inr (.inr (.inl (vf_upd (D 4) j x)))))) = wm k b I (ud D 4 j x) := rfl
theorem wm_a12 {k : Nat → ClassId} {b : Nat → Nat} {I : Nat → Nat → Int32} {D : Nat → Nat → UInt64} {j : Nat} {x : UInt64} : (wm k b I D).set 12 (b 12, .inl (k 1, 80, .inr (.inr (.inr (.inl (vf_upd (D 5) j x)))))) = wm k b I (ud D 5 j x) := rfl
theorem wm_a13 {k : Nat → ClassId} {b : Nat → Nat} {I : Nat → Nat → Int32} {D : Nat → Nat → UInt64} {j : Nat} {x : UInt64} : (wm k b I D).set 13 (b 13, .inl (k 1, 200, .inr (.inr (.inr (.inl (vf_upd (D 6) j x)))))) = wm k b I (ud D 6 j x) := rfl
theorem wm_a14 {k : Nat → ClassId} {b : Nat → Nat} {I : Nat → Nat → Int32} {D : Nat → Nat → UInt64} {j : Nat} {x : UInt64} : (wm k b I D).set 14 (b 14, .inl (k 1, 32, .inr (.inr (.inr (.inl (vf_upd (D 7) j x)))))) = wm k b I (ud D 7 j x) := rfl
theorem wm_a15 {k : Nat → ClassId} {b : Nat → Nat} {I : Nat → Nat → Int32} {D : Nat → Nat → UInt64} {j : Nat} {x : UInt64} : (wm k b I D).set 15 (b 15, .inl (k 1, 32, .inr (.inr (.inr (.inl (vf_upd (D 8) j x)))))) = wm k b I (ud D 8 j x) := rfl
end
section
theorem dMo_init_0 : decode cMo_init 0 = .ok (.aload_n 0, 1) := by decide +kernel
theorem dMo_init_1 : decode cMo_init 1 = .ok (.invokespecial 1, 3) := by decide +kernel
theorem dMo_init_4 : decode cMo_init 4 = .ok (.aload_n 0, 1) := by decide +kernel
theorem dMo_init_5 : decode cMo_init 5 = .ok (.iconst (-1), 1) := by decide +kernel
theorem dMo_init_6 : decode cMo_init 6 = .ok (.putfield 7, 3) := by decide +kernel
theorem dMo_init_9 : decode cMo_init 9 = .ok (.aload_n 0, 1) := by decide +kernel
theorem dMo_init_10 : decode cMo_init 10 = .ok (.sipush 8000, 3) := by decide +kernel
theorem dMo_init_13 : decode cMo_init 13 = .ok (.putfield 13, 3) := by decide +kernel
theorem dMo_init_16 : decode cMo_init 16 = .ok (.aload_n 0, 1) := by decide +kernel
theorem dMo_init_17 : decode cMo_init 17 = .ok (.iconst 2, 1) := by decide +kernel
theorem dMo_init_18 : decode cMo_init 18 = .ok (.putfield 16, 3) := by decide +kernel
theorem dMo_init_21 : decode cMo_init 21 = .ok (.aload_n 0, 1) := by decide +kernel
theorem dMo_init_22 : decode cMo_init 22 = .ok (.ldc2_w 19, 3) := by decide +kernel
theorem dMo_init_25 : decode cMo_init 25 = .ok (.putfield 21, 3) := by decide +kernel
theorem dMo_init_28 : decode cMo_init 28 = .ok (.aload_n 0, 1) := by decide +kernel
theorem dMo_init_29 : decode cMo_init 29 = .ok (.ldc2_w 25, 3) := by decide +kernel
theorem dMo_init_32 : decode cMo_init 32 = .ok (.putfield 27, 3) := by decide +kernel
theorem dMo_init_35 : decode cMo_init 35 = .ok (.aload_n 0, 1) := by decide +kernel
theorem dMo_init_36 : decode cMo_init 36 = .ok (.sipush 400, 3) := by decide +kernel
theorem dMo_init_39 : decode cMo_init 39 = .ok (.newarray .int, 2) := by decide +kernel
theorem dMo_init_41 : decode cMo_init 41 = .ok (.putfield 30, 3) := by decide +kernel
theorem dMo_init_44 : decode cMo_init 44 = .ok (.aload_n 0, 1) := by decide +kernel
theorem dMo_init_45 : decode cMo_init 45 = .ok (.bipush 6, 2) := by decide +kernel
theorem dMo_init_47 : decode cMo_init 47 = .ok (.newarray .int, 2) := by decide +kernel
theorem dMo_init_49 : decode cMo_init 49 = .ok (.putfield 34, 3) := by decide +kernel
theorem dMo_init_52 : decode cMo_init 52 = .ok (.aload_n 0, 1) := by decide +kernel
theorem dMo_init_53 : decode cMo_init 53 = .ok (.bipush 6, 2) := by decide +kernel
theorem dMo_init_55 : decode cMo_init 55 = .ok (.newarray .int, 2) := by decide +kernel
theorem dMo_init_57 : decode cMo_init 57 = .ok (.putfield 37, 3) := by decide +kernel
theorem dMo_init_60 : decode cMo_init 60 = .ok (.aload_n 0, 1) := by decide +kernel
theorem dMo_init_61 : decode cMo_init 61 = .ok (.bipush 20, 2) := by decide +kernel
theorem dMo_init_63 : decode cMo_init 63 = .ok (.newarray .int, 2) := by decide +kernel
theorem dMo_init_65 : decode cMo_init 65 = .ok (.putfield 40, 3) := by decide +kernel
theorem dMo_init_68 : decode cMo_init 68 = .ok (.aload_n 0, 1) := by decide +kernel
theorem dMo_init_69 : decode cMo_init 69 = .ok (.bipush 20, 2) := by decide +kernel
theorem dMo_init_71 : decode cMo_init 71 = .ok (.newarray .int, 2) := by decide +kernel
theorem dMo_init_73 : decode cMo_init 73 = .ok (.putfield 43, 3) := by decide +kernel
theorem dMo_init_76 : decode cMo_init 76 = .ok (.aload_n 0, 1) := by decide +kernel
theorem dMo_init_77 : decode cMo_init 77 = .ok (.bipush 20, 2) := by decide +kernel
theorem dMo_init_79 : decode cMo_init 79 = .ok (.newarray .int, 2) := by decide +kernel
theorem dMo_init_81 : decode cMo_init 81 = .ok (.putfield 46, 3) := by decide +kernel
theorem dMo_init_84 : decode cMo_init 84 = .ok (.aload_n 0, 1) := by decide +kernel
theorem dMo_init_85 : decode cMo_init 85 = .ok (.bipush 20, 2) := by decide +kernel
theorem dMo_init_87 : decode cMo_init 87 = .ok (.newarray .int, 2) := by decide +kernel
theorem dMo_init_89 : decode cMo_init 89 = .ok (.putfield 49, 3) := by decide +kernel
theorem dMo_init_92 : decode cMo_init 92 = .ok (.aload_n 0, 1) := by decide +kernel
theorem dMo_init_93 : decode cMo_init 93 = .ok (.sipush 320, 3) := by decide +kernel
theorem dMo_init_96 : decode cMo_init 96 = .ok (.newarray .double, 2) := by decide +kernel
theorem dMo_init_98 : decode cMo_init 98 = .ok (.putfield 52, 3) := by decide +kernel
theorem dMo_init_101 : decode cMo_init 101 = .ok (.aload_n 0, 1) := by decide +kernel
theorem dMo_init_102 : decode cMo_init 102 = .ok (.sipush 192, 3) := by decide +kernel
theorem dMo_init_105 : decode cMo_init 105 = .ok (.newarray .double, 2) := by decide +kernel
theorem dMo_init_107 : decode cMo_init 107 = .ok (.putfield 56, 3) := by decide +kernel
theorem dMo_init_110 : decode cMo_init 110 = .ok (.aload_n 0, 1) := by decide +kernel
theorem dMo_init_111 : decode cMo_init 111 = .ok (.bipush 20, 2) := by decide +kernel
theorem dMo_init_113 : decode cMo_init 113 = .ok (.newarray .double, 2) := by decide +kernel
theorem dMo_init_115 : decode cMo_init 115 = .ok (.putfield 59, 3) := by decide +kernel
theorem dMo_init_118 : decode cMo_init 118 = .ok (.aload_n 0, 1) := by decide +kernel
theorem dMo_init_119 : decode cMo_init 119 = .ok (.bipush 80, 2) := by decide +kernel
theorem dMo_init_121 : decode cMo_init 121 = .ok (.newarray .double, 2) := by decide +kernel
theorem dMo_init_123 : decode cMo_init 123 = .ok (.putfield 62, 3) := by decide +kernel
theorem dMo_init_126 : decode cMo_init 126 = .ok (.aload_n 0, 1) := by decide +kernel
theorem dMo_init_127 : decode cMo_init 127 = .ok (.bipush 80, 2) := by decide +kernel
theorem dMo_init_129 : decode cMo_init 129 = .ok (.newarray .double, 2) := by decide +kernel
theorem dMo_init_131 : decode cMo_init 131 = .ok (.putfield 65, 3) := by decide +kernel
theorem dMo_init_134 : decode cMo_init 134 = .ok (.aload_n 0, 1) := by decide +kernel
theorem dMo_init_135 : decode cMo_init 135 = .ok (.sipush 200, 3) := by decide +kernel
theorem dMo_init_138 : decode cMo_init 138 = .ok (.newarray .double, 2) := by decide +kernel
theorem dMo_init_140 : decode cMo_init 140 = .ok (.putfield 68, 3) := by decide +kernel
theorem dMo_init_143 : decode cMo_init 143 = .ok (.aload_n 0, 1) := by decide +kernel
theorem dMo_init_144 : decode cMo_init 144 = .ok (.bipush 32, 2) := by decide +kernel
theorem dMo_init_146 : decode cMo_init 146 = .ok (.newarray .double, 2) := by decide +kernel
theorem dMo_init_148 : decode cMo_init 148 = .ok (.putfield 71, 3) := by decide +kernel
theorem dMo_init_151 : decode cMo_init 151 = .ok (.aload_n 0, 1) := by decide +kernel
theorem dMo_init_152 : decode cMo_init 152 = .ok (.bipush 32, 2) := by decide +kernel
theorem dMo_init_154 : decode cMo_init 154 = .ok (.newarray .double, 2) := by decide +kernel
theorem dMo_init_156 : decode cMo_init 156 = .ok (.putfield 74, 3) := by decide +kernel
theorem dMo_init_159 : decode cMo_init 159 = .ok (.iconst 0, 1) := by decide +kernel
theorem dMo_init_160 : decode cMo_init 160 = .ok (.istore_n 1, 1) := by decide +kernel
theorem dMo_init_161 : decode cMo_init 161 = .ok (.iload_n 1, 1) := by decide +kernel
theorem dMo_init_162 : decode cMo_init 162 = .ok (.bipush 32, 2) := by decide +kernel
theorem dMo_init_164 : decode cMo_init 164 = .ok (.if_icmp .ge 126, 3) := by decide +kernel
theorem dMo_init_167 : decode cMo_init 167 = .ok (.iload_n 1, 1) := by decide +kernel
theorem dMo_init_168 : decode cMo_init 168 = .ok (.bipush 16, 2) := by decide +kernel
theorem dMo_init_170 : decode cMo_init 170 = .ok (.if_icmp .le 10, 3) := by decide +kernel
theorem dMo_init_173 : decode cMo_init 173 = .ok (.iload_n 1, 1) := by decide +kernel
theorem dMo_init_174 : decode cMo_init 174 = .ok (.bipush 32, 2) := by decide +kernel
theorem dMo_init_176 : decode cMo_init 176 = .ok (.isub, 1) := by decide +kernel
theorem dMo_init_177 : decode cMo_init 177 = .ok (.goto 4, 3) := by decide +kernel
theorem dMo_init_180 : decode cMo_init 180 = .ok (.iload_n 1, 1) := by decide +kernel
theorem dMo_init_181 : decode cMo_init 181 = .ok (.i2d, 1) := by decide +kernel
theorem dMo_init_182 : decode cMo_init 182 = .ok (.ldc2_w 77, 3) := by decide +kernel
theorem dMo_init_185 : decode cMo_init 185 = .ok (.dmul, 1) := by decide +kernel
theorem dMo_init_186 : decode cMo_init 186 = .ok (.dstore_n 2, 1) := by decide +kernel
theorem dMo_init_187 : decode cMo_init 187 = .ok (.dload_n 2, 1) := by decide +kernel
theorem dMo_init_188 : decode cMo_init 188 = .ok (.dload_n 2, 1) := by decide +kernel
theorem dMo_init_189 : decode cMo_init 189 = .ok (.dmul, 1) := by decide +kernel
theorem dMo_init_190 : decode cMo_init 190 = .ok (.dstore 4, 2) := by decide +kernel
theorem dMo_init_192 : decode cMo_init 192 = .ok (.dconst 1, 1) := by decide +kernel
theorem dMo_init_193 : decode cMo_init 193 = .ok (.dstore 6, 2) := by decide +kernel
theorem dMo_init_195 : decode cMo_init 195 = .ok (.dconst 1, 1) := by decide +kernel
theorem dMo_init_196 : decode cMo_init 196 = .ok (.dstore 8, 2) := by decide +kernel
theorem dMo_init_198 : decode cMo_init 198 = .ok (.bipush 24, 2) := by decide +kernel
theorem dMo_init_200 : decode cMo_init 200 = .ok (.istore 10, 2) := by decide +kernel
theorem dMo_init_202 : decode cMo_init 202 = .ok (.iload 10, 2) := by decide +kernel
theorem dMo_init_204 : decode cMo_init 204 = .ok (.iconst 1, 1) := by decide +kernel
theorem dMo_init_205 : decode cMo_init 205 = .ok (.if_icmp .le 27, 3) := by decide +kernel
theorem dMo_init_208 : decode cMo_init 208 = .ok (.dconst 1, 1) := by decide +kernel
theorem dMo_init_209 : decode cMo_init 209 = .ok (.dload 4, 2) := by decide +kernel
theorem dMo_init_211 : decode cMo_init 211 = .ok (.dload 6, 2) := by decide +kernel
theorem dMo_init_213 : decode cMo_init 213 = .ok (.dmul, 1) := by decide +kernel
theorem dMo_init_214 : decode cMo_init 214 = .ok (.iload 10, 2) := by decide +kernel
theorem dMo_init_216 : decode cMo_init 216 = .ok (.iload 10, 2) := by decide +kernel
theorem dMo_init_218 : decode cMo_init 218 = .ok (.iconst 1, 1) := by decide +kernel
theorem dMo_init_219 : decode cMo_init 219 = .ok (.isub, 1) := by decide +kernel
theorem dMo_init_220 : decode cMo_init 220 = .ok (.imul, 1) := by decide +kernel
theorem dMo_init_221 : decode cMo_init 221 = .ok (.i2d, 1) := by decide +kernel
theorem dMo_init_222 : decode cMo_init 222 = .ok (.ddiv, 1) := by decide +kernel
theorem dMo_init_223 : decode cMo_init 223 = .ok (.dsub, 1) := by decide +kernel
theorem dMo_init_224 : decode cMo_init 224 = .ok (.dstore 6, 2) := by decide +kernel
theorem dMo_init_226 : decode cMo_init 226 = .ok (.iinc 10 (-2), 3) := by decide +kernel
theorem dMo_init_229 : decode cMo_init 229 = .ok (.goto (-27), 3) := by decide +kernel
theorem dMo_init_232 : decode cMo_init 232 = .ok (.bipush 25, 2) := by decide +kernel
theorem dMo_init_234 : decode cMo_init 234 = .ok (.istore 10, 2) := by decide +kernel
theorem dMo_init_236 : decode cMo_init 236 = .ok (.iload 10, 2) := by decide +kernel
theorem dMo_init_238 : decode cMo_init 238 = .ok (.iconst 2, 1) := by decide +kernel
theorem dMo_init_239 : decode cMo_init 239 = .ok (.if_icmp .le 27, 3) := by decide +kernel
theorem dMo_init_242 : decode cMo_init 242 = .ok (.dconst 1, 1) := by decide +kernel
theorem dMo_init_243 : decode cMo_init 243 = .ok (.dload 4, 2) := by decide +kernel
theorem dMo_init_245 : decode cMo_init 245 = .ok (.dload 8, 2) := by decide +kernel
theorem dMo_init_247 : decode cMo_init 247 = .ok (.dmul, 1) := by decide +kernel
theorem dMo_init_248 : decode cMo_init 248 = .ok (.iload 10, 2) := by decide +kernel
theorem dMo_init_250 : decode cMo_init 250 = .ok (.iload 10, 2) := by decide +kernel
theorem dMo_init_252 : decode cMo_init 252 = .ok (.iconst 1, 1) := by decide +kernel
theorem dMo_init_253 : decode cMo_init 253 = .ok (.isub, 1) := by decide +kernel
theorem dMo_init_254 : decode cMo_init 254 = .ok (.imul, 1) := by decide +kernel
theorem dMo_init_255 : decode cMo_init 255 = .ok (.i2d, 1) := by decide +kernel
theorem dMo_init_256 : decode cMo_init 256 = .ok (.ddiv, 1) := by decide +kernel
theorem dMo_init_257 : decode cMo_init 257 = .ok (.dsub, 1) := by decide +kernel
theorem dMo_init_258 : decode cMo_init 258 = .ok (.dstore 8, 2) := by decide +kernel
theorem dMo_init_260 : decode cMo_init 260 = .ok (.iinc 10 (-2), 3) := by decide +kernel
theorem dMo_init_263 : decode cMo_init 263 = .ok (.goto (-27), 3) := by decide +kernel
theorem dMo_init_266 : decode cMo_init 266 = .ok (.aload_n 0, 1) := by decide +kernel
theorem dMo_init_267 : decode cMo_init 267 = .ok (.getfield 71, 3) := by decide +kernel
theorem dMo_init_270 : decode cMo_init 270 = .ok (.iload_n 1, 1) := by decide +kernel
theorem dMo_init_271 : decode cMo_init 271 = .ok (.dload 6, 2) := by decide +kernel
theorem dMo_init_273 : decode cMo_init 273 = .ok (.dastore, 1) := by decide +kernel
theorem dMo_init_274 : decode cMo_init 274 = .ok (.aload_n 0, 1) := by decide +kernel
theorem dMo_init_275 : decode cMo_init 275 = .ok (.getfield 74, 3) := by decide +kernel
theorem dMo_init_278 : decode cMo_init 278 = .ok (.iload_n 1, 1) := by decide +kernel
theorem dMo_init_279 : decode cMo_init 279 = .ok (.dload_n 2, 1) := by decide +kernel
theorem dMo_init_280 : decode cMo_init 280 = .ok (.dload 8, 2) := by decide +kernel
theorem dMo_init_282 : decode cMo_init 282 = .ok (.dmul, 1) := by decide +kernel
theorem dMo_init_283 : decode cMo_init 283 = .ok (.dastore, 1) := by decide +kernel
theorem dMo_init_284 : decode cMo_init 284 = .ok (.iinc 1 1, 3) := by decide +kernel
theorem dMo_init_287 : decode cMo_init 287 = .ok (.goto (-126), 3) := by decide +kernel
theorem dMo_init_290 : decode cMo_init 290 = .ok (.return_, 1) := by decide +kernel
theorem dMo_thrown_0 : decode cMo_thrown 0 = .ok (.aload_n 0, 1) := by decide +kernel
theorem dMo_thrown_1 : decode cMo_thrown 1 = .ok (.getfield 79, 3) := by decide +kernel
theorem dMo_thrown_4 : decode cMo_thrown 4 = .ok (.ireturn, 1) := by decide +kernel
theorem dMo_octets_0 : decode cMo_octets 0 = .ok (.aload_n 0, 1) := by decide +kernel
theorem dMo_octets_1 : decode cMo_octets 1 = .ok (.iconst 0, 1) := by decide +kernel
theorem dMo_octets_2 : decode cMo_octets 2 = .ok (.putfield 79, 3) := by decide +kernel
theorem dMo_octets_5 : decode cMo_octets 5 = .ok (.aload_n 0, 1) := by decide +kernel
theorem dMo_octets_6 : decode cMo_octets 6 = .ok (.iload_n 1, 1) := by decide +kernel
theorem dMo_octets_7 : decode cMo_octets 7 = .ok (.i2l, 1) := by decide +kernel
theorem dMo_octets_8 : decode cMo_octets 8 = .ok (.lconst 1, 1) := by decide +kernel
theorem dMo_octets_9 : decode cMo_octets 9 = .ok (.ldc2_w 82, 3) := by decide +kernel
theorem dMo_octets_12 : decode cMo_octets 12 = .ok (.invokestatic 84, 3) := by decide +kernel
theorem dMo_octets_15 : decode cMo_octets 15 = .ok (.ifCond .ne 7, 3) := by decide +kernel
theorem dMo_octets_18 : decode cMo_octets 18 = .ok (.iconst 1, 1) := by decide +kernel
theorem dMo_octets_19 : decode cMo_octets 19 = .ok (.goto 4, 3) := by decide +kernel
theorem dMo_octets_22 : decode cMo_octets 22 = .ok (.iconst 0, 1) := by decide +kernel
theorem dMo_octets_23 : decode cMo_octets 23 = .ok (.iconst 1, 1) := by decide +kernel
theorem dMo_octets_24 : decode cMo_octets 24 = .ok (.invokevirtual 88, 3) := by decide +kernel
theorem dMo_octets_27 : decode cMo_octets 27 = .ok (.ifCond .ne 28, 3) := by decide +kernel
theorem dMo_octets_30 : decode cMo_octets 30 = .ok (.aload_n 0, 1) := by decide +kernel
theorem dMo_octets_31 : decode cMo_octets 31 = .ok (.aload_n 0, 1) := by decide +kernel
theorem dMo_octets_32 : decode cMo_octets 32 = .ok (.getfield 92, 3) := by decide +kernel
theorem dMo_octets_35 : decode cMo_octets 35 = .ok (.iload_n 1, 1) := by decide +kernel
theorem dMo_octets_36 : decode cMo_octets 36 = .ok (.iadd, 1) := by decide +kernel
theorem dMo_octets_37 : decode cMo_octets 37 = .ok (.sipush 400, 3) := by decide +kernel
theorem dMo_octets_40 : decode cMo_octets 40 = .ok (.if_icmp .le 7, 3) := by decide +kernel
theorem dMo_octets_43 : decode cMo_octets 43 = .ok (.iconst 1, 1) := by decide +kernel
theorem dMo_octets_44 : decode cMo_octets 44 = .ok (.goto 4, 3) := by decide +kernel
theorem dMo_octets_47 : decode cMo_octets 47 = .ok (.iconst 0, 1) := by decide +kernel
theorem dMo_octets_48 : decode cMo_octets 48 = .ok (.iconst 2, 1) := by decide +kernel
theorem dMo_octets_49 : decode cMo_octets 49 = .ok (.invokevirtual 88, 3) := by decide +kernel
theorem dMo_octets_52 : decode cMo_octets 52 = .ok (.ifCond .eq 5, 3) := by decide +kernel
theorem dMo_octets_55 : decode cMo_octets 55 = .ok (.iconst 0, 1) := by decide +kernel
theorem dMo_octets_56 : decode cMo_octets 56 = .ok (.ireturn, 1) := by decide +kernel
theorem dMo_octets_57 : decode cMo_octets 57 = .ok (.iconst 0, 1) := by decide +kernel
theorem dMo_octets_58 : decode cMo_octets 58 = .ok (.istore 4, 2) := by decide +kernel
theorem dMo_octets_60 : decode cMo_octets 60 = .ok (.iload 4, 2) := by decide +kernel
theorem dMo_octets_62 : decode cMo_octets 62 = .ok (.iload_n 1, 1) := by decide +kernel
theorem dMo_octets_63 : decode cMo_octets 63 = .ok (.if_icmp .ge 33, 3) := by decide +kernel
theorem dMo_octets_66 : decode cMo_octets 66 = .ok (.aload_n 0, 1) := by decide +kernel
theorem dMo_octets_67 : decode cMo_octets 67 = .ok (.getfield 30, 3) := by decide +kernel
theorem dMo_octets_70 : decode cMo_octets 70 = .ok (.aload_n 0, 1) := by decide +kernel
theorem dMo_octets_71 : decode cMo_octets 71 = .ok (.getfield 92, 3) := by decide +kernel
theorem dMo_octets_74 : decode cMo_octets 74 = .ok (.iload 4, 2) := by decide +kernel
theorem dMo_octets_76 : decode cMo_octets 76 = .ok (.iadd, 1) := by decide +kernel
theorem dMo_octets_77 : decode cMo_octets 77 = .ok (.lload_n 2, 1) := by decide +kernel
theorem dMo_octets_78 : decode cMo_octets 78 = .ok (.bipush 8, 2) := by decide +kernel
theorem dMo_octets_80 : decode cMo_octets 80 = .ok (.iload 4, 2) := by decide +kernel
theorem dMo_octets_82 : decode cMo_octets 82 = .ok (.imul, 1) := by decide +kernel
theorem dMo_octets_83 : decode cMo_octets 83 = .ok (.lushr, 1) := by decide +kernel
theorem dMo_octets_84 : decode cMo_octets 84 = .ok (.ldc2_w 95, 3) := by decide +kernel
theorem dMo_octets_87 : decode cMo_octets 87 = .ok (.land, 1) := by decide +kernel
theorem dMo_octets_88 : decode cMo_octets 88 = .ok (.l2i, 1) := by decide +kernel
theorem dMo_octets_89 : decode cMo_octets 89 = .ok (.iastore, 1) := by decide +kernel
theorem dMo_octets_90 : decode cMo_octets 90 = .ok (.iinc 4 1, 3) := by decide +kernel
theorem dMo_octets_93 : decode cMo_octets 93 = .ok (.goto (-33), 3) := by decide +kernel
theorem dMo_octets_96 : decode cMo_octets 96 = .ok (.aload_n 0, 1) := by decide +kernel
theorem dMo_octets_97 : decode cMo_octets 97 = .ok (.dup, 1) := by decide +kernel
theorem dMo_octets_98 : decode cMo_octets 98 = .ok (.getfield 92, 3) := by decide +kernel
theorem dMo_octets_101 : decode cMo_octets 101 = .ok (.iload_n 1, 1) := by decide +kernel
theorem dMo_octets_102 : decode cMo_octets 102 = .ok (.iadd, 1) := by decide +kernel
theorem dMo_octets_103 : decode cMo_octets 103 = .ok (.putfield 92, 3) := by decide +kernel
theorem dMo_octets_106 : decode cMo_octets 106 = .ok (.aload_n 0, 1) := by decide +kernel
theorem dMo_octets_107 : decode cMo_octets 107 = .ok (.getfield 92, 3) := by decide +kernel
theorem dMo_octets_110 : decode cMo_octets 110 = .ok (.ireturn, 1) := by decide +kernel
theorem dMo_in_0 : decode cMo_in 0 = .ok (.lload_n 0, 1) := by decide +kernel
theorem dMo_in_1 : decode cMo_in 1 = .ok (.lload_n 2, 1) := by decide +kernel
theorem dMo_in_2 : decode cMo_in 2 = .ok (.lcmp, 1) := by decide +kernel
theorem dMo_in_3 : decode cMo_in 3 = .ok (.ifCond .lt 14, 3) := by decide +kernel
theorem dMo_in_6 : decode cMo_in 6 = .ok (.lload_n 0, 1) := by decide +kernel
theorem dMo_in_7 : decode cMo_in 7 = .ok (.lload 4, 2) := by decide +kernel
theorem dMo_in_9 : decode cMo_in 9 = .ok (.lcmp, 1) := by decide +kernel
theorem dMo_in_10 : decode cMo_in 10 = .ok (.ifCond .gt 7, 3) := by decide +kernel
theorem dMo_in_13 : decode cMo_in 13 = .ok (.iconst 1, 1) := by decide +kernel
theorem dMo_in_14 : decode cMo_in 14 = .ok (.goto 4, 3) := by decide +kernel
theorem dMo_in_17 : decode cMo_in 17 = .ok (.iconst 0, 1) := by decide +kernel
theorem dMo_in_18 : decode cMo_in 18 = .ok (.ireturn, 1) := by decide +kernel
theorem dMo_fails_0 : decode cMo_fails 0 = .ok (.iload_n 1, 1) := by decide +kernel
theorem dMo_fails_1 : decode cMo_fails 1 = .ok (.ifCond .eq 15, 3) := by decide +kernel
theorem dMo_fails_4 : decode cMo_fails 4 = .ok (.aload_n 0, 1) := by decide +kernel
theorem dMo_fails_5 : decode cMo_fails 5 = .ok (.getfield 79, 3) := by decide +kernel
theorem dMo_fails_8 : decode cMo_fails 8 = .ok (.ifCond .ne 8, 3) := by decide +kernel
theorem dMo_fails_11 : decode cMo_fails 11 = .ok (.aload_n 0, 1) := by decide +kernel
theorem dMo_fails_12 : decode cMo_fails 12 = .ok (.iload_n 2, 1) := by decide +kernel
theorem dMo_fails_13 : decode cMo_fails 13 = .ok (.putfield 79, 3) := by decide +kernel
theorem dMo_fails_16 : decode cMo_fails 16 = .ok (.aload_n 0, 1) := by decide +kernel
theorem dMo_fails_17 : decode cMo_fails 17 = .ok (.getfield 79, 3) := by decide +kernel
theorem dMo_fails_20 : decode cMo_fails 20 = .ok (.ifCond .eq 7, 3) := by decide +kernel
theorem dMo_fails_23 : decode cMo_fails 23 = .ok (.iconst 1, 1) := by decide +kernel
theorem dMo_fails_24 : decode cMo_fails 24 = .ok (.goto 4, 3) := by decide +kernel
theorem dMo_fails_27 : decode cMo_fails 27 = .ok (.iconst 0, 1) := by decide +kernel
theorem dMo_fails_28 : decode cMo_fails 28 = .ok (.ireturn, 1) := by decide +kernel
theorem dMo_read_0 : decode cMo_read 0 = .ok (.aload_n 0, 1) := by decide +kernel
theorem dMo_read_1 : decode cMo_read 1 = .ok (.iconst 0, 1) := by decide +kernel
theorem dMo_read_2 : decode cMo_read 2 = .ok (.putfield 79, 3) := by decide +kernel
theorem dMo_read_5 : decode cMo_read 5 = .ok (.aload_n 0, 1) := by decide +kernel
theorem dMo_read_6 : decode cMo_read 6 = .ok (.aload_n 0, 1) := by decide +kernel
theorem dMo_read_7 : decode cMo_read 7 = .ok (.invokevirtual 115, 3) := by decide +kernel
theorem dMo_read_10 : decode cMo_read 10 = .ok (.putfield 7, 3) := by decide +kernel
theorem dMo_read_13 : decode cMo_read 13 = .ok (.aload_n 0, 1) := by decide +kernel
theorem dMo_read_14 : decode cMo_read 14 = .ok (.getfield 7, 3) := by decide +kernel
theorem dMo_read_17 : decode cMo_read 17 = .ok (.ifCond .lt 17, 3) := by decide +kernel
theorem dMo_read_20 : decode cMo_read 20 = .ok (.aload_n 0, 1) := by decide +kernel
theorem dMo_read_21 : decode cMo_read 21 = .ok (.iconst 0, 1) := by decide +kernel
theorem dMo_read_22 : decode cMo_read 22 = .ok (.putfield 92, 3) := by decide +kernel
theorem dMo_read_25 : decode cMo_read 25 = .ok (.aload_n 0, 1) := by decide +kernel
theorem dMo_read_26 : decode cMo_read 26 = .ok (.iconst 1, 1) := by decide +kernel
theorem dMo_read_27 : decode cMo_read 27 = .ok (.iconst 1, 1) := by decide +kernel
theorem dMo_read_28 : decode cMo_read 28 = .ok (.invokevirtual 88, 3) := by decide +kernel
theorem dMo_read_31 : decode cMo_read 31 = .ok (.pop, 1) := by decide +kernel
theorem dMo_read_32 : decode cMo_read 32 = .ok (.iconst 0, 1) := by decide +kernel
theorem dMo_read_33 : decode cMo_read 33 = .ok (.ireturn, 1) := by decide +kernel
theorem dMo_read_34 : decode cMo_read 34 = .ok (.aload_n 0, 1) := by decide +kernel
theorem dMo_read_35 : decode cMo_read 35 = .ok (.bipush 32, 2) := by decide +kernel
theorem dMo_read_37 : decode cMo_read 37 = .ok (.iconst 2, 1) := by decide +kernel
theorem dMo_read_38 : decode cMo_read 38 = .ok (.invokevirtual 97, 3) := by decide +kernel
theorem dMo_read_41 : decode cMo_read 41 = .ok (.l2i, 1) := by decide +kernel
theorem dMo_read_42 : decode cMo_read 42 = .ok (.istore_n 1, 1) := by decide +kernel
theorem dMo_read_43 : decode cMo_read 43 = .ok (.aload_n 0, 1) := by decide +kernel
theorem dMo_read_44 : decode cMo_read 44 = .ok (.bipush 22, 2) := by decide +kernel
theorem dMo_read_46 : decode cMo_read 46 = .ok (.iconst 2, 1) := by decide +kernel
theorem dMo_read_47 : decode cMo_read 47 = .ok (.invokevirtual 97, 3) := by decide +kernel
theorem dMo_read_50 : decode cMo_read 50 = .ok (.l2i, 1) := by decide +kernel
theorem dMo_read_51 : decode cMo_read 51 = .ok (.istore_n 2, 1) := by decide +kernel
theorem dMo_read_52 : decode cMo_read 52 = .ok (.aload_n 0, 1) := by decide +kernel
theorem dMo_read_53 : decode cMo_read 53 = .ok (.bipush 34, 2) := by decide +kernel
theorem dMo_read_55 : decode cMo_read 55 = .ok (.iconst 2, 1) := by decide +kernel
theorem dMo_read_56 : decode cMo_read 56 = .ok (.invokevirtual 97, 3) := by decide +kernel
theorem dMo_read_59 : decode cMo_read 59 = .ok (.l2i, 1) := by decide +kernel
theorem dMo_read_60 : decode cMo_read 60 = .ok (.istore_n 3, 1) := by decide +kernel
theorem dMo_read_61 : decode cMo_read 61 = .ok (.aload_n 0, 1) := by decide +kernel
theorem dMo_read_62 : decode cMo_read 62 = .ok (.getfield 92, 3) := by decide +kernel
theorem dMo_read_65 : decode cMo_read 65 = .ok (.bipush 44, 2) := by decide +kernel
theorem dMo_read_67 : decode cMo_read 67 = .ok (.isub, 1) := by decide +kernel
theorem dMo_read_68 : decode cMo_read 68 = .ok (.iload_n 1, 1) := by decide +kernel
theorem dMo_read_69 : decode cMo_read 69 = .ok (.idiv, 1) := by decide +kernel
theorem dMo_read_70 : decode cMo_read 70 = .ok (.istore 4, 2) := by decide +kernel
theorem dMo_read_72 : decode cMo_read 72 = .ok (.iload 4, 2) := by decide +kernel
theorem dMo_read_74 : decode cMo_read 74 = .ok (.sipush 320, 3) := by decide +kernel
theorem dMo_read_77 : decode cMo_read 77 = .ok (.if_icmp .le 7, 3) := by decide +kernel
theorem dMo_read_80 : decode cMo_read 80 = .ok (.iconst 1, 1) := by decide +kernel
theorem dMo_read_81 : decode cMo_read 81 = .ok (.goto 4, 3) := by decide +kernel
theorem dMo_read_84 : decode cMo_read 84 = .ok (.iconst 0, 1) := by decide +kernel
theorem dMo_read_85 : decode cMo_read 85 = .ok (.istore 5, 2) := by decide +kernel
theorem dMo_read_87 : decode cMo_read 87 = .ok (.iload 5, 2) := by decide +kernel
theorem dMo_read_89 : decode cMo_read 89 = .ok (.ifCond .ne 97, 3) := by decide +kernel
theorem dMo_read_92 : decode cMo_read 92 = .ok (.aload_n 0, 1) := by decide +kernel
theorem dMo_read_93 : decode cMo_read 93 = .ok (.aload_n 0, 1) := by decide +kernel
theorem dMo_read_94 : decode cMo_read 94 = .ok (.bipush 24, 2) := by decide +kernel
theorem dMo_read_96 : decode cMo_read 96 = .ok (.iconst 4, 1) := by decide +kernel
theorem dMo_read_97 : decode cMo_read 97 = .ok (.invokevirtual 97, 3) := by decide +kernel
theorem dMo_read_100 : decode cMo_read 100 = .ok (.l2i, 1) := by decide +kernel
theorem dMo_read_101 : decode cMo_read 101 = .ok (.putfield 13, 3) := by decide +kernel
theorem dMo_read_104 : decode cMo_read 104 = .ok (.iconst 0, 1) := by decide +kernel
theorem dMo_read_105 : decode cMo_read 105 = .ok (.istore 6, 2) := by decide +kernel
theorem dMo_read_107 : decode cMo_read 107 = .ok (.iload 6, 2) := by decide +kernel
theorem dMo_read_109 : decode cMo_read 109 = .ok (.iload 4, 2) := by decide +kernel
theorem dMo_read_111 : decode cMo_read 111 = .ok (.if_icmp .ge 64, 3) := by decide +kernel
theorem dMo_read_114 : decode cMo_read 114 = .ok (.bipush 44, 2) := by decide +kernel
theorem dMo_read_116 : decode cMo_read 116 = .ok (.iload_n 1, 1) := by decide +kernel
theorem dMo_read_117 : decode cMo_read 117 = .ok (.iload 6, 2) := by decide +kernel
theorem dMo_read_119 : decode cMo_read 119 = .ok (.imul, 1) := by decide +kernel
theorem dMo_read_120 : decode cMo_read 120 = .ok (.iadd, 1) := by decide +kernel
theorem dMo_read_121 : decode cMo_read 121 = .ok (.istore 7, 2) := by decide +kernel
theorem dMo_read_123 : decode cMo_read 123 = .ok (.aload_n 0, 1) := by decide +kernel
theorem dMo_read_124 : decode cMo_read 124 = .ok (.getfield 52, 3) := by decide +kernel
theorem dMo_read_127 : decode cMo_read 127 = .ok (.iload 6, 2) := by decide +kernel
theorem dMo_read_129 : decode cMo_read 129 = .ok (.iload_n 2, 1) := by decide +kernel
theorem dMo_read_130 : decode cMo_read 130 = .ok (.iconst 1, 1) := by decide +kernel
theorem dMo_read_131 : decode cMo_read 131 = .ok (.if_icmp .ne 13, 3) := by decide +kernel
theorem dMo_read_134 : decode cMo_read 134 = .ok (.aload_n 0, 1) := by decide +kernel
theorem dMo_read_135 : decode cMo_read 135 = .ok (.iload 7, 2) := by decide +kernel
theorem dMo_read_137 : decode cMo_read 137 = .ok (.iload_n 3, 1) := by decide +kernel
theorem dMo_read_138 : decode cMo_read 138 = .ok (.invokevirtual 119, 3) := by decide +kernel
theorem dMo_read_141 : decode cMo_read 141 = .ok (.goto 27, 3) := by decide +kernel
theorem dMo_read_144 : decode cMo_read 144 = .ok (.aload_n 0, 1) := by decide +kernel
theorem dMo_read_145 : decode cMo_read 145 = .ok (.iload 7, 2) := by decide +kernel
theorem dMo_read_147 : decode cMo_read 147 = .ok (.iload_n 3, 1) := by decide +kernel
theorem dMo_read_148 : decode cMo_read 148 = .ok (.invokevirtual 119, 3) := by decide +kernel
theorem dMo_read_151 : decode cMo_read 151 = .ok (.aload_n 0, 1) := by decide +kernel
theorem dMo_read_152 : decode cMo_read 152 = .ok (.iload 7, 2) := by decide +kernel
theorem dMo_read_154 : decode cMo_read 154 = .ok (.iload_n 3, 1) := by decide +kernel
theorem dMo_read_155 : decode cMo_read 155 = .ok (.bipush 8, 2) := by decide +kernel
theorem dMo_read_157 : decode cMo_read 157 = .ok (.idiv, 1) := by decide +kernel
theorem dMo_read_158 : decode cMo_read 158 = .ok (.iadd, 1) := by decide +kernel
theorem dMo_read_159 : decode cMo_read 159 = .ok (.iload_n 3, 1) := by decide +kernel
theorem dMo_read_160 : decode cMo_read 160 = .ok (.invokevirtual 119, 3) := by decide +kernel
theorem dMo_read_163 : decode cMo_read 163 = .ok (.dadd, 1) := by decide +kernel
theorem dMo_read_164 : decode cMo_read 164 = .ok (.ldc2_w 123, 3) := by decide +kernel
theorem dMo_read_167 : decode cMo_read 167 = .ok (.ddiv, 1) := by decide +kernel
theorem dMo_read_168 : decode cMo_read 168 = .ok (.dastore, 1) := by decide +kernel
theorem dMo_read_169 : decode cMo_read 169 = .ok (.iinc 6 1, 3) := by decide +kernel
theorem dMo_read_172 : decode cMo_read 172 = .ok (.goto (-65), 3) := by decide +kernel
theorem dMo_read_175 : decode cMo_read 175 = .ok (.aload_n 0, 1) := by decide +kernel
theorem dMo_read_176 : decode cMo_read 176 = .ok (.iload 4, 2) := by decide +kernel
theorem dMo_read_178 : decode cMo_read 178 = .ok (.putfield 125, 3) := by decide +kernel
theorem dMo_read_181 : decode cMo_read 181 = .ok (.aload_n 0, 1) := by decide +kernel
theorem dMo_read_182 : decode cMo_read 182 = .ok (.iconst 0, 1) := by decide +kernel
theorem dMo_read_183 : decode cMo_read 183 = .ok (.putfield 128, 3) := by decide +kernel
theorem dMo_read_186 : decode cMo_read 186 = .ok (.aload_n 0, 1) := by decide +kernel
theorem dMo_read_187 : decode cMo_read 187 = .ok (.iconst 0, 1) := by decide +kernel
theorem dMo_read_188 : decode cMo_read 188 = .ok (.putfield 92, 3) := by decide +kernel
theorem dMo_read_191 : decode cMo_read 191 = .ok (.aload_n 0, 1) := by decide +kernel
theorem dMo_read_192 : decode cMo_read 192 = .ok (.iload 5, 2) := by decide +kernel
theorem dMo_read_194 : decode cMo_read 194 = .ok (.iconst 2, 1) := by decide +kernel
theorem dMo_read_195 : decode cMo_read 195 = .ok (.invokevirtual 88, 3) := by decide +kernel
theorem dMo_read_198 : decode cMo_read 198 = .ok (.ifCond .eq 7, 3) := by decide +kernel
theorem dMo_read_201 : decode cMo_read 201 = .ok (.iconst 0, 1) := by decide +kernel
theorem dMo_read_202 : decode cMo_read 202 = .ok (.goto 5, 3) := by decide +kernel
theorem dMo_read_205 : decode cMo_read 205 = .ok (.iload 4, 2) := by decide +kernel
theorem dMo_read_207 : decode cMo_read 207 = .ok (.ireturn, 1) := by decide +kernel
theorem dMo_wrong_0 : decode cMo_wrong 0 = .ok (.aload_n 0, 1) := by decide +kernel
theorem dMo_wrong_1 : decode cMo_wrong 1 = .ok (.getfield 92, 3) := by decide +kernel
theorem dMo_wrong_4 : decode cMo_wrong 4 = .ok (.bipush 44, 2) := by decide +kernel
theorem dMo_wrong_6 : decode cMo_wrong 6 = .ok (.if_icmp .ge 8, 3) := by decide +kernel
theorem dMo_wrong_9 : decode cMo_wrong 9 = .ok (.aload_n 0, 1) := by decide +kernel
theorem dMo_wrong_10 : decode cMo_wrong 10 = .ok (.getfield 92, 3) := by decide +kernel
theorem dMo_wrong_13 : decode cMo_wrong 13 = .ok (.ireturn, 1) := by decide +kernel
theorem dMo_wrong_14 : decode cMo_wrong 14 = .ok (.aload_n 0, 1) := by decide +kernel
theorem dMo_wrong_15 : decode cMo_wrong 15 = .ok (.bipush 22, 2) := by decide +kernel
theorem dMo_wrong_17 : decode cMo_wrong 17 = .ok (.iconst 2, 1) := by decide +kernel
theorem dMo_wrong_18 : decode cMo_wrong 18 = .ok (.invokevirtual 97, 3) := by decide +kernel
theorem dMo_wrong_21 : decode cMo_wrong 21 = .ok (.lstore_n 1, 1) := by decide +kernel
theorem dMo_wrong_22 : decode cMo_wrong 22 = .ok (.aload_n 0, 1) := by decide +kernel
theorem dMo_wrong_23 : decode cMo_wrong 23 = .ok (.bipush 32, 2) := by decide +kernel
theorem dMo_wrong_25 : decode cMo_wrong 25 = .ok (.iconst 2, 1) := by decide +kernel
theorem dMo_wrong_26 : decode cMo_wrong 26 = .ok (.invokevirtual 97, 3) := by decide +kernel
theorem dMo_wrong_29 : decode cMo_wrong 29 = .ok (.lstore_n 3, 1) := by decide +kernel
theorem dMo_wrong_30 : decode cMo_wrong 30 = .ok (.aload_n 0, 1) := by decide +kernel
theorem dMo_wrong_31 : decode cMo_wrong 31 = .ok (.bipush 34, 2) := by decide +kernel
theorem dMo_wrong_33 : decode cMo_wrong 33 = .ok (.iconst 2, 1) := by decide +kernel
theorem dMo_wrong_34 : decode cMo_wrong 34 = .ok (.invokevirtual 97, 3) := by decide +kernel
theorem dMo_wrong_37 : decode cMo_wrong 37 = .ok (.lstore 5, 2) := by decide +kernel
theorem dMo_wrong_39 : decode cMo_wrong 39 = .ok (.aload_n 0, 1) := by decide +kernel
theorem dMo_wrong_40 : decode cMo_wrong 40 = .ok (.bipush 40, 2) := by decide +kernel
theorem dMo_wrong_42 : decode cMo_wrong 42 = .ok (.iconst 4, 1) := by decide +kernel
theorem dMo_wrong_43 : decode cMo_wrong 43 = .ok (.invokevirtual 97, 3) := by decide +kernel
theorem dMo_wrong_46 : decode cMo_wrong 46 = .ok (.lstore 7, 2) := by decide +kernel
theorem dMo_wrong_48 : decode cMo_wrong 48 = .ok (.aload_n 0, 1) := by decide +kernel
theorem dMo_wrong_49 : decode cMo_wrong 49 = .ok (.iconst 0, 1) := by decide +kernel
theorem dMo_wrong_50 : decode cMo_wrong 50 = .ok (.bipush 82, 2) := by decide +kernel
theorem dMo_wrong_52 : decode cMo_wrong 52 = .ok (.bipush 73, 2) := by decide +kernel
theorem dMo_wrong_54 : decode cMo_wrong 54 = .ok (.bipush 70, 2) := by decide +kernel
theorem dMo_wrong_56 : decode cMo_wrong 56 = .ok (.bipush 70, 2) := by decide +kernel
theorem dMo_wrong_58 : decode cMo_wrong 58 = .ok (.invokevirtual 101, 3) := by decide +kernel
theorem dMo_wrong_61 : decode cMo_wrong 61 = .ok (.ifCond .ne 5, 3) := by decide +kernel
theorem dMo_wrong_64 : decode cMo_wrong 64 = .ok (.iconst 0, 1) := by decide +kernel
theorem dMo_wrong_65 : decode cMo_wrong 65 = .ok (.ireturn, 1) := by decide +kernel
theorem dMo_wrong_66 : decode cMo_wrong 66 = .ok (.aload_n 0, 1) := by decide +kernel
theorem dMo_wrong_67 : decode cMo_wrong 67 = .ok (.iconst 4, 1) := by decide +kernel
theorem dMo_wrong_68 : decode cMo_wrong 68 = .ok (.iconst 4, 1) := by decide +kernel
theorem dMo_wrong_69 : decode cMo_wrong 69 = .ok (.invokevirtual 97, 3) := by decide +kernel
theorem dMo_wrong_72 : decode cMo_wrong 72 = .ok (.aload_n 0, 1) := by decide +kernel
theorem dMo_wrong_73 : decode cMo_wrong 73 = .ok (.getfield 92, 3) := by decide +kernel
theorem dMo_wrong_76 : decode cMo_wrong 76 = .ok (.bipush 8, 2) := by decide +kernel
theorem dMo_wrong_78 : decode cMo_wrong 78 = .ok (.isub, 1) := by decide +kernel
theorem dMo_wrong_79 : decode cMo_wrong 79 = .ok (.i2l, 1) := by decide +kernel
theorem dMo_wrong_80 : decode cMo_wrong 80 = .ok (.lcmp, 1) := by decide +kernel
theorem dMo_wrong_81 : decode cMo_wrong 81 = .ok (.ifCond .eq 5, 3) := by decide +kernel
theorem dMo_wrong_84 : decode cMo_wrong 84 = .ok (.iconst 4, 1) := by decide +kernel
theorem dMo_wrong_85 : decode cMo_wrong 85 = .ok (.ireturn, 1) := by decide +kernel
theorem dMo_wrong_86 : decode cMo_wrong 86 = .ok (.aload_n 0, 1) := by decide +kernel
theorem dMo_wrong_87 : decode cMo_wrong 87 = .ok (.bipush 8, 2) := by decide +kernel
theorem dMo_wrong_89 : decode cMo_wrong 89 = .ok (.bipush 87, 2) := by decide +kernel
theorem dMo_wrong_91 : decode cMo_wrong 91 = .ok (.bipush 65, 2) := by decide +kernel
theorem dMo_wrong_93 : decode cMo_wrong 93 = .ok (.bipush 86, 2) := by decide +kernel
theorem dMo_wrong_95 : decode cMo_wrong 95 = .ok (.bipush 69, 2) := by decide +kernel
theorem dMo_wrong_97 : decode cMo_wrong 97 = .ok (.invokevirtual 101, 3) := by decide +kernel
theorem dMo_wrong_100 : decode cMo_wrong 100 = .ok (.ifCond .ne 6, 3) := by decide +kernel
theorem dMo_wrong_103 : decode cMo_wrong 103 = .ok (.bipush 8, 2) := by decide +kernel
theorem dMo_wrong_105 : decode cMo_wrong 105 = .ok (.ireturn, 1) := by decide +kernel
theorem dMo_wrong_106 : decode cMo_wrong 106 = .ok (.aload_n 0, 1) := by decide +kernel
theorem dMo_wrong_107 : decode cMo_wrong 107 = .ok (.bipush 12, 2) := by decide +kernel
theorem dMo_wrong_109 : decode cMo_wrong 109 = .ok (.bipush 102, 2) := by decide +kernel
theorem dMo_wrong_111 : decode cMo_wrong 111 = .ok (.bipush 109, 2) := by decide +kernel
theorem dMo_wrong_113 : decode cMo_wrong 113 = .ok (.bipush 116, 2) := by decide +kernel
theorem dMo_wrong_115 : decode cMo_wrong 115 = .ok (.bipush 32, 2) := by decide +kernel
theorem dMo_wrong_117 : decode cMo_wrong 117 = .ok (.invokevirtual 101, 3) := by decide +kernel
theorem dMo_wrong_120 : decode cMo_wrong 120 = .ok (.ifCond .ne 6, 3) := by decide +kernel
theorem dMo_wrong_123 : decode cMo_wrong 123 = .ok (.bipush 12, 2) := by decide +kernel
theorem dMo_wrong_125 : decode cMo_wrong 125 = .ok (.ireturn, 1) := by decide +kernel
theorem dMo_wrong_126 : decode cMo_wrong 126 = .ok (.aload_n 0, 1) := by decide +kernel
theorem dMo_wrong_127 : decode cMo_wrong 127 = .ok (.bipush 16, 2) := by decide +kernel
theorem dMo_wrong_129 : decode cMo_wrong 129 = .ok (.iconst 4, 1) := by decide +kernel
theorem dMo_wrong_130 : decode cMo_wrong 130 = .ok (.invokevirtual 97, 3) := by decide +kernel
theorem dMo_wrong_133 : decode cMo_wrong 133 = .ok (.ldc2_w 105, 3) := by decide +kernel
theorem dMo_wrong_136 : decode cMo_wrong 136 = .ok (.lcmp, 1) := by decide +kernel
theorem dMo_wrong_137 : decode cMo_wrong 137 = .ok (.ifCond .eq 6, 3) := by decide +kernel
theorem dMo_wrong_140 : decode cMo_wrong 140 = .ok (.bipush 16, 2) := by decide +kernel
theorem dMo_wrong_142 : decode cMo_wrong 142 = .ok (.ireturn, 1) := by decide +kernel
theorem dMo_wrong_143 : decode cMo_wrong 143 = .ok (.aload_n 0, 1) := by decide +kernel
theorem dMo_wrong_144 : decode cMo_wrong 144 = .ok (.bipush 20, 2) := by decide +kernel
theorem dMo_wrong_146 : decode cMo_wrong 146 = .ok (.iconst 2, 1) := by decide +kernel
theorem dMo_wrong_147 : decode cMo_wrong 147 = .ok (.invokevirtual 97, 3) := by decide +kernel
theorem dMo_wrong_150 : decode cMo_wrong 150 = .ok (.lconst 1, 1) := by decide +kernel
theorem dMo_wrong_151 : decode cMo_wrong 151 = .ok (.lcmp, 1) := by decide +kernel
theorem dMo_wrong_152 : decode cMo_wrong 152 = .ok (.ifCond .eq 6, 3) := by decide +kernel
theorem dMo_wrong_155 : decode cMo_wrong 155 = .ok (.bipush 20, 2) := by decide +kernel
theorem dMo_wrong_157 : decode cMo_wrong 157 = .ok (.ireturn, 1) := by decide +kernel
theorem dMo_wrong_158 : decode cMo_wrong 158 = .ok (.lload_n 1, 1) := by decide +kernel
theorem dMo_wrong_159 : decode cMo_wrong 159 = .ok (.lconst 1, 1) := by decide +kernel
theorem dMo_wrong_160 : decode cMo_wrong 160 = .ok (.ldc2_w 107, 3) := by decide +kernel
theorem dMo_wrong_163 : decode cMo_wrong 163 = .ok (.invokestatic 84, 3) := by decide +kernel
theorem dMo_wrong_166 : decode cMo_wrong 166 = .ok (.ifCond .ne 6, 3) := by decide +kernel
theorem dMo_wrong_169 : decode cMo_wrong 169 = .ok (.bipush 22, 2) := by decide +kernel
theorem dMo_wrong_171 : decode cMo_wrong 171 = .ok (.ireturn, 1) := by decide +kernel
theorem dMo_wrong_172 : decode cMo_wrong 172 = .ok (.aload_n 0, 1) := by decide +kernel
theorem dMo_wrong_173 : decode cMo_wrong 173 = .ok (.bipush 24, 2) := by decide +kernel
theorem dMo_wrong_175 : decode cMo_wrong 175 = .ok (.iconst 4, 1) := by decide +kernel
theorem dMo_wrong_176 : decode cMo_wrong 176 = .ok (.invokevirtual 97, 3) := by decide +kernel
theorem dMo_wrong_179 : decode cMo_wrong 179 = .ok (.ldc2_w 109, 3) := by decide +kernel
theorem dMo_wrong_182 : decode cMo_wrong 182 = .ok (.ldc2_w 111, 3) := by decide +kernel
theorem dMo_wrong_185 : decode cMo_wrong 185 = .ok (.invokestatic 84, 3) := by decide +kernel
theorem dMo_wrong_188 : decode cMo_wrong 188 = .ok (.ifCond .ne 6, 3) := by decide +kernel
theorem dMo_wrong_191 : decode cMo_wrong 191 = .ok (.bipush 24, 2) := by decide +kernel
theorem dMo_wrong_193 : decode cMo_wrong 193 = .ok (.ireturn, 1) := by decide +kernel
theorem dMo_wrong_194 : decode cMo_wrong 194 = .ok (.aload_n 0, 1) := by decide +kernel
theorem dMo_wrong_195 : decode cMo_wrong 195 = .ok (.bipush 28, 2) := by decide +kernel
theorem dMo_wrong_197 : decode cMo_wrong 197 = .ok (.iconst 4, 1) := by decide +kernel
theorem dMo_wrong_198 : decode cMo_wrong 198 = .ok (.invokevirtual 97, 3) := by decide +kernel
theorem dMo_wrong_201 : decode cMo_wrong 201 = .ok (.aload_n 0, 1) := by decide +kernel
theorem dMo_wrong_202 : decode cMo_wrong 202 = .ok (.bipush 24, 2) := by decide +kernel
theorem dMo_wrong_204 : decode cMo_wrong 204 = .ok (.iconst 4, 1) := by decide +kernel
theorem dMo_wrong_205 : decode cMo_wrong 205 = .ok (.invokevirtual 97, 3) := by decide +kernel
theorem dMo_wrong_208 : decode cMo_wrong 208 = .ok (.lload_n 3, 1) := by decide +kernel
theorem dMo_wrong_209 : decode cMo_wrong 209 = .ok (.lmul, 1) := by decide +kernel
theorem dMo_wrong_210 : decode cMo_wrong 210 = .ok (.lcmp, 1) := by decide +kernel
theorem dMo_wrong_211 : decode cMo_wrong 211 = .ok (.ifCond .eq 6, 3) := by decide +kernel
theorem dMo_wrong_214 : decode cMo_wrong 214 = .ok (.bipush 28, 2) := by decide +kernel
theorem dMo_wrong_216 : decode cMo_wrong 216 = .ok (.ireturn, 1) := by decide +kernel
theorem dMo_wrong_217 : decode cMo_wrong 217 = .ok (.lload_n 3, 1) := by decide +kernel
theorem dMo_wrong_218 : decode cMo_wrong 218 = .ok (.lload_n 1, 1) := by decide +kernel
theorem dMo_wrong_219 : decode cMo_wrong 219 = .ok (.lload 5, 2) := by decide +kernel
theorem dMo_wrong_221 : decode cMo_wrong 221 = .ok (.lmul, 1) := by decide +kernel
theorem dMo_wrong_222 : decode cMo_wrong 222 = .ok (.ldc2_w 82, 3) := by decide +kernel
theorem dMo_wrong_225 : decode cMo_wrong 225 = .ok (.ldiv, 1) := by decide +kernel
theorem dMo_wrong_226 : decode cMo_wrong 226 = .ok (.lcmp, 1) := by decide +kernel
theorem dMo_wrong_227 : decode cMo_wrong 227 = .ok (.ifCond .eq 6, 3) := by decide +kernel
theorem dMo_wrong_230 : decode cMo_wrong 230 = .ok (.bipush 32, 2) := by decide +kernel
theorem dMo_wrong_232 : decode cMo_wrong 232 = .ok (.ireturn, 1) := by decide +kernel
theorem dMo_wrong_233 : decode cMo_wrong 233 = .ok (.lload 5, 2) := by decide +kernel
theorem dMo_wrong_235 : decode cMo_wrong 235 = .ok (.ldc2_w 82, 3) := by decide +kernel
theorem dMo_wrong_238 : decode cMo_wrong 238 = .ok (.lcmp, 1) := by decide +kernel
theorem dMo_wrong_239 : decode cMo_wrong 239 = .ok (.ifCond .eq 15, 3) := by decide +kernel
theorem dMo_wrong_242 : decode cMo_wrong 242 = .ok (.lload 5, 2) := by decide +kernel
theorem dMo_wrong_244 : decode cMo_wrong 244 = .ok (.ldc2_w 105, 3) := by decide +kernel
theorem dMo_wrong_247 : decode cMo_wrong 247 = .ok (.lcmp, 1) := by decide +kernel
theorem dMo_wrong_248 : decode cMo_wrong 248 = .ok (.ifCond .eq 6, 3) := by decide +kernel
theorem dMo_wrong_251 : decode cMo_wrong 251 = .ok (.bipush 34, 2) := by decide +kernel
theorem dMo_wrong_253 : decode cMo_wrong 253 = .ok (.ireturn, 1) := by decide +kernel
theorem dMo_wrong_254 : decode cMo_wrong 254 = .ok (.aload_n 0, 1) := by decide +kernel
theorem dMo_wrong_255 : decode cMo_wrong 255 = .ok (.bipush 36, 2) := by decide +kernel
theorem dMo_wrong_257 : decode cMo_wrong 257 = .ok (.bipush 100, 2) := by decide +kernel
theorem dMo_wrong_259 : decode cMo_wrong 259 = .ok (.bipush 97, 2) := by decide +kernel
theorem dMo_wrong_261 : decode cMo_wrong 261 = .ok (.bipush 116, 2) := by decide +kernel
theorem dMo_wrong_263 : decode cMo_wrong 263 = .ok (.bipush 97, 2) := by decide +kernel
theorem dMo_wrong_265 : decode cMo_wrong 265 = .ok (.invokevirtual 101, 3) := by decide +kernel
theorem dMo_wrong_268 : decode cMo_wrong 268 = .ok (.ifCond .ne 6, 3) := by decide +kernel
theorem dMo_wrong_271 : decode cMo_wrong 271 = .ok (.bipush 36, 2) := by decide +kernel
theorem dMo_wrong_273 : decode cMo_wrong 273 = .ok (.ireturn, 1) := by decide +kernel
theorem dMo_wrong_274 : decode cMo_wrong 274 = .ok (.lload 7, 2) := by decide +kernel
theorem dMo_wrong_276 : decode cMo_wrong 276 = .ok (.aload_n 0, 1) := by decide +kernel
theorem dMo_wrong_277 : decode cMo_wrong 277 = .ok (.getfield 92, 3) := by decide +kernel
theorem dMo_wrong_280 : decode cMo_wrong 280 = .ok (.bipush 44, 2) := by decide +kernel
theorem dMo_wrong_282 : decode cMo_wrong 282 = .ok (.isub, 1) := by decide +kernel
theorem dMo_wrong_283 : decode cMo_wrong 283 = .ok (.i2l, 1) := by decide +kernel
theorem dMo_wrong_284 : decode cMo_wrong 284 = .ok (.lcmp, 1) := by decide +kernel
theorem dMo_wrong_285 : decode cMo_wrong 285 = .ok (.ifCond .ne 12, 3) := by decide +kernel
theorem dMo_wrong_288 : decode cMo_wrong 288 = .ok (.lload 7, 2) := by decide +kernel
theorem dMo_wrong_290 : decode cMo_wrong 290 = .ok (.lload_n 3, 1) := by decide +kernel
theorem dMo_wrong_291 : decode cMo_wrong 291 = .ok (.lrem, 1) := by decide +kernel
theorem dMo_wrong_292 : decode cMo_wrong 292 = .ok (.lconst 0, 1) := by decide +kernel
theorem dMo_wrong_293 : decode cMo_wrong 293 = .ok (.lcmp, 1) := by decide +kernel
theorem dMo_wrong_294 : decode cMo_wrong 294 = .ok (.ifCond .eq 8, 3) := by decide +kernel
theorem dMo_wrong_297 : decode cMo_wrong 297 = .ok (.bipush 40, 2) := by decide +kernel
theorem dMo_wrong_299 : decode cMo_wrong 299 = .ok (.goto 4, 3) := by decide +kernel
theorem dMo_wrong_302 : decode cMo_wrong 302 = .ok (.iconst (-1), 1) := by decide +kernel
theorem dMo_wrong_303 : decode cMo_wrong 303 = .ok (.ireturn, 1) := by decide +kernel
theorem dMo_number_0 : decode cMo_number 0 = .ok (.lconst 0, 1) := by decide +kernel
theorem dMo_number_1 : decode cMo_number 1 = .ok (.lstore_n 3, 1) := by decide +kernel
theorem dMo_number_2 : decode cMo_number 2 = .ok (.iload_n 2, 1) := by decide +kernel
theorem dMo_number_3 : decode cMo_number 3 = .ok (.iconst 1, 1) := by decide +kernel
theorem dMo_number_4 : decode cMo_number 4 = .ok (.isub, 1) := by decide +kernel
theorem dMo_number_5 : decode cMo_number 5 = .ok (.istore 5, 2) := by decide +kernel
theorem dMo_number_7 : decode cMo_number 7 = .ok (.iload 5, 2) := by decide +kernel
theorem dMo_number_9 : decode cMo_number 9 = .ok (.ifCond .lt 25, 3) := by decide +kernel
theorem dMo_number_12 : decode cMo_number 12 = .ok (.lload_n 3, 1) := by decide +kernel
theorem dMo_number_13 : decode cMo_number 13 = .ok (.bipush 8, 2) := by decide +kernel
theorem dMo_number_15 : decode cMo_number 15 = .ok (.lshl, 1) := by decide +kernel
theorem dMo_number_16 : decode cMo_number 16 = .ok (.aload_n 0, 1) := by decide +kernel
theorem dMo_number_17 : decode cMo_number 17 = .ok (.getfield 30, 3) := by decide +kernel
theorem dMo_number_20 : decode cMo_number 20 = .ok (.iload_n 1, 1) := by decide +kernel
theorem dMo_number_21 : decode cMo_number 21 = .ok (.iload 5, 2) := by decide +kernel
theorem dMo_number_23 : decode cMo_number 23 = .ok (.iadd, 1) := by decide +kernel
theorem dMo_number_24 : decode cMo_number 24 = .ok (.iaload, 1) := by decide +kernel
theorem dMo_number_25 : decode cMo_number 25 = .ok (.i2l, 1) := by decide +kernel
theorem dMo_number_26 : decode cMo_number 26 = .ok (.lor, 1) := by decide +kernel
theorem dMo_number_27 : decode cMo_number 27 = .ok (.lstore_n 3, 1) := by decide +kernel
theorem dMo_number_28 : decode cMo_number 28 = .ok (.iinc 5 (-1), 3) := by decide +kernel
theorem dMo_number_31 : decode cMo_number 31 = .ok (.goto (-24), 3) := by decide +kernel
theorem dMo_number_34 : decode cMo_number 34 = .ok (.lload_n 3, 1) := by decide +kernel
theorem dMo_number_35 : decode cMo_number 35 = .ok (.lreturn, 1) := by decide +kernel
theorem dMo_spells_0 : decode cMo_spells 0 = .ok (.aload_n 0, 1) := by decide +kernel
theorem dMo_spells_1 : decode cMo_spells 1 = .ok (.getfield 30, 3) := by decide +kernel
theorem dMo_spells_4 : decode cMo_spells 4 = .ok (.iload_n 1, 1) := by decide +kernel
theorem dMo_spells_5 : decode cMo_spells 5 = .ok (.iaload, 1) := by decide +kernel
theorem dMo_spells_6 : decode cMo_spells 6 = .ok (.iload_n 2, 1) := by decide +kernel
theorem dMo_spells_7 : decode cMo_spells 7 = .ok (.if_icmp .ne 45, 3) := by decide +kernel
theorem dMo_spells_10 : decode cMo_spells 10 = .ok (.aload_n 0, 1) := by decide +kernel
theorem dMo_spells_11 : decode cMo_spells 11 = .ok (.getfield 30, 3) := by decide +kernel
theorem dMo_spells_14 : decode cMo_spells 14 = .ok (.iload_n 1, 1) := by decide +kernel
theorem dMo_spells_15 : decode cMo_spells 15 = .ok (.iconst 1, 1) := by decide +kernel
theorem dMo_spells_16 : decode cMo_spells 16 = .ok (.iadd, 1) := by decide +kernel
theorem dMo_spells_17 : decode cMo_spells 17 = .ok (.iaload, 1) := by decide +kernel
theorem dMo_spells_18 : decode cMo_spells 18 = .ok (.iload_n 3, 1) := by decide +kernel
theorem dMo_spells_19 : decode cMo_spells 19 = .ok (.if_icmp .ne 33, 3) := by decide +kernel
theorem dMo_spells_22 : decode cMo_spells 22 = .ok (.aload_n 0, 1) := by decide +kernel
theorem dMo_spells_23 : decode cMo_spells 23 = .ok (.getfield 30, 3) := by decide +kernel
theorem dMo_spells_26 : decode cMo_spells 26 = .ok (.iload_n 1, 1) := by decide +kernel
theorem dMo_spells_27 : decode cMo_spells 27 = .ok (.iconst 2, 1) := by decide +kernel
theorem dMo_spells_28 : decode cMo_spells 28 = .ok (.iadd, 1) := by decide +kernel
theorem dMo_spells_29 : decode cMo_spells 29 = .ok (.iaload, 1) := by decide +kernel
theorem dMo_spells_30 : decode cMo_spells 30 = .ok (.iload 4, 2) := by decide +kernel
theorem dMo_spells_32 : decode cMo_spells 32 = .ok (.if_icmp .ne 20, 3) := by decide +kernel
theorem dMo_spells_35 : decode cMo_spells 35 = .ok (.aload_n 0, 1) := by decide +kernel
theorem dMo_spells_36 : decode cMo_spells 36 = .ok (.getfield 30, 3) := by decide +kernel
theorem dMo_spells_39 : decode cMo_spells 39 = .ok (.iload_n 1, 1) := by decide +kernel
theorem dMo_spells_40 : decode cMo_spells 40 = .ok (.iconst 3, 1) := by decide +kernel
theorem dMo_spells_41 : decode cMo_spells 41 = .ok (.iadd, 1) := by decide +kernel
theorem dMo_spells_42 : decode cMo_spells 42 = .ok (.iaload, 1) := by decide +kernel
theorem dMo_spells_43 : decode cMo_spells 43 = .ok (.iload 5, 2) := by decide +kernel
theorem dMo_spells_45 : decode cMo_spells 45 = .ok (.if_icmp .ne 7, 3) := by decide +kernel
theorem dMo_spells_48 : decode cMo_spells 48 = .ok (.iconst 1, 1) := by decide +kernel
theorem dMo_spells_49 : decode cMo_spells 49 = .ok (.goto 4, 3) := by decide +kernel
theorem dMo_spells_52 : decode cMo_spells 52 = .ok (.iconst 0, 1) := by decide +kernel
theorem dMo_spells_53 : decode cMo_spells 53 = .ok (.ireturn, 1) := by decide +kernel
theorem dMo_heard_0 : decode cMo_heard 0 = .ok (.iload_n 2, 1) := by decide +kernel
theorem dMo_heard_1 : decode cMo_heard 1 = .ok (.bipush 8, 2) := by decide +kernel
theorem dMo_heard_3 : decode cMo_heard 3 = .ok (.if_icmp .ne 20, 3) := by decide +kernel
theorem dMo_heard_6 : decode cMo_heard 6 = .ok (.aload_n 0, 1) := by decide +kernel
theorem dMo_heard_7 : decode cMo_heard 7 = .ok (.getfield 30, 3) := by decide +kernel
theorem dMo_heard_10 : decode cMo_heard 10 = .ok (.iload_n 1, 1) := by decide +kernel
theorem dMo_heard_11 : decode cMo_heard 11 = .ok (.iaload, 1) := by decide +kernel
theorem dMo_heard_12 : decode cMo_heard 12 = .ok (.sipush 128, 3) := by decide +kernel
theorem dMo_heard_15 : decode cMo_heard 15 = .ok (.isub, 1) := by decide +kernel
theorem dMo_heard_16 : decode cMo_heard 16 = .ok (.sipush 256, 3) := by decide +kernel
theorem dMo_heard_19 : decode cMo_heard 19 = .ok (.imul, 1) := by decide +kernel
theorem dMo_heard_20 : decode cMo_heard 20 = .ok (.goto 11, 3) := by decide +kernel
theorem dMo_heard_23 : decode cMo_heard 23 = .ok (.aload_n 0, 1) := by decide +kernel
theorem dMo_heard_24 : decode cMo_heard 24 = .ok (.iload_n 1, 1) := by decide +kernel
theorem dMo_heard_25 : decode cMo_heard 25 = .ok (.iconst 2, 1) := by decide +kernel
theorem dMo_heard_26 : decode cMo_heard 26 = .ok (.invokevirtual 97, 3) := by decide +kernel
theorem dMo_heard_29 : decode cMo_heard 29 = .ok (.l2i, 1) := by decide +kernel
theorem dMo_heard_30 : decode cMo_heard 30 = .ok (.i2s, 1) := by decide +kernel
theorem dMo_heard_31 : decode cMo_heard 31 = .ok (.istore_n 3, 1) := by decide +kernel
theorem dMo_heard_32 : decode cMo_heard 32 = .ok (.iload_n 3, 1) := by decide +kernel
theorem dMo_heard_33 : decode cMo_heard 33 = .ok (.i2d, 1) := by decide +kernel
theorem dMo_heard_34 : decode cMo_heard 34 = .ok (.ldc2_w 113, 3) := by decide +kernel
theorem dMo_heard_37 : decode cMo_heard 37 = .ok (.ddiv, 1) := by decide +kernel
theorem dMo_heard_38 : decode cMo_heard 38 = .ok (.dreturn, 1) := by decide +kernel
theorem dMo_place_0 : decode cMo_place 0 = .ok (.aload_n 0, 1) := by decide +kernel
theorem dMo_place_1 : decode cMo_place 1 = .ok (.iconst 0, 1) := by decide +kernel
theorem dMo_place_2 : decode cMo_place 2 = .ok (.putfield 79, 3) := by decide +kernel
theorem dMo_place_5 : decode cMo_place 5 = .ok (.aload_n 0, 1) := by decide +kernel
theorem dMo_place_6 : decode cMo_place 6 = .ok (.getfield 7, 3) := by decide +kernel
theorem dMo_place_9 : decode cMo_place 9 = .ok (.ireturn, 1) := by decide +kernel
theorem dMo_wave_0 : decode cMo_wave 0 = .ok (.aload_n 0, 1) := by decide +kernel
theorem dMo_wave_1 : decode cMo_wave 1 = .ok (.iconst 0, 1) := by decide +kernel
theorem dMo_wave_2 : decode cMo_wave 2 = .ok (.putfield 79, 3) := by decide +kernel
theorem dMo_wave_5 : decode cMo_wave 5 = .ok (.aload_n 0, 1) := by decide +kernel
theorem dMo_wave_6 : decode cMo_wave 6 = .ok (.iload_n 1, 1) := by decide +kernel
theorem dMo_wave_7 : decode cMo_wave 7 = .ok (.i2l, 1) := by decide +kernel
theorem dMo_wave_8 : decode cMo_wave 8 = .ok (.lconst 1, 1) := by decide +kernel
theorem dMo_wave_9 : decode cMo_wave 9 = .ok (.ldc2_w 131, 3) := by decide +kernel
theorem dMo_wave_12 : decode cMo_wave 12 = .ok (.invokestatic 84, 3) := by decide +kernel
theorem dMo_wave_15 : decode cMo_wave 15 = .ok (.ifCond .eq 15, 3) := by decide +kernel
theorem dMo_wave_18 : decode cMo_wave 18 = .ok (.iload_n 2, 1) := by decide +kernel
theorem dMo_wave_19 : decode cMo_wave 19 = .ok (.i2l, 1) := by decide +kernel
theorem dMo_wave_20 : decode cMo_wave 20 = .ok (.lconst 0, 1) := by decide +kernel
theorem dMo_wave_21 : decode cMo_wave 21 = .ok (.ldc2_w 133, 3) := by decide +kernel
theorem dMo_wave_24 : decode cMo_wave 24 = .ok (.invokestatic 84, 3) := by decide +kernel
theorem dMo_wave_27 : decode cMo_wave 27 = .ok (.ifCond .ne 7, 3) := by decide +kernel
theorem dMo_wave_30 : decode cMo_wave 30 = .ok (.iconst 1, 1) := by decide +kernel
theorem dMo_wave_31 : decode cMo_wave 31 = .ok (.goto 4, 3) := by decide +kernel
theorem dMo_wave_34 : decode cMo_wave 34 = .ok (.iconst 0, 1) := by decide +kernel
theorem dMo_wave_35 : decode cMo_wave 35 = .ok (.iconst 1, 1) := by decide +kernel
theorem dMo_wave_36 : decode cMo_wave 36 = .ok (.invokevirtual 88, 3) := by decide +kernel
theorem dMo_wave_39 : decode cMo_wave 39 = .ok (.ifCond .ne 28, 3) := by decide +kernel
theorem dMo_wave_42 : decode cMo_wave 42 = .ok (.aload_n 0, 1) := by decide +kernel
theorem dMo_wave_43 : decode cMo_wave 43 = .ok (.aload_n 0, 1) := by decide +kernel
theorem dMo_wave_44 : decode cMo_wave 44 = .ok (.getfield 125, 3) := by decide +kernel
theorem dMo_wave_47 : decode cMo_wave 47 = .ok (.iload_n 1, 1) := by decide +kernel
theorem dMo_wave_48 : decode cMo_wave 48 = .ok (.iadd, 1) := by decide +kernel
theorem dMo_wave_49 : decode cMo_wave 49 = .ok (.sipush 320, 3) := by decide +kernel
theorem dMo_wave_52 : decode cMo_wave 52 = .ok (.if_icmp .le 7, 3) := by decide +kernel
theorem dMo_wave_55 : decode cMo_wave 55 = .ok (.iconst 1, 1) := by decide +kernel
theorem dMo_wave_56 : decode cMo_wave 56 = .ok (.goto 4, 3) := by decide +kernel
theorem dMo_wave_59 : decode cMo_wave 59 = .ok (.iconst 0, 1) := by decide +kernel
theorem dMo_wave_60 : decode cMo_wave 60 = .ok (.iconst 2, 1) := by decide +kernel
theorem dMo_wave_61 : decode cMo_wave 61 = .ok (.invokevirtual 88, 3) := by decide +kernel
theorem dMo_wave_64 : decode cMo_wave 64 = .ok (.ifCond .eq 5, 3) := by decide +kernel
theorem dMo_wave_67 : decode cMo_wave 67 = .ok (.iconst 0, 1) := by decide +kernel
theorem dMo_wave_68 : decode cMo_wave 68 = .ok (.ireturn, 1) := by decide +kernel
theorem dMo_wave_69 : decode cMo_wave 69 = .ok (.iconst 0, 1) := by decide +kernel
theorem dMo_wave_70 : decode cMo_wave 70 = .ok (.istore 5, 2) := by decide +kernel
theorem dMo_wave_72 : decode cMo_wave 72 = .ok (.iload 5, 2) := by decide +kernel
theorem dMo_wave_74 : decode cMo_wave 74 = .ok (.iload_n 1, 1) := by decide +kernel
theorem dMo_wave_75 : decode cMo_wave 75 = .ok (.if_icmp .ge 35, 3) := by decide +kernel
theorem dMo_wave_78 : decode cMo_wave 78 = .ok (.aload_n 0, 1) := by decide +kernel
theorem dMo_wave_79 : decode cMo_wave 79 = .ok (.getfield 52, 3) := by decide +kernel
theorem dMo_wave_82 : decode cMo_wave 82 = .ok (.aload_n 0, 1) := by decide +kernel
theorem dMo_wave_83 : decode cMo_wave 83 = .ok (.getfield 125, 3) := by decide +kernel
theorem dMo_wave_86 : decode cMo_wave 86 = .ok (.iload 5, 2) := by decide +kernel
theorem dMo_wave_88 : decode cMo_wave 88 = .ok (.iadd, 1) := by decide +kernel
theorem dMo_wave_89 : decode cMo_wave 89 = .ok (.dload_n 3, 1) := by decide +kernel
theorem dMo_wave_90 : decode cMo_wave 90 = .ok (.aload_n 0, 1) := by decide +kernel
theorem dMo_wave_91 : decode cMo_wave 91 = .ok (.getfield 71, 3) := by decide +kernel
theorem dMo_wave_94 : decode cMo_wave 94 = .ok (.iload 5, 2) := by decide +kernel
theorem dMo_wave_96 : decode cMo_wave 96 = .ok (.iload_n 2, 1) := by decide +kernel
theorem dMo_wave_97 : decode cMo_wave 97 = .ok (.imul, 1) := by decide +kernel
theorem dMo_wave_98 : decode cMo_wave 98 = .ok (.bipush 32, 2) := by decide +kernel
theorem dMo_wave_100 : decode cMo_wave 100 = .ok (.irem, 1) := by decide +kernel
theorem dMo_wave_101 : decode cMo_wave 101 = .ok (.daload, 1) := by decide +kernel
theorem dMo_wave_102 : decode cMo_wave 102 = .ok (.dmul, 1) := by decide +kernel
theorem dMo_wave_103 : decode cMo_wave 103 = .ok (.dastore, 1) := by decide +kernel
theorem dMo_wave_104 : decode cMo_wave 104 = .ok (.iinc 5 1, 3) := by decide +kernel
theorem dMo_wave_107 : decode cMo_wave 107 = .ok (.goto (-35), 3) := by decide +kernel
theorem dMo_wave_110 : decode cMo_wave 110 = .ok (.aload_n 0, 1) := by decide +kernel
theorem dMo_wave_111 : decode cMo_wave 111 = .ok (.dup, 1) := by decide +kernel
theorem dMo_wave_112 : decode cMo_wave 112 = .ok (.getfield 125, 3) := by decide +kernel
theorem dMo_wave_115 : decode cMo_wave 115 = .ok (.iload_n 1, 1) := by decide +kernel
theorem dMo_wave_116 : decode cMo_wave 116 = .ok (.iadd, 1) := by decide +kernel
theorem dMo_wave_117 : decode cMo_wave 117 = .ok (.putfield 125, 3) := by decide +kernel
theorem dMo_wave_120 : decode cMo_wave 120 = .ok (.aload_n 0, 1) := by decide +kernel
theorem dMo_wave_121 : decode cMo_wave 121 = .ok (.getfield 125, 3) := by decide +kernel
theorem dMo_wave_124 : decode cMo_wave 124 = .ok (.ireturn, 1) := by decide +kernel
theorem dMo_clear_0 : decode cMo_clear 0 = .ok (.aload_n 0, 1) := by decide +kernel
theorem dMo_clear_1 : decode cMo_clear 1 = .ok (.iconst 0, 1) := by decide +kernel
theorem dMo_clear_2 : decode cMo_clear 2 = .ok (.putfield 79, 3) := by decide +kernel
theorem dMo_clear_5 : decode cMo_clear 5 = .ok (.aload_n 0, 1) := by decide +kernel
theorem dMo_clear_6 : decode cMo_clear 6 = .ok (.getfield 125, 3) := by decide +kernel
theorem dMo_clear_9 : decode cMo_clear 9 = .ok (.istore_n 1, 1) := by decide +kernel
theorem dMo_clear_10 : decode cMo_clear 10 = .ok (.aload_n 0, 1) := by decide +kernel
theorem dMo_clear_11 : decode cMo_clear 11 = .ok (.iconst 0, 1) := by decide +kernel
theorem dMo_clear_12 : decode cMo_clear 12 = .ok (.putfield 125, 3) := by decide +kernel
theorem dMo_clear_15 : decode cMo_clear 15 = .ok (.aload_n 0, 1) := by decide +kernel
theorem dMo_clear_16 : decode cMo_clear 16 = .ok (.iconst 0, 1) := by decide +kernel
theorem dMo_clear_17 : decode cMo_clear 17 = .ok (.putfield 128, 3) := by decide +kernel
theorem dMo_clear_20 : decode cMo_clear 20 = .ok (.iload_n 1, 1) := by decide +kernel
theorem dMo_clear_21 : decode cMo_clear 21 = .ok (.ireturn, 1) := by decide +kernel
theorem dMo_sample_0 : decode cMo_sample 0 = .ok (.aload_n 0, 1) := by decide +kernel
theorem dMo_sample_1 : decode cMo_sample 1 = .ok (.iconst 0, 1) := by decide +kernel
theorem dMo_sample_2 : decode cMo_sample 2 = .ok (.putfield 79, 3) := by decide +kernel
theorem dMo_sample_5 : decode cMo_sample 5 = .ok (.aload_n 0, 1) := by decide +kernel
theorem dMo_sample_6 : decode cMo_sample 6 = .ok (.iload_n 1, 1) := by decide +kernel
theorem dMo_sample_7 : decode cMo_sample 7 = .ok (.i2l, 1) := by decide +kernel
theorem dMo_sample_8 : decode cMo_sample 8 = .ok (.lconst 0, 1) := by decide +kernel
theorem dMo_sample_9 : decode cMo_sample 9 = .ok (.aload_n 0, 1) := by decide +kernel
theorem dMo_sample_10 : decode cMo_sample 10 = .ok (.getfield 125, 3) := by decide +kernel
theorem dMo_sample_13 : decode cMo_sample 13 = .ok (.iconst 1, 1) := by decide +kernel
theorem dMo_sample_14 : decode cMo_sample 14 = .ok (.isub, 1) := by decide +kernel
theorem dMo_sample_15 : decode cMo_sample 15 = .ok (.i2l, 1) := by decide +kernel
theorem dMo_sample_16 : decode cMo_sample 16 = .ok (.invokestatic 84, 3) := by decide +kernel
theorem dMo_sample_19 : decode cMo_sample 19 = .ok (.ifCond .ne 7, 3) := by decide +kernel
theorem dMo_sample_22 : decode cMo_sample 22 = .ok (.iconst 1, 1) := by decide +kernel
theorem dMo_sample_23 : decode cMo_sample 23 = .ok (.goto 4, 3) := by decide +kernel
theorem dMo_sample_26 : decode cMo_sample 26 = .ok (.iconst 0, 1) := by decide +kernel
theorem dMo_sample_27 : decode cMo_sample 27 = .ok (.iconst 1, 1) := by decide +kernel
theorem dMo_sample_28 : decode cMo_sample 28 = .ok (.invokevirtual 88, 3) := by decide +kernel
theorem dMo_sample_31 : decode cMo_sample 31 = .ok (.ifCond .eq 7, 3) := by decide +kernel
theorem dMo_sample_34 : decode cMo_sample 34 = .ok (.dconst 0, 1) := by decide +kernel
theorem dMo_sample_35 : decode cMo_sample 35 = .ok (.goto 9, 3) := by decide +kernel
theorem dMo_sample_38 : decode cMo_sample 38 = .ok (.aload_n 0, 1) := by decide +kernel
theorem dMo_sample_39 : decode cMo_sample 39 = .ok (.getfield 52, 3) := by decide +kernel
theorem dMo_sample_42 : decode cMo_sample 42 = .ok (.iload_n 1, 1) := by decide +kernel
theorem dMo_sample_43 : decode cMo_sample 43 = .ok (.daload, 1) := by decide +kernel
theorem dMo_sample_44 : decode cMo_sample 44 = .ok (.dreturn, 1) := by decide +kernel
theorem dMo_power_0 : decode cMo_power 0 = .ok (.aload_n 0, 1) := by decide +kernel
theorem dMo_power_1 : decode cMo_power 1 = .ok (.iconst 0, 1) := by decide +kernel
theorem dMo_power_2 : decode cMo_power 2 = .ok (.putfield 79, 3) := by decide +kernel
theorem dMo_power_5 : decode cMo_power 5 = .ok (.aload_n 0, 1) := by decide +kernel
theorem dMo_power_6 : decode cMo_power 6 = .ok (.iload_n 1, 1) := by decide +kernel
theorem dMo_power_7 : decode cMo_power 7 = .ok (.i2l, 1) := by decide +kernel
theorem dMo_power_8 : decode cMo_power 8 = .ok (.lconst 0, 1) := by decide +kernel
theorem dMo_power_9 : decode cMo_power 9 = .ok (.aload_n 0, 1) := by decide +kernel
theorem dMo_power_10 : decode cMo_power 10 = .ok (.invokevirtual 155, 3) := by decide +kernel
theorem dMo_power_13 : decode cMo_power 13 = .ok (.iconst 1, 1) := by decide +kernel
theorem dMo_power_14 : decode cMo_power 14 = .ok (.isub, 1) := by decide +kernel
theorem dMo_power_15 : decode cMo_power 15 = .ok (.i2l, 1) := by decide +kernel
theorem dMo_power_16 : decode cMo_power 16 = .ok (.invokestatic 84, 3) := by decide +kernel
theorem dMo_power_19 : decode cMo_power 19 = .ok (.ifCond .ne 7, 3) := by decide +kernel
theorem dMo_power_22 : decode cMo_power 22 = .ok (.iconst 1, 1) := by decide +kernel
theorem dMo_power_23 : decode cMo_power 23 = .ok (.goto 4, 3) := by decide +kernel
theorem dMo_power_26 : decode cMo_power 26 = .ok (.iconst 0, 1) := by decide +kernel
theorem dMo_power_27 : decode cMo_power 27 = .ok (.iconst 1, 1) := by decide +kernel
theorem dMo_power_28 : decode cMo_power 28 = .ok (.invokevirtual 88, 3) := by decide +kernel
theorem dMo_power_31 : decode cMo_power 31 = .ok (.ifCond .ne 28, 3) := by decide +kernel
theorem dMo_power_34 : decode cMo_power 34 = .ok (.aload_n 0, 1) := by decide +kernel
theorem dMo_power_35 : decode cMo_power 35 = .ok (.iload_n 2, 1) := by decide +kernel
theorem dMo_power_36 : decode cMo_power 36 = .ok (.i2l, 1) := by decide +kernel
theorem dMo_power_37 : decode cMo_power 37 = .ok (.lconst 0, 1) := by decide +kernel
theorem dMo_power_38 : decode cMo_power 38 = .ok (.ldc2_w 105, 3) := by decide +kernel
theorem dMo_power_41 : decode cMo_power 41 = .ok (.invokestatic 84, 3) := by decide +kernel
theorem dMo_power_44 : decode cMo_power 44 = .ok (.ifCond .ne 7, 3) := by decide +kernel
theorem dMo_power_47 : decode cMo_power 47 = .ok (.iconst 1, 1) := by decide +kernel
theorem dMo_power_48 : decode cMo_power 48 = .ok (.goto 4, 3) := by decide +kernel
theorem dMo_power_51 : decode cMo_power 51 = .ok (.iconst 0, 1) := by decide +kernel
theorem dMo_power_52 : decode cMo_power 52 = .ok (.iconst 2, 1) := by decide +kernel
theorem dMo_power_53 : decode cMo_power 53 = .ok (.invokevirtual 88, 3) := by decide +kernel
theorem dMo_power_56 : decode cMo_power 56 = .ok (.ifCond .eq 7, 3) := by decide +kernel
theorem dMo_power_59 : decode cMo_power 59 = .ok (.dconst 0, 1) := by decide +kernel
theorem dMo_power_60 : decode cMo_power 60 = .ok (.goto 9, 3) := by decide +kernel
theorem dMo_power_63 : decode cMo_power 63 = .ok (.aload_n 0, 1) := by decide +kernel
theorem dMo_power_64 : decode cMo_power 64 = .ok (.iload_n 1, 1) := by decide +kernel
theorem dMo_power_65 : decode cMo_power 65 = .ok (.iload_n 2, 1) := by decide +kernel
theorem dMo_power_66 : decode cMo_power 66 = .ok (.invokevirtual 137, 3) := by decide +kernel
theorem dMo_power_69 : decode cMo_power 69 = .ok (.dreturn, 1) := by decide +kernel
theorem dMo_frames_0 : decode cMo_frames 0 = .ok (.aload_n 0, 1) := by decide +kernel
theorem dMo_frames_1 : decode cMo_frames 1 = .ok (.getfield 125, 3) := by decide +kernel
theorem dMo_frames_4 : decode cMo_frames 4 = .ok (.bipush 32, 2) := by decide +kernel
theorem dMo_frames_6 : decode cMo_frames 6 = .ok (.if_icmp .ge 7, 3) := by decide +kernel
theorem dMo_frames_9 : decode cMo_frames 9 = .ok (.iconst 0, 1) := by decide +kernel
theorem dMo_frames_10 : decode cMo_frames 10 = .ok (.goto 15, 3) := by decide +kernel
theorem dMo_frames_13 : decode cMo_frames 13 = .ok (.aload_n 0, 1) := by decide +kernel
theorem dMo_frames_14 : decode cMo_frames 14 = .ok (.getfield 125, 3) := by decide +kernel
theorem dMo_frames_17 : decode cMo_frames 17 = .ok (.bipush 32, 2) := by decide +kernel
theorem dMo_frames_19 : decode cMo_frames 19 = .ok (.isub, 1) := by decide +kernel
theorem dMo_frames_20 : decode cMo_frames 20 = .ok (.bipush 16, 2) := by decide +kernel
theorem dMo_frames_22 : decode cMo_frames 22 = .ok (.idiv, 1) := by decide +kernel
theorem dMo_frames_23 : decode cMo_frames 23 = .ok (.iconst 1, 1) := by decide +kernel
theorem dMo_frames_24 : decode cMo_frames 24 = .ok (.iadd, 1) := by decide +kernel
theorem dMo_frames_25 : decode cMo_frames 25 = .ok (.ireturn, 1) := by decide +kernel
theorem dMo_powerOf_0 : decode cMo_powerOf 0 = .ok (.dconst 0, 1) := by decide +kernel
theorem dMo_powerOf_1 : decode cMo_powerOf 1 = .ok (.dstore_n 3, 1) := by decide +kernel
theorem dMo_powerOf_2 : decode cMo_powerOf 2 = .ok (.dconst 0, 1) := by decide +kernel
theorem dMo_powerOf_3 : decode cMo_powerOf 3 = .ok (.dstore 5, 2) := by decide +kernel
theorem dMo_powerOf_5 : decode cMo_powerOf 5 = .ok (.iconst 0, 1) := by decide +kernel
theorem dMo_powerOf_6 : decode cMo_powerOf 6 = .ok (.istore 7, 2) := by decide +kernel
theorem dMo_powerOf_8 : decode cMo_powerOf 8 = .ok (.iload 7, 2) := by decide +kernel
theorem dMo_powerOf_10 : decode cMo_powerOf 10 = .ok (.bipush 32, 2) := by decide +kernel
theorem dMo_powerOf_12 : decode cMo_powerOf 12 = .ok (.if_icmp .ge 77, 3) := by decide +kernel
theorem dMo_powerOf_15 : decode cMo_powerOf 15 = .ok (.aload_n 0, 1) := by decide +kernel
theorem dMo_powerOf_16 : decode cMo_powerOf 16 = .ok (.getfield 52, 3) := by decide +kernel
theorem dMo_powerOf_19 : decode cMo_powerOf 19 = .ok (.bipush 16, 2) := by decide +kernel
theorem dMo_powerOf_21 : decode cMo_powerOf 21 = .ok (.iload_n 1, 1) := by decide +kernel
theorem dMo_powerOf_22 : decode cMo_powerOf 22 = .ok (.imul, 1) := by decide +kernel
theorem dMo_powerOf_23 : decode cMo_powerOf 23 = .ok (.iload 7, 2) := by decide +kernel
theorem dMo_powerOf_25 : decode cMo_powerOf 25 = .ok (.iadd, 1) := by decide +kernel
theorem dMo_powerOf_26 : decode cMo_powerOf 26 = .ok (.daload, 1) := by decide +kernel
theorem dMo_powerOf_27 : decode cMo_powerOf 27 = .ok (.ldc2_w 135, 3) := by decide +kernel
theorem dMo_powerOf_30 : decode cMo_powerOf 30 = .ok (.ldc2_w 135, 3) := by decide +kernel
theorem dMo_powerOf_33 : decode cMo_powerOf 33 = .ok (.aload_n 0, 1) := by decide +kernel
theorem dMo_powerOf_34 : decode cMo_powerOf 34 = .ok (.getfield 71, 3) := by decide +kernel
theorem dMo_powerOf_37 : decode cMo_powerOf 37 = .ok (.iload 7, 2) := by decide +kernel
theorem dMo_powerOf_39 : decode cMo_powerOf 39 = .ok (.daload, 1) := by decide +kernel
theorem dMo_powerOf_40 : decode cMo_powerOf 40 = .ok (.dmul, 1) := by decide +kernel
theorem dMo_powerOf_41 : decode cMo_powerOf 41 = .ok (.dsub, 1) := by decide +kernel
theorem dMo_powerOf_42 : decode cMo_powerOf 42 = .ok (.dmul, 1) := by decide +kernel
theorem dMo_powerOf_43 : decode cMo_powerOf 43 = .ok (.dstore 8, 2) := by decide +kernel
theorem dMo_powerOf_45 : decode cMo_powerOf 45 = .ok (.dload_n 3, 1) := by decide +kernel
theorem dMo_powerOf_46 : decode cMo_powerOf 46 = .ok (.dload 8, 2) := by decide +kernel
theorem dMo_powerOf_48 : decode cMo_powerOf 48 = .ok (.aload_n 0, 1) := by decide +kernel
theorem dMo_powerOf_49 : decode cMo_powerOf 49 = .ok (.getfield 71, 3) := by decide +kernel
theorem dMo_powerOf_52 : decode cMo_powerOf 52 = .ok (.iload_n 2, 1) := by decide +kernel
theorem dMo_powerOf_53 : decode cMo_powerOf 53 = .ok (.iload 7, 2) := by decide +kernel
theorem dMo_powerOf_55 : decode cMo_powerOf 55 = .ok (.imul, 1) := by decide +kernel
theorem dMo_powerOf_56 : decode cMo_powerOf 56 = .ok (.bipush 32, 2) := by decide +kernel
theorem dMo_powerOf_58 : decode cMo_powerOf 58 = .ok (.irem, 1) := by decide +kernel
theorem dMo_powerOf_59 : decode cMo_powerOf 59 = .ok (.daload, 1) := by decide +kernel
theorem dMo_powerOf_60 : decode cMo_powerOf 60 = .ok (.dmul, 1) := by decide +kernel
theorem dMo_powerOf_61 : decode cMo_powerOf 61 = .ok (.dadd, 1) := by decide +kernel
theorem dMo_powerOf_62 : decode cMo_powerOf 62 = .ok (.dstore_n 3, 1) := by decide +kernel
theorem dMo_powerOf_63 : decode cMo_powerOf 63 = .ok (.dload 5, 2) := by decide +kernel
theorem dMo_powerOf_65 : decode cMo_powerOf 65 = .ok (.dload 8, 2) := by decide +kernel
theorem dMo_powerOf_67 : decode cMo_powerOf 67 = .ok (.aload_n 0, 1) := by decide +kernel
theorem dMo_powerOf_68 : decode cMo_powerOf 68 = .ok (.getfield 74, 3) := by decide +kernel
theorem dMo_powerOf_71 : decode cMo_powerOf 71 = .ok (.iload_n 2, 1) := by decide +kernel
theorem dMo_powerOf_72 : decode cMo_powerOf 72 = .ok (.iload 7, 2) := by decide +kernel
theorem dMo_powerOf_74 : decode cMo_powerOf 74 = .ok (.imul, 1) := by decide +kernel
theorem dMo_powerOf_75 : decode cMo_powerOf 75 = .ok (.bipush 32, 2) := by decide +kernel
theorem dMo_powerOf_77 : decode cMo_powerOf 77 = .ok (.irem, 1) := by decide +kernel
theorem dMo_powerOf_78 : decode cMo_powerOf 78 = .ok (.daload, 1) := by decide +kernel
theorem dMo_powerOf_79 : decode cMo_powerOf 79 = .ok (.dmul, 1) := by decide +kernel
theorem dMo_powerOf_80 : decode cMo_powerOf 80 = .ok (.dsub, 1) := by decide +kernel
theorem dMo_powerOf_81 : decode cMo_powerOf 81 = .ok (.dstore 5, 2) := by decide +kernel
theorem dMo_powerOf_83 : decode cMo_powerOf 83 = .ok (.iinc 7 1, 3) := by decide +kernel
theorem dMo_powerOf_86 : decode cMo_powerOf 86 = .ok (.goto (-78), 3) := by decide +kernel
theorem dMo_powerOf_89 : decode cMo_powerOf 89 = .ok (.dload_n 3, 1) := by decide +kernel
theorem dMo_powerOf_90 : decode cMo_powerOf 90 = .ok (.dload_n 3, 1) := by decide +kernel
theorem dMo_powerOf_91 : decode cMo_powerOf 91 = .ok (.dmul, 1) := by decide +kernel
theorem dMo_powerOf_92 : decode cMo_powerOf 92 = .ok (.dload 5, 2) := by decide +kernel
theorem dMo_powerOf_94 : decode cMo_powerOf 94 = .ok (.dload 5, 2) := by decide +kernel
theorem dMo_powerOf_96 : decode cMo_powerOf 96 = .ok (.dmul, 1) := by decide +kernel
theorem dMo_powerOf_97 : decode cMo_powerOf 97 = .ok (.dadd, 1) := by decide +kernel
theorem dMo_powerOf_98 : decode cMo_powerOf 98 = .ok (.dreturn, 1) := by decide +kernel
theorem dMo_level_0 : decode cMo_level 0 = .ok (.aload_n 0, 1) := by decide +kernel
theorem dMo_level_1 : decode cMo_level 1 = .ok (.iconst 0, 1) := by decide +kernel
theorem dMo_level_2 : decode cMo_level 2 = .ok (.putfield 79, 3) := by decide +kernel
theorem dMo_level_5 : decode cMo_level 5 = .ok (.aload_n 0, 1) := by decide +kernel
theorem dMo_level_6 : decode cMo_level 6 = .ok (.iload_n 1, 1) := by decide +kernel
theorem dMo_level_7 : decode cMo_level 7 = .ok (.i2l, 1) := by decide +kernel
theorem dMo_level_8 : decode cMo_level 8 = .ok (.lconst 0, 1) := by decide +kernel
theorem dMo_level_9 : decode cMo_level 9 = .ok (.aload_n 0, 1) := by decide +kernel
theorem dMo_level_10 : decode cMo_level 10 = .ok (.invokevirtual 155, 3) := by decide +kernel
theorem dMo_level_13 : decode cMo_level 13 = .ok (.iconst 1, 1) := by decide +kernel
theorem dMo_level_14 : decode cMo_level 14 = .ok (.isub, 1) := by decide +kernel
theorem dMo_level_15 : decode cMo_level 15 = .ok (.i2l, 1) := by decide +kernel
theorem dMo_level_16 : decode cMo_level 16 = .ok (.invokestatic 84, 3) := by decide +kernel
theorem dMo_level_19 : decode cMo_level 19 = .ok (.ifCond .ne 7, 3) := by decide +kernel
theorem dMo_level_22 : decode cMo_level 22 = .ok (.iconst 1, 1) := by decide +kernel
theorem dMo_level_23 : decode cMo_level 23 = .ok (.goto 4, 3) := by decide +kernel
theorem dMo_level_26 : decode cMo_level 26 = .ok (.iconst 0, 1) := by decide +kernel
theorem dMo_level_27 : decode cMo_level 27 = .ok (.iconst 1, 1) := by decide +kernel
theorem dMo_level_28 : decode cMo_level 28 = .ok (.invokevirtual 88, 3) := by decide +kernel
theorem dMo_level_31 : decode cMo_level 31 = .ok (.ifCond .ne 28, 3) := by decide +kernel
theorem dMo_level_34 : decode cMo_level 34 = .ok (.aload_n 0, 1) := by decide +kernel
theorem dMo_level_35 : decode cMo_level 35 = .ok (.iload_n 2, 1) := by decide +kernel
theorem dMo_level_36 : decode cMo_level 36 = .ok (.i2l, 1) := by decide +kernel
theorem dMo_level_37 : decode cMo_level 37 = .ok (.lconst 0, 1) := by decide +kernel
theorem dMo_level_38 : decode cMo_level 38 = .ok (.ldc2_w 158, 3) := by decide +kernel
theorem dMo_level_41 : decode cMo_level 41 = .ok (.invokestatic 84, 3) := by decide +kernel
theorem dMo_level_44 : decode cMo_level 44 = .ok (.ifCond .ne 7, 3) := by decide +kernel
theorem dMo_level_47 : decode cMo_level 47 = .ok (.iconst 1, 1) := by decide +kernel
theorem dMo_level_48 : decode cMo_level 48 = .ok (.goto 4, 3) := by decide +kernel
theorem dMo_level_51 : decode cMo_level 51 = .ok (.iconst 0, 1) := by decide +kernel
theorem dMo_level_52 : decode cMo_level 52 = .ok (.iconst 2, 1) := by decide +kernel
theorem dMo_level_53 : decode cMo_level 53 = .ok (.invokevirtual 88, 3) := by decide +kernel
theorem dMo_level_56 : decode cMo_level 56 = .ok (.ifCond .eq 7, 3) := by decide +kernel
theorem dMo_level_59 : decode cMo_level 59 = .ok (.dconst 0, 1) := by decide +kernel
theorem dMo_level_60 : decode cMo_level 60 = .ok (.goto 9, 3) := by decide +kernel
theorem dMo_level_63 : decode cMo_level 63 = .ok (.aload_n 0, 1) := by decide +kernel
theorem dMo_level_64 : decode cMo_level 64 = .ok (.iload_n 1, 1) := by decide +kernel
theorem dMo_level_65 : decode cMo_level 65 = .ok (.iload_n 2, 1) := by decide +kernel
theorem dMo_level_66 : decode cMo_level 66 = .ok (.invokevirtual 160, 3) := by decide +kernel
theorem dMo_level_69 : decode cMo_level 69 = .ok (.dreturn, 1) := by decide +kernel
theorem dMo_levelOf_0 : decode cMo_levelOf 0 = .ok (.aload_n 0, 1) := by decide +kernel
theorem dMo_levelOf_1 : decode cMo_levelOf 1 = .ok (.iload_n 1, 1) := by decide +kernel
theorem dMo_levelOf_2 : decode cMo_levelOf 2 = .ok (.iload_n 2, 1) := by decide +kernel
theorem dMo_levelOf_3 : decode cMo_levelOf 3 = .ok (.invokevirtual 146, 3) := by decide +kernel
theorem dMo_levelOf_6 : decode cMo_levelOf 6 = .ok (.dstore_n 3, 1) := by decide +kernel
theorem dMo_levelOf_7 : decode cMo_levelOf 7 = .ok (.dload_n 3, 1) := by decide +kernel
theorem dMo_levelOf_8 : decode cMo_levelOf 8 = .ok (.ldc2_w 149, 3) := by decide +kernel
theorem dMo_levelOf_11 : decode cMo_levelOf 11 = .ok (.dcmp .l, 1) := by decide +kernel
theorem dMo_levelOf_12 : decode cMo_levelOf 12 = .ok (.ifCond .le 7, 3) := by decide +kernel
theorem dMo_levelOf_15 : decode cMo_levelOf 15 = .ok (.dload_n 3, 1) := by decide +kernel
theorem dMo_levelOf_16 : decode cMo_levelOf 16 = .ok (.goto 6, 3) := by decide +kernel
theorem dMo_levelOf_19 : decode cMo_levelOf 19 = .ok (.ldc2_w 149, 3) := by decide +kernel
theorem dMo_levelOf_22 : decode cMo_levelOf 22 = .ok (.invokestatic 151, 3) := by decide +kernel
theorem dMo_levelOf_25 : decode cMo_levelOf 25 = .ok (.dreturn, 1) := by decide +kernel
theorem dMo_bandOf_0 : decode cMo_bandOf 0 = .ok (.dconst 0, 1) := by decide +kernel
theorem dMo_bandOf_1 : decode cMo_bandOf 1 = .ok (.dstore_n 3, 1) := by decide +kernel
theorem dMo_bandOf_2 : decode cMo_bandOf 2 = .ok (.iload_n 2, 1) := by decide +kernel
theorem dMo_bandOf_3 : decode cMo_bandOf 3 = .ok (.ifCond .ne 7, 3) := by decide +kernel
theorem dMo_bandOf_6 : decode cMo_bandOf 6 = .ok (.iconst 1, 1) := by decide +kernel
theorem dMo_bandOf_7 : decode cMo_bandOf 7 = .ok (.goto 23, 3) := by decide +kernel
theorem dMo_bandOf_10 : decode cMo_bandOf 10 = .ok (.iload_n 2, 1) := by decide +kernel
theorem dMo_bandOf_11 : decode cMo_bandOf 11 = .ok (.iconst 1, 1) := by decide +kernel
theorem dMo_bandOf_12 : decode cMo_bandOf 12 = .ok (.if_icmp .ne 7, 3) := by decide +kernel
theorem dMo_bandOf_15 : decode cMo_bandOf 15 = .ok (.iconst 3, 1) := by decide +kernel
theorem dMo_bandOf_16 : decode cMo_bandOf 16 = .ok (.goto 14, 3) := by decide +kernel
theorem dMo_bandOf_19 : decode cMo_bandOf 19 = .ok (.iload_n 2, 1) := by decide +kernel
theorem dMo_bandOf_20 : decode cMo_bandOf 20 = .ok (.iconst 2, 1) := by decide +kernel
theorem dMo_bandOf_21 : decode cMo_bandOf 21 = .ok (.if_icmp .ne 7, 3) := by decide +kernel
theorem dMo_bandOf_24 : decode cMo_bandOf 24 = .ok (.iconst 5, 1) := by decide +kernel
theorem dMo_bandOf_25 : decode cMo_bandOf 25 = .ok (.goto 5, 3) := by decide +kernel
theorem dMo_bandOf_28 : decode cMo_bandOf 28 = .ok (.bipush 9, 2) := by decide +kernel
theorem dMo_bandOf_30 : decode cMo_bandOf 30 = .ok (.istore 5, 2) := by decide +kernel
theorem dMo_bandOf_32 : decode cMo_bandOf 32 = .ok (.iload_n 2, 1) := by decide +kernel
theorem dMo_bandOf_33 : decode cMo_bandOf 33 = .ok (.ifCond .ne 7, 3) := by decide +kernel
theorem dMo_bandOf_36 : decode cMo_bandOf 36 = .ok (.iconst 2, 1) := by decide +kernel
theorem dMo_bandOf_37 : decode cMo_bandOf 37 = .ok (.goto 24, 3) := by decide +kernel
theorem dMo_bandOf_40 : decode cMo_bandOf 40 = .ok (.iload_n 2, 1) := by decide +kernel
theorem dMo_bandOf_41 : decode cMo_bandOf 41 = .ok (.iconst 1, 1) := by decide +kernel
theorem dMo_bandOf_42 : decode cMo_bandOf 42 = .ok (.if_icmp .ne 7, 3) := by decide +kernel
theorem dMo_bandOf_45 : decode cMo_bandOf 45 = .ok (.iconst 4, 1) := by decide +kernel
theorem dMo_bandOf_46 : decode cMo_bandOf 46 = .ok (.goto 15, 3) := by decide +kernel
theorem dMo_bandOf_49 : decode cMo_bandOf 49 = .ok (.iload_n 2, 1) := by decide +kernel
theorem dMo_bandOf_50 : decode cMo_bandOf 50 = .ok (.iconst 2, 1) := by decide +kernel
theorem dMo_bandOf_51 : decode cMo_bandOf 51 = .ok (.if_icmp .ne 8, 3) := by decide +kernel
theorem dMo_bandOf_54 : decode cMo_bandOf 54 = .ok (.bipush 8, 2) := by decide +kernel
theorem dMo_bandOf_56 : decode cMo_bandOf 56 = .ok (.goto 5, 3) := by decide +kernel
theorem dMo_bandOf_59 : decode cMo_bandOf 59 = .ok (.bipush 16, 2) := by decide +kernel
theorem dMo_bandOf_61 : decode cMo_bandOf 61 = .ok (.istore 6, 2) := by decide +kernel
theorem dMo_bandOf_63 : decode cMo_bandOf 63 = .ok (.iload 5, 2) := by decide +kernel
theorem dMo_bandOf_65 : decode cMo_bandOf 65 = .ok (.istore 7, 2) := by decide +kernel
theorem dMo_bandOf_67 : decode cMo_bandOf 67 = .ok (.iload 7, 2) := by decide +kernel
theorem dMo_bandOf_69 : decode cMo_bandOf 69 = .ok (.iload 6, 2) := by decide +kernel
theorem dMo_bandOf_71 : decode cMo_bandOf 71 = .ok (.if_icmp .gt 19, 3) := by decide +kernel
theorem dMo_bandOf_74 : decode cMo_bandOf 74 = .ok (.dload_n 3, 1) := by decide +kernel
theorem dMo_bandOf_75 : decode cMo_bandOf 75 = .ok (.aload_n 0, 1) := by decide +kernel
theorem dMo_bandOf_76 : decode cMo_bandOf 76 = .ok (.iload_n 1, 1) := by decide +kernel
theorem dMo_bandOf_77 : decode cMo_bandOf 77 = .ok (.iload 7, 2) := by decide +kernel
theorem dMo_bandOf_79 : decode cMo_bandOf 79 = .ok (.invokevirtual 137, 3) := by decide +kernel
theorem dMo_bandOf_82 : decode cMo_bandOf 82 = .ok (.dadd, 1) := by decide +kernel
theorem dMo_bandOf_83 : decode cMo_bandOf 83 = .ok (.dstore_n 3, 1) := by decide +kernel
theorem dMo_bandOf_84 : decode cMo_bandOf 84 = .ok (.iinc 7 1, 3) := by decide +kernel
theorem dMo_bandOf_87 : decode cMo_bandOf 87 = .ok (.goto (-20), 3) := by decide +kernel
theorem dMo_bandOf_90 : decode cMo_bandOf 90 = .ok (.dload_n 3, 1) := by decide +kernel
theorem dMo_bandOf_91 : decode cMo_bandOf 91 = .ok (.dreturn, 1) := by decide +kernel
theorem dMo_logarithm_0 : decode cMo_logarithm 0 = .ok (.dload_n 0, 1) := by decide +kernel
theorem dMo_logarithm_1 : decode cMo_logarithm 1 = .ok (.dstore_n 2, 1) := by decide +kernel
theorem dMo_logarithm_2 : decode cMo_logarithm 2 = .ok (.iconst 0, 1) := by decide +kernel
theorem dMo_logarithm_3 : decode cMo_logarithm 3 = .ok (.istore 4, 2) := by decide +kernel
theorem dMo_logarithm_5 : decode cMo_logarithm 5 = .ok (.dload_n 2, 1) := by decide +kernel
theorem dMo_logarithm_6 : decode cMo_logarithm 6 = .ok (.ldc2_w 140, 3) := by decide +kernel
theorem dMo_logarithm_9 : decode cMo_logarithm 9 = .ok (.dcmp .l, 1) := by decide +kernel
theorem dMo_logarithm_10 : decode cMo_logarithm 10 = .ok (.ifCond .lt 15, 3) := by decide +kernel
theorem dMo_logarithm_13 : decode cMo_logarithm 13 = .ok (.dload_n 2, 1) := by decide +kernel
theorem dMo_logarithm_14 : decode cMo_logarithm 14 = .ok (.ldc2_w 123, 3) := by decide +kernel
theorem dMo_logarithm_17 : decode cMo_logarithm 17 = .ok (.ddiv, 1) := by decide +kernel
theorem dMo_logarithm_18 : decode cMo_logarithm 18 = .ok (.dstore_n 2, 1) := by decide +kernel
theorem dMo_logarithm_19 : decode cMo_logarithm 19 = .ok (.iinc 4 1, 3) := by decide +kernel
theorem dMo_logarithm_22 : decode cMo_logarithm 22 = .ok (.goto (-17), 3) := by decide +kernel
theorem dMo_logarithm_25 : decode cMo_logarithm 25 = .ok (.dload_n 2, 1) := by decide +kernel
theorem dMo_logarithm_26 : decode cMo_logarithm 26 = .ok (.ldc2_w 142, 3) := by decide +kernel
theorem dMo_logarithm_29 : decode cMo_logarithm 29 = .ok (.dcmp .g, 1) := by decide +kernel
theorem dMo_logarithm_30 : decode cMo_logarithm 30 = .ok (.ifCond .ge 15, 3) := by decide +kernel
theorem dMo_logarithm_33 : decode cMo_logarithm 33 = .ok (.dload_n 2, 1) := by decide +kernel
theorem dMo_logarithm_34 : decode cMo_logarithm 34 = .ok (.ldc2_w 123, 3) := by decide +kernel
theorem dMo_logarithm_37 : decode cMo_logarithm 37 = .ok (.dmul, 1) := by decide +kernel
theorem dMo_logarithm_38 : decode cMo_logarithm 38 = .ok (.dstore_n 2, 1) := by decide +kernel
theorem dMo_logarithm_39 : decode cMo_logarithm 39 = .ok (.iinc 4 (-1), 3) := by decide +kernel
theorem dMo_logarithm_42 : decode cMo_logarithm 42 = .ok (.goto (-17), 3) := by decide +kernel
theorem dMo_logarithm_45 : decode cMo_logarithm 45 = .ok (.dload_n 2, 1) := by decide +kernel
theorem dMo_logarithm_46 : decode cMo_logarithm 46 = .ok (.dconst 1, 1) := by decide +kernel
theorem dMo_logarithm_47 : decode cMo_logarithm 47 = .ok (.dsub, 1) := by decide +kernel
theorem dMo_logarithm_48 : decode cMo_logarithm 48 = .ok (.dload_n 2, 1) := by decide +kernel
theorem dMo_logarithm_49 : decode cMo_logarithm 49 = .ok (.dconst 1, 1) := by decide +kernel
theorem dMo_logarithm_50 : decode cMo_logarithm 50 = .ok (.dadd, 1) := by decide +kernel
theorem dMo_logarithm_51 : decode cMo_logarithm 51 = .ok (.ddiv, 1) := by decide +kernel
theorem dMo_logarithm_52 : decode cMo_logarithm 52 = .ok (.dstore 5, 2) := by decide +kernel
theorem dMo_logarithm_54 : decode cMo_logarithm 54 = .ok (.dload 5, 2) := by decide +kernel
theorem dMo_logarithm_56 : decode cMo_logarithm 56 = .ok (.dload 5, 2) := by decide +kernel
theorem dMo_logarithm_58 : decode cMo_logarithm 58 = .ok (.dmul, 1) := by decide +kernel
theorem dMo_logarithm_59 : decode cMo_logarithm 59 = .ok (.dstore 7, 2) := by decide +kernel
theorem dMo_logarithm_61 : decode cMo_logarithm 61 = .ok (.dconst 0, 1) := by decide +kernel
theorem dMo_logarithm_62 : decode cMo_logarithm 62 = .ok (.dstore 9, 2) := by decide +kernel
theorem dMo_logarithm_64 : decode cMo_logarithm 64 = .ok (.bipush 19, 2) := by decide +kernel
theorem dMo_logarithm_66 : decode cMo_logarithm 66 = .ok (.istore 11, 2) := by decide +kernel
theorem dMo_logarithm_68 : decode cMo_logarithm 68 = .ok (.iload 11, 2) := by decide +kernel
theorem dMo_logarithm_70 : decode cMo_logarithm 70 = .ok (.ifCond .le 22, 3) := by decide +kernel
theorem dMo_logarithm_73 : decode cMo_logarithm 73 = .ok (.dload 9, 2) := by decide +kernel
theorem dMo_logarithm_75 : decode cMo_logarithm 75 = .ok (.dload 7, 2) := by decide +kernel
theorem dMo_logarithm_77 : decode cMo_logarithm 77 = .ok (.dmul, 1) := by decide +kernel
theorem dMo_logarithm_78 : decode cMo_logarithm 78 = .ok (.dconst 1, 1) := by decide +kernel
theorem dMo_logarithm_79 : decode cMo_logarithm 79 = .ok (.iload 11, 2) := by decide +kernel
theorem dMo_logarithm_81 : decode cMo_logarithm 81 = .ok (.i2d, 1) := by decide +kernel
theorem dMo_logarithm_82 : decode cMo_logarithm 82 = .ok (.ddiv, 1) := by decide +kernel
theorem dMo_logarithm_83 : decode cMo_logarithm 83 = .ok (.dadd, 1) := by decide +kernel
theorem dMo_logarithm_84 : decode cMo_logarithm 84 = .ok (.dstore 9, 2) := by decide +kernel
theorem dMo_logarithm_86 : decode cMo_logarithm 86 = .ok (.iinc 11 (-2), 3) := by decide +kernel
theorem dMo_logarithm_89 : decode cMo_logarithm 89 = .ok (.goto (-21), 3) := by decide +kernel
theorem dMo_logarithm_92 : decode cMo_logarithm 92 = .ok (.ldc2_w 123, 3) := by decide +kernel
theorem dMo_logarithm_95 : decode cMo_logarithm 95 = .ok (.dload 5, 2) := by decide +kernel
theorem dMo_logarithm_97 : decode cMo_logarithm 97 = .ok (.dmul, 1) := by decide +kernel
theorem dMo_logarithm_98 : decode cMo_logarithm 98 = .ok (.dload 9, 2) := by decide +kernel
theorem dMo_logarithm_100 : decode cMo_logarithm 100 = .ok (.dmul, 1) := by decide +kernel
theorem dMo_logarithm_101 : decode cMo_logarithm 101 = .ok (.iload 4, 2) := by decide +kernel
theorem dMo_logarithm_103 : decode cMo_logarithm 103 = .ok (.i2d, 1) := by decide +kernel
theorem dMo_logarithm_104 : decode cMo_logarithm 104 = .ok (.ldc2_w 144, 3) := by decide +kernel
theorem dMo_logarithm_107 : decode cMo_logarithm 107 = .ok (.dmul, 1) := by decide +kernel
theorem dMo_logarithm_108 : decode cMo_logarithm 108 = .ok (.dadd, 1) := by decide +kernel
theorem dMo_logarithm_109 : decode cMo_logarithm 109 = .ok (.dreturn, 1) := by decide +kernel
theorem dMo_ways_0 : decode cMo_ways 0 = .ok (.aload_n 0, 1) := by decide +kernel
theorem dMo_ways_1 : decode cMo_ways 1 = .ok (.iconst 0, 1) := by decide +kernel
theorem dMo_ways_2 : decode cMo_ways 2 = .ok (.putfield 79, 3) := by decide +kernel
theorem dMo_ways_5 : decode cMo_ways 5 = .ok (.aload_n 0, 1) := by decide +kernel
theorem dMo_ways_6 : decode cMo_ways 6 = .ok (.dload_n 1, 1) := by decide +kernel
theorem dMo_ways_7 : decode cMo_ways 7 = .ok (.dconst 0, 1) := by decide +kernel
theorem dMo_ways_8 : decode cMo_ways 8 = .ok (.dcmp .l, 1) := by decide +kernel
theorem dMo_ways_9 : decode cMo_ways 9 = .ok (.ifCond .le 22, 3) := by decide +kernel
theorem dMo_ways_12 : decode cMo_ways 12 = .ok (.iload_n 3, 1) := by decide +kernel
theorem dMo_ways_13 : decode cMo_ways 13 = .ok (.i2l, 1) := by decide +kernel
theorem dMo_ways_14 : decode cMo_ways 14 = .ok (.lconst 1, 1) := by decide +kernel
theorem dMo_ways_15 : decode cMo_ways 15 = .ok (.ldc2_w 163, 3) := by decide +kernel
theorem dMo_ways_18 : decode cMo_ways 18 = .ok (.invokestatic 84, 3) := by decide +kernel
theorem dMo_ways_21 : decode cMo_ways 21 = .ok (.ifCond .eq 10, 3) := by decide +kernel
theorem dMo_ways_24 : decode cMo_ways 24 = .ok (.dload 4, 2) := by decide +kernel
theorem dMo_ways_26 : decode cMo_ways 26 = .ok (.dconst 0, 1) := by decide +kernel
theorem dMo_ways_27 : decode cMo_ways 27 = .ok (.dcmp .g, 1) := by decide +kernel
theorem dMo_ways_28 : decode cMo_ways 28 = .ok (.ifCond .ge 7, 3) := by decide +kernel
theorem dMo_ways_31 : decode cMo_ways 31 = .ok (.iconst 1, 1) := by decide +kernel
theorem dMo_ways_32 : decode cMo_ways 32 = .ok (.goto 4, 3) := by decide +kernel
theorem dMo_ways_35 : decode cMo_ways 35 = .ok (.iconst 0, 1) := by decide +kernel
theorem dMo_ways_36 : decode cMo_ways 36 = .ok (.iconst 1, 1) := by decide +kernel
theorem dMo_ways_37 : decode cMo_ways 37 = .ok (.invokevirtual 88, 3) := by decide +kernel
theorem dMo_ways_40 : decode cMo_ways 40 = .ok (.ifCond .eq 4, 3) := by decide +kernel
theorem dMo_ways_43 : decode cMo_ways 43 = .ok (.return_, 1) := by decide +kernel
theorem dMo_ways_44 : decode cMo_ways 44 = .ok (.aload_n 0, 1) := by decide +kernel
theorem dMo_ways_45 : decode cMo_ways 45 = .ok (.dload_n 1, 1) := by decide +kernel
theorem dMo_ways_46 : decode cMo_ways 46 = .ok (.putfield 21, 3) := by decide +kernel
theorem dMo_ways_49 : decode cMo_ways 49 = .ok (.aload_n 0, 1) := by decide +kernel
theorem dMo_ways_50 : decode cMo_ways 50 = .ok (.iload_n 3, 1) := by decide +kernel
theorem dMo_ways_51 : decode cMo_ways 51 = .ok (.putfield 16, 3) := by decide +kernel
theorem dMo_ways_54 : decode cMo_ways 54 = .ok (.aload_n 0, 1) := by decide +kernel
theorem dMo_ways_55 : decode cMo_ways 55 = .ok (.dload 4, 2) := by decide +kernel
theorem dMo_ways_57 : decode cMo_ways 57 = .ok (.putfield 27, 3) := by decide +kernel
theorem dMo_ways_60 : decode cMo_ways 60 = .ok (.return_, 1) := by decide +kernel
theorem dMo_learn_0 : decode cMo_learn 0 = .ok (.aload_n 0, 1) := by decide +kernel
theorem dMo_learn_1 : decode cMo_learn 1 = .ok (.iconst 0, 1) := by decide +kernel
theorem dMo_learn_2 : decode cMo_learn 2 = .ok (.putfield 79, 3) := by decide +kernel
theorem dMo_learn_5 : decode cMo_learn 5 = .ok (.aload_n 0, 1) := by decide +kernel
theorem dMo_learn_6 : decode cMo_learn 6 = .ok (.iload_n 1, 1) := by decide +kernel
theorem dMo_learn_7 : decode cMo_learn 7 = .ok (.i2l, 1) := by decide +kernel
theorem dMo_learn_8 : decode cMo_learn 8 = .ok (.ldc2_w 165, 3) := by decide +kernel
theorem dMo_learn_11 : decode cMo_learn 11 = .ok (.ldc2_w 167, 3) := by decide +kernel
theorem dMo_learn_14 : decode cMo_learn 14 = .ok (.invokestatic 84, 3) := by decide +kernel
theorem dMo_learn_17 : decode cMo_learn 17 = .ok (.ifCond .eq 15, 3) := by decide +kernel
theorem dMo_learn_20 : decode cMo_learn 20 = .ok (.iload_n 3, 1) := by decide +kernel
theorem dMo_learn_21 : decode cMo_learn 21 = .ok (.i2l, 1) := by decide +kernel
theorem dMo_learn_22 : decode cMo_learn 22 = .ok (.lconst 1, 1) := by decide +kernel
theorem dMo_learn_23 : decode cMo_learn 23 = .ok (.ldc2_w 82, 3) := by decide +kernel
theorem dMo_learn_26 : decode cMo_learn 26 = .ok (.invokestatic 84, 3) := by decide +kernel
theorem dMo_learn_29 : decode cMo_learn 29 = .ok (.ifCond .ne 7, 3) := by decide +kernel
theorem dMo_learn_32 : decode cMo_learn 32 = .ok (.iconst 1, 1) := by decide +kernel
theorem dMo_learn_33 : decode cMo_learn 33 = .ok (.goto 4, 3) := by decide +kernel
theorem dMo_learn_36 : decode cMo_learn 36 = .ok (.iconst 0, 1) := by decide +kernel
theorem dMo_learn_37 : decode cMo_learn 37 = .ok (.iconst 1, 1) := by decide +kernel
theorem dMo_learn_38 : decode cMo_learn 38 = .ok (.invokevirtual 88, 3) := by decide +kernel
theorem dMo_learn_41 : decode cMo_learn 41 = .ok (.ifCond .ne 42, 3) := by decide +kernel
theorem dMo_learn_44 : decode cMo_learn 44 = .ok (.aload_n 0, 1) := by decide +kernel
theorem dMo_learn_45 : decode cMo_learn 45 = .ok (.iload_n 2, 1) := by decide +kernel
theorem dMo_learn_46 : decode cMo_learn 46 = .ok (.i2l, 1) := by decide +kernel
theorem dMo_learn_47 : decode cMo_learn 47 = .ok (.lconst 0, 1) := by decide +kernel
theorem dMo_learn_48 : decode cMo_learn 48 = .ok (.aload_n 0, 1) := by decide +kernel
theorem dMo_learn_49 : decode cMo_learn 49 = .ok (.invokevirtual 155, 3) := by decide +kernel
theorem dMo_learn_52 : decode cMo_learn 52 = .ok (.i2l, 1) := by decide +kernel
theorem dMo_learn_53 : decode cMo_learn 53 = .ok (.iload_n 3, 1) := by decide +kernel
theorem dMo_learn_54 : decode cMo_learn 54 = .ok (.i2l, 1) := by decide +kernel
theorem dMo_learn_55 : decode cMo_learn 55 = .ok (.lsub, 1) := by decide +kernel
theorem dMo_learn_56 : decode cMo_learn 56 = .ok (.invokestatic 84, 3) := by decide +kernel
theorem dMo_learn_59 : decode cMo_learn 59 = .ok (.ifCond .eq 12, 3) := by decide +kernel
theorem dMo_learn_62 : decode cMo_learn 62 = .ok (.aload_n 0, 1) := by decide +kernel
theorem dMo_learn_63 : decode cMo_learn 63 = .ok (.getfield 169, 3) := by decide +kernel
theorem dMo_learn_66 : decode cMo_learn 66 = .ok (.bipush 6, 2) := by decide +kernel
theorem dMo_learn_68 : decode cMo_learn 68 = .ok (.if_icmp .ne 7, 3) := by decide +kernel
theorem dMo_learn_71 : decode cMo_learn 71 = .ok (.iconst 1, 1) := by decide +kernel
theorem dMo_learn_72 : decode cMo_learn 72 = .ok (.goto 4, 3) := by decide +kernel
theorem dMo_learn_75 : decode cMo_learn 75 = .ok (.iconst 0, 1) := by decide +kernel
theorem dMo_learn_76 : decode cMo_learn 76 = .ok (.iconst 2, 1) := by decide +kernel
theorem dMo_learn_77 : decode cMo_learn 77 = .ok (.invokevirtual 88, 3) := by decide +kernel
theorem dMo_learn_80 : decode cMo_learn 80 = .ok (.ifCond .eq 5, 3) := by decide +kernel
theorem dMo_learn_83 : decode cMo_learn 83 = .ok (.iconst 0, 1) := by decide +kernel
theorem dMo_learn_84 : decode cMo_learn 84 = .ok (.ireturn, 1) := by decide +kernel
theorem dMo_learn_85 : decode cMo_learn 85 = .ok (.aload_n 0, 1) := by decide +kernel
theorem dMo_learn_86 : decode cMo_learn 86 = .ok (.getfield 34, 3) := by decide +kernel
theorem dMo_learn_89 : decode cMo_learn 89 = .ok (.aload_n 0, 1) := by decide +kernel
theorem dMo_learn_90 : decode cMo_learn 90 = .ok (.getfield 169, 3) := by decide +kernel
theorem dMo_learn_93 : decode cMo_learn 93 = .ok (.iload_n 1, 1) := by decide +kernel
theorem dMo_learn_94 : decode cMo_learn 94 = .ok (.iastore, 1) := by decide +kernel
theorem dMo_learn_95 : decode cMo_learn 95 = .ok (.aload_n 0, 1) := by decide +kernel
theorem dMo_learn_96 : decode cMo_learn 96 = .ok (.getfield 37, 3) := by decide +kernel
theorem dMo_learn_99 : decode cMo_learn 99 = .ok (.aload_n 0, 1) := by decide +kernel
theorem dMo_learn_100 : decode cMo_learn 100 = .ok (.getfield 169, 3) := by decide +kernel
theorem dMo_learn_103 : decode cMo_learn 103 = .ok (.iload_n 3, 1) := by decide +kernel
theorem dMo_learn_104 : decode cMo_learn 104 = .ok (.iastore, 1) := by decide +kernel
theorem dMo_learn_105 : decode cMo_learn 105 = .ok (.iconst 0, 1) := by decide +kernel
theorem dMo_learn_106 : decode cMo_learn 106 = .ok (.istore 4, 2) := by decide +kernel
theorem dMo_learn_108 : decode cMo_learn 108 = .ok (.iload 4, 2) := by decide +kernel
theorem dMo_learn_110 : decode cMo_learn 110 = .ok (.iload_n 3, 1) := by decide +kernel
theorem dMo_learn_111 : decode cMo_learn 111 = .ok (.if_icmp .ge 54, 3) := by decide +kernel
theorem dMo_learn_114 : decode cMo_learn 114 = .ok (.iconst 0, 1) := by decide +kernel
theorem dMo_learn_115 : decode cMo_learn 115 = .ok (.istore 5, 2) := by decide +kernel
theorem dMo_learn_117 : decode cMo_learn 117 = .ok (.iload 5, 2) := by decide +kernel
theorem dMo_learn_119 : decode cMo_learn 119 = .ok (.iconst 4, 1) := by decide +kernel
theorem dMo_learn_120 : decode cMo_learn 120 = .ok (.if_icmp .ge 39, 3) := by decide +kernel
theorem dMo_learn_123 : decode cMo_learn 123 = .ok (.aload_n 0, 1) := by decide +kernel
theorem dMo_learn_124 : decode cMo_learn 124 = .ok (.getfield 56, 3) := by decide +kernel
theorem dMo_learn_127 : decode cMo_learn 127 = .ok (.bipush 32, 2) := by decide +kernel
theorem dMo_learn_129 : decode cMo_learn 129 = .ok (.aload_n 0, 1) := by decide +kernel
theorem dMo_learn_130 : decode cMo_learn 130 = .ok (.getfield 169, 3) := by decide +kernel
theorem dMo_learn_133 : decode cMo_learn 133 = .ok (.imul, 1) := by decide +kernel
theorem dMo_learn_134 : decode cMo_learn 134 = .ok (.iconst 4, 1) := by decide +kernel
theorem dMo_learn_135 : decode cMo_learn 135 = .ok (.iload 4, 2) := by decide +kernel
theorem dMo_learn_137 : decode cMo_learn 137 = .ok (.imul, 1) := by decide +kernel
theorem dMo_learn_138 : decode cMo_learn 138 = .ok (.iadd, 1) := by decide +kernel
theorem dMo_learn_139 : decode cMo_learn 139 = .ok (.iload 5, 2) := by decide +kernel
theorem dMo_learn_141 : decode cMo_learn 141 = .ok (.iadd, 1) := by decide +kernel
theorem dMo_learn_142 : decode cMo_learn 142 = .ok (.aload_n 0, 1) := by decide +kernel
theorem dMo_learn_143 : decode cMo_learn 143 = .ok (.iload_n 2, 1) := by decide +kernel
theorem dMo_learn_144 : decode cMo_learn 144 = .ok (.iload 4, 2) := by decide +kernel
theorem dMo_learn_146 : decode cMo_learn 146 = .ok (.iadd, 1) := by decide +kernel
theorem dMo_learn_147 : decode cMo_learn 147 = .ok (.iload 5, 2) := by decide +kernel
theorem dMo_learn_149 : decode cMo_learn 149 = .ok (.invokevirtual 160, 3) := by decide +kernel
theorem dMo_learn_152 : decode cMo_learn 152 = .ok (.dastore, 1) := by decide +kernel
theorem dMo_learn_153 : decode cMo_learn 153 = .ok (.iinc 5 1, 3) := by decide +kernel
theorem dMo_learn_156 : decode cMo_learn 156 = .ok (.goto (-39), 3) := by decide +kernel
theorem dMo_learn_159 : decode cMo_learn 159 = .ok (.iinc 4 1, 3) := by decide +kernel
theorem dMo_learn_162 : decode cMo_learn 162 = .ok (.goto (-54), 3) := by decide +kernel
theorem dMo_learn_165 : decode cMo_learn 165 = .ok (.aload_n 0, 1) := by decide +kernel
theorem dMo_learn_166 : decode cMo_learn 166 = .ok (.dup, 1) := by decide +kernel
theorem dMo_learn_167 : decode cMo_learn 167 = .ok (.getfield 169, 3) := by decide +kernel
theorem dMo_learn_170 : decode cMo_learn 170 = .ok (.iconst 1, 1) := by decide +kernel
theorem dMo_learn_171 : decode cMo_learn 171 = .ok (.iadd, 1) := by decide +kernel
theorem dMo_learn_172 : decode cMo_learn 172 = .ok (.putfield 169, 3) := by decide +kernel
theorem dMo_learn_175 : decode cMo_learn 175 = .ok (.aload_n 0, 1) := by decide +kernel
theorem dMo_learn_176 : decode cMo_learn 176 = .ok (.getfield 169, 3) := by decide +kernel
theorem dMo_learn_179 : decode cMo_learn 179 = .ok (.ireturn, 1) := by decide +kernel
theorem dMo_forget_0 : decode cMo_forget 0 = .ok (.aload_n 0, 1) := by decide +kernel
theorem dMo_forget_1 : decode cMo_forget 1 = .ok (.iconst 0, 1) := by decide +kernel
theorem dMo_forget_2 : decode cMo_forget 2 = .ok (.putfield 79, 3) := by decide +kernel
theorem dMo_forget_5 : decode cMo_forget 5 = .ok (.aload_n 0, 1) := by decide +kernel
theorem dMo_forget_6 : decode cMo_forget 6 = .ok (.iload_n 1, 1) := by decide +kernel
theorem dMo_forget_7 : decode cMo_forget 7 = .ok (.i2l, 1) := by decide +kernel
theorem dMo_forget_8 : decode cMo_forget 8 = .ok (.lconst 0, 1) := by decide +kernel
theorem dMo_forget_9 : decode cMo_forget 9 = .ok (.aload_n 0, 1) := by decide +kernel
theorem dMo_forget_10 : decode cMo_forget 10 = .ok (.getfield 169, 3) := by decide +kernel
theorem dMo_forget_13 : decode cMo_forget 13 = .ok (.iconst 1, 1) := by decide +kernel
theorem dMo_forget_14 : decode cMo_forget 14 = .ok (.isub, 1) := by decide +kernel
theorem dMo_forget_15 : decode cMo_forget 15 = .ok (.i2l, 1) := by decide +kernel
theorem dMo_forget_16 : decode cMo_forget 16 = .ok (.invokestatic 84, 3) := by decide +kernel
theorem dMo_forget_19 : decode cMo_forget 19 = .ok (.ifCond .ne 7, 3) := by decide +kernel
theorem dMo_forget_22 : decode cMo_forget 22 = .ok (.iconst 1, 1) := by decide +kernel
theorem dMo_forget_23 : decode cMo_forget 23 = .ok (.goto 4, 3) := by decide +kernel
theorem dMo_forget_26 : decode cMo_forget 26 = .ok (.iconst 0, 1) := by decide +kernel
theorem dMo_forget_27 : decode cMo_forget 27 = .ok (.iconst 1, 1) := by decide +kernel
theorem dMo_forget_28 : decode cMo_forget 28 = .ok (.invokevirtual 88, 3) := by decide +kernel
theorem dMo_forget_31 : decode cMo_forget 31 = .ok (.ifCond .eq 5, 3) := by decide +kernel
theorem dMo_forget_34 : decode cMo_forget 34 = .ok (.iconst 0, 1) := by decide +kernel
theorem dMo_forget_35 : decode cMo_forget 35 = .ok (.ireturn, 1) := by decide +kernel
theorem dMo_forget_36 : decode cMo_forget 36 = .ok (.aload_n 0, 1) := by decide +kernel
theorem dMo_forget_37 : decode cMo_forget 37 = .ok (.getfield 34, 3) := by decide +kernel
theorem dMo_forget_40 : decode cMo_forget 40 = .ok (.iload_n 1, 1) := by decide +kernel
theorem dMo_forget_41 : decode cMo_forget 41 = .ok (.iaload, 1) := by decide +kernel
theorem dMo_forget_42 : decode cMo_forget 42 = .ok (.istore_n 2, 1) := by decide +kernel
theorem dMo_forget_43 : decode cMo_forget 43 = .ok (.iload_n 1, 1) := by decide +kernel
theorem dMo_forget_44 : decode cMo_forget 44 = .ok (.istore_n 3, 1) := by decide +kernel
theorem dMo_forget_45 : decode cMo_forget 45 = .ok (.iload_n 3, 1) := by decide +kernel
theorem dMo_forget_46 : decode cMo_forget 46 = .ok (.aload_n 0, 1) := by decide +kernel
theorem dMo_forget_47 : decode cMo_forget 47 = .ok (.getfield 169, 3) := by decide +kernel
theorem dMo_forget_50 : decode cMo_forget 50 = .ok (.iconst 1, 1) := by decide +kernel
theorem dMo_forget_51 : decode cMo_forget 51 = .ok (.isub, 1) := by decide +kernel
theorem dMo_forget_52 : decode cMo_forget 52 = .ok (.if_icmp .ge 79, 3) := by decide +kernel
theorem dMo_forget_55 : decode cMo_forget 55 = .ok (.aload_n 0, 1) := by decide +kernel
theorem dMo_forget_56 : decode cMo_forget 56 = .ok (.getfield 34, 3) := by decide +kernel
theorem dMo_forget_59 : decode cMo_forget 59 = .ok (.iload_n 3, 1) := by decide +kernel
theorem dMo_forget_60 : decode cMo_forget 60 = .ok (.aload_n 0, 1) := by decide +kernel
theorem dMo_forget_61 : decode cMo_forget 61 = .ok (.getfield 34, 3) := by decide +kernel
theorem dMo_forget_64 : decode cMo_forget 64 = .ok (.iload_n 3, 1) := by decide +kernel
theorem dMo_forget_65 : decode cMo_forget 65 = .ok (.iconst 1, 1) := by decide +kernel
theorem dMo_forget_66 : decode cMo_forget 66 = .ok (.iadd, 1) := by decide +kernel
theorem dMo_forget_67 : decode cMo_forget 67 = .ok (.iaload, 1) := by decide +kernel
theorem dMo_forget_68 : decode cMo_forget 68 = .ok (.iastore, 1) := by decide +kernel
theorem dMo_forget_69 : decode cMo_forget 69 = .ok (.aload_n 0, 1) := by decide +kernel
theorem dMo_forget_70 : decode cMo_forget 70 = .ok (.getfield 37, 3) := by decide +kernel
theorem dMo_forget_73 : decode cMo_forget 73 = .ok (.iload_n 3, 1) := by decide +kernel
theorem dMo_forget_74 : decode cMo_forget 74 = .ok (.aload_n 0, 1) := by decide +kernel
theorem dMo_forget_75 : decode cMo_forget 75 = .ok (.getfield 37, 3) := by decide +kernel
theorem dMo_forget_78 : decode cMo_forget 78 = .ok (.iload_n 3, 1) := by decide +kernel
theorem dMo_forget_79 : decode cMo_forget 79 = .ok (.iconst 1, 1) := by decide +kernel
theorem dMo_forget_80 : decode cMo_forget 80 = .ok (.iadd, 1) := by decide +kernel
theorem dMo_forget_81 : decode cMo_forget 81 = .ok (.iaload, 1) := by decide +kernel
theorem dMo_forget_82 : decode cMo_forget 82 = .ok (.iastore, 1) := by decide +kernel
theorem dMo_forget_83 : decode cMo_forget 83 = .ok (.iconst 0, 1) := by decide +kernel
theorem dMo_forget_84 : decode cMo_forget 84 = .ok (.istore 4, 2) := by decide +kernel
theorem dMo_forget_86 : decode cMo_forget 86 = .ok (.iload 4, 2) := by decide +kernel
theorem dMo_forget_88 : decode cMo_forget 88 = .ok (.bipush 32, 2) := by decide +kernel
theorem dMo_forget_90 : decode cMo_forget 90 = .ok (.if_icmp .ge 35, 3) := by decide +kernel
theorem dMo_forget_93 : decode cMo_forget 93 = .ok (.aload_n 0, 1) := by decide +kernel
theorem dMo_forget_94 : decode cMo_forget 94 = .ok (.getfield 56, 3) := by decide +kernel
theorem dMo_forget_97 : decode cMo_forget 97 = .ok (.bipush 32, 2) := by decide +kernel
theorem dMo_forget_99 : decode cMo_forget 99 = .ok (.iload_n 3, 1) := by decide +kernel
theorem dMo_forget_100 : decode cMo_forget 100 = .ok (.imul, 1) := by decide +kernel
theorem dMo_forget_101 : decode cMo_forget 101 = .ok (.iload 4, 2) := by decide +kernel
theorem dMo_forget_103 : decode cMo_forget 103 = .ok (.iadd, 1) := by decide +kernel
theorem dMo_forget_104 : decode cMo_forget 104 = .ok (.aload_n 0, 1) := by decide +kernel
theorem dMo_forget_105 : decode cMo_forget 105 = .ok (.getfield 56, 3) := by decide +kernel
theorem dMo_forget_108 : decode cMo_forget 108 = .ok (.bipush 32, 2) := by decide +kernel
theorem dMo_forget_110 : decode cMo_forget 110 = .ok (.iload_n 3, 1) := by decide +kernel
theorem dMo_forget_111 : decode cMo_forget 111 = .ok (.iconst 1, 1) := by decide +kernel
theorem dMo_forget_112 : decode cMo_forget 112 = .ok (.iadd, 1) := by decide +kernel
theorem dMo_forget_113 : decode cMo_forget 113 = .ok (.imul, 1) := by decide +kernel
theorem dMo_forget_114 : decode cMo_forget 114 = .ok (.iload 4, 2) := by decide +kernel
theorem dMo_forget_116 : decode cMo_forget 116 = .ok (.iadd, 1) := by decide +kernel
theorem dMo_forget_117 : decode cMo_forget 117 = .ok (.daload, 1) := by decide +kernel
theorem dMo_forget_118 : decode cMo_forget 118 = .ok (.dastore, 1) := by decide +kernel
theorem dMo_forget_119 : decode cMo_forget 119 = .ok (.iinc 4 1, 3) := by decide +kernel
theorem dMo_forget_122 : decode cMo_forget 122 = .ok (.goto (-36), 3) := by decide +kernel
theorem dMo_forget_125 : decode cMo_forget 125 = .ok (.iinc 3 1, 3) := by decide +kernel
theorem dMo_forget_128 : decode cMo_forget 128 = .ok (.goto (-83), 3) := by decide +kernel
theorem dMo_forget_131 : decode cMo_forget 131 = .ok (.aload_n 0, 1) := by decide +kernel
theorem dMo_forget_132 : decode cMo_forget 132 = .ok (.dup, 1) := by decide +kernel
theorem dMo_forget_133 : decode cMo_forget 133 = .ok (.getfield 169, 3) := by decide +kernel
theorem dMo_forget_136 : decode cMo_forget 136 = .ok (.iconst 1, 1) := by decide +kernel
theorem dMo_forget_137 : decode cMo_forget 137 = .ok (.isub, 1) := by decide +kernel
theorem dMo_forget_138 : decode cMo_forget 138 = .ok (.putfield 169, 3) := by decide +kernel
theorem dMo_forget_141 : decode cMo_forget 141 = .ok (.iload_n 2, 1) := by decide +kernel
theorem dMo_forget_142 : decode cMo_forget 142 = .ok (.ireturn, 1) := by decide +kernel
theorem dMo_warp_0 : decode cMo_warp 0 = .ok (.aload_n 0, 1) := by decide +kernel
theorem dMo_warp_1 : decode cMo_warp 1 = .ok (.iconst 0, 1) := by decide +kernel
theorem dMo_warp_2 : decode cMo_warp 2 = .ok (.putfield 79, 3) := by decide +kernel
theorem dMo_warp_5 : decode cMo_warp 5 = .ok (.aload_n 0, 1) := by decide +kernel
theorem dMo_warp_6 : decode cMo_warp 6 = .ok (.iload_n 1, 1) := by decide +kernel
theorem dMo_warp_7 : decode cMo_warp 7 = .ok (.i2l, 1) := by decide +kernel
theorem dMo_warp_8 : decode cMo_warp 8 = .ok (.lconst 0, 1) := by decide +kernel
theorem dMo_warp_9 : decode cMo_warp 9 = .ok (.aload_n 0, 1) := by decide +kernel
theorem dMo_warp_10 : decode cMo_warp 10 = .ok (.getfield 169, 3) := by decide +kernel
theorem dMo_warp_13 : decode cMo_warp 13 = .ok (.iconst 1, 1) := by decide +kernel
theorem dMo_warp_14 : decode cMo_warp 14 = .ok (.isub, 1) := by decide +kernel
theorem dMo_warp_15 : decode cMo_warp 15 = .ok (.i2l, 1) := by decide +kernel
theorem dMo_warp_16 : decode cMo_warp 16 = .ok (.invokestatic 84, 3) := by decide +kernel
theorem dMo_warp_19 : decode cMo_warp 19 = .ok (.ifCond .eq 19, 3) := by decide +kernel
theorem dMo_warp_22 : decode cMo_warp 22 = .ok (.iload_n 2, 1) := by decide +kernel
theorem dMo_warp_23 : decode cMo_warp 23 = .ok (.i2l, 1) := by decide +kernel
theorem dMo_warp_24 : decode cMo_warp 24 = .ok (.lconst 0, 1) := by decide +kernel
theorem dMo_warp_25 : decode cMo_warp 25 = .ok (.aload_n 0, 1) := by decide +kernel
theorem dMo_warp_26 : decode cMo_warp 26 = .ok (.getfield 169, 3) := by decide +kernel
theorem dMo_warp_29 : decode cMo_warp 29 = .ok (.iconst 1, 1) := by decide +kernel
theorem dMo_warp_30 : decode cMo_warp 30 = .ok (.isub, 1) := by decide +kernel
theorem dMo_warp_31 : decode cMo_warp 31 = .ok (.i2l, 1) := by decide +kernel
theorem dMo_warp_32 : decode cMo_warp 32 = .ok (.invokestatic 84, 3) := by decide +kernel
theorem dMo_warp_35 : decode cMo_warp 35 = .ok (.ifCond .ne 7, 3) := by decide +kernel
theorem dMo_warp_38 : decode cMo_warp 38 = .ok (.iconst 1, 1) := by decide +kernel
theorem dMo_warp_39 : decode cMo_warp 39 = .ok (.goto 4, 3) := by decide +kernel
theorem dMo_warp_42 : decode cMo_warp 42 = .ok (.iconst 0, 1) := by decide +kernel
theorem dMo_warp_43 : decode cMo_warp 43 = .ok (.iconst 1, 1) := by decide +kernel
theorem dMo_warp_44 : decode cMo_warp 44 = .ok (.invokevirtual 88, 3) := by decide +kernel
theorem dMo_warp_47 : decode cMo_warp 47 = .ok (.ifCond .eq 5, 3) := by decide +kernel
theorem dMo_warp_50 : decode cMo_warp 50 = .ok (.dconst 0, 1) := by decide +kernel
theorem dMo_warp_51 : decode cMo_warp 51 = .ok (.dreturn, 1) := by decide +kernel
theorem dMo_warp_52 : decode cMo_warp 52 = .ok (.aload_n 0, 1) := by decide +kernel
theorem dMo_warp_53 : decode cMo_warp 53 = .ok (.aload_n 0, 1) := by decide +kernel
theorem dMo_warp_54 : decode cMo_warp 54 = .ok (.getfield 62, 3) := by decide +kernel
theorem dMo_warp_57 : decode cMo_warp 57 = .ok (.iload_n 1, 1) := by decide +kernel
theorem dMo_warp_58 : decode cMo_warp 58 = .ok (.invokevirtual 178, 3) := by decide +kernel
theorem dMo_warp_61 : decode cMo_warp 61 = .ok (.aload_n 0, 1) := by decide +kernel
theorem dMo_warp_62 : decode cMo_warp 62 = .ok (.aload_n 0, 1) := by decide +kernel
theorem dMo_warp_63 : decode cMo_warp 63 = .ok (.getfield 65, 3) := by decide +kernel
theorem dMo_warp_66 : decode cMo_warp 66 = .ok (.iload_n 2, 1) := by decide +kernel
theorem dMo_warp_67 : decode cMo_warp 67 = .ok (.invokevirtual 178, 3) := by decide +kernel
theorem dMo_warp_70 : decode cMo_warp 70 = .ok (.aload_n 0, 1) := by decide +kernel
theorem dMo_warp_71 : decode cMo_warp 71 = .ok (.aload_n 0, 1) := by decide +kernel
theorem dMo_warp_72 : decode cMo_warp 72 = .ok (.getfield 37, 3) := by decide +kernel
theorem dMo_warp_75 : decode cMo_warp 75 = .ok (.iload_n 1, 1) := by decide +kernel
theorem dMo_warp_76 : decode cMo_warp 76 = .ok (.iaload, 1) := by decide +kernel
theorem dMo_warp_77 : decode cMo_warp 77 = .ok (.putfield 172, 3) := by decide +kernel
theorem dMo_warp_80 : decode cMo_warp 80 = .ok (.aload_n 0, 1) := by decide +kernel
theorem dMo_warp_81 : decode cMo_warp 81 = .ok (.aload_n 0, 1) := by decide +kernel
theorem dMo_warp_82 : decode cMo_warp 82 = .ok (.getfield 37, 3) := by decide +kernel
theorem dMo_warp_85 : decode cMo_warp 85 = .ok (.iload_n 2, 1) := by decide +kernel
theorem dMo_warp_86 : decode cMo_warp 86 = .ok (.iaload, 1) := by decide +kernel
theorem dMo_warp_87 : decode cMo_warp 87 = .ok (.putfield 175, 3) := by decide +kernel
theorem dMo_warp_90 : decode cMo_warp 90 = .ok (.aload_n 0, 1) := by decide +kernel
theorem dMo_warp_91 : decode cMo_warp 91 = .ok (.invokevirtual 182, 3) := by decide +kernel
theorem dMo_warp_94 : decode cMo_warp 94 = .ok (.dreturn, 1) := by decide +kernel
theorem dMo_takes_0 : decode cMo_takes 0 = .ok (.iconst 0, 1) := by decide +kernel
theorem dMo_takes_1 : decode cMo_takes 1 = .ok (.istore_n 3, 1) := by decide +kernel
theorem dMo_takes_2 : decode cMo_takes 2 = .ok (.iload_n 3, 1) := by decide +kernel
theorem dMo_takes_3 : decode cMo_takes 3 = .ok (.bipush 32, 2) := by decide +kernel
theorem dMo_takes_5 : decode cMo_takes 5 = .ok (.if_icmp .ge 23, 3) := by decide +kernel
theorem dMo_takes_8 : decode cMo_takes 8 = .ok (.aload_n 1, 1) := by decide +kernel
theorem dMo_takes_9 : decode cMo_takes 9 = .ok (.iload_n 3, 1) := by decide +kernel
theorem dMo_takes_10 : decode cMo_takes 10 = .ok (.aload_n 0, 1) := by decide +kernel
theorem dMo_takes_11 : decode cMo_takes 11 = .ok (.getfield 56, 3) := by decide +kernel
theorem dMo_takes_14 : decode cMo_takes 14 = .ok (.bipush 32, 2) := by decide +kernel
theorem dMo_takes_16 : decode cMo_takes 16 = .ok (.iload_n 2, 1) := by decide +kernel
theorem dMo_takes_17 : decode cMo_takes 17 = .ok (.imul, 1) := by decide +kernel
theorem dMo_takes_18 : decode cMo_takes 18 = .ok (.iload_n 3, 1) := by decide +kernel
theorem dMo_takes_19 : decode cMo_takes 19 = .ok (.iadd, 1) := by decide +kernel
theorem dMo_takes_20 : decode cMo_takes 20 = .ok (.daload, 1) := by decide +kernel
theorem dMo_takes_21 : decode cMo_takes 21 = .ok (.dastore, 1) := by decide +kernel
theorem dMo_takes_22 : decode cMo_takes 22 = .ok (.iinc 3 1, 3) := by decide +kernel
theorem dMo_takes_25 : decode cMo_takes 25 = .ok (.goto (-23), 3) := by decide +kernel
theorem dMo_takes_28 : decode cMo_takes 28 = .ok (.return_, 1) := by decide +kernel
theorem dMo_warps_0 : decode cMo_warps 0 = .ok (.iconst 0, 1) := by decide +kernel
theorem dMo_warps_1 : decode cMo_warps 1 = .ok (.istore_n 1, 1) := by decide +kernel
theorem dMo_warps_2 : decode cMo_warps 2 = .ok (.iload_n 1, 1) := by decide +kernel
theorem dMo_warps_3 : decode cMo_warps 3 = .ok (.aload_n 0, 1) := by decide +kernel
theorem dMo_warps_4 : decode cMo_warps 4 = .ok (.getfield 172, 3) := by decide +kernel
theorem dMo_warps_7 : decode cMo_warps 7 = .ok (.if_icmp .ge 225, 3) := by decide +kernel
theorem dMo_warps_10 : decode cMo_warps 10 = .ok (.iconst 0, 1) := by decide +kernel
theorem dMo_warps_11 : decode cMo_warps 11 = .ok (.istore_n 2, 1) := by decide +kernel
theorem dMo_warps_12 : decode cMo_warps 12 = .ok (.iload_n 2, 1) := by decide +kernel
theorem dMo_warps_13 : decode cMo_warps 13 = .ok (.aload_n 0, 1) := by decide +kernel
theorem dMo_warps_14 : decode cMo_warps 14 = .ok (.getfield 175, 3) := by decide +kernel
theorem dMo_warps_17 : decode cMo_warps 17 = .ok (.if_icmp .ge 209, 3) := by decide +kernel
theorem dMo_warps_20 : decode cMo_warps 20 = .ok (.dconst 0, 1) := by decide +kernel
theorem dMo_warps_21 : decode cMo_warps 21 = .ok (.dstore_n 3, 1) := by decide +kernel
theorem dMo_warps_22 : decode cMo_warps 22 = .ok (.iconst 0, 1) := by decide +kernel
theorem dMo_warps_23 : decode cMo_warps 23 = .ok (.istore 5, 2) := by decide +kernel
theorem dMo_warps_25 : decode cMo_warps 25 = .ok (.iload 5, 2) := by decide +kernel
theorem dMo_warps_27 : decode cMo_warps 27 = .ok (.iconst 4, 1) := by decide +kernel
theorem dMo_warps_28 : decode cMo_warps 28 = .ok (.if_icmp .ge 42, 3) := by decide +kernel
theorem dMo_warps_31 : decode cMo_warps 31 = .ok (.aload_n 0, 1) := by decide +kernel
theorem dMo_warps_32 : decode cMo_warps 32 = .ok (.getfield 62, 3) := by decide +kernel
theorem dMo_warps_35 : decode cMo_warps 35 = .ok (.iconst 4, 1) := by decide +kernel
theorem dMo_warps_36 : decode cMo_warps 36 = .ok (.iload_n 1, 1) := by decide +kernel
theorem dMo_warps_37 : decode cMo_warps 37 = .ok (.imul, 1) := by decide +kernel
theorem dMo_warps_38 : decode cMo_warps 38 = .ok (.iload 5, 2) := by decide +kernel
theorem dMo_warps_40 : decode cMo_warps 40 = .ok (.iadd, 1) := by decide +kernel
theorem dMo_warps_41 : decode cMo_warps 41 = .ok (.daload, 1) := by decide +kernel
theorem dMo_warps_42 : decode cMo_warps 42 = .ok (.aload_n 0, 1) := by decide +kernel
theorem dMo_warps_43 : decode cMo_warps 43 = .ok (.getfield 65, 3) := by decide +kernel
theorem dMo_warps_46 : decode cMo_warps 46 = .ok (.iconst 4, 1) := by decide +kernel
theorem dMo_warps_47 : decode cMo_warps 47 = .ok (.iload_n 2, 1) := by decide +kernel
theorem dMo_warps_48 : decode cMo_warps 48 = .ok (.imul, 1) := by decide +kernel
theorem dMo_warps_49 : decode cMo_warps 49 = .ok (.iload 5, 2) := by decide +kernel
theorem dMo_warps_51 : decode cMo_warps 51 = .ok (.iadd, 1) := by decide +kernel
theorem dMo_warps_52 : decode cMo_warps 52 = .ok (.daload, 1) := by decide +kernel
theorem dMo_warps_53 : decode cMo_warps 53 = .ok (.dsub, 1) := by decide +kernel
theorem dMo_warps_54 : decode cMo_warps 54 = .ok (.dstore 6, 2) := by decide +kernel
theorem dMo_warps_56 : decode cMo_warps 56 = .ok (.dload_n 3, 1) := by decide +kernel
theorem dMo_warps_57 : decode cMo_warps 57 = .ok (.dload 6, 2) := by decide +kernel
theorem dMo_warps_59 : decode cMo_warps 59 = .ok (.dload 6, 2) := by decide +kernel
theorem dMo_warps_61 : decode cMo_warps 61 = .ok (.dmul, 1) := by decide +kernel
theorem dMo_warps_62 : decode cMo_warps 62 = .ok (.dadd, 1) := by decide +kernel
theorem dMo_warps_63 : decode cMo_warps 63 = .ok (.dstore_n 3, 1) := by decide +kernel
theorem dMo_warps_64 : decode cMo_warps 64 = .ok (.iinc 5 1, 3) := by decide +kernel
theorem dMo_warps_67 : decode cMo_warps 67 = .ok (.goto (-42), 3) := by decide +kernel
theorem dMo_warps_70 : decode cMo_warps 70 = .ok (.dconst 0, 1) := by decide +kernel
theorem dMo_warps_71 : decode cMo_warps 71 = .ok (.dstore 5, 2) := by decide +kernel
theorem dMo_warps_73 : decode cMo_warps 73 = .ok (.iconst 0, 1) := by decide +kernel
theorem dMo_warps_74 : decode cMo_warps 74 = .ok (.istore 7, 2) := by decide +kernel
theorem dMo_warps_76 : decode cMo_warps 76 = .ok (.iload_n 1, 1) := by decide +kernel
theorem dMo_warps_77 : decode cMo_warps 77 = .ok (.ifCond .le 27, 3) := by decide +kernel
theorem dMo_warps_80 : decode cMo_warps 80 = .ok (.iload_n 2, 1) := by decide +kernel
theorem dMo_warps_81 : decode cMo_warps 81 = .ok (.ifCond .le 23, 3) := by decide +kernel
theorem dMo_warps_84 : decode cMo_warps 84 = .ok (.aload_n 0, 1) := by decide +kernel
theorem dMo_warps_85 : decode cMo_warps 85 = .ok (.getfield 68, 3) := by decide +kernel
theorem dMo_warps_88 : decode cMo_warps 88 = .ok (.bipush 8, 2) := by decide +kernel
theorem dMo_warps_90 : decode cMo_warps 90 = .ok (.iload_n 1, 1) := by decide +kernel
theorem dMo_warps_91 : decode cMo_warps 91 = .ok (.iconst 1, 1) := by decide +kernel
theorem dMo_warps_92 : decode cMo_warps 92 = .ok (.isub, 1) := by decide +kernel
theorem dMo_warps_93 : decode cMo_warps 93 = .ok (.imul, 1) := by decide +kernel
theorem dMo_warps_94 : decode cMo_warps 94 = .ok (.iload_n 2, 1) := by decide +kernel
theorem dMo_warps_95 : decode cMo_warps 95 = .ok (.iadd, 1) := by decide +kernel
theorem dMo_warps_96 : decode cMo_warps 96 = .ok (.iconst 1, 1) := by decide +kernel
theorem dMo_warps_97 : decode cMo_warps 97 = .ok (.isub, 1) := by decide +kernel
theorem dMo_warps_98 : decode cMo_warps 98 = .ok (.daload, 1) := by decide +kernel
theorem dMo_warps_99 : decode cMo_warps 99 = .ok (.dstore 5, 2) := by decide +kernel
theorem dMo_warps_101 : decode cMo_warps 101 = .ok (.iconst 1, 1) := by decide +kernel
theorem dMo_warps_102 : decode cMo_warps 102 = .ok (.istore 7, 2) := by decide +kernel
theorem dMo_warps_104 : decode cMo_warps 104 = .ok (.iload_n 1, 1) := by decide +kernel
theorem dMo_warps_105 : decode cMo_warps 105 = .ok (.ifCond .le 45, 3) := by decide +kernel
theorem dMo_warps_108 : decode cMo_warps 108 = .ok (.iload 7, 2) := by decide +kernel
theorem dMo_warps_110 : decode cMo_warps 110 = .ok (.ifCond .eq 22, 3) := by decide +kernel
theorem dMo_warps_113 : decode cMo_warps 113 = .ok (.aload_n 0, 1) := by decide +kernel
theorem dMo_warps_114 : decode cMo_warps 114 = .ok (.getfield 68, 3) := by decide +kernel
theorem dMo_warps_117 : decode cMo_warps 117 = .ok (.bipush 8, 2) := by decide +kernel
theorem dMo_warps_119 : decode cMo_warps 119 = .ok (.iload_n 1, 1) := by decide +kernel
theorem dMo_warps_120 : decode cMo_warps 120 = .ok (.iconst 1, 1) := by decide +kernel
theorem dMo_warps_121 : decode cMo_warps 121 = .ok (.isub, 1) := by decide +kernel
theorem dMo_warps_122 : decode cMo_warps 122 = .ok (.imul, 1) := by decide +kernel
theorem dMo_warps_123 : decode cMo_warps 123 = .ok (.iload_n 2, 1) := by decide +kernel
theorem dMo_warps_124 : decode cMo_warps 124 = .ok (.iadd, 1) := by decide +kernel
theorem dMo_warps_125 : decode cMo_warps 125 = .ok (.daload, 1) := by decide +kernel
theorem dMo_warps_126 : decode cMo_warps 126 = .ok (.dload 5, 2) := by decide +kernel
theorem dMo_warps_128 : decode cMo_warps 128 = .ok (.dcmp .g, 1) := by decide +kernel
theorem dMo_warps_129 : decode cMo_warps 129 = .ok (.ifCond .ge 21, 3) := by decide +kernel
theorem dMo_warps_132 : decode cMo_warps 132 = .ok (.aload_n 0, 1) := by decide +kernel
theorem dMo_warps_133 : decode cMo_warps 133 = .ok (.getfield 68, 3) := by decide +kernel
theorem dMo_warps_136 : decode cMo_warps 136 = .ok (.bipush 8, 2) := by decide +kernel
theorem dMo_warps_138 : decode cMo_warps 138 = .ok (.iload_n 1, 1) := by decide +kernel
theorem dMo_warps_139 : decode cMo_warps 139 = .ok (.iconst 1, 1) := by decide +kernel
theorem dMo_warps_140 : decode cMo_warps 140 = .ok (.isub, 1) := by decide +kernel
theorem dMo_warps_141 : decode cMo_warps 141 = .ok (.imul, 1) := by decide +kernel
theorem dMo_warps_142 : decode cMo_warps 142 = .ok (.iload_n 2, 1) := by decide +kernel
theorem dMo_warps_143 : decode cMo_warps 143 = .ok (.iadd, 1) := by decide +kernel
theorem dMo_warps_144 : decode cMo_warps 144 = .ok (.daload, 1) := by decide +kernel
theorem dMo_warps_145 : decode cMo_warps 145 = .ok (.dstore 5, 2) := by decide +kernel
theorem dMo_warps_147 : decode cMo_warps 147 = .ok (.iconst 1, 1) := by decide +kernel
theorem dMo_warps_148 : decode cMo_warps 148 = .ok (.istore 7, 2) := by decide +kernel
theorem dMo_warps_150 : decode cMo_warps 150 = .ok (.iload_n 2, 1) := by decide +kernel
theorem dMo_warps_151 : decode cMo_warps 151 = .ok (.ifCond .le 45, 3) := by decide +kernel
theorem dMo_warps_154 : decode cMo_warps 154 = .ok (.iload 7, 2) := by decide +kernel
theorem dMo_warps_156 : decode cMo_warps 156 = .ok (.ifCond .eq 22, 3) := by decide +kernel
theorem dMo_warps_159 : decode cMo_warps 159 = .ok (.aload_n 0, 1) := by decide +kernel
theorem dMo_warps_160 : decode cMo_warps 160 = .ok (.getfield 68, 3) := by decide +kernel
theorem dMo_warps_163 : decode cMo_warps 163 = .ok (.bipush 8, 2) := by decide +kernel
theorem dMo_warps_165 : decode cMo_warps 165 = .ok (.iload_n 1, 1) := by decide +kernel
theorem dMo_warps_166 : decode cMo_warps 166 = .ok (.imul, 1) := by decide +kernel
theorem dMo_warps_167 : decode cMo_warps 167 = .ok (.iload_n 2, 1) := by decide +kernel
theorem dMo_warps_168 : decode cMo_warps 168 = .ok (.iadd, 1) := by decide +kernel
theorem dMo_warps_169 : decode cMo_warps 169 = .ok (.iconst 1, 1) := by decide +kernel
theorem dMo_warps_170 : decode cMo_warps 170 = .ok (.isub, 1) := by decide +kernel
theorem dMo_warps_171 : decode cMo_warps 171 = .ok (.daload, 1) := by decide +kernel
theorem dMo_warps_172 : decode cMo_warps 172 = .ok (.dload 5, 2) := by decide +kernel
theorem dMo_warps_174 : decode cMo_warps 174 = .ok (.dcmp .g, 1) := by decide +kernel
theorem dMo_warps_175 : decode cMo_warps 175 = .ok (.ifCond .ge 21, 3) := by decide +kernel
theorem dMo_warps_178 : decode cMo_warps 178 = .ok (.aload_n 0, 1) := by decide +kernel
theorem dMo_warps_179 : decode cMo_warps 179 = .ok (.getfield 68, 3) := by decide +kernel
theorem dMo_warps_182 : decode cMo_warps 182 = .ok (.bipush 8, 2) := by decide +kernel
theorem dMo_warps_184 : decode cMo_warps 184 = .ok (.iload_n 1, 1) := by decide +kernel
theorem dMo_warps_185 : decode cMo_warps 185 = .ok (.imul, 1) := by decide +kernel
theorem dMo_warps_186 : decode cMo_warps 186 = .ok (.iload_n 2, 1) := by decide +kernel
theorem dMo_warps_187 : decode cMo_warps 187 = .ok (.iadd, 1) := by decide +kernel
theorem dMo_warps_188 : decode cMo_warps 188 = .ok (.iconst 1, 1) := by decide +kernel
theorem dMo_warps_189 : decode cMo_warps 189 = .ok (.isub, 1) := by decide +kernel
theorem dMo_warps_190 : decode cMo_warps 190 = .ok (.daload, 1) := by decide +kernel
theorem dMo_warps_191 : decode cMo_warps 191 = .ok (.dstore 5, 2) := by decide +kernel
theorem dMo_warps_193 : decode cMo_warps 193 = .ok (.iconst 1, 1) := by decide +kernel
theorem dMo_warps_194 : decode cMo_warps 194 = .ok (.istore 7, 2) := by decide +kernel
theorem dMo_warps_196 : decode cMo_warps 196 = .ok (.aload_n 0, 1) := by decide +kernel
theorem dMo_warps_197 : decode cMo_warps 197 = .ok (.getfield 68, 3) := by decide +kernel
theorem dMo_warps_200 : decode cMo_warps 200 = .ok (.bipush 8, 2) := by decide +kernel
theorem dMo_warps_202 : decode cMo_warps 202 = .ok (.iload_n 1, 1) := by decide +kernel
theorem dMo_warps_203 : decode cMo_warps 203 = .ok (.imul, 1) := by decide +kernel
theorem dMo_warps_204 : decode cMo_warps 204 = .ok (.iload_n 2, 1) := by decide +kernel
theorem dMo_warps_205 : decode cMo_warps 205 = .ok (.iadd, 1) := by decide +kernel
theorem dMo_warps_206 : decode cMo_warps 206 = .ok (.iload 7, 2) := by decide +kernel
theorem dMo_warps_208 : decode cMo_warps 208 = .ok (.ifCond .eq 10, 3) := by decide +kernel
theorem dMo_warps_211 : decode cMo_warps 211 = .ok (.dload_n 3, 1) := by decide +kernel
theorem dMo_warps_212 : decode cMo_warps 212 = .ok (.dload 5, 2) := by decide +kernel
theorem dMo_warps_214 : decode cMo_warps 214 = .ok (.dadd, 1) := by decide +kernel
theorem dMo_warps_215 : decode cMo_warps 215 = .ok (.goto 4, 3) := by decide +kernel
theorem dMo_warps_218 : decode cMo_warps 218 = .ok (.dload_n 3, 1) := by decide +kernel
theorem dMo_warps_219 : decode cMo_warps 219 = .ok (.dastore, 1) := by decide +kernel
theorem dMo_warps_220 : decode cMo_warps 220 = .ok (.iinc 2 1, 3) := by decide +kernel
theorem dMo_warps_223 : decode cMo_warps 223 = .ok (.goto (-211), 3) := by decide +kernel
theorem dMo_warps_226 : decode cMo_warps 226 = .ok (.iinc 1 1, 3) := by decide +kernel
theorem dMo_warps_229 : decode cMo_warps 229 = .ok (.goto (-227), 3) := by decide +kernel
theorem dMo_warps_232 : decode cMo_warps 232 = .ok (.aload_n 0, 1) := by decide +kernel
theorem dMo_warps_233 : decode cMo_warps 233 = .ok (.getfield 68, 3) := by decide +kernel
theorem dMo_warps_236 : decode cMo_warps 236 = .ok (.bipush 8, 2) := by decide +kernel
theorem dMo_warps_238 : decode cMo_warps 238 = .ok (.aload_n 0, 1) := by decide +kernel
theorem dMo_warps_239 : decode cMo_warps 239 = .ok (.getfield 172, 3) := by decide +kernel
theorem dMo_warps_242 : decode cMo_warps 242 = .ok (.iconst 1, 1) := by decide +kernel
theorem dMo_warps_243 : decode cMo_warps 243 = .ok (.isub, 1) := by decide +kernel
theorem dMo_warps_244 : decode cMo_warps 244 = .ok (.imul, 1) := by decide +kernel
theorem dMo_warps_245 : decode cMo_warps 245 = .ok (.aload_n 0, 1) := by decide +kernel
theorem dMo_warps_246 : decode cMo_warps 246 = .ok (.getfield 175, 3) := by decide +kernel
theorem dMo_warps_249 : decode cMo_warps 249 = .ok (.iadd, 1) := by decide +kernel
theorem dMo_warps_250 : decode cMo_warps 250 = .ok (.iconst 1, 1) := by decide +kernel
theorem dMo_warps_251 : decode cMo_warps 251 = .ok (.isub, 1) := by decide +kernel
theorem dMo_warps_252 : decode cMo_warps 252 = .ok (.daload, 1) := by decide +kernel
theorem dMo_warps_253 : decode cMo_warps 253 = .ok (.aload_n 0, 1) := by decide +kernel
theorem dMo_warps_254 : decode cMo_warps 254 = .ok (.getfield 172, 3) := by decide +kernel
theorem dMo_warps_257 : decode cMo_warps 257 = .ok (.aload_n 0, 1) := by decide +kernel
theorem dMo_warps_258 : decode cMo_warps 258 = .ok (.getfield 175, 3) := by decide +kernel
theorem dMo_warps_261 : decode cMo_warps 261 = .ok (.iadd, 1) := by decide +kernel
theorem dMo_warps_262 : decode cMo_warps 262 = .ok (.i2d, 1) := by decide +kernel
theorem dMo_warps_263 : decode cMo_warps 263 = .ok (.ddiv, 1) := by decide +kernel
theorem dMo_warps_264 : decode cMo_warps 264 = .ok (.dreturn, 1) := by decide +kernel
theorem dMo_hear_0 : decode cMo_hear 0 = .ok (.aload_n 0, 1) := by decide +kernel
theorem dMo_hear_1 : decode cMo_hear 1 = .ok (.iconst 0, 1) := by decide +kernel
theorem dMo_hear_2 : decode cMo_hear 2 = .ok (.putfield 79, 3) := by decide +kernel
theorem dMo_hear_5 : decode cMo_hear 5 = .ok (.aload_n 0, 1) := by decide +kernel
theorem dMo_hear_6 : decode cMo_hear 6 = .ok (.invokevirtual 155, 3) := by decide +kernel
theorem dMo_hear_9 : decode cMo_hear 9 = .ok (.istore_n 1, 1) := by decide +kernel
theorem dMo_hear_10 : decode cMo_hear 10 = .ok (.iconst 0, 1) := by decide +kernel
theorem dMo_hear_11 : decode cMo_hear 11 = .ok (.istore_n 2, 1) := by decide +kernel
theorem dMo_hear_12 : decode cMo_hear 12 = .ok (.aload_n 0, 1) := by decide +kernel
theorem dMo_hear_13 : decode cMo_hear 13 = .ok (.iload_n 1, 1) := by decide +kernel
theorem dMo_hear_14 : decode cMo_hear 14 = .ok (.ifCond .ne 7, 3) := by decide +kernel
theorem dMo_hear_17 : decode cMo_hear 17 = .ok (.iconst 1, 1) := by decide +kernel
theorem dMo_hear_18 : decode cMo_hear 18 = .ok (.goto 4, 3) := by decide +kernel
theorem dMo_hear_21 : decode cMo_hear 21 = .ok (.iconst 0, 1) := by decide +kernel
theorem dMo_hear_22 : decode cMo_hear 22 = .ok (.iconst 1, 1) := by decide +kernel
theorem dMo_hear_23 : decode cMo_hear 23 = .ok (.invokevirtual 88, 3) := by decide +kernel
theorem dMo_hear_26 : decode cMo_hear 26 = .ok (.ifCond .eq 5, 3) := by decide +kernel
theorem dMo_hear_29 : decode cMo_hear 29 = .ok (.iconst 0, 1) := by decide +kernel
theorem dMo_hear_30 : decode cMo_hear 30 = .ok (.ireturn, 1) := by decide +kernel
theorem dMo_hear_31 : decode cMo_hear 31 = .ok (.aload_n 0, 1) := by decide +kernel
theorem dMo_hear_32 : decode cMo_hear 32 = .ok (.iconst 0, 1) := by decide +kernel
theorem dMo_hear_33 : decode cMo_hear 33 = .ok (.putfield 128, 3) := by decide +kernel
theorem dMo_hear_36 : decode cMo_hear 36 = .ok (.iload_n 2, 1) := by decide +kernel
theorem dMo_hear_37 : decode cMo_hear 37 = .ok (.iload_n 1, 1) := by decide +kernel
theorem dMo_hear_38 : decode cMo_hear 38 = .ok (.if_icmp .ge 98, 3) := by decide +kernel
theorem dMo_hear_41 : decode cMo_hear 41 = .ok (.aload_n 0, 1) := by decide +kernel
theorem dMo_hear_42 : decode cMo_hear 42 = .ok (.iload_n 2, 1) := by decide +kernel
theorem dMo_hear_43 : decode cMo_hear 43 = .ok (.invokevirtual 186, 3) := by decide +kernel
theorem dMo_hear_46 : decode cMo_hear 46 = .ok (.ifCond .ne 9, 3) := by decide +kernel
theorem dMo_hear_49 : decode cMo_hear 49 = .ok (.iinc 2 1, 3) := by decide +kernel
theorem dMo_hear_52 : decode cMo_hear 52 = .ok (.goto (-16), 3) := by decide +kernel
theorem dMo_hear_55 : decode cMo_hear 55 = .ok (.iload_n 2, 1) := by decide +kernel
theorem dMo_hear_56 : decode cMo_hear 56 = .ok (.istore_n 3, 1) := by decide +kernel
theorem dMo_hear_57 : decode cMo_hear 57 = .ok (.iconst 0, 1) := by decide +kernel
theorem dMo_hear_58 : decode cMo_hear 58 = .ok (.istore 4, 2) := by decide +kernel
theorem dMo_hear_60 : decode cMo_hear 60 = .ok (.iconst 1, 1) := by decide +kernel
theorem dMo_hear_61 : decode cMo_hear 61 = .ok (.istore 5, 2) := by decide +kernel
theorem dMo_hear_63 : decode cMo_hear 63 = .ok (.iload_n 2, 1) := by decide +kernel
theorem dMo_hear_64 : decode cMo_hear 64 = .ok (.iconst 1, 1) := by decide +kernel
theorem dMo_hear_65 : decode cMo_hear 65 = .ok (.iadd, 1) := by decide +kernel
theorem dMo_hear_66 : decode cMo_hear 66 = .ok (.istore 6, 2) := by decide +kernel
theorem dMo_hear_68 : decode cMo_hear 68 = .ok (.iload 6, 2) := by decide +kernel
theorem dMo_hear_70 : decode cMo_hear 70 = .ok (.iload_n 1, 1) := by decide +kernel
theorem dMo_hear_71 : decode cMo_hear 71 = .ok (.if_icmp .ge 49, 3) := by decide +kernel
theorem dMo_hear_74 : decode cMo_hear 74 = .ok (.iload 5, 2) := by decide +kernel
theorem dMo_hear_76 : decode cMo_hear 76 = .ok (.bipush 10, 2) := by decide +kernel
theorem dMo_hear_78 : decode cMo_hear 78 = .ok (.if_icmp .ge 42, 3) := by decide +kernel
theorem dMo_hear_81 : decode cMo_hear 81 = .ok (.iload 4, 2) := by decide +kernel
theorem dMo_hear_83 : decode cMo_hear 83 = .ok (.aload_n 0, 1) := by decide +kernel
theorem dMo_hear_84 : decode cMo_hear 84 = .ok (.getfield 16, 3) := by decide +kernel
theorem dMo_hear_87 : decode cMo_hear 87 = .ok (.if_icmp .ge 33, 3) := by decide +kernel
theorem dMo_hear_90 : decode cMo_hear 90 = .ok (.aload_n 0, 1) := by decide +kernel
theorem dMo_hear_91 : decode cMo_hear 91 = .ok (.iload 6, 2) := by decide +kernel
theorem dMo_hear_93 : decode cMo_hear 93 = .ok (.invokevirtual 186, 3) := by decide +kernel
theorem dMo_hear_96 : decode cMo_hear 96 = .ok (.ifCond .eq 12, 3) := by decide +kernel
theorem dMo_hear_99 : decode cMo_hear 99 = .ok (.iload 6, 2) := by decide +kernel
theorem dMo_hear_101 : decode cMo_hear 101 = .ok (.istore_n 3, 1) := by decide +kernel
theorem dMo_hear_102 : decode cMo_hear 102 = .ok (.iconst 0, 1) := by decide +kernel
theorem dMo_hear_103 : decode cMo_hear 103 = .ok (.istore 4, 2) := by decide +kernel
theorem dMo_hear_105 : decode cMo_hear 105 = .ok (.goto 6, 3) := by decide +kernel
theorem dMo_hear_108 : decode cMo_hear 108 = .ok (.iinc 4 1, 3) := by decide +kernel
theorem dMo_hear_111 : decode cMo_hear 111 = .ok (.iinc 5 1, 3) := by decide +kernel
theorem dMo_hear_114 : decode cMo_hear 114 = .ok (.iinc 6 1, 3) := by decide +kernel
theorem dMo_hear_117 : decode cMo_hear 117 = .ok (.goto (-49), 3) := by decide +kernel
theorem dMo_hear_120 : decode cMo_hear 120 = .ok (.aload_n 0, 1) := by decide +kernel
theorem dMo_hear_121 : decode cMo_hear 121 = .ok (.iload_n 2, 1) := by decide +kernel
theorem dMo_hear_122 : decode cMo_hear 122 = .ok (.iload_n 3, 1) := by decide +kernel
theorem dMo_hear_123 : decode cMo_hear 123 = .ok (.iload_n 2, 1) := by decide +kernel
theorem dMo_hear_124 : decode cMo_hear 124 = .ok (.isub, 1) := by decide +kernel
theorem dMo_hear_125 : decode cMo_hear 125 = .ok (.iconst 1, 1) := by decide +kernel
theorem dMo_hear_126 : decode cMo_hear 126 = .ok (.iadd, 1) := by decide +kernel
theorem dMo_hear_127 : decode cMo_hear 127 = .ok (.invokevirtual 190, 3) := by decide +kernel
theorem dMo_hear_130 : decode cMo_hear 130 = .ok (.iload 6, 2) := by decide +kernel
theorem dMo_hear_132 : decode cMo_hear 132 = .ok (.istore_n 2, 1) := by decide +kernel
theorem dMo_hear_133 : decode cMo_hear 133 = .ok (.goto (-97), 3) := by decide +kernel
theorem dMo_hear_136 : decode cMo_hear 136 = .ok (.aload_n 0, 1) := by decide +kernel
theorem dMo_hear_137 : decode cMo_hear 137 = .ok (.getfield 128, 3) := by decide +kernel
theorem dMo_hear_140 : decode cMo_hear 140 = .ok (.ireturn, 1) := by decide +kernel
theorem dMo_isLoud_0 : decode cMo_isLoud 0 = .ok (.dconst 0, 1) := by decide +kernel
theorem dMo_isLoud_1 : decode cMo_isLoud 1 = .ok (.dstore_n 2, 1) := by decide +kernel
theorem dMo_isLoud_2 : decode cMo_isLoud 2 = .ok (.iconst 0, 1) := by decide +kernel
theorem dMo_isLoud_3 : decode cMo_isLoud 3 = .ok (.istore 4, 2) := by decide +kernel
theorem dMo_isLoud_5 : decode cMo_isLoud 5 = .ok (.iload 4, 2) := by decide +kernel
theorem dMo_isLoud_7 : decode cMo_isLoud 7 = .ok (.iconst 4, 1) := by decide +kernel
theorem dMo_isLoud_8 : decode cMo_isLoud 8 = .ok (.if_icmp .ge 19, 3) := by decide +kernel
theorem dMo_isLoud_11 : decode cMo_isLoud 11 = .ok (.dload_n 2, 1) := by decide +kernel
theorem dMo_isLoud_12 : decode cMo_isLoud 12 = .ok (.aload_n 0, 1) := by decide +kernel
theorem dMo_isLoud_13 : decode cMo_isLoud 13 = .ok (.iload_n 1, 1) := by decide +kernel
theorem dMo_isLoud_14 : decode cMo_isLoud 14 = .ok (.iload 4, 2) := by decide +kernel
theorem dMo_isLoud_16 : decode cMo_isLoud 16 = .ok (.invokevirtual 146, 3) := by decide +kernel
theorem dMo_isLoud_19 : decode cMo_isLoud 19 = .ok (.dadd, 1) := by decide +kernel
theorem dMo_isLoud_20 : decode cMo_isLoud 20 = .ok (.dstore_n 2, 1) := by decide +kernel
theorem dMo_isLoud_21 : decode cMo_isLoud 21 = .ok (.iinc 4 1, 3) := by decide +kernel
theorem dMo_isLoud_24 : decode cMo_isLoud 24 = .ok (.goto (-19), 3) := by decide +kernel
theorem dMo_isLoud_27 : decode cMo_isLoud 27 = .ok (.dload_n 2, 1) := by decide +kernel
theorem dMo_isLoud_28 : decode cMo_isLoud 28 = .ok (.aload_n 0, 1) := by decide +kernel
theorem dMo_isLoud_29 : decode cMo_isLoud 29 = .ok (.getfield 21, 3) := by decide +kernel
theorem dMo_isLoud_32 : decode cMo_isLoud 32 = .ok (.dcmp .l, 1) := by decide +kernel
theorem dMo_isLoud_33 : decode cMo_isLoud 33 = .ok (.ifCond .lt 7, 3) := by decide +kernel
theorem dMo_isLoud_36 : decode cMo_isLoud 36 = .ok (.iconst 1, 1) := by decide +kernel
theorem dMo_isLoud_37 : decode cMo_isLoud 37 = .ok (.goto 4, 3) := by decide +kernel
theorem dMo_isLoud_40 : decode cMo_isLoud 40 = .ok (.iconst 0, 1) := by decide +kernel
theorem dMo_isLoud_41 : decode cMo_isLoud 41 = .ok (.ireturn, 1) := by decide +kernel
theorem dMo_writes_0 : decode cMo_writes 0 = .ok (.aload_n 0, 1) := by decide +kernel
theorem dMo_writes_1 : decode cMo_writes 1 = .ok (.getfield 128, 3) := by decide +kernel
theorem dMo_writes_4 : decode cMo_writes 4 = .ok (.istore_n 3, 1) := by decide +kernel
theorem dMo_writes_5 : decode cMo_writes 5 = .ok (.aload_n 0, 1) := by decide +kernel
theorem dMo_writes_6 : decode cMo_writes 6 = .ok (.dup, 1) := by decide +kernel
theorem dMo_writes_7 : decode cMo_writes 7 = .ok (.getfield 128, 3) := by decide +kernel
theorem dMo_writes_10 : decode cMo_writes 10 = .ok (.iconst 1, 1) := by decide +kernel
theorem dMo_writes_11 : decode cMo_writes 11 = .ok (.iadd, 1) := by decide +kernel
theorem dMo_writes_12 : decode cMo_writes 12 = .ok (.putfield 128, 3) := by decide +kernel
theorem dMo_writes_15 : decode cMo_writes 15 = .ok (.aload_n 0, 1) := by decide +kernel
theorem dMo_writes_16 : decode cMo_writes 16 = .ok (.getfield 43, 3) := by decide +kernel
theorem dMo_writes_19 : decode cMo_writes 19 = .ok (.iload_n 3, 1) := by decide +kernel
theorem dMo_writes_20 : decode cMo_writes 20 = .ok (.iload_n 1, 1) := by decide +kernel
theorem dMo_writes_21 : decode cMo_writes 21 = .ok (.iastore, 1) := by decide +kernel
theorem dMo_writes_22 : decode cMo_writes 22 = .ok (.aload_n 0, 1) := by decide +kernel
theorem dMo_writes_23 : decode cMo_writes 23 = .ok (.getfield 46, 3) := by decide +kernel
theorem dMo_writes_26 : decode cMo_writes 26 = .ok (.iload_n 3, 1) := by decide +kernel
theorem dMo_writes_27 : decode cMo_writes 27 = .ok (.iload_n 2, 1) := by decide +kernel
theorem dMo_writes_28 : decode cMo_writes 28 = .ok (.iastore, 1) := by decide +kernel
theorem dMo_writes_29 : decode cMo_writes 29 = .ok (.aload_n 0, 1) := by decide +kernel
theorem dMo_writes_30 : decode cMo_writes 30 = .ok (.getfield 49, 3) := by decide +kernel
theorem dMo_writes_33 : decode cMo_writes 33 = .ok (.iload_n 3, 1) := by decide +kernel
theorem dMo_writes_34 : decode cMo_writes 34 = .ok (.iconst (-1), 1) := by decide +kernel
theorem dMo_writes_35 : decode cMo_writes 35 = .ok (.iastore, 1) := by decide +kernel
theorem dMo_writes_36 : decode cMo_writes 36 = .ok (.aload_n 0, 1) := by decide +kernel
theorem dMo_writes_37 : decode cMo_writes 37 = .ok (.getfield 40, 3) := by decide +kernel
theorem dMo_writes_40 : decode cMo_writes 40 = .ok (.iload_n 3, 1) := by decide +kernel
theorem dMo_writes_41 : decode cMo_writes 41 = .ok (.bipush 63, 2) := by decide +kernel
theorem dMo_writes_43 : decode cMo_writes 43 = .ok (.iastore, 1) := by decide +kernel
theorem dMo_writes_44 : decode cMo_writes 44 = .ok (.aload_n 0, 1) := by decide +kernel
theorem dMo_writes_45 : decode cMo_writes 45 = .ok (.getfield 59, 3) := by decide +kernel
theorem dMo_writes_48 : decode cMo_writes 48 = .ok (.iload_n 3, 1) := by decide +kernel
theorem dMo_writes_49 : decode cMo_writes 49 = .ok (.dconst 0, 1) := by decide +kernel
theorem dMo_writes_50 : decode cMo_writes 50 = .ok (.dastore, 1) := by decide +kernel
theorem dMo_writes_51 : decode cMo_writes 51 = .ok (.iconst 0, 1) := by decide +kernel
theorem dMo_writes_52 : decode cMo_writes 52 = .ok (.istore 4, 2) := by decide +kernel
theorem dMo_writes_54 : decode cMo_writes 54 = .ok (.iload 4, 2) := by decide +kernel
theorem dMo_writes_56 : decode cMo_writes 56 = .ok (.iload_n 2, 1) := by decide +kernel
theorem dMo_writes_57 : decode cMo_writes 57 = .ok (.if_icmp .ge 46, 3) := by decide +kernel
theorem dMo_writes_60 : decode cMo_writes 60 = .ok (.iconst 0, 1) := by decide +kernel
theorem dMo_writes_61 : decode cMo_writes 61 = .ok (.istore 5, 2) := by decide +kernel
theorem dMo_writes_63 : decode cMo_writes 63 = .ok (.iload 5, 2) := by decide +kernel
theorem dMo_writes_65 : decode cMo_writes 65 = .ok (.iconst 4, 1) := by decide +kernel
theorem dMo_writes_66 : decode cMo_writes 66 = .ok (.if_icmp .ge 31, 3) := by decide +kernel
theorem dMo_writes_69 : decode cMo_writes 69 = .ok (.aload_n 0, 1) := by decide +kernel
theorem dMo_writes_70 : decode cMo_writes 70 = .ok (.getfield 62, 3) := by decide +kernel
theorem dMo_writes_73 : decode cMo_writes 73 = .ok (.iconst 4, 1) := by decide +kernel
theorem dMo_writes_74 : decode cMo_writes 74 = .ok (.iload 4, 2) := by decide +kernel
theorem dMo_writes_76 : decode cMo_writes 76 = .ok (.imul, 1) := by decide +kernel
theorem dMo_writes_77 : decode cMo_writes 77 = .ok (.iload 5, 2) := by decide +kernel
theorem dMo_writes_79 : decode cMo_writes 79 = .ok (.iadd, 1) := by decide +kernel
theorem dMo_writes_80 : decode cMo_writes 80 = .ok (.aload_n 0, 1) := by decide +kernel
theorem dMo_writes_81 : decode cMo_writes 81 = .ok (.iload_n 1, 1) := by decide +kernel
theorem dMo_writes_82 : decode cMo_writes 82 = .ok (.iload 4, 2) := by decide +kernel
theorem dMo_writes_84 : decode cMo_writes 84 = .ok (.iadd, 1) := by decide +kernel
theorem dMo_writes_85 : decode cMo_writes 85 = .ok (.iload 5, 2) := by decide +kernel
theorem dMo_writes_87 : decode cMo_writes 87 = .ok (.invokevirtual 160, 3) := by decide +kernel
theorem dMo_writes_90 : decode cMo_writes 90 = .ok (.dastore, 1) := by decide +kernel
theorem dMo_writes_91 : decode cMo_writes 91 = .ok (.iinc 5 1, 3) := by decide +kernel
theorem dMo_writes_94 : decode cMo_writes 94 = .ok (.goto (-31), 3) := by decide +kernel
theorem dMo_writes_97 : decode cMo_writes 97 = .ok (.iinc 4 1, 3) := by decide +kernel
theorem dMo_writes_100 : decode cMo_writes 100 = .ok (.goto (-46), 3) := by decide +kernel
theorem dMo_writes_103 : decode cMo_writes 103 = .ok (.iconst 0, 1) := by decide +kernel
theorem dMo_writes_104 : decode cMo_writes 104 = .ok (.istore 4, 2) := by decide +kernel
theorem dMo_writes_106 : decode cMo_writes 106 = .ok (.iload 4, 2) := by decide +kernel
theorem dMo_writes_108 : decode cMo_writes 108 = .ok (.aload_n 0, 1) := by decide +kernel
theorem dMo_writes_109 : decode cMo_writes 109 = .ok (.getfield 169, 3) := by decide +kernel
theorem dMo_writes_112 : decode cMo_writes 112 = .ok (.if_icmp .ge 81, 3) := by decide +kernel
theorem dMo_writes_115 : decode cMo_writes 115 = .ok (.aload_n 0, 1) := by decide +kernel
theorem dMo_writes_116 : decode cMo_writes 116 = .ok (.aload_n 0, 1) := by decide +kernel
theorem dMo_writes_117 : decode cMo_writes 117 = .ok (.getfield 65, 3) := by decide +kernel
theorem dMo_writes_120 : decode cMo_writes 120 = .ok (.iload 4, 2) := by decide +kernel
theorem dMo_writes_122 : decode cMo_writes 122 = .ok (.invokevirtual 178, 3) := by decide +kernel
theorem dMo_writes_125 : decode cMo_writes 125 = .ok (.aload_n 0, 1) := by decide +kernel
theorem dMo_writes_126 : decode cMo_writes 126 = .ok (.iload_n 2, 1) := by decide +kernel
theorem dMo_writes_127 : decode cMo_writes 127 = .ok (.putfield 172, 3) := by decide +kernel
theorem dMo_writes_130 : decode cMo_writes 130 = .ok (.aload_n 0, 1) := by decide +kernel
theorem dMo_writes_131 : decode cMo_writes 131 = .ok (.aload_n 0, 1) := by decide +kernel
theorem dMo_writes_132 : decode cMo_writes 132 = .ok (.getfield 37, 3) := by decide +kernel
theorem dMo_writes_135 : decode cMo_writes 135 = .ok (.iload 4, 2) := by decide +kernel
theorem dMo_writes_137 : decode cMo_writes 137 = .ok (.iaload, 1) := by decide +kernel
theorem dMo_writes_138 : decode cMo_writes 138 = .ok (.putfield 175, 3) := by decide +kernel
theorem dMo_writes_141 : decode cMo_writes 141 = .ok (.aload_n 0, 1) := by decide +kernel
theorem dMo_writes_142 : decode cMo_writes 142 = .ok (.invokevirtual 182, 3) := by decide +kernel
theorem dMo_writes_145 : decode cMo_writes 145 = .ok (.dstore 5, 2) := by decide +kernel
theorem dMo_writes_147 : decode cMo_writes 147 = .ok (.aload_n 0, 1) := by decide +kernel
theorem dMo_writes_148 : decode cMo_writes 148 = .ok (.getfield 49, 3) := by decide +kernel
theorem dMo_writes_151 : decode cMo_writes 151 = .ok (.iload_n 3, 1) := by decide +kernel
theorem dMo_writes_152 : decode cMo_writes 152 = .ok (.iaload, 1) := by decide +kernel
theorem dMo_writes_153 : decode cMo_writes 153 = .ok (.ifCond .lt 18, 3) := by decide +kernel
theorem dMo_writes_156 : decode cMo_writes 156 = .ok (.dload 5, 2) := by decide +kernel
theorem dMo_writes_158 : decode cMo_writes 158 = .ok (.aload_n 0, 1) := by decide +kernel
theorem dMo_writes_159 : decode cMo_writes 159 = .ok (.getfield 59, 3) := by decide +kernel
theorem dMo_writes_162 : decode cMo_writes 162 = .ok (.iload_n 3, 1) := by decide +kernel
theorem dMo_writes_163 : decode cMo_writes 163 = .ok (.daload, 1) := by decide +kernel
theorem dMo_writes_164 : decode cMo_writes 164 = .ok (.dcmp .g, 1) := by decide +kernel
theorem dMo_writes_165 : decode cMo_writes 165 = .ok (.ifCond .lt 6, 3) := by decide +kernel
theorem dMo_writes_168 : decode cMo_writes 168 = .ok (.goto 19, 3) := by decide +kernel
theorem dMo_writes_171 : decode cMo_writes 171 = .ok (.aload_n 0, 1) := by decide +kernel
theorem dMo_writes_172 : decode cMo_writes 172 = .ok (.getfield 49, 3) := by decide +kernel
theorem dMo_writes_175 : decode cMo_writes 175 = .ok (.iload_n 3, 1) := by decide +kernel
theorem dMo_writes_176 : decode cMo_writes 176 = .ok (.iload 4, 2) := by decide +kernel
theorem dMo_writes_178 : decode cMo_writes 178 = .ok (.iastore, 1) := by decide +kernel
theorem dMo_writes_179 : decode cMo_writes 179 = .ok (.aload_n 0, 1) := by decide +kernel
theorem dMo_writes_180 : decode cMo_writes 180 = .ok (.getfield 59, 3) := by decide +kernel
theorem dMo_writes_183 : decode cMo_writes 183 = .ok (.iload_n 3, 1) := by decide +kernel
theorem dMo_writes_184 : decode cMo_writes 184 = .ok (.dload 5, 2) := by decide +kernel
theorem dMo_writes_186 : decode cMo_writes 186 = .ok (.dastore, 1) := by decide +kernel
theorem dMo_writes_187 : decode cMo_writes 187 = .ok (.iinc 4 1, 3) := by decide +kernel
theorem dMo_writes_190 : decode cMo_writes 190 = .ok (.goto (-84), 3) := by decide +kernel
theorem dMo_writes_193 : decode cMo_writes 193 = .ok (.aload_n 0, 1) := by decide +kernel
theorem dMo_writes_194 : decode cMo_writes 194 = .ok (.getfield 169, 3) := by decide +kernel
theorem dMo_writes_197 : decode cMo_writes 197 = .ok (.ifCond .le 34, 3) := by decide +kernel
theorem dMo_writes_200 : decode cMo_writes 200 = .ok (.aload_n 0, 1) := by decide +kernel
theorem dMo_writes_201 : decode cMo_writes 201 = .ok (.getfield 59, 3) := by decide +kernel
theorem dMo_writes_204 : decode cMo_writes 204 = .ok (.iload_n 3, 1) := by decide +kernel
theorem dMo_writes_205 : decode cMo_writes 205 = .ok (.daload, 1) := by decide +kernel
theorem dMo_writes_206 : decode cMo_writes 206 = .ok (.aload_n 0, 1) := by decide +kernel
theorem dMo_writes_207 : decode cMo_writes 207 = .ok (.getfield 27, 3) := by decide +kernel
theorem dMo_writes_210 : decode cMo_writes 210 = .ok (.dcmp .g, 1) := by decide +kernel
theorem dMo_writes_211 : decode cMo_writes 211 = .ok (.ifCond .gt 20, 3) := by decide +kernel
theorem dMo_writes_214 : decode cMo_writes 214 = .ok (.aload_n 0, 1) := by decide +kernel
theorem dMo_writes_215 : decode cMo_writes 215 = .ok (.getfield 40, 3) := by decide +kernel
theorem dMo_writes_218 : decode cMo_writes 218 = .ok (.iload_n 3, 1) := by decide +kernel
theorem dMo_writes_219 : decode cMo_writes 219 = .ok (.aload_n 0, 1) := by decide +kernel
theorem dMo_writes_220 : decode cMo_writes 220 = .ok (.getfield 34, 3) := by decide +kernel
theorem dMo_writes_223 : decode cMo_writes 223 = .ok (.aload_n 0, 1) := by decide +kernel
theorem dMo_writes_224 : decode cMo_writes 224 = .ok (.getfield 49, 3) := by decide +kernel
theorem dMo_writes_227 : decode cMo_writes 227 = .ok (.iload_n 3, 1) := by decide +kernel
theorem dMo_writes_228 : decode cMo_writes 228 = .ok (.iaload, 1) := by decide +kernel
theorem dMo_writes_229 : decode cMo_writes 229 = .ok (.iaload, 1) := by decide +kernel
theorem dMo_writes_230 : decode cMo_writes 230 = .ok (.iastore, 1) := by decide +kernel
theorem dMo_writes_231 : decode cMo_writes 231 = .ok (.return_, 1) := by decide +kernel
theorem dMo_word_0 : decode cMo_word 0 = .ok (.aload_n 0, 1) := by decide +kernel
theorem dMo_word_1 : decode cMo_word 1 = .ok (.iconst 0, 1) := by decide +kernel
theorem dMo_word_2 : decode cMo_word 2 = .ok (.putfield 79, 3) := by decide +kernel
theorem dMo_word_5 : decode cMo_word 5 = .ok (.aload_n 0, 1) := by decide +kernel
theorem dMo_word_6 : decode cMo_word 6 = .ok (.iload_n 1, 1) := by decide +kernel
theorem dMo_word_7 : decode cMo_word 7 = .ok (.i2l, 1) := by decide +kernel
theorem dMo_word_8 : decode cMo_word 8 = .ok (.lconst 0, 1) := by decide +kernel
theorem dMo_word_9 : decode cMo_word 9 = .ok (.aload_n 0, 1) := by decide +kernel
theorem dMo_word_10 : decode cMo_word 10 = .ok (.getfield 128, 3) := by decide +kernel
theorem dMo_word_13 : decode cMo_word 13 = .ok (.iconst 1, 1) := by decide +kernel
theorem dMo_word_14 : decode cMo_word 14 = .ok (.isub, 1) := by decide +kernel
theorem dMo_word_15 : decode cMo_word 15 = .ok (.i2l, 1) := by decide +kernel
theorem dMo_word_16 : decode cMo_word 16 = .ok (.invokestatic 84, 3) := by decide +kernel
theorem dMo_word_19 : decode cMo_word 19 = .ok (.ifCond .ne 7, 3) := by decide +kernel
theorem dMo_word_22 : decode cMo_word 22 = .ok (.iconst 1, 1) := by decide +kernel
theorem dMo_word_23 : decode cMo_word 23 = .ok (.goto 4, 3) := by decide +kernel
theorem dMo_word_26 : decode cMo_word 26 = .ok (.iconst 0, 1) := by decide +kernel
theorem dMo_word_27 : decode cMo_word 27 = .ok (.iconst 1, 1) := by decide +kernel
theorem dMo_word_28 : decode cMo_word 28 = .ok (.invokevirtual 88, 3) := by decide +kernel
theorem dMo_word_31 : decode cMo_word 31 = .ok (.ifCond .ne 28, 3) := by decide +kernel
theorem dMo_word_34 : decode cMo_word 34 = .ok (.aload_n 0, 1) := by decide +kernel
theorem dMo_word_35 : decode cMo_word 35 = .ok (.iload_n 2, 1) := by decide +kernel
theorem dMo_word_36 : decode cMo_word 36 = .ok (.i2l, 1) := by decide +kernel
theorem dMo_word_37 : decode cMo_word 37 = .ok (.lconst 0, 1) := by decide +kernel
theorem dMo_word_38 : decode cMo_word 38 = .ok (.ldc2_w 194, 3) := by decide +kernel
theorem dMo_word_41 : decode cMo_word 41 = .ok (.invokestatic 84, 3) := by decide +kernel
theorem dMo_word_44 : decode cMo_word 44 = .ok (.ifCond .ne 7, 3) := by decide +kernel
theorem dMo_word_47 : decode cMo_word 47 = .ok (.iconst 1, 1) := by decide +kernel
theorem dMo_word_48 : decode cMo_word 48 = .ok (.goto 4, 3) := by decide +kernel
theorem dMo_word_51 : decode cMo_word 51 = .ok (.iconst 0, 1) := by decide +kernel
theorem dMo_word_52 : decode cMo_word 52 = .ok (.iconst 2, 1) := by decide +kernel
theorem dMo_word_53 : decode cMo_word 53 = .ok (.invokevirtual 88, 3) := by decide +kernel
theorem dMo_word_56 : decode cMo_word 56 = .ok (.ifCond .eq 5, 3) := by decide +kernel
theorem dMo_word_59 : decode cMo_word 59 = .ok (.iconst 0, 1) := by decide +kernel
theorem dMo_word_60 : decode cMo_word 60 = .ok (.ireturn, 1) := by decide +kernel
theorem dMo_word_61 : decode cMo_word 61 = .ok (.iload_n 2, 1) := by decide +kernel
theorem dMo_word_62 : decode cMo_word 62 = .ok (.tableswitch 81 0 4 #[34, 41, 48, 55, 62], 34) := by decide +kernel
theorem dMo_word_96 : decode cMo_word 96 = .ok (.aload_n 0, 1) := by decide +kernel
theorem dMo_word_97 : decode cMo_word 97 = .ok (.getfield 40, 3) := by decide +kernel
theorem dMo_word_100 : decode cMo_word 100 = .ok (.iload_n 1, 1) := by decide +kernel
theorem dMo_word_101 : decode cMo_word 101 = .ok (.iaload, 1) := by decide +kernel
theorem dMo_word_102 : decode cMo_word 102 = .ok (.ireturn, 1) := by decide +kernel
theorem dMo_word_103 : decode cMo_word 103 = .ok (.aload_n 0, 1) := by decide +kernel
theorem dMo_word_104 : decode cMo_word 104 = .ok (.getfield 43, 3) := by decide +kernel
theorem dMo_word_107 : decode cMo_word 107 = .ok (.iload_n 1, 1) := by decide +kernel
theorem dMo_word_108 : decode cMo_word 108 = .ok (.iaload, 1) := by decide +kernel
theorem dMo_word_109 : decode cMo_word 109 = .ok (.ireturn, 1) := by decide +kernel
theorem dMo_word_110 : decode cMo_word 110 = .ok (.aload_n 0, 1) := by decide +kernel
theorem dMo_word_111 : decode cMo_word 111 = .ok (.getfield 46, 3) := by decide +kernel
theorem dMo_word_114 : decode cMo_word 114 = .ok (.iload_n 1, 1) := by decide +kernel
theorem dMo_word_115 : decode cMo_word 115 = .ok (.iaload, 1) := by decide +kernel
theorem dMo_word_116 : decode cMo_word 116 = .ok (.ireturn, 1) := by decide +kernel
theorem dMo_word_117 : decode cMo_word 117 = .ok (.aload_n 0, 1) := by decide +kernel
theorem dMo_word_118 : decode cMo_word 118 = .ok (.getfield 49, 3) := by decide +kernel
theorem dMo_word_121 : decode cMo_word 121 = .ok (.iload_n 1, 1) := by decide +kernel
theorem dMo_word_122 : decode cMo_word 122 = .ok (.iaload, 1) := by decide +kernel
theorem dMo_word_123 : decode cMo_word 123 = .ok (.ireturn, 1) := by decide +kernel
theorem dMo_word_124 : decode cMo_word 124 = .ok (.bipush 16, 2) := by decide +kernel
theorem dMo_word_126 : decode cMo_word 126 = .ok (.aload_n 0, 1) := by decide +kernel
theorem dMo_word_127 : decode cMo_word 127 = .ok (.getfield 43, 3) := by decide +kernel
theorem dMo_word_130 : decode cMo_word 130 = .ok (.iload_n 1, 1) := by decide +kernel
theorem dMo_word_131 : decode cMo_word 131 = .ok (.iaload, 1) := by decide +kernel
theorem dMo_word_132 : decode cMo_word 132 = .ok (.imul, 1) := by decide +kernel
theorem dMo_word_133 : decode cMo_word 133 = .ok (.sipush 1000, 3) := by decide +kernel
theorem dMo_word_136 : decode cMo_word 136 = .ok (.imul, 1) := by decide +kernel
theorem dMo_word_137 : decode cMo_word 137 = .ok (.aload_n 0, 1) := by decide +kernel
theorem dMo_word_138 : decode cMo_word 138 = .ok (.getfield 13, 3) := by decide +kernel
theorem dMo_word_141 : decode cMo_word 141 = .ok (.idiv, 1) := by decide +kernel
theorem dMo_word_142 : decode cMo_word 142 = .ok (.ireturn, 1) := by decide +kernel
theorem dMo_word_143 : decode cMo_word 143 = .ok (.bipush 16, 2) := by decide +kernel
theorem dMo_word_145 : decode cMo_word 145 = .ok (.aload_n 0, 1) := by decide +kernel
theorem dMo_word_146 : decode cMo_word 146 = .ok (.getfield 43, 3) := by decide +kernel
theorem dMo_word_149 : decode cMo_word 149 = .ok (.iload_n 1, 1) := by decide +kernel
theorem dMo_word_150 : decode cMo_word 150 = .ok (.iaload, 1) := by decide +kernel
theorem dMo_word_151 : decode cMo_word 151 = .ok (.aload_n 0, 1) := by decide +kernel
theorem dMo_word_152 : decode cMo_word 152 = .ok (.getfield 46, 3) := by decide +kernel
theorem dMo_word_155 : decode cMo_word 155 = .ok (.iload_n 1, 1) := by decide +kernel
theorem dMo_word_156 : decode cMo_word 156 = .ok (.iaload, 1) := by decide +kernel
theorem dMo_word_157 : decode cMo_word 157 = .ok (.iadd, 1) := by decide +kernel
theorem dMo_word_158 : decode cMo_word 158 = .ok (.imul, 1) := by decide +kernel
theorem dMo_word_159 : decode cMo_word 159 = .ok (.bipush 16, 2) := by decide +kernel
theorem dMo_word_161 : decode cMo_word 161 = .ok (.iadd, 1) := by decide +kernel
theorem dMo_word_162 : decode cMo_word 162 = .ok (.sipush 1000, 3) := by decide +kernel
theorem dMo_word_165 : decode cMo_word 165 = .ok (.imul, 1) := by decide +kernel
theorem dMo_word_166 : decode cMo_word 166 = .ok (.aload_n 0, 1) := by decide +kernel
theorem dMo_word_167 : decode cMo_word 167 = .ok (.getfield 13, 3) := by decide +kernel
theorem dMo_word_170 : decode cMo_word 170 = .ok (.idiv, 1) := by decide +kernel
theorem dMo_word_171 : decode cMo_word 171 = .ok (.ireturn, 1) := by decide +kernel
theorem dMo_cost_0 : decode cMo_cost 0 = .ok (.aload_n 0, 1) := by decide +kernel
theorem dMo_cost_1 : decode cMo_cost 1 = .ok (.iconst 0, 1) := by decide +kernel
theorem dMo_cost_2 : decode cMo_cost 2 = .ok (.putfield 79, 3) := by decide +kernel
theorem dMo_cost_5 : decode cMo_cost 5 = .ok (.aload_n 0, 1) := by decide +kernel
theorem dMo_cost_6 : decode cMo_cost 6 = .ok (.iload_n 1, 1) := by decide +kernel
theorem dMo_cost_7 : decode cMo_cost 7 = .ok (.i2l, 1) := by decide +kernel
theorem dMo_cost_8 : decode cMo_cost 8 = .ok (.lconst 0, 1) := by decide +kernel
theorem dMo_cost_9 : decode cMo_cost 9 = .ok (.aload_n 0, 1) := by decide +kernel
theorem dMo_cost_10 : decode cMo_cost 10 = .ok (.getfield 128, 3) := by decide +kernel
theorem dMo_cost_13 : decode cMo_cost 13 = .ok (.iconst 1, 1) := by decide +kernel
theorem dMo_cost_14 : decode cMo_cost 14 = .ok (.isub, 1) := by decide +kernel
theorem dMo_cost_15 : decode cMo_cost 15 = .ok (.i2l, 1) := by decide +kernel
theorem dMo_cost_16 : decode cMo_cost 16 = .ok (.invokestatic 84, 3) := by decide +kernel
theorem dMo_cost_19 : decode cMo_cost 19 = .ok (.ifCond .ne 7, 3) := by decide +kernel
theorem dMo_cost_22 : decode cMo_cost 22 = .ok (.iconst 1, 1) := by decide +kernel
theorem dMo_cost_23 : decode cMo_cost 23 = .ok (.goto 4, 3) := by decide +kernel
theorem dMo_cost_26 : decode cMo_cost 26 = .ok (.iconst 0, 1) := by decide +kernel
theorem dMo_cost_27 : decode cMo_cost 27 = .ok (.iconst 1, 1) := by decide +kernel
theorem dMo_cost_28 : decode cMo_cost 28 = .ok (.invokevirtual 88, 3) := by decide +kernel
theorem dMo_cost_31 : decode cMo_cost 31 = .ok (.ifCond .ne 25, 3) := by decide +kernel
theorem dMo_cost_34 : decode cMo_cost 34 = .ok (.aload_n 0, 1) := by decide +kernel
theorem dMo_cost_35 : decode cMo_cost 35 = .ok (.aload_n 0, 1) := by decide +kernel
theorem dMo_cost_36 : decode cMo_cost 36 = .ok (.getfield 49, 3) := by decide +kernel
theorem dMo_cost_39 : decode cMo_cost 39 = .ok (.iload_n 1, 1) := by decide +kernel
theorem dMo_cost_40 : decode cMo_cost 40 = .ok (.iaload, 1) := by decide +kernel
theorem dMo_cost_41 : decode cMo_cost 41 = .ok (.ifCond .ge 7, 3) := by decide +kernel
theorem dMo_cost_44 : decode cMo_cost 44 = .ok (.iconst 1, 1) := by decide +kernel
theorem dMo_cost_45 : decode cMo_cost 45 = .ok (.goto 4, 3) := by decide +kernel
theorem dMo_cost_48 : decode cMo_cost 48 = .ok (.iconst 0, 1) := by decide +kernel
theorem dMo_cost_49 : decode cMo_cost 49 = .ok (.iconst 2, 1) := by decide +kernel
theorem dMo_cost_50 : decode cMo_cost 50 = .ok (.invokevirtual 88, 3) := by decide +kernel
theorem dMo_cost_53 : decode cMo_cost 53 = .ok (.ifCond .eq 5, 3) := by decide +kernel
theorem dMo_cost_56 : decode cMo_cost 56 = .ok (.dconst 0, 1) := by decide +kernel
theorem dMo_cost_57 : decode cMo_cost 57 = .ok (.dreturn, 1) := by decide +kernel
theorem dMo_cost_58 : decode cMo_cost 58 = .ok (.aload_n 0, 1) := by decide +kernel
theorem dMo_cost_59 : decode cMo_cost 59 = .ok (.getfield 59, 3) := by decide +kernel
theorem dMo_cost_62 : decode cMo_cost 62 = .ok (.iload_n 1, 1) := by decide +kernel
theorem dMo_cost_63 : decode cMo_cost 63 = .ok (.daload, 1) := by decide +kernel
theorem dMo_cost_64 : decode cMo_cost 64 = .ok (.dreturn, 1) := by decide +kernel
theorem dMo_count_0 : decode cMo_count 0 = .ok (.aload_n 0, 1) := by decide +kernel
theorem dMo_count_1 : decode cMo_count 1 = .ok (.iconst 0, 1) := by decide +kernel
theorem dMo_count_2 : decode cMo_count 2 = .ok (.putfield 79, 3) := by decide +kernel
theorem dMo_count_5 : decode cMo_count 5 = .ok (.aload_n 0, 1) := by decide +kernel
theorem dMo_count_6 : decode cMo_count 6 = .ok (.iload_n 1, 1) := by decide +kernel
theorem dMo_count_7 : decode cMo_count 7 = .ok (.i2l, 1) := by decide +kernel
theorem dMo_count_8 : decode cMo_count 8 = .ok (.lconst 0, 1) := by decide +kernel
theorem dMo_count_9 : decode cMo_count 9 = .ok (.ldc2_w 196, 3) := by decide +kernel
theorem dMo_count_12 : decode cMo_count 12 = .ok (.invokestatic 84, 3) := by decide +kernel
theorem dMo_count_15 : decode cMo_count 15 = .ok (.ifCond .ne 7, 3) := by decide +kernel
theorem dMo_count_18 : decode cMo_count 18 = .ok (.iconst 1, 1) := by decide +kernel
theorem dMo_count_19 : decode cMo_count 19 = .ok (.goto 4, 3) := by decide +kernel
theorem dMo_count_22 : decode cMo_count 22 = .ok (.iconst 0, 1) := by decide +kernel
theorem dMo_count_23 : decode cMo_count 23 = .ok (.iconst 1, 1) := by decide +kernel
theorem dMo_count_24 : decode cMo_count 24 = .ok (.invokevirtual 88, 3) := by decide +kernel
theorem dMo_count_27 : decode cMo_count 27 = .ok (.ifCond .eq 5, 3) := by decide +kernel
theorem dMo_count_30 : decode cMo_count 30 = .ok (.iconst 0, 1) := by decide +kernel
theorem dMo_count_31 : decode cMo_count 31 = .ok (.ireturn, 1) := by decide +kernel
theorem dMo_count_32 : decode cMo_count 32 = .ok (.iconst 0, 1) := by decide +kernel
theorem dMo_count_33 : decode cMo_count 33 = .ok (.istore_n 2, 1) := by decide +kernel
theorem dMo_count_34 : decode cMo_count 34 = .ok (.iconst 0, 1) := by decide +kernel
theorem dMo_count_35 : decode cMo_count 35 = .ok (.istore_n 3, 1) := by decide +kernel
theorem dMo_count_36 : decode cMo_count 36 = .ok (.iload_n 3, 1) := by decide +kernel
theorem dMo_count_37 : decode cMo_count 37 = .ok (.aload_n 0, 1) := by decide +kernel
theorem dMo_count_38 : decode cMo_count 38 = .ok (.invokevirtual 155, 3) := by decide +kernel
theorem dMo_count_41 : decode cMo_count 41 = .ok (.if_icmp .ge 26, 3) := by decide +kernel
theorem dMo_count_44 : decode cMo_count 44 = .ok (.iload_n 1, 1) := by decide +kernel
theorem dMo_count_45 : decode cMo_count 45 = .ok (.bipush 6, 2) := by decide +kernel
theorem dMo_count_47 : decode cMo_count 47 = .ok (.if_icmp .ne 20, 3) := by decide +kernel
theorem dMo_count_50 : decode cMo_count 50 = .ok (.aload_n 0, 1) := by decide +kernel
theorem dMo_count_51 : decode cMo_count 51 = .ok (.iload_n 3, 1) := by decide +kernel
theorem dMo_count_52 : decode cMo_count 52 = .ok (.invokevirtual 186, 3) := by decide +kernel
theorem dMo_count_55 : decode cMo_count 55 = .ok (.ifCond .eq 6, 3) := by decide +kernel
theorem dMo_count_58 : decode cMo_count 58 = .ok (.iinc 2 1, 3) := by decide +kernel
theorem dMo_count_61 : decode cMo_count 61 = .ok (.iinc 3 1, 3) := by decide +kernel
theorem dMo_count_64 : decode cMo_count 64 = .ok (.goto (-28), 3) := by decide +kernel
theorem dMo_count_67 : decode cMo_count 67 = .ok (.iload_n 1, 1) := by decide +kernel
theorem dMo_count_68 : decode cMo_count 68 = .ok (.tableswitch 70 0 5 #[40, 45, 50, 55, 60, 65], 40) := by decide +kernel
theorem dMo_count_108 : decode cMo_count 108 = .ok (.aload_n 0, 1) := by decide +kernel
theorem dMo_count_109 : decode cMo_count 109 = .ok (.getfield 92, 3) := by decide +kernel
theorem dMo_count_112 : decode cMo_count 112 = .ok (.ireturn, 1) := by decide +kernel
theorem dMo_count_113 : decode cMo_count 113 = .ok (.aload_n 0, 1) := by decide +kernel
theorem dMo_count_114 : decode cMo_count 114 = .ok (.getfield 125, 3) := by decide +kernel
theorem dMo_count_117 : decode cMo_count 117 = .ok (.ireturn, 1) := by decide +kernel
theorem dMo_count_118 : decode cMo_count 118 = .ok (.aload_n 0, 1) := by decide +kernel
theorem dMo_count_119 : decode cMo_count 119 = .ok (.invokevirtual 155, 3) := by decide +kernel
theorem dMo_count_122 : decode cMo_count 122 = .ok (.ireturn, 1) := by decide +kernel
theorem dMo_count_123 : decode cMo_count 123 = .ok (.aload_n 0, 1) := by decide +kernel
theorem dMo_count_124 : decode cMo_count 124 = .ok (.getfield 13, 3) := by decide +kernel
theorem dMo_count_127 : decode cMo_count 127 = .ok (.ireturn, 1) := by decide +kernel
theorem dMo_count_128 : decode cMo_count 128 = .ok (.aload_n 0, 1) := by decide +kernel
theorem dMo_count_129 : decode cMo_count 129 = .ok (.getfield 169, 3) := by decide +kernel
theorem dMo_count_132 : decode cMo_count 132 = .ok (.ireturn, 1) := by decide +kernel
theorem dMo_count_133 : decode cMo_count 133 = .ok (.aload_n 0, 1) := by decide +kernel
theorem dMo_count_134 : decode cMo_count 134 = .ok (.getfield 128, 3) := by decide +kernel
theorem dMo_count_137 : decode cMo_count 137 = .ok (.ireturn, 1) := by decide +kernel
theorem dMo_count_138 : decode cMo_count 138 = .ok (.iload_n 2, 1) := by decide +kernel
theorem dMo_count_139 : decode cMo_count 139 = .ok (.ireturn, 1) := by decide +kernel
end
section
-- small rows for the reference's methods
theorem in_lt {v x : Int64} (h : ¬ lg_cmp v x < 0) : x ≤ v := by rw [lg_cmp_lt] at h; exact Int64.not_lt.mp h
theorem in_gt {v y : Int64} (h : ¬ 0 < lg_cmp v y) : v ≤ y := by rw [lg_cmp_gt] at h; exact Int64.not_lt.mp h
theorem in_nlt {v x : Int64} (h : lg_cmp v x < 0) : ¬ x ≤ v := by rw [lg_cmp_lt] at h; exact Int64.not_le.mpr h
theorem in_ngt {v y : Int64} (h : 0 < lg_cmp v y) : ¬ v ≤ y := by rw [lg_cmp_gt] at h; exact Int64.not_le.mpr h
theorem in_post_1 {v x y : Int64} (h : x ≤ v ∧ v ≤ y) : nI 1 = if x ≤ v ∧ v ≤ y then 1 else 0 := by rw [if_pos h]; rfl
theorem in_post_0 {v x y : Int64} (h : ¬ (x ≤ v ∧ v ≤ y)) : nI 0 = if x ≤ v ∧ v ≤ y then 1 else 0 := by rw [if_neg h]; rfl
def hd_nf (n : Nat) : Nat := if n < 32 then 0 else (n - 32) / 16 + 1
section LPQ
variable {p : Program} {l : Launch} {e : Env} {R : Room} {s : State} {m : MethodId} {args : Array Value} {below : List Frame} {meth : Method} {c : Code} {H : Heap} {locs : List Loc} {cells slots : Nat} {Q : State → Prop} {g : JFrame}
theorem lp_q (h : ∀ Q9 : State → Prop, Q9 = Q → W p l e R s m args below meth c H locs cells slots Q9 g) : W p l e R s m args below meth c H locs cells slots Q g := h Q rfl
end LPQ
-- the FILE by its octets
def fi_2 (oc : Nat → Nat) (j : Nat) : Nat := oc j + 256 * oc (j + 1)
def fi_4 (oc : Nat → Nat) (j : Nat) : Nat := fi_2 oc j + 65536 * fi_2 oc (j + 2)
abbrev fi_sp (oc : Nat → Nat) (j a b c d : Nat) : Prop := oc j = a ∧ oc (j + 1) = b ∧ oc (j + 2) = c ∧ oc (j + 3) = d
theorem sp_post_1 {P : Prop} {h9 : Decidable P} (h : P) : nI 1 = if P then 1 else 0 := by rw [if_pos h]; rfl
theorem sp_post_0 {P : Prop} {h9 : Decidable P} (h : ¬ P) : nI 0 = if P then 1 else 0 := by rw [if_neg h]; rfl
end
section
/-! ===== lN n to 2^64: shifts, and, or, masks, one bit ===== -/
theorem wb_tb (n : Nat) : (lN n).toBitVec = BitVec.ofNat 64 n := rfl
theorem wb_inj {a b : Int64} (h : a.toBitVec = b.toBitVec) : a = b := Int64.toBitVec_inj.mp h
theorem wb_tn {n : Nat} (h : n < 2 ^ 64) : (lN n).toBitVec.toNat = n := by rw [wb_tb, BitVec.toNat_ofNat, Nat.mod_eq_of_lt h]
theorem wb_of (x : Int64) : ∃ n, n < 2 ^ 64 ∧ x = lN n := ⟨x.toBitVec.toNat, x.toBitVec.isLt, wb_inj (by rw [wb_tb]; simp)⟩
theorem wb_of32 (x : Int32) : ∃ n, n < 2 ^ 32 ∧ x = nI n := ⟨x.toBitVec.toNat, x.toBitVec.isLt, Int32.toBitVec_inj.mp (by show _ = BitVec.ofNat 32 _; simp)⟩
theorem wb_c : ∀ k, k < 64 → ((nI k).toInt64 &&& 63) = lN k := by decide +kernel
theorem wb_cu : ∀ k, k < 64 → ((nI k).toInt64.toUInt64 &&& Int64.toUInt64 63) = UInt64.ofNat k := by decide +kernel
theorem wb_sm : ∀ k, k < 64 → (BitVec.ofNat 64 k).smod 64 = BitVec.ofNat 64 k := by decide +kernel
theorem wb_pw {a b : Nat} (h : a ≤ b) : 2 ^ b = 2 ^ a * 2 ^ (b - a) := by rw [← Nat.pow_add]; congr 1; omega
theorem wb_lt2 {a b : Nat} (h : a < b) : 2 ^ a < 2 ^ b := Nat.pow_lt_pow_right (by decide) h
theorem wb_mod (n : Nat) : lN n = lN (n % 2 ^ 64) := wb_inj (by rw [wb_tb, wb_tb]; apply BitVec.eq_of_toNat_eq; rw [BitVec.toNat_ofNat, BitVec.toNat_ofNat, Nat.mod_mod])
theorem wb_shr {n k : Nat} (hn : n < 2 ^ 64) (hk : k < 64) : ((lN n).toUInt64 >>> ((nI k).toInt64.toUInt64 &&& Int64.toUInt64 63)).toInt64 = lN (n / 2 ^ k) := by
  rw [wb_cu k hk]
  apply wb_inj
  apply BitVec.eq_of_toNat_eq
  show ((lN n).toUInt64 >>> UInt64.ofNat k).toNat = (BitVec.ofNat 64 _).toNat
  have h1 : (UInt64.ofNat k).toNat = k := by
    show (BitVec.ofNat 64 k).toNat = k
    rw [BitVec.toNat_ofNat, Nat.mod_eq_of_lt (by omega)]
  have h2 : (lN n).toUInt64.toNat = n := wb_tn hn
  rw [UInt64.toNat_shiftRight, h1, h2, Nat.mod_eq_of_lt hk, Nat.shiftRight_eq_div_pow, BitVec.toNat_ofNat, Nat.mod_eq_of_lt (Nat.lt_of_le_of_lt (Nat.div_le_self _ _) hn)]
theorem wb_shl (n : Nat) {k : Nat} (hk : k < 64) : lN n <<< ((nI k).toInt64 &&& 63) = lN (n * 2 ^ k) := by
  rw [wb_c k hk]
  apply wb_inj
  rw [Int64.toBitVec_shiftLeft, wb_tb, wb_tb, wb_tb, wb_sm k hk]
  apply BitVec.eq_of_toNat_eq
  rw [BitVec.shiftLeft_eq', BitVec.toNat_shiftLeft, BitVec.toNat_ofNat, BitVec.toNat_ofNat, BitVec.toNat_ofNat, Nat.mod_eq_of_lt (show k < 2 ^ 64 by omega), Nat.shiftLeft_eq, Nat.mul_mod, Nat.mod_mod, ← Nat.mul_mod]
theorem wb_and {a b : Nat} (ha : a < 2 ^ 64) (hb : b < 2 ^ 64) : lN a &&& lN b = lN (a &&& b) := by
  apply wb_inj
  rw [Int64.toBitVec_and, wb_tb, wb_tb, wb_tb]
  apply BitVec.eq_of_toNat_eq
  rw [BitVec.toNat_and, BitVec.toNat_ofNat, BitVec.toNat_ofNat, BitVec.toNat_ofNat, Nat.mod_eq_of_lt ha, Nat.mod_eq_of_lt hb, Nat.mod_eq_of_lt (Nat.and_lt_two_pow _ hb)]
theorem wb_or {a b : Nat} (ha : a < 2 ^ 64) (hb : b < 2 ^ 64) : lN a ||| lN b = lN (a ||| b) := by
  apply wb_inj
  rw [Int64.toBitVec_or, wb_tb, wb_tb, wb_tb]
  apply BitVec.eq_of_toNat_eq
  rw [BitVec.toNat_or, BitVec.toNat_ofNat, BitVec.toNat_ofNat, BitVec.toNat_ofNat, Nat.mod_eq_of_lt ha, Nat.mod_eq_of_lt hb, Nat.mod_eq_of_lt (Nat.or_lt_two_pow ha hb)]
theorem wb_mask {n k : Nat} (hn : n < 2 ^ 64) (hk : k < 64) : lN n &&& lN (2 ^ k - 1) = lN (n % 2 ^ k) := by
  rw [wb_and hn (by have := wb_lt2 hk; omega), Nat.and_two_pow_sub_one_eq_mod]
theorem wb_a1 {n : Nat} (hn : n < 2 ^ 64) : lN n &&& 1 = lN (n % 2) := wb_mask (k := 1) hn (by decide)
theorem wb_bit {n k : Nat} (hn : n < 2 ^ 64) (hk : k < 64) : ((lN n).toUInt64 >>> ((nI k).toInt64.toUInt64 &&& Int64.toUInt64 63)).toInt64 &&& 1 = lN (n / 2 ^ k % 2) := by
  rw [wb_shr hn hk, wb_a1 (Nat.lt_of_le_of_lt (Nat.div_le_self _ _) hn)]
theorem wb_xor {q k : Nat} (hk : k < 63) (h : 2 ^ k ≤ q) (h2 : q < 2 ^ (k + 1)) : lN q ^^^ lN (2 ^ k) = lN (q - 2 ^ k) := by
  obtain ⟨r, rfl⟩ : ∃ r, q = 2 ^ k + r := ⟨q - 2 ^ k, by omega⟩
  have hr : r < 2 ^ k := by rw [Nat.pow_succ] at h2; omega
  have hx : (2 ^ k + r) ^^^ 2 ^ k = r := by
    apply Nat.eq_of_testBit_eq
    intro i
    rw [Nat.testBit_xor, Nat.testBit_two_pow]
    rcases Nat.lt_trichotomy i k with h | h | h
    · rw [Nat.testBit_two_pow_add_gt h]
      simp [show ¬ k = i by omega]
    · subst h
      rw [Nat.testBit_two_pow_add_eq]
      simp
    · have a1 : 2 ^ (k + 1) ≤ 2 ^ i := Nat.pow_le_pow_right (by decide) h
      rw [Nat.testBit_lt_two_pow (show 2 ^ k + r < 2 ^ i by omega), Nat.testBit_lt_two_pow (show r < 2 ^ i by omega)]
      simp [show ¬ k = i by omega]
  have b1 := wb_lt2 (show k + 1 < 64 by omega)
  have b2 := wb_lt2 (show k < 64 by omega)
  apply wb_inj
  rw [Int64.toBitVec_xor, wb_tb, wb_tb, wb_tb]
  apply BitVec.eq_of_toNat_eq
  rw [BitVec.toNat_xor, BitVec.toNat_ofNat, BitVec.toNat_ofNat, BitVec.toNat_ofNat, Nat.mod_eq_of_lt (by omega : 2 ^ k + r < 2 ^ 64), Nat.mod_eq_of_lt b2, hx, Nat.add_sub_cancel_left, Nat.mod_eq_of_lt (by omega)]
/-! ===== lN: masks, 'or' of parts that don't overlap is a sum ===== -/
theorem u_tn {n : Nat} (h : n < 2 ^ 64) : (UInt64.ofNat n).toNat = n := Nat.mod_eq_of_lt h
theorem g_and {a b c : Nat} (ha : a < 2 ^ 64) (hb : b < 2 ^ 64) (hc : a &&& b = c) : lN a &&& lN b = lN c := by
  subst hc
  have h : UInt64.ofNat a &&& UInt64.ofNat b = UInt64.ofNat (a &&& b) := UInt64.toNat_inj.mp (by rw [UInt64.toNat_and, u_tn ha, u_tn hb, u_tn (Nat.and_lt_two_pow a hb)])
  have h2 := congrArg UInt64.toInt64 h
  exact h2
theorem g_and1 {a : Nat} (ha : a < 2 ^ 64) : lN a &&& 1 = lN (a % 2) := g_and (b := 1) ha (by decide) (Nat.and_two_pow_sub_one_eq_mod a 1)
theorem g_mask {a s p : Nat} (hp : 2 ^ s = p) (hs : s < 64) (ha : a < 2 ^ 64) : lN a &&& lN (p - 1) = lN (a % p) := by
  subst hp
  have := Nat.pow_lt_pow_right (show 1 < 2 by decide) hs
  exact g_and ha (by omega) (Nat.and_two_pow_sub_one_eq_mod a s)
theorem g_or {k p a b : Nat} (hp : 2 ^ k = p) (ha : a < p) (h : b * p + a < 2 ^ 64) : lN (b * p) ||| lN a = lN (b * p + a) := by
  subst hp
  have h1 : b * 2 ^ k ||| a = b * 2 ^ k + a := by rw [← Nat.shiftLeft_eq, Nat.shiftLeft_add_eq_or_of_lt ha]
  have h3 : UInt64.ofNat (b * 2 ^ k) ||| UInt64.ofNat a = UInt64.ofNat (b * 2 ^ k + a) := UInt64.toNat_inj.mp (by rw [UInt64.toNat_or, u_tn (by omega), u_tn (by omega), u_tn h, h1])
  have h2 := congrArg UInt64.toInt64 h3
  exact h2
theorem g_or' {k p a b : Nat} (hp : 2 ^ k = p) (ha : a < p) (h : a + b * p < 2 ^ 64) : lN a ||| lN (b * p) = lN (a + b * p) := by
  rw [Int64.or_comm, g_or hp ha (by omega), Nat.add_comm]
theorem g_ushr {a k p : Nat} {y : UInt64} (hy : y = UInt64.ofNat k) (hk : k < 64) (hp : 2 ^ k = p) (ha : a < 2 ^ 64) : ((lN a).toUInt64 >>> y).toInt64 = lN (a / p) := by
  subst hy hp
  have h : UInt64.ofNat a >>> UInt64.ofNat k = UInt64.ofNat (a / 2 ^ k) := UInt64.toNat_inj.mp (by rw [UInt64.toNat_shiftRight, u_tn ha, u_tn (by omega), u_tn (Nat.lt_of_le_of_lt (Nat.div_le_self _ _) ha), Nat.mod_eq_of_lt hk, Nat.shiftRight_eq_div_pow])
  have h2 := congrArg UInt64.toInt64 h
  exact h2
theorem g_shl {a k p : Nat} {y : Int64} (hy : y.toBitVec.smod 64 = BitVec.ofNat 64 k) (hk : k < 64) (hp : 2 ^ k = p) (ha : a < 2 ^ 64) : lN a <<< y = lN (a * p) := by
  subst hp
  apply Int64.toBitVec_inj.mp
  rw [Int64.toBitVec_shiftLeft, hy]
  apply BitVec.eq_of_toNat_eq
  have hb : (lN a).toBitVec.toNat = a := Nat.mod_eq_of_lt ha
  have hk' : (BitVec.ofNat 64 k).toNat = k := Nat.mod_eq_of_lt (by omega)
  have h : ((lN a).toBitVec <<< BitVec.ofNat 64 k).toNat = (a * 2 ^ k) % 2 ^ 64 := by simp only [BitVec.shiftLeft_eq', BitVec.toNat_shiftLeft, hb, hk', Nat.shiftLeft_eq]
  exact h
end
section
-- a number of d octets from place a on, the lowest first; a counter that runs down to -1
def nu (oc : Nat → Nat) : Nat → Nat → Nat
  | _, 0 => 0
  | a, d + 1 => oc a + 256 * nu oc (a + 1) d
theorem nu_step (oc : Nat → Nat) (t : Nat) {q N : Nat} (h : q < N) : nu oc (t + (q + 1)) (N - (q + 1)) * 256 + oc (t + q) = nu oc (t + q) (N - q) := by
  obtain ⟨d, hd⟩ : ∃ d, N - q = d + 1 := ⟨N - q - 1, by omega⟩
  rw [hd, show N - (q + 1) = d by omega]
  show _ = oc (t + q) + 256 * nu oc (t + q + 1) d
  rw [show t + (q + 1) = t + q + 1 by omega]
  omega
theorem nu_lt (oc : Nat → Nat) : ∀ (d a : Nat), (∀ j, j < a + d → oc j < 256) → nu oc a d < 256 ^ d
  | 0, _, _ => by show 0 < 1; omega
  | d + 1, a, h => by
    have h1 := nu_lt oc d (a + 1) (fun j hj => h j (by omega))
    have h2 := h a (by omega)
    show oc a + 256 * nu oc (a + 1) d < 256 ^ (d + 1)
    rw [Nat.pow_succ]
    omega
theorem nu_lt3 (oc : Nat → Nat) {d a : Nat} (hd : d ≤ 3) (h : ∀ j, j < a + d → oc j < 256) : nu oc a d < 16777216 := by
  have h1 := nu_lt oc d a h
  have h2 : 256 ^ d ≤ 256 ^ 3 := Nat.pow_le_pow_right (by decide) hd
  have h3 : 256 ^ 3 = 16777216 := by decide
  omega
theorem nu_shl (a : Nat) : lN a <<< ((nI 8).toInt64 &&& 63) = lN (a * 256) := wb_shl a (k := 8) (by decide)
def kd (r : Nat) : Int32 := nI r + (-1)
theorem kd_s (r : Nat) : kd (r + 1) = nI r := pk_m1 r
theorem kd_sub {N : Nat} (h : 1 ≤ N) : nI N - nI 1 = kd N := by
  obtain ⟨n, rfl⟩ : ∃ n, N = n + 1 := ⟨N - 1, by omega⟩
  rw [kd_s, pk_sub h]
  rfl
theorem kd_neg {r : Nat} (h : kd r < 0) (hr : r < 2 ^ 31) : r = 0 := by
  rcases Nat.eq_zero_or_pos r with h0 | h0
  · exact h0
  · obtain ⟨n, rfl⟩ : ∃ n, r = n + 1 := ⟨r - 1, by omega⟩
    rw [kd_s] at h
    exact absurd h (nI_pos (by omega))
theorem kd_pos {r : Nat} (h : ¬ kd r < 0) : ∃ q, r = q + 1 := by
  rcases Nat.eq_zero_or_pos r with h0 | h0
  · rw [h0] at h
    exact absurd (by decide) h
  · exact ⟨r - 1, by omega⟩
end
section
set_option maxHeartbeats 4000000 in
set_option maxRecDepth 100000 in
theorem kMo_thrown (l : Launch) (dC : Nat → ClassId) (dI : Nat → Nat → Nat) (k : Nat → ClassId) (b : Nat → Nat) (I : Nat → Nat → Int32) (D : Nat → Nat → UInt64) (sz : Nat)  : Met l yMo_thrown wMo_thrown ({ frames := 0, cells := 0, slots := 0, locals := 0 }) (va_Pc [.ref (b 0)] (ct_pre (dC, dI) (mo_ty k) (fun _ => True) (wm k b I D) sz)) (va_Qi (fun r (_ : Unit) => r = I 0 0) (fun u t => ct_at (dC, dI) (va_A (wm k b I D) sz) ((fun _ => wm k b I D) u) t) (va_A (wm k b I D) sz)) 0 0 (va_A (wm k b I D) sz) := by
  refine Met.ofW (cc := cMo_thrown) (maxL := 1) (ret := (some .int)) (by decide) rfl ?_
  intro p e s m args below meth c s₁ B hml hv
  obtain ⟨rfl, hsz, hP, hK, hD0, hE⟩ := hv
  have hx := B.exec
  have hb := B.bytes
  have hr := B.returns
  have hts : ∀ w ∈ W0, w.before [.ref (b 0)].toArray s = true := fun w h => atoms_spec (ws := wMo_thrown) B.pre w (List.mem_cons_of_mem _ h)
  have hown : s.vm.findClass RMo = some m.cls := findClass_of_methodNamed B.named
  have hlocks := B.notSynchronized
  subst hsz
  have hD := hD0.self (sz := s.heap.size)
  generalize hAe : va_A (wm k b I D) s.heap.size = A at hD ⊢
  have hA : ∀ q : Nat, s.heap.size ≤ q → A q := fun q h => by rw [← hAe]; exact Or.inr h
  have hS : va_S A s.heap s.heap [] := va_S.rf
  have hl := lv_entry ([.ref (b 0)]) (n := 1) (Nat.le_of_ble_eq_true rfl)
  rw [lg_entry_eq]
  generalize (lg_sl ([.ref (b 0)]) ++ List.replicate (1 - (lg_sl ([.ref (b 0)])).length) Slot.unset).toArray = ls at hl ⊢
  have hl : lv_has ls 1 [(0, .ref (b 0))] := hl
  refine lv_aload_n hx hb dMo_thrown_0 rfl (lv_at hl 0 rfl) ?_
  refine va_get (D := (dC, dI)) (ci := 8) (v := .int (I 0 0)) (C := RMo) (T := TMo) (N := 27) hx hb hts inMo hown hK hP 0 rfl rfl 0 (by decide) (hts _ tw_647) (fun _ h9 => h9) rfl dMo_thrown_1 ?_
  exact ct_ri hx hb hr hlocks () rfl hP hD hS (Nat.le_refl _) (Nat.le_refl _) dMo_thrown_4
set_option maxHeartbeats 4000000 in
set_option maxRecDepth 100000 in
theorem kMo_in (l : Launch) (dC : Nat → ClassId) (dI : Nat → Nat → Nat) (k : Nat → ClassId) (b : Nat → Nat) (I : Nat → Nat → Int32) (D : Nat → Nat → UInt64) (sz : Nat) (v x y : Int64) : Met l yMo_in wMo_in ({ frames := 0, cells := 0, slots := 0, locals := 0 }) (va_Pc [.long v, .long x, .long y] (ct_pre (dC, dI) (mo_ty k) (fun _ => True) (wm k b I D) sz)) (va_Qi (fun r (_ : Unit) => r = (if x ≤ v ∧ v ≤ y then 1 else 0)) (fun u t => ct_at (dC, dI) (va_A (wm k b I D) sz) ((fun _ => wm k b I D) u) t) (va_A (wm k b I D) sz)) 0 0 (va_A (wm k b I D) sz) := by
  refine Met.ofW (cc := cMo_in) (maxL := 6) (ret := (some .boolean)) (by decide) rfl ?_
  intro p e s m args below meth c s₁ B hml hv
  obtain ⟨rfl, hsz, hP, hK, hD0, hE⟩ := hv
  have hx := B.exec
  have hb := B.bytes
  have hr := B.returns
  have hts : ∀ w ∈ W0, w.before [.long v, .long x, .long y].toArray s = true := fun w h => atoms_spec (ws := wMo_in) B.pre w (List.mem_cons_of_mem _ h)
  have hown : s.vm.findClass RMo = some m.cls := findClass_of_methodNamed B.named
  have hlocks := B.notSynchronized
  subst hsz
  have hD := hD0.self (sz := s.heap.size)
  generalize hAe : va_A (wm k b I D) s.heap.size = A at hD ⊢
  have hA : ∀ q : Nat, s.heap.size ≤ q → A q := fun q h => by rw [← hAe]; exact Or.inr h
  have hS : va_S A s.heap s.heap [] := va_S.rf
  have hl := lv_entry ([.long v, .long x, .long y]) (n := 6) (Nat.le_of_ble_eq_true rfl)
  rw [lg_entry_eq]
  generalize (lg_sl ([.long v, .long x, .long y]) ++ List.replicate (6 - (lg_sl ([.long v, .long x, .long y])).length) Slot.unset).toArray = ls at hl ⊢
  have hl : lv_has ls 6 [(0, .long v), (2, .long x), (4, .long y)] := hl
  refine lv_lload_n hx hb dMo_in_0 rfl (lv_at hl 0 rfl) ?_
  refine lv_lload_n hx hb dMo_in_1 rfl (lv_at hl 1 rfl) ?_
  refine W.lcmp hx hb dMo_in_2 ?_
  refine lv_if_lt (tgt := 17) hx hb dMo_in_3 (by decide) (fun c3 => ?_) (fun c3 => ?_)
  · refine lv_iconst (v := nI 0) hx hb dMo_in_17 (by decide +kernel) ?_
    exact ct_rz hx hb hr hlocks () (in_post_0 (by first | (exact ⟨in_lt c3, in_gt c10⟩) | (exact fun q => in_nlt c3 q.1) | (exact fun q => in_ngt c10 q.2))) hP hD hS (Nat.le_refl _) (Nat.le_refl _) dMo_in_18
  · refine lv_lload_n hx hb dMo_in_6 rfl (lv_at hl 0 rfl) ?_
    refine lv_lload hx hb dMo_in_7 (lv_at hl 2 rfl) ?_
    refine W.lcmp hx hb dMo_in_9 ?_
    refine lv_if_gt (tgt := 17) hx hb dMo_in_10 (by decide) (fun c10 => ?_) (fun c10 => ?_)
    · refine lv_iconst (v := nI 0) hx hb dMo_in_17 (by decide +kernel) ?_
      exact ct_rz hx hb hr hlocks () (in_post_0 (by first | (exact ⟨in_lt c3, in_gt c10⟩) | (exact fun q => in_nlt c3 q.1) | (exact fun q => in_ngt c10 q.2))) hP hD hS (Nat.le_refl _) (Nat.le_refl _) dMo_in_18
    · refine lv_iconst (v := nI 1) hx hb dMo_in_13 (by decide +kernel) ?_
      refine lv_goto (tgt := 18) hx hb dMo_in_14 (by decide) ?_
      exact ct_rz hx hb hr hlocks () (in_post_1 (by first | (exact ⟨in_lt c3, in_gt c10⟩) | (exact fun q => in_nlt c3 q.1) | (exact fun q => in_ngt c10 q.2))) hP hD hS (Nat.le_refl _) (Nat.le_refl _) dMo_in_18
set_option maxHeartbeats 4000000 in
set_option maxRecDepth 100000 in
theorem kMo_fails (l : Launch) (dC : Nat → ClassId) (dI : Nat → Nat → Nat) (k : Nat → ClassId) (b : Nat → Nat) (I : Nat → Nat → Int32) (D : Nat → Nat → UInt64) (sz : Nat) (z n : Int32) : Met l yMo_fails wMo_fails ({ frames := 0, cells := 0, slots := 0, locals := 0 }) (va_Pc [.ref (b 0), .int z, .int n] (ct_pre (dC, dI) (mo_ty k) (fun _ => True) (wm k b I D) sz)) (va_Qi (fun r (u : Nat → Nat → Int32) => u = (if z ≠ 0 ∧ I 0 0 = 0 then ui I 0 0 n else I) ∧ r = (if u 0 0 ≠ 0 then 1 else 0)) (fun u t => ct_at (dC, dI) (va_A (wm k b I D) sz) ((fun u => wm k b u D) u) t) (va_A (wm k b I D) sz)) 0 0 (va_A (wm k b I D) sz) := by
  refine Met.ofW (cc := cMo_fails) (maxL := 3) (ret := (some .boolean)) (by decide) rfl ?_
  intro p e s m args below meth c s₁ B hml hv
  obtain ⟨rfl, hsz, hP, hK, hD0, hE⟩ := hv
  have hx := B.exec
  have hb := B.bytes
  have hr := B.returns
  have hts : ∀ w ∈ W0, w.before [.ref (b 0), .int z, .int n].toArray s = true := fun w h => atoms_spec (ws := wMo_fails) B.pre w (List.mem_cons_of_mem _ h)
  have hown : s.vm.findClass RMo = some m.cls := findClass_of_methodNamed B.named
  have hlocks := B.notSynchronized
  subst hsz
  have hD := hD0.self (sz := s.heap.size)
  generalize hAe : va_A (wm k b I D) s.heap.size = A at hD ⊢
  have hA : ∀ q : Nat, s.heap.size ≤ q → A q := fun q h => by rw [← hAe]; exact Or.inr h
  have hS : va_S A s.heap s.heap [] := va_S.rf
  have hl := lv_entry ([.ref (b 0), .int z, .int n]) (n := 3) (Nat.le_of_ble_eq_true rfl)
  rw [lg_entry_eq]
  generalize (lg_sl ([.ref (b 0), .int z, .int n]) ++ List.replicate (3 - (lg_sl ([.ref (b 0), .int z, .int n])).length) Slot.unset).toArray = ls at hl ⊢
  have hl : lv_has ls 3 [(0, .ref (b 0)), (1, .int z), (2, .int n)] := hl
  refine lv_iload_n hx hb dMo_fails_0 rfl (lv_at hl 1 rfl) ?_
  refine lv_if_eq (tgt := 16) hx hb dMo_fails_1 (by decide) (fun c1 => ?_) (fun c1 => ?_)
  · refine lv_aload_n hx hb dMo_fails_16 rfl (lv_at hl 0 rfl) ?_
    refine va_get (D := (dC, dI)) (ci := 8) (v := .int (I 0 0)) (C := RMo) (T := TMo) (N := 27) hx hb hts inMo hown hK hP 0 rfl rfl 0 (by decide) (hts _ tw_647) (fun _ h9 => h9) rfl dMo_fails_17 ?_
    refine lv_if_eq (tgt := 27) hx hb dMo_fails_20 (by decide) (fun c20 => ?_) (fun c20 => ?_)
    · refine lv_iconst (v := nI 0) hx hb dMo_fails_27 (by decide +kernel) ?_
      exact ct_rz hx hb hr hlocks I (⟨(by rw [if_neg (by first | (exact fun q => q.1 c1) | (exact fun q => c8 q.2))]), (by first | (rw [if_pos c20]; rfl) | (rw [if_neg (fun q => q c20)]; rfl))⟩) hP hD hS (Nat.le_refl _) (Nat.le_refl _) dMo_fails_28
    · refine lv_iconst (v := nI 1) hx hb dMo_fails_23 (by decide +kernel) ?_
      refine lv_goto (tgt := 28) hx hb dMo_fails_24 (by decide) ?_
      exact ct_rz hx hb hr hlocks I (⟨(by rw [if_neg (by first | (exact fun q => q.1 c1) | (exact fun q => c8 q.2))]), (by first | (rw [if_pos c20]; rfl) | (rw [if_neg (fun q => q c20)]; rfl))⟩) hP hD hS (Nat.le_refl _) (Nat.le_refl _) dMo_fails_28
  · refine lv_aload_n hx hb dMo_fails_4 rfl (lv_at hl 0 rfl) ?_
    refine va_get (D := (dC, dI)) (ci := 8) (v := .int (I 0 0)) (C := RMo) (T := TMo) (N := 27) hx hb hts inMo hown hK hP 0 rfl rfl 0 (by decide) (hts _ tw_647) (fun _ h9 => h9) rfl dMo_fails_5 ?_
    refine lv_if_ne (tgt := 16) hx hb dMo_fails_8 (by decide) (fun c8 => ?_) (fun c8 => ?_)
    · refine lv_aload_n hx hb dMo_fails_16 rfl (lv_at hl 0 rfl) ?_
      refine va_get (D := (dC, dI)) (ci := 8) (v := .int (I 0 0)) (C := RMo) (T := TMo) (N := 27) hx hb hts inMo hown hK hP 0 rfl rfl 0 (by decide) (hts _ tw_647) (fun _ h9 => h9) rfl dMo_fails_17 ?_
      refine lv_if_eq (tgt := 27) hx hb dMo_fails_20 (by decide) (fun c20 => ?_) (fun c20 => ?_)
      · refine lv_iconst (v := nI 0) hx hb dMo_fails_27 (by decide +kernel) ?_
        exact ct_rz hx hb hr hlocks I (⟨(by rw [if_neg (by first | (exact fun q => q.1 c1) | (exact fun q => c8 q.2))]), (by first | (rw [if_pos c20]; rfl) | (rw [if_neg (fun q => q c20)]; rfl))⟩) hP hD hS (Nat.le_refl _) (Nat.le_refl _) dMo_fails_28
      · refine lv_iconst (v := nI 1) hx hb dMo_fails_23 (by decide +kernel) ?_
        refine lv_goto (tgt := 28) hx hb dMo_fails_24 (by decide) ?_
        exact ct_rz hx hb hr hlocks I (⟨(by rw [if_neg (by first | (exact fun q => q.1 c1) | (exact fun q => c8 q.2))]), (by first | (rw [if_pos c20]; rfl) | (rw [if_neg (fun q => q c20)]; rfl))⟩) hP hD hS (Nat.le_refl _) (Nat.le_refl _) dMo_fails_28
    · refine lv_aload_n hx hb dMo_fails_11 rfl (lv_at hl 0 rfl) ?_
      refine lv_iload_n hx hb dMo_fails_12 rfl (lv_at hl 2 rfl) ?_
      refine va_put (D := (dC, dI)) (ci := 8) (fs := mo_f b I D) (v := .int n) (ty := .int) (C := RMo) (T := TMo) (N := 27) hx hb hts inMo tyMo tyMo_ok nmMo hown hK hP hD hS 0 rfl rfl 0 (by decide) (hts _ tw_647) (fun _ h9 => h9) rfl (by decide +kernel) rfl rfl (Nat.le_of_ble_eq_true rfl) dMo_fails_13 (fun H locs hP hD hS => ?_)
      rw [wm_p0] at hP hD
      obtain ⟨I1, eI1⟩ : ∃ z, z = ui I 0 0 n := ⟨_, rfl⟩
      rw [← eI1] at hP hD
      refine lv_aload_n hx hb dMo_fails_16 rfl (lv_at hl 0 rfl) ?_
      refine va_get (D := (dC, dI)) (ci := 8) (v := .int (I1 0 0)) (C := RMo) (T := TMo) (N := 27) hx hb hts inMo hown hK hP 0 rfl rfl 0 (by decide) (hts _ tw_647) (fun _ h9 => h9) rfl dMo_fails_17 ?_
      refine rw_i (y := n) (by rw [eI1, ui_s]) ?_
      refine lv_if_eq (tgt := 27) hx hb dMo_fails_20 (by decide) (fun c20 => ?_) (fun c20 => ?_)
      · refine lv_iconst (v := nI 0) hx hb dMo_fails_27 (by decide +kernel) ?_
        exact ct_rz hx hb hr hlocks I1 (⟨(by rw [if_pos ⟨c1, c8⟩]; exact eI1), (by rw [show I1 0 0 = n by rw [eI1, ui_s]]; first | (rw [if_pos c20]; rfl) | (rw [if_neg (fun q => q c20)]; rfl))⟩) hP hD hS (Nat.le_refl _) (Nat.le_refl _) dMo_fails_28
      · refine lv_iconst (v := nI 1) hx hb dMo_fails_23 (by decide +kernel) ?_
        refine lv_goto (tgt := 28) hx hb dMo_fails_24 (by decide) ?_
        exact ct_rz hx hb hr hlocks I1 (⟨(by rw [if_pos ⟨c1, c8⟩]; exact eI1), (by rw [show I1 0 0 = n by rw [eI1, ui_s]]; first | (rw [if_pos c20]; rfl) | (rw [if_neg (fun q => q c20)]; rfl))⟩) hP hD hS (Nat.le_refl _) (Nat.le_refl _) dMo_fails_28
set_option maxHeartbeats 4000000 in
set_option maxRecDepth 100000 in
theorem kMo_frames (l : Launch) (dC : Nat → ClassId) (dI : Nat → Nat → Nat) (k : Nat → ClassId) (b : Nat → Nat) (I : Nat → Nat → Int32) (D : Nat → Nat → UInt64) (sz : Nat) (n : Nat) (hn : n ≤ 320) (h3 : I 0 3 = nI n) : Met l yMo_frames wMo_frames ({ frames := 0, cells := 0, slots := 0, locals := 0 }) (va_Pc [.ref (b 0)] (ct_pre (dC, dI) (mo_ty k) (fun _ => True) (wm k b I D) sz)) (va_Qi (fun r (_ : Unit) => r = nI (hd_nf n)) (fun u t => ct_at (dC, dI) (va_A (wm k b I D) sz) ((fun _ => wm k b I D) u) t) (va_A (wm k b I D) sz)) 0 0 (va_A (wm k b I D) sz) := by
  refine Met.ofW (cc := cMo_frames) (maxL := 1) (ret := (some .int)) (by decide) rfl ?_
  intro p e s m args below meth c s₁ B hml hv
  obtain ⟨rfl, hsz, hP, hK, hD0, hE⟩ := hv
  have hx := B.exec
  have hb := B.bytes
  have hr := B.returns
  have hts : ∀ w ∈ W0, w.before [.ref (b 0)].toArray s = true := fun w h => atoms_spec (ws := wMo_frames) B.pre w (List.mem_cons_of_mem _ h)
  have hown : s.vm.findClass RMo = some m.cls := findClass_of_methodNamed B.named
  have hlocks := B.notSynchronized
  subst hsz
  have hD := hD0.self (sz := s.heap.size)
  generalize hAe : va_A (wm k b I D) s.heap.size = A at hD ⊢
  have hA : ∀ q : Nat, s.heap.size ≤ q → A q := fun q h => by rw [← hAe]; exact Or.inr h
  have hS : va_S A s.heap s.heap [] := va_S.rf
  have hl := lv_entry ([.ref (b 0)]) (n := 1) (Nat.le_of_ble_eq_true rfl)
  rw [lg_entry_eq]
  generalize (lg_sl ([.ref (b 0)]) ++ List.replicate (1 - (lg_sl ([.ref (b 0)])).length) Slot.unset).toArray = ls at hl ⊢
  have hl : lv_has ls 1 [(0, .ref (b 0))] := hl
  refine lv_aload_n hx hb dMo_frames_0 rfl (lv_at hl 0 rfl) ?_
  refine va_get (D := (dC, dI)) (ci := 8) (v := .int (I 0 3)) (C := RMo) (T := TMo) (N := 27) hx hb hts inMo hown hK hP 0 rfl rfl 3 (by decide) (hts _ tw_650) (fun _ h9 => h9) rfl dMo_frames_1 ?_
  refine rw_i (y := nI n) h3 ?_
  refine lv_bipush (v := nI 32) hx hb dMo_frames_4 (by decide +kernel) ?_
  refine lv_icmp_ge (tgt := 13) hx hb dMo_frames_6 (by decide) (fun c6 => ?_) (fun c6 => ?_)
  · have c6 : 32 ≤ n := (nI_leI (a := 32) (b := n) (by omega) (by omega)).mp (show nI 32 ≤ nI n from c6)
    refine lv_aload_n hx hb dMo_frames_13 rfl (lv_at hl 0 rfl) ?_
    refine va_get (D := (dC, dI)) (ci := 8) (v := .int (I 0 3)) (C := RMo) (T := TMo) (N := 27) hx hb hts inMo hown hK hP 0 rfl rfl 3 (by decide) (hts _ tw_650) (fun _ h9 => h9) rfl dMo_frames_14 ?_
    refine rw_i (y := nI n) h3 ?_
    refine lv_bipush (v := nI 32) hx hb dMo_frames_17 (by decide +kernel) ?_
    refine lv_isub hx hb dMo_frames_19 ?_
    refine rw_i (y := nI (n - 32)) (pk_sub (by omega)) ?_
    refine lv_bipush (v := nI 16) hx hb dMo_frames_20 (by decide +kernel) ?_
    refine lv_idiv hx hb dMo_frames_22 (by decide +kernel) ?_
    refine rw_i (y := nI ((n - 32) / 16)) (pk_div (by omega) (by omega) (by omega)) ?_
    refine lv_iconst (v := nI 1) hx hb dMo_frames_23 (by decide +kernel) ?_
    refine lv_iadd hx hb dMo_frames_24 ?_
    refine rw_i (y := nI (((n - 32) / 16) + 1)) (nI_add _ _) ?_
    exact ct_ri hx hb hr hlocks () (by first | (unfold hd_nf; rw [if_pos (by omega)]) | (unfold hd_nf; rw [if_neg (by omega)])) hP hD hS (Nat.le_refl _) (Nat.le_refl _) dMo_frames_25
  · have c6 : ¬ 32 ≤ n := fun q9 => c6 (show nI 32 ≤ nI n from (nI_leI (a := 32) (b := n) (by omega) (by omega)).mpr q9)
    refine lv_iconst (v := nI 0) hx hb dMo_frames_9 (by decide +kernel) ?_
    refine lv_goto (tgt := 25) hx hb dMo_frames_10 (by decide) ?_
    exact ct_ri hx hb hr hlocks () (by first | (unfold hd_nf; rw [if_pos (by omega)]) | (unfold hd_nf; rw [if_neg (by omega)])) hP hD hS (Nat.le_refl _) (Nat.le_refl _) dMo_frames_25
set_option maxHeartbeats 4000000 in
set_option maxRecDepth 100000 in
theorem kMo_place (l : Launch) (dC : Nat → ClassId) (dI : Nat → Nat → Nat) (k : Nat → ClassId) (b : Nat → Nat) (I : Nat → Nat → Int32) (D : Nat → Nat → UInt64) (sz : Nat)  : Met l yMo_place wMo_place ({ frames := 0, cells := 0, slots := 0, locals := 0 }) (va_Pc [.ref (b 0)] (ct_pre (dC, dI) (mo_ty k) (fun _ => True) (wm k b I D) sz)) (va_Qi (fun r (u : Nat → Nat → Int32) => u = ui I 0 0 0 ∧ r = I 0 2) (fun u t => ct_at (dC, dI) (va_A (wm k b I D) sz) ((fun u => wm k b u D) u) t) (va_A (wm k b I D) sz)) 0 0 (va_A (wm k b I D) sz) := by
  refine Met.ofW (cc := cMo_place) (maxL := 1) (ret := (some .int)) (by decide) rfl ?_
  intro p e s m args below meth c s₁ B hml hv
  obtain ⟨rfl, hsz, hP, hK, hD0, hE⟩ := hv
  have hx := B.exec
  have hb := B.bytes
  have hr := B.returns
  have hts : ∀ w ∈ W0, w.before [.ref (b 0)].toArray s = true := fun w h => atoms_spec (ws := wMo_place) B.pre w (List.mem_cons_of_mem _ h)
  have hown : s.vm.findClass RMo = some m.cls := findClass_of_methodNamed B.named
  have hlocks := B.notSynchronized
  subst hsz
  have hD := hD0.self (sz := s.heap.size)
  generalize hAe : va_A (wm k b I D) s.heap.size = A at hD ⊢
  have hA : ∀ q : Nat, s.heap.size ≤ q → A q := fun q h => by rw [← hAe]; exact Or.inr h
  have hS : va_S A s.heap s.heap [] := va_S.rf
  have hl := lv_entry ([.ref (b 0)]) (n := 1) (Nat.le_of_ble_eq_true rfl)
  rw [lg_entry_eq]
  generalize (lg_sl ([.ref (b 0)]) ++ List.replicate (1 - (lg_sl ([.ref (b 0)])).length) Slot.unset).toArray = ls at hl ⊢
  have hl : lv_has ls 1 [(0, .ref (b 0))] := hl
  refine lv_aload_n hx hb dMo_place_0 rfl (lv_at hl 0 rfl) ?_
  refine lv_iconst (v := nI 0) hx hb dMo_place_1 (by decide +kernel) ?_
  refine va_put (D := (dC, dI)) (ci := 8) (fs := mo_f b I D) (v := .int (nI 0)) (ty := .int) (C := RMo) (T := TMo) (N := 27) hx hb hts inMo tyMo tyMo_ok nmMo hown hK hP hD hS 0 rfl rfl 0 (by decide) (hts _ tw_647) (fun _ h9 => h9) rfl (by decide +kernel) rfl rfl (Nat.le_of_ble_eq_true rfl) dMo_place_2 (fun H locs hP hD hS => ?_)
  rw [wm_p0] at hP hD
  obtain ⟨I1, eI1⟩ : ∃ z, z = ui I 0 0 (nI 0) := ⟨_, rfl⟩
  rw [← eI1] at hP hD
  refine lv_aload_n hx hb dMo_place_5 rfl (lv_at hl 0 rfl) ?_
  refine va_get (D := (dC, dI)) (ci := 8) (v := .int (I1 0 2)) (C := RMo) (T := TMo) (N := 27) hx hb hts inMo hown hK hP 0 rfl rfl 2 (by decide) (hts _ tw_649) (fun _ h9 => h9) rfl dMo_place_6 ?_
  refine rw_i (y := I 0 2) (by rw [eI1, ui_n _ _ _ (by decide)]) ?_
  exact ct_ri hx hb hr hlocks I1 (⟨eI1, rfl⟩) hP hD hS (Nat.le_refl _) (Nat.le_refl _) dMo_place_9
set_option maxHeartbeats 4000000 in
set_option maxRecDepth 100000 in
theorem kMo_clear (l : Launch) (dC : Nat → ClassId) (dI : Nat → Nat → Nat) (k : Nat → ClassId) (b : Nat → Nat) (I : Nat → Nat → Int32) (D : Nat → Nat → UInt64) (sz : Nat)  : Met l yMo_clear wMo_clear ({ frames := 0, cells := 0, slots := 0, locals := 0 }) (va_Pc [.ref (b 0)] (ct_pre (dC, dI) (mo_ty k) (fun _ => True) (wm k b I D) sz)) (va_Qi (fun r (u : Nat → Nat → Int32) => u = ui (ui (ui I 0 0 0) 0 3 0) 0 6 0 ∧ r = I 0 3) (fun u t => ct_at (dC, dI) (va_A (wm k b I D) sz) ((fun u => wm k b u D) u) t) (va_A (wm k b I D) sz)) 0 0 (va_A (wm k b I D) sz) := by
  refine Met.ofW (cc := cMo_clear) (maxL := 2) (ret := (some .int)) (by decide) rfl ?_
  intro p e s m args below meth c s₁ B hml hv
  obtain ⟨rfl, hsz, hP, hK, hD0, hE⟩ := hv
  have hx := B.exec
  have hb := B.bytes
  have hr := B.returns
  have hts : ∀ w ∈ W0, w.before [.ref (b 0)].toArray s = true := fun w h => atoms_spec (ws := wMo_clear) B.pre w (List.mem_cons_of_mem _ h)
  have hown : s.vm.findClass RMo = some m.cls := findClass_of_methodNamed B.named
  have hlocks := B.notSynchronized
  subst hsz
  have hD := hD0.self (sz := s.heap.size)
  generalize hAe : va_A (wm k b I D) s.heap.size = A at hD ⊢
  have hA : ∀ q : Nat, s.heap.size ≤ q → A q := fun q h => by rw [← hAe]; exact Or.inr h
  have hS : va_S A s.heap s.heap [] := va_S.rf
  have hl := lv_entry ([.ref (b 0)]) (n := 2) (Nat.le_of_ble_eq_true rfl)
  rw [lg_entry_eq]
  generalize (lg_sl ([.ref (b 0)]) ++ List.replicate (2 - (lg_sl ([.ref (b 0)])).length) Slot.unset).toArray = ls at hl ⊢
  have hl : lv_has ls 2 [(0, .ref (b 0))] := hl
  refine lv_aload_n hx hb dMo_clear_0 rfl (lv_at hl 0 rfl) ?_
  refine lv_iconst (v := nI 0) hx hb dMo_clear_1 (by decide +kernel) ?_
  refine va_put (D := (dC, dI)) (ci := 8) (fs := mo_f b I D) (v := .int (nI 0)) (ty := .int) (C := RMo) (T := TMo) (N := 27) hx hb hts inMo tyMo tyMo_ok nmMo hown hK hP hD hS 0 rfl rfl 0 (by decide) (hts _ tw_647) (fun _ h9 => h9) rfl (by decide +kernel) rfl rfl (Nat.le_of_ble_eq_true rfl) dMo_clear_2 (fun H locs hP hD hS => ?_)
  rw [wm_p0] at hP hD
  obtain ⟨I1, eI1⟩ : ∃ z, z = ui I 0 0 (nI 0) := ⟨_, rfl⟩
  rw [← eI1] at hP hD
  refine lv_aload_n hx hb dMo_clear_5 rfl (lv_at hl 0 rfl) ?_
  refine va_get (D := (dC, dI)) (ci := 8) (v := .int (I1 0 3)) (C := RMo) (T := TMo) (N := 27) hx hb hts inMo hown hK hP 0 rfl rfl 3 (by decide) (hts _ tw_650) (fun _ h9 => h9) rfl dMo_clear_6 ?_
  refine rw_i (y := I 0 3) (by rw [eI1, ui_n _ _ _ (by decide)]) ?_
  refine lv_istore_n (lv' := [(1, .int (I 0 3)), (0, .ref (b 0))]) hx hb dMo_clear_9 rfl hl (by decide) rfl (fun ls hl => ?_)
  refine lv_aload_n hx hb dMo_clear_10 rfl (lv_at hl 1 rfl) ?_
  refine lv_iconst (v := nI 0) hx hb dMo_clear_11 (by decide +kernel) ?_
  refine va_put (D := (dC, dI)) (ci := 8) (fs := mo_f b I1 D) (v := .int (nI 0)) (ty := .int) (C := RMo) (T := TMo) (N := 27) hx hb hts inMo tyMo tyMo_ok nmMo hown hK hP hD hS 0 rfl rfl 3 (by decide) (hts _ tw_650) (fun _ h9 => h9) rfl (by decide +kernel) rfl rfl (Nat.le_of_ble_eq_true rfl) dMo_clear_12 (fun H locs hP hD hS => ?_)
  rw [wm_p3] at hP hD
  obtain ⟨I2, eI2⟩ : ∃ z, z = ui I1 0 3 (nI 0) := ⟨_, rfl⟩
  rw [← eI2] at hP hD
  refine lv_aload_n hx hb dMo_clear_15 rfl (lv_at hl 1 rfl) ?_
  refine lv_iconst (v := nI 0) hx hb dMo_clear_16 (by decide +kernel) ?_
  refine va_put (D := (dC, dI)) (ci := 8) (fs := mo_f b I2 D) (v := .int (nI 0)) (ty := .int) (C := RMo) (T := TMo) (N := 27) hx hb hts inMo tyMo tyMo_ok nmMo hown hK hP hD hS 0 rfl rfl 6 (by decide) (hts _ tw_653) (fun _ h9 => h9) rfl (by decide +kernel) rfl rfl (Nat.le_of_ble_eq_true rfl) dMo_clear_17 (fun H locs hP hD hS => ?_)
  rw [wm_p6] at hP hD
  obtain ⟨I3, eI3⟩ : ∃ z, z = ui I2 0 6 (nI 0) := ⟨_, rfl⟩
  rw [← eI3] at hP hD
  refine lv_iload_n hx hb dMo_clear_20 rfl (lv_at hl 0 rfl) ?_
  exact ct_ri hx hb hr hlocks I3 (⟨by rw [eI3, eI2, eI1]; rfl, rfl⟩) hP hD hS (Nat.le_refl _) (Nat.le_refl _) dMo_clear_21
set_option maxHeartbeats 4000000 in
set_option maxRecDepth 100000 in
theorem kMo_spells (l : Launch) (dC : Nat → ClassId) (dI : Nat → Nat → Nat) (k : Nat → ClassId) (b : Nat → Nat) (I : Nat → Nat → Int32) (D : Nat → Nat → UInt64) (sz : Nat) (t x1 x2 x3 x4 : Nat) (oc : Nat → Nat) (ht : t + 3 < 400) (ho : ∀ j, j < 400 → I 1 j = nI (oc j) ∧ oc j < 256) (g1 : x1 < 256) (g2 : x2 < 256) (g3 : x3 < 256) (g4 : x4 < 256) : Met l yMo_spells wMo_spells ({ frames := 0, cells := 0, slots := 0, locals := 0 }) (va_Pc [.ref (b 0), .int (nI t), .int (nI x1), .int (nI x2), .int (nI x3), .int (nI x4)] (ct_pre (dC, dI) (mo_ty k) (fun _ => True) (wm k b I D) sz)) (va_Qi (fun r (_ : Unit) => r = (if fi_sp oc t x1 x2 x3 x4 then 1 else 0)) (fun u t => ct_at (dC, dI) (va_A (wm k b I D) sz) ((fun _ => wm k b I D) u) t) (va_A (wm k b I D) sz)) 0 0 (va_A (wm k b I D) sz) := by
  refine Met.ofW (cc := cMo_spells) (maxL := 6) (ret := (some .boolean)) (by decide) rfl ?_
  intro p e s m args below meth c s₁ B hml hv
  obtain ⟨rfl, hsz, hP, hK, hD0, hE⟩ := hv
  have hx := B.exec
  have hb := B.bytes
  have hr := B.returns
  have hts : ∀ w ∈ W0, w.before [.ref (b 0), .int (nI t), .int (nI x1), .int (nI x2), .int (nI x3), .int (nI x4)].toArray s = true := fun w h => atoms_spec (ws := wMo_spells) B.pre w (List.mem_cons_of_mem _ h)
  have hown : s.vm.findClass RMo = some m.cls := findClass_of_methodNamed B.named
  have hlocks := B.notSynchronized
  subst hsz
  have hD := hD0.self (sz := s.heap.size)
  generalize hAe : va_A (wm k b I D) s.heap.size = A at hD ⊢
  have hA : ∀ q : Nat, s.heap.size ≤ q → A q := fun q h => by rw [← hAe]; exact Or.inr h
  have hS : va_S A s.heap s.heap [] := va_S.rf
  have hl := lv_entry ([.ref (b 0), .int (nI t), .int (nI x1), .int (nI x2), .int (nI x3), .int (nI x4)]) (n := 6) (Nat.le_of_ble_eq_true rfl)
  rw [lg_entry_eq]
  generalize (lg_sl ([.ref (b 0), .int (nI t), .int (nI x1), .int (nI x2), .int (nI x3), .int (nI x4)]) ++ List.replicate (6 - (lg_sl ([.ref (b 0), .int (nI t), .int (nI x1), .int (nI x2), .int (nI x3), .int (nI x4)])).length) Slot.unset).toArray = ls at hl ⊢
  have hl : lv_has ls 6 [(0, .ref (b 0)), (1, .int (nI t)), (2, .int (nI x1)), (3, .int (nI x2)), (4, .int (nI x3)), (5, .int (nI x4))] := hl
  refine lv_aload_n hx hb dMo_spells_0 rfl (lv_at hl 0 rfl) ?_
  refine va_get (D := (dC, dI)) (ci := 8) (v := .ref (b 1)) (C := RMo) (T := TMo) (N := 27) hx hb hts inMo hown hK hP 0 rfl rfl 12 (by decide) (hts _ tw_659) (fun _ h9 => h9) rfl dMo_spells_1 ?_
  refine lv_iload_n hx hb dMo_spells_4 rfl (lv_at hl 1 rfl) ?_
  refine rw_ald_i hx hb hK hP 1 0 rfl rfl (by omega) (by decide) dMo_spells_5 ?_
  have q6 := (ho (t) (by omega)).2
  refine rw_i (y := nI (oc t)) ((ho _ (by omega)).1) ?_
  refine lv_iload_n hx hb dMo_spells_6 rfl (lv_at hl 2 rfl) ?_
  refine lv_icmp_ne (tgt := 52) hx hb dMo_spells_7 (by decide) (fun c7 => ?_) (fun c7 => ?_)
  · have c7 : ¬ (oc t) = x1 := fun q9 => c7 (show nI (oc t) = nI x1 from (nI_eq (a := (oc t)) (b := x1) (by omega) (by omega)).mpr q9)
    refine lv_iconst (v := nI 0) hx hb dMo_spells_52 (by decide +kernel) ?_
    exact ct_rz hx hb hr hlocks () (sp_post_0 (by first | exact ⟨c7, c19, c32, c45⟩ | exact fun q => c7 q.1 | exact fun q => c19 q.2.1 | exact fun q => c32 q.2.2.1 | exact fun q => c45 q.2.2.2)) hP hD hS (Nat.le_refl _) (Nat.le_refl _) dMo_spells_53
  · have c7 : (oc t) = x1 := (nI_eq (a := (oc t)) (b := x1) (by omega) (by omega)).mp (show nI (oc t) = nI x1 from c7)
    refine lv_aload_n hx hb dMo_spells_10 rfl (lv_at hl 0 rfl) ?_
    refine va_get (D := (dC, dI)) (ci := 8) (v := .ref (b 1)) (C := RMo) (T := TMo) (N := 27) hx hb hts inMo hown hK hP 0 rfl rfl 12 (by decide) (hts _ tw_659) (fun _ h9 => h9) rfl dMo_spells_11 ?_
    refine lv_iload_n hx hb dMo_spells_14 rfl (lv_at hl 1 rfl) ?_
    refine lv_iconst (v := nI 1) hx hb dMo_spells_15 (by decide +kernel) ?_
    refine lv_iadd hx hb dMo_spells_16 ?_
    refine rw_i (y := nI (t + 1)) (nI_add _ _) ?_
    refine rw_ald_i hx hb hK hP 1 0 rfl rfl (by omega) (by decide) dMo_spells_17 ?_
    have q18 := (ho ((t + 1)) (by omega)).2
    refine rw_i (y := nI (oc (t + 1))) ((ho _ (by omega)).1) ?_
    refine lv_iload_n hx hb dMo_spells_18 rfl (lv_at hl 3 rfl) ?_
    refine lv_icmp_ne (tgt := 52) hx hb dMo_spells_19 (by decide) (fun c19 => ?_) (fun c19 => ?_)
    · have c19 : ¬ (oc (t + 1)) = x2 := fun q9 => c19 (show nI (oc (t + 1)) = nI x2 from (nI_eq (a := (oc (t + 1))) (b := x2) (by omega) (by omega)).mpr q9)
      refine lv_iconst (v := nI 0) hx hb dMo_spells_52 (by decide +kernel) ?_
      exact ct_rz hx hb hr hlocks () (sp_post_0 (by first | exact ⟨c7, c19, c32, c45⟩ | exact fun q => c7 q.1 | exact fun q => c19 q.2.1 | exact fun q => c32 q.2.2.1 | exact fun q => c45 q.2.2.2)) hP hD hS (Nat.le_refl _) (Nat.le_refl _) dMo_spells_53
    · have c19 : (oc (t + 1)) = x2 := (nI_eq (a := (oc (t + 1))) (b := x2) (by omega) (by omega)).mp (show nI (oc (t + 1)) = nI x2 from c19)
      refine lv_aload_n hx hb dMo_spells_22 rfl (lv_at hl 0 rfl) ?_
      refine va_get (D := (dC, dI)) (ci := 8) (v := .ref (b 1)) (C := RMo) (T := TMo) (N := 27) hx hb hts inMo hown hK hP 0 rfl rfl 12 (by decide) (hts _ tw_659) (fun _ h9 => h9) rfl dMo_spells_23 ?_
      refine lv_iload_n hx hb dMo_spells_26 rfl (lv_at hl 1 rfl) ?_
      refine lv_iconst (v := nI 2) hx hb dMo_spells_27 (by decide +kernel) ?_
      refine lv_iadd hx hb dMo_spells_28 ?_
      refine rw_i (y := nI (t + 2)) (nI_add _ _) ?_
      refine rw_ald_i hx hb hK hP 1 0 rfl rfl (by omega) (by decide) dMo_spells_29 ?_
      have q30 := (ho ((t + 2)) (by omega)).2
      refine rw_i (y := nI (oc (t + 2))) ((ho _ (by omega)).1) ?_
      refine lv_iload hx hb dMo_spells_30 (lv_at hl 4 rfl) ?_
      refine lv_icmp_ne (tgt := 52) hx hb dMo_spells_32 (by decide) (fun c32 => ?_) (fun c32 => ?_)
      · have c32 : ¬ (oc (t + 2)) = x3 := fun q9 => c32 (show nI (oc (t + 2)) = nI x3 from (nI_eq (a := (oc (t + 2))) (b := x3) (by omega) (by omega)).mpr q9)
        refine lv_iconst (v := nI 0) hx hb dMo_spells_52 (by decide +kernel) ?_
        exact ct_rz hx hb hr hlocks () (sp_post_0 (by first | exact ⟨c7, c19, c32, c45⟩ | exact fun q => c7 q.1 | exact fun q => c19 q.2.1 | exact fun q => c32 q.2.2.1 | exact fun q => c45 q.2.2.2)) hP hD hS (Nat.le_refl _) (Nat.le_refl _) dMo_spells_53
      · have c32 : (oc (t + 2)) = x3 := (nI_eq (a := (oc (t + 2))) (b := x3) (by omega) (by omega)).mp (show nI (oc (t + 2)) = nI x3 from c32)
        refine lv_aload_n hx hb dMo_spells_35 rfl (lv_at hl 0 rfl) ?_
        refine va_get (D := (dC, dI)) (ci := 8) (v := .ref (b 1)) (C := RMo) (T := TMo) (N := 27) hx hb hts inMo hown hK hP 0 rfl rfl 12 (by decide) (hts _ tw_659) (fun _ h9 => h9) rfl dMo_spells_36 ?_
        refine lv_iload_n hx hb dMo_spells_39 rfl (lv_at hl 1 rfl) ?_
        refine lv_iconst (v := nI 3) hx hb dMo_spells_40 (by decide +kernel) ?_
        refine lv_iadd hx hb dMo_spells_41 ?_
        refine rw_i (y := nI (t + 3)) (nI_add _ _) ?_
        refine rw_ald_i hx hb hK hP 1 0 rfl rfl (by omega) (by decide) dMo_spells_42 ?_
        have q43 := (ho ((t + 3)) (by omega)).2
        refine rw_i (y := nI (oc (t + 3))) ((ho _ (by omega)).1) ?_
        refine lv_iload hx hb dMo_spells_43 (lv_at hl 5 rfl) ?_
        refine lv_icmp_ne (tgt := 52) hx hb dMo_spells_45 (by decide) (fun c45 => ?_) (fun c45 => ?_)
        · have c45 : ¬ (oc (t + 3)) = x4 := fun q9 => c45 (show nI (oc (t + 3)) = nI x4 from (nI_eq (a := (oc (t + 3))) (b := x4) (by omega) (by omega)).mpr q9)
          refine lv_iconst (v := nI 0) hx hb dMo_spells_52 (by decide +kernel) ?_
          exact ct_rz hx hb hr hlocks () (sp_post_0 (by first | exact ⟨c7, c19, c32, c45⟩ | exact fun q => c7 q.1 | exact fun q => c19 q.2.1 | exact fun q => c32 q.2.2.1 | exact fun q => c45 q.2.2.2)) hP hD hS (Nat.le_refl _) (Nat.le_refl _) dMo_spells_53
        · have c45 : (oc (t + 3)) = x4 := (nI_eq (a := (oc (t + 3))) (b := x4) (by omega) (by omega)).mp (show nI (oc (t + 3)) = nI x4 from c45)
          refine lv_iconst (v := nI 1) hx hb dMo_spells_48 (by decide +kernel) ?_
          refine lv_goto (tgt := 53) hx hb dMo_spells_49 (by decide) ?_
          exact ct_rz hx hb hr hlocks () (sp_post_1 (by first | exact ⟨c7, c19, c32, c45⟩ | exact fun q => c7 q.1 | exact fun q => c19 q.2.1 | exact fun q => c32 q.2.2.1 | exact fun q => c45 q.2.2.2)) hP hD hS (Nat.le_refl _) (Nat.le_refl _) dMo_spells_53
end
section
set_option maxHeartbeats 4000000 in
set_option maxRecDepth 100000 in
theorem kMo_number (l : Launch) (dC : Nat → ClassId) (dI : Nat → Nat → Nat) (k : Nat → ClassId) (b : Nat → Nat) (I : Nat → Nat → Int32) (D : Nat → Nat → UInt64) (sz : Nat) (t N : Nat) (oc : Nat → Nat) (hN : 1 ≤ N) (hN4 : N ≤ 4) (ht : t + N ≤ 400) (ho : ∀ j, j < 400 → I 1 j = nI (oc j) ∧ oc j < 256) : Met l yMo_number wMo_number ({ frames := 0, cells := 0, slots := 0, locals := 0 }) (va_Pc [.ref (b 0), .int (nI t), .int (nI N)] (ct_pre (dC, dI) (mo_ty k) (fun _ => True) (wm k b I D) sz)) (va_Ql (fun r (_ : Unit) => r = lN (nu oc t N)) (fun u t => ct_at (dC, dI) (va_A (wm k b I D) sz) ((fun _ => wm k b I D) u) t) (va_A (wm k b I D) sz)) 0 0 (va_A (wm k b I D) sz) := by
  refine Met.ofW (cc := cMo_number) (maxL := 6) (ret := (some .long)) (by decide) rfl ?_
  intro p e s m args below meth c s₁ B hml hv
  obtain ⟨rfl, hsz, hP, hK, hD0, hE⟩ := hv
  have hx := B.exec
  have hb := B.bytes
  have hr := B.returns
  have hts : ∀ w ∈ W0, w.before [.ref (b 0), .int (nI t), .int (nI N)].toArray s = true := fun w h => atoms_spec (ws := wMo_number) B.pre w (List.mem_cons_of_mem _ h)
  have hown : s.vm.findClass RMo = some m.cls := findClass_of_methodNamed B.named
  have hlocks := B.notSynchronized
  subst hsz
  have hD := hD0.self (sz := s.heap.size)
  generalize hAe : va_A (wm k b I D) s.heap.size = A at hD ⊢
  have hA : ∀ q : Nat, s.heap.size ≤ q → A q := fun q h => by rw [← hAe]; exact Or.inr h
  have hS : va_S A s.heap s.heap [] := va_S.rf
  have hl := lv_entry ([.ref (b 0), .int (nI t), .int (nI N)]) (n := 6) (Nat.le_of_ble_eq_true rfl)
  rw [lg_entry_eq]
  generalize (lg_sl ([.ref (b 0), .int (nI t), .int (nI N)]) ++ List.replicate (6 - (lg_sl ([.ref (b 0), .int (nI t), .int (nI N)])).length) Slot.unset).toArray = ls at hl ⊢
  have hl : lv_has ls 6 [(0, .ref (b 0)), (1, .int (nI t)), (2, .int (nI N))] := hl
  refine lp_q (fun Q9 hQ9 => ?_)
  refine lv_lconst (v := lN 0) hx hb dMo_number_0 (by decide +kernel) ?_
  refine lv_lstore_n (lv' := [(3, .long (lN 0)), (0, .ref (b 0)), (1, .int (nI t)), (2, .int (nI N))]) hx hb dMo_number_1 rfl hl (by decide) rfl (fun ls hl => ?_)
  refine lv_iload_n hx hb dMo_number_2 rfl (lv_at hl 3 rfl) ?_
  refine lv_iconst (v := nI 1) hx hb dMo_number_3 (by decide +kernel) ?_
  refine lv_isub hx hb dMo_number_4 ?_
  refine rw_i (y := kd N) (kd_sub (by omega)) ?_
  refine lv_istore (lv' := [(5, .int (kd N)), (3, .long (lN 0)), (0, .ref (b 0)), (1, .int (nI t)), (2, .int (nI N))]) hx hb dMo_number_5 hl (by decide) rfl (fun ls hl => ?_)
  have e0 : nu oc (t + N) (N - N) = 0 := by rw [Nat.sub_self]; rfl
  have hl : lv_has ls 6 [(5, .int (kd N)), (3, .long (lN (nu oc (t + N) (N - N)))), (0, .ref (b 0)), (1, .int (nI t)), (2, .int (nI N))] := by rw [e0]; exact hl
  have L7 : ∀ (n7 : Nat) (r : Nat), r < n7 → r ≤ N → ∀ (H : Heap) (locs : List Loc), va_P (dC, dI) vwCl (wm k b I D) H → va_D A (wm k b I D) → va_S A s.heap H locs → ∀ ls : Array Slot, lv_has ls 6 [(0, .ref (b 0)), (1, .int (nI t)), (2, .int (nI N)), (3, .long (lN (nu oc (t + r) (N - r)))), (5, .int (kd r))] → W p l e (headSpec wMo_number ({ frames := 0, cells := 0, slots := 0, locals := 0 })).room s m [.ref (b 0), .int (nI t), .int (nI N)].toArray below meth c H locs 0 0 Q9 (F0 m 7 ls []) := by
    intro n7
    induction n7 with
    | zero => intro r hm; exact absurd hm (Nat.not_lt_zero _)
    | succ n7 ih7 =>
      intro r hm7 hr9 H locs hP hD hS ls hl
      refine lv_iload hx hb dMo_number_7 (lv_at hl 4 rfl) ?_
      refine lv_if_lt (tgt := 34) hx hb dMo_number_9 (by decide) (fun c9 => ?_) (fun c9 => ?_)
      · obtain rfl : r = 0 := kd_neg c9 (by omega)
        refine lv_lload_n hx hb dMo_number_34 rfl (lv_at hl 3 rfl) ?_
        rw [hQ9]
        exact ct_rl hx hb hr hlocks () rfl hP hD hS (Nat.le_refl _) (Nat.le_refl _) dMo_number_35
      · obtain ⟨q, rfl⟩ := kd_pos c9
        rw [kd_s] at hl
        refine lv_lload_n hx hb dMo_number_12 rfl (lv_at hl 3 rfl) ?_
        refine lv_bipush (v := nI 8) hx hb dMo_number_13 (by decide +kernel) ?_
        refine lv_lshl (v := lN (nu oc (t + (q + 1)) (N - (q + 1)) * 256)) hx hb dMo_number_15 (nu_shl _) ?_
        refine lv_aload_n hx hb dMo_number_16 rfl (lv_at hl 0 rfl) ?_
        refine va_get (D := (dC, dI)) (ci := 8) (v := .ref (b 1)) (C := RMo) (T := TMo) (N := 27) hx hb hts inMo hown hK hP 0 rfl rfl 12 (by decide) (hts _ tw_659) (fun _ h9 => h9) rfl dMo_number_17 ?_
        refine lv_iload_n hx hb dMo_number_20 rfl (lv_at hl 1 rfl) ?_
        refine lv_iload hx hb dMo_number_21 (lv_at hl 4 rfl) ?_
        refine lv_iadd hx hb dMo_number_23 ?_
        refine rw_i (y := nI (t + q)) (nI_add _ _) ?_
        refine rw_ald_i hx hb hK hP 1 0 rfl rfl (by omega) (by decide) dMo_number_24 ?_
        refine rw_i (y := nI (oc (t + q))) ((ho _ (by omega)).1) ?_
        have b1 := (ho (t + q) (by omega)).2
        have b2 := nu_lt3 oc (d := N - (q + 1)) (a := t + (q + 1)) (by omega) (fun j hj => (ho j (by omega)).2)
        refine lv_i2l (v := lN (oc (t + q))) hx hb dMo_number_25 (nI_l (by omega)) ?_
        refine lv_lor hx hb dMo_number_26 ?_
        refine rw_l (y := lN (nu oc (t + q) (N - q))) ((g_or (k := 8) rfl b1 (by omega)).trans (by rw [nu_step oc t (by omega)])) ?_
        refine lv_lstore_n (lv' := [(3, .long (lN (nu oc (t + q) (N - q)))), (0, .ref (b 0)), (1, .int (nI t)), (2, .int (nI N)), (5, .int (nI q))]) hx hb dMo_number_27 rfl hl (by decide) rfl (fun ls hl => ?_)
        refine lv_iinc (v := kd q) (lv' := [(5, .int (kd q)), (3, .long (lN (nu oc (t + q) (N - q)))), (0, .ref (b 0)), (1, .int (nI t)), (2, .int (nI N))]) hx hb dMo_number_28 hl (k := 4) rfl (rfl) (by decide) rfl (fun ls hl => ?_)
        refine lv_goto (tgt := 7) hx hb dMo_number_31 (by decide) ?_
        exact ih7 q (by omega) (by omega) _ _ hP hD hS ls (lv_sub hl [2, 3, 4, 1, 0] rfl)
  exact L7 _ N (Nat.lt_succ_self _) (Nat.le_refl N) _ _ hP hD hS ls (lv_sub hl [2, 3, 4, 1, 0] rfl)
end
section
-- 'in' over longs that are ints
theorem in_toInt {i : Int32} : i.toInt64.toInt = i.toInt := Int32.toInt_toInt64 i
theorem in_0n {i : Int32} {n : Nat} (hn : n ≤ 320) (h : lN 0 ≤ i.toInt64 ∧ i.toInt64 ≤ (nI n - nI 1).toInt64) : ∃ j, j < n ∧ i = nI j := by
  have h1 := Int64.le_iff_toInt_le.mp h.1
  have h2 := Int64.le_iff_toInt_le.mp h.2
  rw [in_toInt] at h1 h2
  rw [in_toInt, pk_sub_toInt (by omega) (by decide)] at h2
  have h3 : (lN 0).toInt = 0 := by decide
  rw [h3] at h1
  obtain ⟨j, hj, rfl⟩ := nI_of (x := i) (by rw [Int32.lt_iff_toInt_lt]; have : (0 : Int32).toInt = 0 := (by decide); omega)
  rw [nI_toInt hj] at h2
  exact ⟨j, by omega, rfl⟩
theorem in_n0 {i : Int32} {n : Nat} (hn : n ≤ 320) (h : ∃ j, j < n ∧ i = nI j) : lN 0 ≤ i.toInt64 ∧ i.toInt64 ≤ (nI n - nI 1).toInt64 := by
  obtain ⟨j, hj, rfl⟩ := h
  have h3 : (lN 0).toInt = 0 := by decide
  constructor
  · rw [Int64.le_iff_toInt_le, in_toInt, nI_toInt (by omega), h3]; omega
  · rw [Int64.le_iff_toInt_le, in_toInt, in_toInt, nI_toInt (by omega), pk_sub_toInt (by omega) (by decide)]; omega
theorem in_ab {i : Int32} {a c : Nat} (ha : a < 2 ^ 31) (hc : c < 2 ^ 31) (h : lN a ≤ i.toInt64 ∧ i.toInt64 ≤ lN c) : ∃ j, a ≤ j ∧ j ≤ c ∧ i = nI j := by
  have h1 := Int64.le_iff_toInt_le.mp h.1
  have h2 := Int64.le_iff_toInt_le.mp h.2
  rw [in_toInt, lN_toInt ha] at h1
  rw [in_toInt, lN_toInt hc] at h2
  obtain ⟨j, hj, rfl⟩ := nI_of (x := i) (by rw [Int32.lt_iff_toInt_lt]; have : (0 : Int32).toInt = 0 := (by decide); omega)
  rw [nI_toInt hj] at h1 h2
  exact ⟨j, by omega, by omega, rfl⟩
theorem in_ba {i : Int32} {a c : Nat} (ha : a < 2 ^ 31) (hc : c < 2 ^ 31) (h : ∃ j, a ≤ j ∧ j ≤ c ∧ i = nI j) : lN a ≤ i.toInt64 ∧ i.toInt64 ≤ lN c := by
  obtain ⟨j, h1, h2, rfl⟩ := h
  constructor
  · rw [Int64.le_iff_toInt_le, in_toInt, nI_toInt (by omega), lN_toInt ha]; omega
  · rw [Int64.le_iff_toInt_le, in_toInt, nI_toInt (by omega), lN_toInt hc]; omega
end
section
set_option maxHeartbeats 4000000 in
set_option maxRecDepth 100000 in
theorem kMo_fails0 (l : Launch) (dC : Nat → ClassId) (dI : Nat → Nat → Nat) (k : Nat → ClassId) (b : Nat → Nat) (I : Nat → Nat → Int32) (D : Nat → Nat → UInt64) (sz : Nat) (n : Int32) (h0 : I 0 0 = nI 0) : Met l yMo_fails wMo_fails ({ frames := 0, cells := 0, slots := 0, locals := 0 }) (va_Pc [.ref (b 0), .int (nI 0), .int n] (ct_pre (dC, dI) (mo_ty k) (fun _ => True) (wm k b I D) sz)) (va_Qi (fun r (_ : Unit) => r = nI 0) (fun u t => ct_at (dC, dI) (va_A (wm k b I D) sz) ((fun _ => wm k b I D) u) t) (va_A (wm k b I D) sz)) 0 0 (va_A (wm k b I D) sz) := by
  refine Met.ofW (cc := cMo_fails) (maxL := 3) (ret := (some .boolean)) (by decide) rfl ?_
  intro p e s m args below meth c s₁ B hml hv
  obtain ⟨rfl, hsz, hP, hK, hD0, hE⟩ := hv
  have hx := B.exec
  have hb := B.bytes
  have hr := B.returns
  have hts : ∀ w ∈ W0, w.before [.ref (b 0), .int (nI 0), .int n].toArray s = true := fun w h => atoms_spec (ws := wMo_fails) B.pre w (List.mem_cons_of_mem _ h)
  have hown : s.vm.findClass RMo = some m.cls := findClass_of_methodNamed B.named
  have hlocks := B.notSynchronized
  subst hsz
  have hD := hD0.self (sz := s.heap.size)
  generalize hAe : va_A (wm k b I D) s.heap.size = A at hD ⊢
  have hA : ∀ q : Nat, s.heap.size ≤ q → A q := fun q h => by rw [← hAe]; exact Or.inr h
  have hS : va_S A s.heap s.heap [] := va_S.rf
  have hl := lv_entry ([.ref (b 0), .int (nI 0), .int n]) (n := 3) (Nat.le_of_ble_eq_true rfl)
  rw [lg_entry_eq]
  generalize (lg_sl ([.ref (b 0), .int (nI 0), .int n]) ++ List.replicate (3 - (lg_sl ([.ref (b 0), .int (nI 0), .int n])).length) Slot.unset).toArray = ls at hl ⊢
  have hl : lv_has ls 3 [(0, .ref (b 0)), (1, .int (nI 0)), (2, .int n)] := hl
  refine lv_iload_n hx hb dMo_fails_0 rfl (lv_at hl 1 rfl) ?_
  refine lv_if_eq (tgt := 16) hx hb dMo_fails_1 (by decide) (fun c1 => ?_) (fun c1 => ?_)
  · have c1 : 0 = 0 := (nI_eq (a := 0) (b := 0) (by omega) (by omega)).mp (show nI 0 = nI 0 from c1)
    refine lv_aload_n hx hb dMo_fails_16 rfl (lv_at hl 0 rfl) ?_
    refine va_get (D := (dC, dI)) (ci := 8) (v := .int (I 0 0)) (C := RMo) (T := TMo) (N := 27) hx hb hts inMo hown hK hP 0 rfl rfl 0 (by decide) (hts _ tw_647) (fun _ h9 => h9) rfl dMo_fails_17 ?_
    refine rw_i (y := nI 0) h0 ?_
    refine lv_if_eq (tgt := 27) hx hb dMo_fails_20 (by decide) (fun c20 => ?_) (fun c20 => ?_)
    · have c20 : 0 = 0 := (nI_eq (a := 0) (b := 0) (by omega) (by omega)).mp (show nI 0 = nI 0 from c20)
      refine lv_iconst (v := nI 0) hx hb dMo_fails_27 (by decide +kernel) ?_
      exact ct_rz hx hb hr hlocks () rfl hP hD hS (Nat.le_refl _) (Nat.le_refl _) dMo_fails_28
    · have c20 : ¬ 0 = 0 := fun q9 => c20 (show nI 0 = nI 0 from (nI_eq (a := 0) (b := 0) (by omega) (by omega)).mpr q9)
      exact absurd (by decide) c20
  · have c1 : ¬ 0 = 0 := fun q9 => c1 (show nI 0 = nI 0 from (nI_eq (a := 0) (b := 0) (by omega) (by omega)).mpr q9)
    exact absurd (by decide) c1
set_option maxHeartbeats 4000000 in
set_option maxRecDepth 100000 in
theorem kMo_fails1 (l : Launch) (dC : Nat → ClassId) (dI : Nat → Nat → Nat) (k : Nat → ClassId) (b : Nat → Nat) (I : Nat → Nat → Int32) (D : Nat → Nat → UInt64) (sz : Nat) (n : Nat) (hn : 0 < n) (hn2 : n < 100) (h0 : I 0 0 = nI 0) : Met l yMo_fails wMo_fails ({ frames := 0, cells := 0, slots := 0, locals := 0 }) (va_Pc [.ref (b 0), .int (nI 1), .int (nI n)] (ct_pre (dC, dI) (mo_ty k) (fun _ => True) (wm k b I D) sz)) (va_Qi (fun r (u : Nat → Nat → Int32) => r = nI 1 ∧ u = ui I 0 0 (nI n)) (fun u t => ct_at (dC, dI) (va_A (wm k b I D) sz) ((fun u => wm k b u D) u) t) (va_A (wm k b I D) sz)) 0 0 (va_A (wm k b I D) sz) := by
  refine Met.ofW (cc := cMo_fails) (maxL := 3) (ret := (some .boolean)) (by decide) rfl ?_
  intro p e s m args below meth c s₁ B hml hv
  obtain ⟨rfl, hsz, hP, hK, hD0, hE⟩ := hv
  have hx := B.exec
  have hb := B.bytes
  have hr := B.returns
  have hts : ∀ w ∈ W0, w.before [.ref (b 0), .int (nI 1), .int (nI n)].toArray s = true := fun w h => atoms_spec (ws := wMo_fails) B.pre w (List.mem_cons_of_mem _ h)
  have hown : s.vm.findClass RMo = some m.cls := findClass_of_methodNamed B.named
  have hlocks := B.notSynchronized
  subst hsz
  have hD := hD0.self (sz := s.heap.size)
  generalize hAe : va_A (wm k b I D) s.heap.size = A at hD ⊢
  have hA : ∀ q : Nat, s.heap.size ≤ q → A q := fun q h => by rw [← hAe]; exact Or.inr h
  have hS : va_S A s.heap s.heap [] := va_S.rf
  have hl := lv_entry ([.ref (b 0), .int (nI 1), .int (nI n)]) (n := 3) (Nat.le_of_ble_eq_true rfl)
  rw [lg_entry_eq]
  generalize (lg_sl ([.ref (b 0), .int (nI 1), .int (nI n)]) ++ List.replicate (3 - (lg_sl ([.ref (b 0), .int (nI 1), .int (nI n)])).length) Slot.unset).toArray = ls at hl ⊢
  have hl : lv_has ls 3 [(0, .ref (b 0)), (1, .int (nI 1)), (2, .int (nI n))] := hl
  refine lv_iload_n hx hb dMo_fails_0 rfl (lv_at hl 1 rfl) ?_
  refine lv_if_eq (tgt := 16) hx hb dMo_fails_1 (by decide) (fun c1 => ?_) (fun c1 => ?_)
  · have c1 : 1 = 0 := (nI_eq (a := 1) (b := 0) (by omega) (by omega)).mp (show nI 1 = nI 0 from c1)
    exact absurd c1 (by decide)
  · have c1 : ¬ 1 = 0 := fun q9 => c1 (show nI 1 = nI 0 from (nI_eq (a := 1) (b := 0) (by omega) (by omega)).mpr q9)
    refine lv_aload_n hx hb dMo_fails_4 rfl (lv_at hl 0 rfl) ?_
    refine va_get (D := (dC, dI)) (ci := 8) (v := .int (I 0 0)) (C := RMo) (T := TMo) (N := 27) hx hb hts inMo hown hK hP 0 rfl rfl 0 (by decide) (hts _ tw_647) (fun _ h9 => h9) rfl dMo_fails_5 ?_
    refine rw_i (y := nI 0) h0 ?_
    refine lv_if_ne (tgt := 16) hx hb dMo_fails_8 (by decide) (fun c8 => ?_) (fun c8 => ?_)
    · have c8 : ¬ 0 = 0 := fun q9 => c8 (show nI 0 = nI 0 from (nI_eq (a := 0) (b := 0) (by omega) (by omega)).mpr q9)
      exact absurd (by decide) c8
    · have c8 : 0 = 0 := (nI_eq (a := 0) (b := 0) (by omega) (by omega)).mp (show nI 0 = nI 0 from c8)
      refine lv_aload_n hx hb dMo_fails_11 rfl (lv_at hl 0 rfl) ?_
      refine lv_iload_n hx hb dMo_fails_12 rfl (lv_at hl 2 rfl) ?_
      refine va_put (D := (dC, dI)) (ci := 8) (fs := mo_f b I D) (v := .int (nI n)) (ty := .int) (C := RMo) (T := TMo) (N := 27) hx hb hts inMo tyMo tyMo_ok nmMo hown hK hP hD hS 0 rfl rfl 0 (by decide) (hts _ tw_647) (fun _ h9 => h9) rfl (by decide +kernel) rfl rfl (Nat.le_of_ble_eq_true rfl) dMo_fails_13 (fun H locs hP hD hS => ?_)
      rw [wm_p0] at hP hD
      obtain ⟨I1, eI1⟩ : ∃ z, z = ui I 0 0 (nI n) := ⟨_, rfl⟩
      rw [← eI1] at hP hD
      refine lv_aload_n hx hb dMo_fails_16 rfl (lv_at hl 0 rfl) ?_
      refine va_get (D := (dC, dI)) (ci := 8) (v := .int (I1 0 0)) (C := RMo) (T := TMo) (N := 27) hx hb hts inMo hown hK hP 0 rfl rfl 0 (by decide) (hts _ tw_647) (fun _ h9 => h9) rfl dMo_fails_17 ?_
      refine rw_i (y := nI n) (by rw [eI1, ui_s]) ?_
      refine lv_if_eq (tgt := 27) hx hb dMo_fails_20 (by decide) (fun c20 => ?_) (fun c20 => ?_)
      · have c20 : n = 0 := (nI_eq (a := n) (b := 0) (by omega) (by omega)).mp (show nI n = nI 0 from c20)
        exact absurd c20 (by omega)
      · have c20 : ¬ n = 0 := fun q9 => c20 (show nI n = nI 0 from (nI_eq (a := n) (b := 0) (by omega) (by omega)).mpr q9)
        refine lv_iconst (v := nI 1) hx hb dMo_fails_23 (by decide +kernel) ?_
        refine lv_goto (tgt := 28) hx hb dMo_fails_24 (by decide) ?_
        exact ct_rz hx hb hr hlocks I1 (⟨rfl, eI1⟩) hP hD hS (Nat.le_refl _) (Nat.le_refl _) dMo_fails_28
set_option maxHeartbeats 4000000 in
set_option maxRecDepth 100000 in
theorem kMo_sample (l : Launch) (dC : Nat → ClassId) (dI : Nat → Nat → Nat) (k : Nat → ClassId) (b : Nat → Nat) (I : Nat → Nat → Int32) (D : Nat → Nat → UInt64) (sz : Nat) (i : Int32) (ns : Nat) (hn : ns ≤ 320) (h3 : I 0 3 = nI ns) : Met l yMo_sample wMo_sample ({ frames := 1, cells := 0, slots := 0, locals := 25 }) (va_Pc [.ref (b 0), .int i] (ct_pre (dC, dI) (mo_ty k) (fun _ => True) (wm k b I D) sz)) (va_Qd (fun r (u : Nat → Nat → Int32) => ((¬ ∃ j, j < ns ∧ i = nI j) ∧ u = ui (ui I 0 0 (nI 0)) 0 0 (nI 1)) ∨ (∃ j, j < ns ∧ i = nI j ∧ u = ui I 0 0 (nI 0) ∧ r = D 1 j)) (fun u t => ct_at (dC, dI) (va_A (wm k b I D) sz) ((fun u => wm k b u D) u) t) (va_A (wm k b I D) sz)) 0 0 (va_A (wm k b I D) sz) := by
  refine Met.ofW (cc := cMo_sample) (maxL := 2) (ret := (some .double)) (by decide) rfl ?_
  intro p e s m args below meth c s₁ B hml hv
  obtain ⟨rfl, hsz, hP, hK, hD0, hE⟩ := hv
  have hx := B.exec
  have hb := B.bytes
  have hr := B.returns
  have hts : ∀ w ∈ W0, w.before [.ref (b 0), .int i].toArray s = true := fun w h => atoms_spec (ws := wMo_sample) B.pre w (List.mem_cons_of_mem _ h)
  have hown : s.vm.findClass RMo = some m.cls := findClass_of_methodNamed B.named
  have hlocks := B.notSynchronized
  subst hsz
  have hD := hD0.self (sz := s.heap.size)
  generalize hAe : va_A (wm k b I D) s.heap.size = A at hD ⊢
  have hA : ∀ q : Nat, s.heap.size ≤ q → A q := fun q h => by rw [← hAe]; exact Or.inr h
  have hS : va_S A s.heap s.heap [] := va_S.rf
  have hl := lv_entry ([.ref (b 0), .int i]) (n := 2) (Nat.le_of_ble_eq_true rfl)
  rw [lg_entry_eq]
  generalize (lg_sl ([.ref (b 0), .int i]) ++ List.replicate (2 - (lg_sl ([.ref (b 0), .int i])).length) Slot.unset).toArray = ls at hl ⊢
  have hl : lv_has ls 2 [(0, .ref (b 0)), (1, .int i)] := hl
  refine lv_aload_n hx hb dMo_sample_0 rfl (lv_at hl 0 rfl) ?_
  refine lv_iconst (v := nI 0) hx hb dMo_sample_1 (by decide +kernel) ?_
  refine va_put (D := (dC, dI)) (ci := 8) (fs := mo_f b I D) (v := .int (nI 0)) (ty := .int) (C := RMo) (T := TMo) (N := 27) hx hb hts inMo tyMo tyMo_ok nmMo hown hK hP hD hS 0 rfl rfl 0 (by decide) (hts _ tw_647) (fun _ h9 => h9) rfl (by decide +kernel) rfl rfl (Nat.le_of_ble_eq_true rfl) dMo_sample_2 (fun H locs hP hD hS => ?_)
  rw [wm_p0] at hP hD
  obtain ⟨I1, eI1⟩ : ∃ z, z = ui I 0 0 (nI 0) := ⟨_, rfl⟩
  rw [← eI1] at hP hD
  refine lv_aload_n hx hb dMo_sample_5 rfl (lv_at hl 0 rfl) ?_
  refine lv_iload_n hx hb dMo_sample_6 rfl (lv_at hl 1 rfl) ?_
  refine lv_i2l (v := i.toInt64) hx hb dMo_sample_7 rfl ?_
  refine lv_lconst (v := lN 0) hx hb dMo_sample_8 (by decide +kernel) ?_
  refine lv_aload_n hx hb dMo_sample_9 rfl (lv_at hl 0 rfl) ?_
  refine va_get (D := (dC, dI)) (ci := 8) (v := .int (I1 0 3)) (C := RMo) (T := TMo) (N := 27) hx hb hts inMo hown hK hP 0 rfl rfl 3 (by decide) (hts _ tw_650) (fun _ h9 => h9) rfl dMo_sample_10 ?_
  refine rw_i (y := I 0 3) (by rw [eI1, ui_n _ _ _ (by decide)]) ?_
  refine rw_i (y := nI ns) h3 ?_
  refine lv_iconst (v := nI 1) hx hb dMo_sample_13 (by decide +kernel) ?_
  refine lv_isub hx hb dMo_sample_14 ?_
  refine lv_i2l (v := ((nI ns) - (nI 1)).toInt64) hx hb dMo_sample_15 rfl ?_
  refine ct_i (va_runS (As := [.long i.toInt64, .long (lN 0), .long (((nI ns) - (nI 1)).toInt64)]) (rest := [.ref (b 0)]) ⟨hx, hb, hml, hown, hts⟩ (kMo_in l dC dI k b I1 D _ i.toInt64 (lN 0) (((nI ns) - (nI 1)).toInt64)) (va_cwS 3 hts (gw_S tw_738 tw_739 tw_9 tw_740) rfl rfl rfl (by decide +kernel) ⟨Nat.le_of_ble_eq_true rfl, Nat.le_of_ble_eq_true rfl⟩) ⟨ct_blind (ev := fun _ => True) (fun _ _ _ _ h => h), ct_now (ev := fun _ => True) (fun _ _ _ => trivial) hP hK hD⟩ rfl rfl hl.1 rfl (lv_room (Nat.le_of_ble_eq_true rfl)) dMo_sample_16 ⟨Nat.le_of_ble_eq_true rfl, Nat.le_of_ble_eq_true rfl⟩) hD hS hA (fun r2 u2 H locs hw2 hP hD hS => ?_)
  by_cases g16 : lN 0 ≤ i.toInt64 ∧ i.toInt64 ≤ ((nI ns) - (nI 1)).toInt64
  · rw [if_pos g16] at hw2
    subst hw2
    refine rw_i (y := nI 1) rfl ?_
    obtain ⟨j, hj, rfl⟩ := in_0n hn g16
    refine lv_if_ne (tgt := 26) hx hb dMo_sample_19 (by decide) (fun c19 => ?_) (fun c19 => ?_)
    · have c19 : ¬ 1 = 0 := fun q9 => c19 (show nI 1 = nI 0 from (nI_eq (a := 1) (b := 0) (by omega) (by omega)).mpr q9)
      refine lv_iconst (v := nI 0) hx hb dMo_sample_26 (by decide +kernel) ?_
      refine lv_iconst (v := nI 1) hx hb dMo_sample_27 (by decide +kernel) ?_
      refine ct_i (va_runV (As := [.int (nI 0), .int (nI 1)]) (rest := []) ⟨hx, hb, hml, hown, hts⟩ (kMo_fails0 l dC dI k b I1 D _ (nI 1) (by rw [eI1, ui_s])) (cwV 2 hts (gw_V tw_741 tw_743 sl_Mo_fails tw_9 tw_744) rfl rfl rfl (by decide +kernel) ⟨Nat.le_of_ble_eq_true rfl, Nat.le_of_ble_eq_true rfl⟩) ⟨ct_blind (ev := fun _ => True) (fun _ _ _ _ h => h), va_recv hK hP (ci := 8) (q0 := 0) rfl rfl, ct_now (ev := fun _ => True) (fun _ _ _ => trivial) hP hK hD⟩ rfl rfl hl.1 rfl (lv_room (Nat.le_of_ble_eq_true rfl)) dMo_sample_28 ⟨Nat.le_of_ble_eq_true rfl, Nat.le_of_ble_eq_true rfl⟩) hD hS hA (fun r3 u3 H locs hw3 hP hD hS => ?_)
      subst hw3
      refine lv_if_eq (tgt := 38) hx hb dMo_sample_31 (by decide) (fun c31 => ?_) (fun c31 => ?_)
      · have c31 : 0 = 0 := (nI_eq (a := 0) (b := 0) (by omega) (by omega)).mp (show nI 0 = nI 0 from c31)
        refine lv_aload_n hx hb dMo_sample_38 rfl (lv_at hl 0 rfl) ?_
        refine va_get (D := (dC, dI)) (ci := 8) (v := .ref (b 8)) (C := RMo) (T := TMo) (N := 27) hx hb hts inMo hown hK hP 0 rfl rfl 19 (by decide) (hts _ tw_666) (fun _ h9 => h9) rfl dMo_sample_39 ?_
        refine lv_iload_n hx hb dMo_sample_42 rfl (lv_at hl 1 rfl) ?_
        refine rw_ald_d hx hb hK hP 8 1 rfl rfl (by omega) (by decide) dMo_sample_43 ?_
        exact ct_rd hx hb hr hlocks I1 (Or.inr ⟨j, hj, rfl, by rw [eI1], rfl⟩) hP hD hS (Nat.le_refl _) (Nat.le_refl _) dMo_sample_44
      · have c31 : ¬ 0 = 0 := fun q9 => c31 (show nI 0 = nI 0 from (nI_eq (a := 0) (b := 0) (by omega) (by omega)).mpr q9)
        exact absurd (by decide) c31
    · have c19 : 1 = 0 := (nI_eq (a := 1) (b := 0) (by omega) (by omega)).mp (show nI 1 = nI 0 from c19)
      exact absurd c19 (by decide)
  · rw [if_neg g16] at hw2
    subst hw2
    refine rw_i (y := nI 0) rfl ?_
    refine lv_if_ne (tgt := 26) hx hb dMo_sample_19 (by decide) (fun c19 => ?_) (fun c19 => ?_)
    · have c19 : ¬ 0 = 0 := fun q9 => c19 (show nI 0 = nI 0 from (nI_eq (a := 0) (b := 0) (by omega) (by omega)).mpr q9)
      exact absurd (by decide) c19
    · have c19 : 0 = 0 := (nI_eq (a := 0) (b := 0) (by omega) (by omega)).mp (show nI 0 = nI 0 from c19)
      refine lv_iconst (v := nI 1) hx hb dMo_sample_22 (by decide +kernel) ?_
      refine lv_goto (tgt := 27) hx hb dMo_sample_23 (by decide) ?_
      refine lv_iconst (v := nI 1) hx hb dMo_sample_27 (by decide +kernel) ?_
      refine ct_i (va_runV (As := [.int (nI 1), .int (nI 1)]) (rest := []) ⟨hx, hb, hml, hown, hts⟩ (kMo_fails1 l dC dI k b I1 D _ 1 (by omega) (by omega) (by rw [eI1, ui_s])) (cwV 2 hts (gw_V tw_741 tw_743 sl_Mo_fails tw_9 tw_744) rfl rfl rfl (by decide +kernel) ⟨Nat.le_of_ble_eq_true rfl, Nat.le_of_ble_eq_true rfl⟩) ⟨ct_blind (ev := fun _ => True) (fun _ _ _ _ h => h), va_recv hK hP (ci := 8) (q0 := 0) rfl rfl, ct_now (ev := fun _ => True) (fun _ _ _ => trivial) hP hK hD⟩ rfl rfl hl.1 rfl (lv_room (Nat.le_of_ble_eq_true rfl)) dMo_sample_28 ⟨Nat.le_of_ble_eq_true rfl, Nat.le_of_ble_eq_true rfl⟩) hD hS hA (fun r4 u4 H locs hw4 hP hD hS => ?_)
      obtain ⟨r4e, eu4⟩ := hw4
      subst r4e
      refine lv_if_eq (tgt := 38) hx hb dMo_sample_31 (by decide) (fun c31 => ?_) (fun c31 => ?_)
      · have c31 : 1 = 0 := (nI_eq (a := 1) (b := 0) (by omega) (by omega)).mp (show nI 1 = nI 0 from c31)
        exact absurd c31 (by decide)
      · have c31 : ¬ 1 = 0 := fun q9 => c31 (show nI 1 = nI 0 from (nI_eq (a := 1) (b := 0) (by omega) (by omega)).mpr q9)
        refine lv_dconst0 hx hb dMo_sample_34 ?_
        refine rw_d (y := 0) rfl ?_
        refine lv_goto (tgt := 44) hx hb dMo_sample_35 (by decide) ?_
        exact ct_rd hx hb hr hlocks u4 (Or.inl ⟨fun q => g16 (in_n0 hn q), by rw [eu4, eI1]⟩) hP hD hS (Nat.le_refl _) (Nat.le_refl _) dMo_sample_44
end
section
theorem hd_hc_b : ∀ n, n < 32 → (FP.dmul hd_h (hd_C n)).toNat % 2 ^ 63 < 1024 * 2 ^ 52 := by decide +kernel
abbrev hd_ld (sa : Nat → UInt64) (f : Nat) (th : UInt64) : Prop := FP.dcmp (hd_lo sa f 4) th = some .gt ∨ FP.dcmp (hd_lo sa f 4) th = some .eq
theorem ld_1 {sa : Nat → UInt64} {f : Nat} {th : UInt64} (h : ¬ Op.cmpValue (FP.dcmp (hd_lo sa f 4) th) .l < 0) : hd_ld sa f th := (fc_ge_l _).mp (Int32.not_lt.mp h)
theorem ld_0 {sa : Nat → UInt64} {f : Nat} {th : UInt64} (h : Op.cmpValue (FP.dcmp (hd_lo sa f 4) th) .l < 0) : ¬ hd_ld sa f th := fun q => Int32.not_lt.mpr ((fc_ge_l _).mpr q) h
end
section
set_option maxHeartbeats 4000000 in
set_option maxRecDepth 100000 in
theorem kMo_powerOf (l : Launch) (dC : Nat → ClassId) (dI : Nat → Nat → Nat) (k : Nat → ClassId) (b : Nat → Nat) (I : Nat → Nat → Int32) (D : Nat → Nat → UInt64) (sz : Nat) (f kk : Nat) (hf : 16 * f + 32 ≤ 320) (hk : kk ≤ 16) (hs : ∀ i, i < 32 → fb_ 1057 (D 1 (16 * f + i))) (hc : ∀ j, j < 32 → D 7 j = hd_C j) (hsn : ∀ j, j < 32 → D 8 j = hd_S j) : Met l yMo_powerOf wMo_powerOf ({ frames := 0, cells := 0, slots := 0, locals := 0 }) (va_Pc [.ref (b 0), .int (nI f), .int (nI kk)] (ct_pre (dC, dI) (mo_ty k) (fun _ => True) (wm k b I D) sz)) (va_Qd (fun r (_ : Unit) => r = hd_P (D 1) f kk) (fun u t => ct_at (dC, dI) (va_A (wm k b I D) sz) ((fun _ => wm k b I D) u) t) (va_A (wm k b I D) sz)) 0 0 (va_A (wm k b I D) sz) := by
  refine Met.ofW (cc := cMo_powerOf) (maxL := 10) (ret := (some .double)) (by decide) rfl ?_
  intro p e s m args below meth c s₁ B hml hv
  obtain ⟨rfl, hsz, hP, hK, hD0, hE⟩ := hv
  have hx := B.exec
  have hb := B.bytes
  have hr := B.returns
  have hts : ∀ w ∈ W0, w.before [.ref (b 0), .int (nI f), .int (nI kk)].toArray s = true := fun w h => atoms_spec (ws := wMo_powerOf) B.pre w (List.mem_cons_of_mem _ h)
  have hown : s.vm.findClass RMo = some m.cls := findClass_of_methodNamed B.named
  have hlocks := B.notSynchronized
  subst hsz
  have hD := hD0.self (sz := s.heap.size)
  generalize hAe : va_A (wm k b I D) s.heap.size = A at hD ⊢
  have hA : ∀ q : Nat, s.heap.size ≤ q → A q := fun q h => by rw [← hAe]; exact Or.inr h
  have hS : va_S A s.heap s.heap [] := va_S.rf
  have hl := lv_entry ([.ref (b 0), .int (nI f), .int (nI kk)]) (n := 10) (Nat.le_of_ble_eq_true rfl)
  rw [lg_entry_eq]
  generalize (lg_sl ([.ref (b 0), .int (nI f), .int (nI kk)]) ++ List.replicate (10 - (lg_sl ([.ref (b 0), .int (nI f), .int (nI kk)])).length) Slot.unset).toArray = ls at hl ⊢
  have hl : lv_has ls 10 [(0, .ref (b 0)), (1, .int (nI f)), (2, .int (nI kk))] := hl
  refine lp_q (fun Q9 hQ9 => ?_)
  refine lv_dconst0 hx hb dMo_powerOf_0 ?_
  refine rw_d (y := 0) rfl ?_
  refine lv_dstore_n (lv' := [(3, .double 0), (0, .ref (b 0)), (1, .int (nI f)), (2, .int (nI kk))]) hx hb dMo_powerOf_1 rfl hl (by decide) rfl (fun ls hl => ?_)
  refine lv_dconst0 hx hb dMo_powerOf_2 ?_
  refine rw_d (y := 0) rfl ?_
  refine lv_dstore (lv' := [(5, .double 0), (3, .double 0), (0, .ref (b 0)), (1, .int (nI f)), (2, .int (nI kk))]) hx hb dMo_powerOf_3 hl (by decide) rfl (fun ls hl => ?_)
  refine lv_iconst (v := nI 0) hx hb dMo_powerOf_5 (by decide +kernel) ?_
  refine lv_istore (lv' := [(7, .int (nI 0)), (5, .double 0), (3, .double 0), (0, .ref (b 0)), (1, .int (nI f)), (2, .int (nI kk))]) hx hb dMo_powerOf_6 hl (by decide) rfl (fun ls hl => ?_)
  have L8 : ∀ (n8 : Nat) (i : Nat), 32 - i < n8 → i ≤ 32 → ∀ (H : Heap) (locs : List Loc), va_P (dC, dI) vwCl (wm k b I D) H → va_D A (wm k b I D) → va_S A s.heap H locs → ∀ ls : Array Slot, lv_has ls 10 [(0, .ref (b 0)), (1, .int (nI f)), (2, .int (nI kk)), (3, .double (hd_re (D 1) f kk i)), (5, .double (hd_im (D 1) f kk i)), (7, .int (nI i))] → W p l e (headSpec wMo_powerOf ({ frames := 0, cells := 0, slots := 0, locals := 0 })).room s m [.ref (b 0), .int (nI f), .int (nI kk)].toArray below meth c H locs 0 0 Q9 (F0 m 8 ls []) := by
    intro n8
    induction n8 with
    | zero => intro i hm; exact absurd hm (Nat.not_lt_zero _)
    | succ n8 ih8 =>
      intro i hm8 hi H locs hP hD hS ls hl
      refine lv_iload hx hb dMo_powerOf_8 (lv_at hl 5 rfl) ?_
      refine lv_bipush (v := nI 32) hx hb dMo_powerOf_10 (by decide +kernel) ?_
      refine lv_icmp_ge (tgt := 89) hx hb dMo_powerOf_12 (by decide) (fun c12 => ?_) (fun c12 => ?_)
      · have c12 : 32 ≤ i := (nI_leI (a := 32) (b := i) (by omega) (by omega)).mp (show nI 32 ≤ nI i from c12)
        obtain rfl : i = 32 := by omega
        refine lv_dload_n hx hb dMo_powerOf_89 rfl (lv_at hl 3 rfl) ?_
        refine lv_dload_n hx hb dMo_powerOf_90 rfl (lv_at hl 3 rfl) ?_
        refine lv_dmul hx hb dMo_powerOf_91 (fb_n (hd_re2_b hs kk) (by decide)) ?_
        refine lv_dload hx hb dMo_powerOf_92 (lv_at hl 4 rfl) ?_
        refine lv_dload hx hb dMo_powerOf_94 (lv_at hl 4 rfl) ?_
        refine lv_dmul hx hb dMo_powerOf_96 (fb_n (hd_im2_b hs kk) (by decide)) ?_
        refine lv_dadd hx hb dMo_powerOf_97 (fb_n (hd_P_b hs kk) (by decide)) ?_
        refine rw_d (y := hd_P (D 1) f kk) rfl ?_
        rw [hQ9]
        exact ct_rd hx hb hr hlocks () rfl hP hD hS (Nat.le_refl _) (Nat.le_refl _) dMo_powerOf_98
      · have c12 : ¬ 32 ≤ i := fun q9 => c12 (show nI 32 ≤ nI i from (nI_leI (a := 32) (b := i) (by omega) (by omega)).mpr q9)
        refine lv_aload_n hx hb dMo_powerOf_15 rfl (lv_at hl 0 rfl) ?_
        refine va_get (D := (dC, dI)) (ci := 8) (v := .ref (b 8)) (C := RMo) (T := TMo) (N := 27) hx hb hts inMo hown hK hP 0 rfl rfl 19 (by decide) (hts _ tw_666) (fun _ h9 => h9) rfl dMo_powerOf_16 ?_
        refine lv_bipush (v := nI 16) hx hb dMo_powerOf_19 (by decide +kernel) ?_
        refine lv_iload_n hx hb dMo_powerOf_21 rfl (lv_at hl 1 rfl) ?_
        refine lv_imul hx hb dMo_powerOf_22 ?_
        refine rw_i (y := nI (16 * f)) (pk_mul _ _) ?_
        refine lv_iload hx hb dMo_powerOf_23 (lv_at hl 5 rfl) ?_
        refine lv_iadd hx hb dMo_powerOf_25 ?_
        refine rw_i (y := nI ((16 * f) + i)) (nI_add _ _) ?_
        refine rw_ald_d hx hb hK hP 8 1 rfl rfl (by omega) (by decide) dMo_powerOf_26 ?_
        refine lv_ldc2d (v := 4602678819172646912) hx hb hown (hts _ tw_802) dMo_powerOf_27 ?_
        refine rw_d (y := hd_h) rfl ?_
        refine lv_ldc2d (v := 4602678819172646912) hx hb hown (hts _ tw_802) dMo_powerOf_30 ?_
        refine rw_d (y := hd_h) rfl ?_
        refine lv_aload_n hx hb dMo_powerOf_33 rfl (lv_at hl 0 rfl) ?_
        refine va_get (D := (dC, dI)) (ci := 8) (v := .ref (b 14)) (C := RMo) (T := TMo) (N := 27) hx hb hts inMo hown hK hP 0 rfl rfl 25 (by decide) (hts _ tw_672) (fun _ h9 => h9) rfl dMo_powerOf_34 ?_
        refine lv_iload hx hb dMo_powerOf_37 (lv_at hl 5 rfl) ?_
        refine rw_ald_d hx hb hK hP 14 1 rfl rfl (by omega) (by decide) dMo_powerOf_39 ?_
        refine rw_d (y := hd_C i) (hc _ (by omega)) ?_
        refine lv_dmul hx hb dMo_powerOf_40 (fb_n (K := 1024) (hd_hc_b _ (by omega)) (by decide)) ?_
        refine lv_dsub hx hb dMo_powerOf_41 (fb_n (K := 1024) (hd_W_b i (by omega)) (by decide)) ?_
        refine rw_d (y := hd_W i) rfl ?_
        refine lv_dmul hx hb dMo_powerOf_42 (fb_n (hd_v_b hs (i := i) (by omega)) (by decide)) ?_
        refine rw_d (y := hd_v (D 1) f i) rfl ?_
        refine lv_dstore (lv' := [(8, .double (hd_v (D 1) f i)), (0, .ref (b 0)), (1, .int (nI f)), (2, .int (nI kk)), (3, .double (hd_re (D 1) f kk i)), (5, .double (hd_im (D 1) f kk i)), (7, .int (nI i))]) hx hb dMo_powerOf_43 hl (by decide) rfl (fun ls hl => ?_)
        refine lv_dload_n hx hb dMo_powerOf_45 rfl (lv_at hl 4 rfl) ?_
        refine lv_dload hx hb dMo_powerOf_46 (lv_at hl 0 rfl) ?_
        refine lv_aload_n hx hb dMo_powerOf_48 rfl (lv_at hl 1 rfl) ?_
        refine va_get (D := (dC, dI)) (ci := 8) (v := .ref (b 14)) (C := RMo) (T := TMo) (N := 27) hx hb hts inMo hown hK hP 0 rfl rfl 25 (by decide) (hts _ tw_672) (fun _ h9 => h9) rfl dMo_powerOf_49 ?_
        refine lv_iload_n hx hb dMo_powerOf_52 rfl (lv_at hl 3 rfl) ?_
        refine lv_iload hx hb dMo_powerOf_53 (lv_at hl 6 rfl) ?_
        refine lv_imul hx hb dMo_powerOf_55 ?_
        refine rw_i (y := nI (kk * i)) (pk_mul _ _) ?_
        refine lv_bipush (v := nI 32) hx hb dMo_powerOf_56 (by decide +kernel) ?_
        have hki : kk * i ≤ 16 * 32 := Nat.mul_le_mul hk (by omega)
        refine lv_irem hx hb dMo_powerOf_58 (by decide +kernel) ?_
        refine rw_i (y := nI ((kk * i) % 32)) (pk_rem (by omega) (by omega) (by omega)) ?_
        refine rw_ald_d hx hb hK hP 14 1 rfl rfl (Nat.mod_lt _ (by decide)) (by decide) dMo_powerOf_59 ?_
        refine rw_d (y := hd_C ((kk * i) % 32)) (hc _ (Nat.mod_lt _ (by decide))) ?_
        refine lv_dmul hx hb dMo_powerOf_60 (fb_n (hd_vc_b hs (i := i) (by omega) (Nat.mod_lt _ (by decide))) (by decide)) ?_
        refine lv_dadd hx hb dMo_powerOf_61 (fb_n (hd_re_b hs kk (i + 1) (by omega)) (by omega)) ?_
        refine rw_d (y := hd_re (D 1) f kk (i + 1)) rfl ?_
        refine lv_dstore_n (lv' := [(3, .double (hd_re (D 1) f kk (i + 1))), (8, .double (hd_v (D 1) f i)), (0, .ref (b 0)), (1, .int (nI f)), (2, .int (nI kk)), (5, .double (hd_im (D 1) f kk i)), (7, .int (nI i))]) hx hb dMo_powerOf_62 rfl hl (by decide) rfl (fun ls hl => ?_)
        refine lv_dload hx hb dMo_powerOf_63 (lv_at hl 5 rfl) ?_
        refine lv_dload hx hb dMo_powerOf_65 (lv_at hl 1 rfl) ?_
        refine lv_aload_n hx hb dMo_powerOf_67 rfl (lv_at hl 2 rfl) ?_
        refine va_get (D := (dC, dI)) (ci := 8) (v := .ref (b 15)) (C := RMo) (T := TMo) (N := 27) hx hb hts inMo hown hK hP 0 rfl rfl 26 (by decide) (hts _ tw_673) (fun _ h9 => h9) rfl dMo_powerOf_68 ?_
        refine lv_iload_n hx hb dMo_powerOf_71 rfl (lv_at hl 4 rfl) ?_
        refine lv_iload hx hb dMo_powerOf_72 (lv_at hl 6 rfl) ?_
        refine lv_imul hx hb dMo_powerOf_74 ?_
        refine rw_i (y := nI (kk * i)) (pk_mul _ _) ?_
        refine lv_bipush (v := nI 32) hx hb dMo_powerOf_75 (by decide +kernel) ?_
        have hki : kk * i ≤ 16 * 32 := Nat.mul_le_mul hk (by omega)
        refine lv_irem hx hb dMo_powerOf_77 (by decide +kernel) ?_
        refine rw_i (y := nI ((kk * i) % 32)) (pk_rem (by omega) (by omega) (by omega)) ?_
        refine rw_ald_d hx hb hK hP 15 1 rfl rfl (Nat.mod_lt _ (by decide)) (by decide) dMo_powerOf_78 ?_
        refine rw_d (y := hd_S ((kk * i) % 32)) (hsn _ (Nat.mod_lt _ (by decide))) ?_
        refine lv_dmul hx hb dMo_powerOf_79 (fb_n (hd_vs_b hs (i := i) (by omega) (Nat.mod_lt _ (by decide))) (by decide)) ?_
        refine lv_dsub hx hb dMo_powerOf_80 (fb_n (hd_im_b hs kk (i + 1) (by omega)) (by omega)) ?_
        refine rw_d (y := hd_im (D 1) f kk (i + 1)) rfl ?_
        refine lv_dstore (lv' := [(5, .double (hd_im (D 1) f kk (i + 1))), (3, .double (hd_re (D 1) f kk (i + 1))), (8, .double (hd_v (D 1) f i)), (0, .ref (b 0)), (1, .int (nI f)), (2, .int (nI kk)), (7, .int (nI i))]) hx hb dMo_powerOf_81 hl (by decide) rfl (fun ls hl => ?_)
        refine lv_iinc (v := nI (i + 1)) (lv' := [(7, .int (nI (i + 1))), (5, .double (hd_im (D 1) f kk (i + 1))), (3, .double (hd_re (D 1) f kk (i + 1))), (8, .double (hd_v (D 1) f i)), (0, .ref (b 0)), (1, .int (nI f)), (2, .int (nI kk))]) hx hb dMo_powerOf_83 hl (k := 6) rfl (nI_1 _) (by decide) rfl (fun ls hl => ?_)
        refine lv_goto (tgt := 8) hx hb dMo_powerOf_86 (by decide) ?_
        exact ih8 (i + 1) (by omega) (by omega) _ _ hP hD hS ls (lv_sub hl [4, 5, 6, 2, 1, 0] rfl)
  exact L8 _ 0 (Nat.lt_succ_self _) (by omega) _ _ hP hD hS ls (lv_sub hl [3, 4, 5, 2, 1, 0] rfl)
set_option maxHeartbeats 4000000 in
set_option maxRecDepth 100000 in
theorem kMo_bandOf (l : Launch) (dC : Nat → ClassId) (dI : Nat → Nat → Nat) (k : Nat → ClassId) (b : Nat → Nat) (I : Nat → Nat → Int32) (D : Nat → Nat → UInt64) (sz : Nat) (f bb : Nat) (hf : 16 * f + 32 ≤ 320) (hb4 : bb < 4) (hs : ∀ i, i < 32 → fb_ 1057 (D 1 (16 * f + i))) (hc : ∀ j, j < 32 → D 7 j = hd_C j) (hsn : ∀ j, j < 32 → D 8 j = hd_S j) : Met l yMo_bandOf wMo_bandOf ({ frames := 1, cells := 0, slots := 0, locals := 29 }) (va_Pc [.ref (b 0), .int (nI f), .int (nI bb)] (ct_pre (dC, dI) (mo_ty k) (fun _ => True) (wm k b I D) sz)) (va_Qd (fun r (_ : Unit) => r = hd_su (D 1) f bb) (fun u t => ct_at (dC, dI) (va_A (wm k b I D) sz) ((fun _ => wm k b I D) u) t) (va_A (wm k b I D) sz)) 0 0 (va_A (wm k b I D) sz) := by
  refine Met.ofW (cc := cMo_bandOf) (maxL := 8) (ret := (some .double)) (by decide) rfl ?_
  intro p e s m args below meth c s₁ B hml hv
  obtain ⟨rfl, hsz, hP, hK, hD0, hE⟩ := hv
  have hx := B.exec
  have hb := B.bytes
  have hr := B.returns
  have hts : ∀ w ∈ W0, w.before [.ref (b 0), .int (nI f), .int (nI bb)].toArray s = true := fun w h => atoms_spec (ws := wMo_bandOf) B.pre w (List.mem_cons_of_mem _ h)
  have hown : s.vm.findClass RMo = some m.cls := findClass_of_methodNamed B.named
  have hlocks := B.notSynchronized
  subst hsz
  have hD := hD0.self (sz := s.heap.size)
  generalize hAe : va_A (wm k b I D) s.heap.size = A at hD ⊢
  have hA : ∀ q : Nat, s.heap.size ≤ q → A q := fun q h => by rw [← hAe]; exact Or.inr h
  have hS : va_S A s.heap s.heap [] := va_S.rf
  have hl := lv_entry ([.ref (b 0), .int (nI f), .int (nI bb)]) (n := 8) (Nat.le_of_ble_eq_true rfl)
  rw [lg_entry_eq]
  generalize (lg_sl ([.ref (b 0), .int (nI f), .int (nI bb)]) ++ List.replicate (8 - (lg_sl ([.ref (b 0), .int (nI f), .int (nI bb)])).length) Slot.unset).toArray = ls at hl ⊢
  have hl : lv_has ls 8 [(0, .ref (b 0)), (1, .int (nI f)), (2, .int (nI bb))] := hl
  refine lp_q (fun Q9 hQ9 => ?_)
  rcases (show bb = 0 ∨ bb = 1 ∨ bb = 2 ∨ bb = 3 by omega) with rfl | rfl | rfl | rfl
  · refine lv_dconst0 hx hb dMo_bandOf_0 ?_
    refine rw_d (y := 0) rfl ?_
    refine lv_dstore_n (lv' := [(3, .double 0), (0, .ref (b 0)), (1, .int (nI f)), (2, .int (nI 0))]) hx hb dMo_bandOf_1 rfl hl (by decide) rfl (fun ls hl => ?_)
    refine lv_iload_n hx hb dMo_bandOf_2 rfl (lv_at hl 3 rfl) ?_
    refine lv_if_ne (tgt := 10) hx hb dMo_bandOf_3 (by decide) (fun c3 => ?_) (fun c3 => ?_)
    · have c3 : ¬ 0 = 0 := fun q9 => c3 (show nI 0 = nI 0 from (nI_eq (a := 0) (b := 0) (by omega) (by omega)).mpr q9)
      exact absurd (by decide) c3
    · have c3 : 0 = 0 := (nI_eq (a := 0) (b := 0) (by omega) (by omega)).mp (show nI 0 = nI 0 from c3)
      refine lv_iconst (v := nI 1) hx hb dMo_bandOf_6 (by decide +kernel) ?_
      refine lv_goto (tgt := 30) hx hb dMo_bandOf_7 (by decide) ?_
      refine lv_istore (lv' := [(5, .int (nI 1)), (3, .double 0), (0, .ref (b 0)), (1, .int (nI f)), (2, .int (nI 0))]) hx hb dMo_bandOf_30 hl (by decide) rfl (fun ls hl => ?_)
      refine lv_iload_n hx hb dMo_bandOf_32 rfl (lv_at hl 4 rfl) ?_
      refine lv_if_ne (tgt := 40) hx hb dMo_bandOf_33 (by decide) (fun c33 => ?_) (fun c33 => ?_)
      · have c33 : ¬ 0 = 0 := fun q9 => c33 (show nI 0 = nI 0 from (nI_eq (a := 0) (b := 0) (by omega) (by omega)).mpr q9)
        exact absurd (by decide) c33
      · have c33 : 0 = 0 := (nI_eq (a := 0) (b := 0) (by omega) (by omega)).mp (show nI 0 = nI 0 from c33)
        refine lv_iconst (v := nI 2) hx hb dMo_bandOf_36 (by decide +kernel) ?_
        refine lv_goto (tgt := 61) hx hb dMo_bandOf_37 (by decide) ?_
        refine lv_istore (lv' := [(6, .int (nI 2)), (5, .int (nI 1)), (3, .double 0), (0, .ref (b 0)), (1, .int (nI f)), (2, .int (nI 0))]) hx hb dMo_bandOf_61 hl (by decide) rfl (fun ls hl => ?_)
        refine lv_iload hx hb dMo_bandOf_63 (lv_at hl 1 rfl) ?_
        refine lv_istore (lv' := [(7, .int (nI 1)), (6, .int (nI 2)), (5, .int (nI 1)), (3, .double 0), (0, .ref (b 0)), (1, .int (nI f)), (2, .int (nI 0))]) hx hb dMo_bandOf_65 hl (by decide) rfl (fun ls hl => ?_)
        have L67 : ∀ (n67 : Nat) (mm : Nat), 2 - mm < n67 → mm ≤ 2 → ∀ (H : Heap) (locs : List Loc), va_P (dC, dI) vwCl (wm k b I D) H → va_D A (wm k b I D) → va_S A s.heap H locs → ∀ ls : Array Slot, lv_has ls 8 [(0, .ref (b 0)), (1, .int (nI f)), (3, .double (hd_bs (D 1) f 1 mm)), (6, .int (nI 2)), (7, .int (nI (1 + mm)))] → W p l e (headSpec wMo_bandOf ({ frames := 1, cells := 0, slots := 0, locals := 29 })).room s m [.ref (b 0), .int (nI f), .int (nI 0)].toArray below meth c H locs 0 0 Q9 (F0 m 67 ls []) := by
          intro n67
          induction n67 with
          | zero => intro mm hm; exact absurd hm (Nat.not_lt_zero _)
          | succ n67 ih67 =>
            intro mm hm67 hi H locs hP hD hS ls hl
            refine lv_iload hx hb dMo_bandOf_67 (lv_at hl 4 rfl) ?_
            refine lv_iload hx hb dMo_bandOf_69 (lv_at hl 3 rfl) ?_
            refine lv_icmp_gt (tgt := 90) hx hb dMo_bandOf_71 (by decide) (fun c71 => ?_) (fun c71 => ?_)
            · have c71 : 2 < (1 + mm) := (nI_ltI (a := 2) (b := (1 + mm)) (by omega) (by omega)).mp (show nI 2 < nI (1 + mm) from c71)
              obtain rfl : mm = 2 := by omega
              refine lv_dload_n hx hb dMo_bandOf_90 rfl (lv_at hl 2 rfl) ?_
              rw [hQ9]
              exact ct_rd hx hb hr hlocks () rfl hP hD hS (Nat.le_refl _) (Nat.le_refl _) dMo_bandOf_91
            · have c71 : ¬ 2 < (1 + mm) := fun q9 => c71 (show nI 2 < nI (1 + mm) from (nI_ltI (a := 2) (b := (1 + mm)) (by omega) (by omega)).mpr q9)
              refine lv_dload_n hx hb dMo_bandOf_74 rfl (lv_at hl 2 rfl) ?_
              refine lv_aload_n hx hb dMo_bandOf_75 rfl (lv_at hl 0 rfl) ?_
              refine lv_iload_n hx hb dMo_bandOf_76 rfl (lv_at hl 1 rfl) ?_
              refine lv_iload hx hb dMo_bandOf_77 (lv_at hl 4 rfl) ?_
              refine ct_d (va_runV (As := [.int (nI f), .int (nI (1 + mm))]) (rest := [.double (hd_bs (D 1) f 1 mm)]) ⟨hx, hb, hml, hown, hts⟩ (kMo_powerOf l dC dI k b I D _ f (1 + mm) hf (by omega) hs hc hsn) (cwV 2 hts (gw_V tw_798 tw_800 sl_Mo_powerOf tw_9 tw_801) rfl rfl rfl (by decide +kernel) ⟨Nat.le_of_ble_eq_true rfl, Nat.le_of_ble_eq_true rfl⟩) ⟨ct_blind (ev := fun _ => True) (fun _ _ _ _ h => h), va_recv hK hP (ci := 8) (q0 := 0) rfl rfl, ct_now (ev := fun _ => True) (fun _ _ _ => trivial) hP hK hD⟩ rfl rfl hl.1 rfl (lv_room (Nat.le_of_ble_eq_true rfl)) dMo_bandOf_79 ⟨Nat.le_of_ble_eq_true rfl, Nat.le_of_ble_eq_true rfl⟩) hD hS hA (fun r1 u1 H locs hw1 hP hD hS => ?_)
              subst hw1
              refine lv_dadd hx hb dMo_bandOf_82 (fb_n (hd_bs_b hs 1 (mm + 1) (by omega)) (by omega)) ?_
              refine rw_d (y := hd_bs (D 1) f 1 (mm + 1)) rfl ?_
              refine lv_dstore_n (lv' := [(3, .double (hd_bs (D 1) f 1 (mm + 1))), (0, .ref (b 0)), (1, .int (nI f)), (6, .int (nI 2)), (7, .int (nI (1 + mm)))]) hx hb dMo_bandOf_83 rfl hl (by decide) rfl (fun ls hl => ?_)
              refine lv_iinc (v := nI ((1 + mm) + 1)) (lv' := [(7, .int (nI ((1 + mm) + 1))), (3, .double (hd_bs (D 1) f 1 (mm + 1))), (0, .ref (b 0)), (1, .int (nI f)), (6, .int (nI 2))]) hx hb dMo_bandOf_84 hl (k := 4) rfl (nI_1 _) (by decide) rfl (fun ls hl => ?_)
              refine lv_goto (tgt := 67) hx hb dMo_bandOf_87 (by decide) ?_
              exact ih67 (mm + 1) (by omega) (by omega) _ _ hP hD hS ls (lv_sub hl [2, 3, 1, 4, 0] rfl)
        exact L67 _ 0 (Nat.lt_succ_self _) (by omega) _ _ hP hD hS ls (lv_sub hl [4, 5, 3, 1, 0] rfl)
  · refine lv_dconst0 hx hb dMo_bandOf_0 ?_
    refine rw_d (y := 0) rfl ?_
    refine lv_dstore_n (lv' := [(3, .double 0), (0, .ref (b 0)), (1, .int (nI f)), (2, .int (nI 1))]) hx hb dMo_bandOf_1 rfl hl (by decide) rfl (fun ls hl => ?_)
    refine lv_iload_n hx hb dMo_bandOf_2 rfl (lv_at hl 3 rfl) ?_
    refine lv_if_ne (tgt := 10) hx hb dMo_bandOf_3 (by decide) (fun c3 => ?_) (fun c3 => ?_)
    · have c3 : ¬ 1 = 0 := fun q9 => c3 (show nI 1 = nI 0 from (nI_eq (a := 1) (b := 0) (by omega) (by omega)).mpr q9)
      refine lv_iload_n hx hb dMo_bandOf_10 rfl (lv_at hl 3 rfl) ?_
      refine lv_iconst (v := nI 1) hx hb dMo_bandOf_11 (by decide +kernel) ?_
      refine lv_icmp_ne (tgt := 19) hx hb dMo_bandOf_12 (by decide) (fun c12 => ?_) (fun c12 => ?_)
      · have c12 : ¬ 1 = 1 := fun q9 => c12 (show nI 1 = nI 1 from (nI_eq (a := 1) (b := 1) (by omega) (by omega)).mpr q9)
        exact absurd (by decide) c12
      · have c12 : 1 = 1 := (nI_eq (a := 1) (b := 1) (by omega) (by omega)).mp (show nI 1 = nI 1 from c12)
        refine lv_iconst (v := nI 3) hx hb dMo_bandOf_15 (by decide +kernel) ?_
        refine lv_goto (tgt := 30) hx hb dMo_bandOf_16 (by decide) ?_
        refine lv_istore (lv' := [(5, .int (nI 3)), (3, .double 0), (0, .ref (b 0)), (1, .int (nI f)), (2, .int (nI 1))]) hx hb dMo_bandOf_30 hl (by decide) rfl (fun ls hl => ?_)
        refine lv_iload_n hx hb dMo_bandOf_32 rfl (lv_at hl 4 rfl) ?_
        refine lv_if_ne (tgt := 40) hx hb dMo_bandOf_33 (by decide) (fun c33 => ?_) (fun c33 => ?_)
        · have c33 : ¬ 1 = 0 := fun q9 => c33 (show nI 1 = nI 0 from (nI_eq (a := 1) (b := 0) (by omega) (by omega)).mpr q9)
          refine lv_iload_n hx hb dMo_bandOf_40 rfl (lv_at hl 4 rfl) ?_
          refine lv_iconst (v := nI 1) hx hb dMo_bandOf_41 (by decide +kernel) ?_
          refine lv_icmp_ne (tgt := 49) hx hb dMo_bandOf_42 (by decide) (fun c42 => ?_) (fun c42 => ?_)
          · have c42 : ¬ 1 = 1 := fun q9 => c42 (show nI 1 = nI 1 from (nI_eq (a := 1) (b := 1) (by omega) (by omega)).mpr q9)
            exact absurd (by decide) c42
          · have c42 : 1 = 1 := (nI_eq (a := 1) (b := 1) (by omega) (by omega)).mp (show nI 1 = nI 1 from c42)
            refine lv_iconst (v := nI 4) hx hb dMo_bandOf_45 (by decide +kernel) ?_
            refine lv_goto (tgt := 61) hx hb dMo_bandOf_46 (by decide) ?_
            refine lv_istore (lv' := [(6, .int (nI 4)), (5, .int (nI 3)), (3, .double 0), (0, .ref (b 0)), (1, .int (nI f)), (2, .int (nI 1))]) hx hb dMo_bandOf_61 hl (by decide) rfl (fun ls hl => ?_)
            refine lv_iload hx hb dMo_bandOf_63 (lv_at hl 1 rfl) ?_
            refine lv_istore (lv' := [(7, .int (nI 3)), (6, .int (nI 4)), (5, .int (nI 3)), (3, .double 0), (0, .ref (b 0)), (1, .int (nI f)), (2, .int (nI 1))]) hx hb dMo_bandOf_65 hl (by decide) rfl (fun ls hl => ?_)
            have L67 : ∀ (n67 : Nat) (mm : Nat), 2 - mm < n67 → mm ≤ 2 → ∀ (H : Heap) (locs : List Loc), va_P (dC, dI) vwCl (wm k b I D) H → va_D A (wm k b I D) → va_S A s.heap H locs → ∀ ls : Array Slot, lv_has ls 8 [(0, .ref (b 0)), (1, .int (nI f)), (3, .double (hd_bs (D 1) f 3 mm)), (6, .int (nI 4)), (7, .int (nI (3 + mm)))] → W p l e (headSpec wMo_bandOf ({ frames := 1, cells := 0, slots := 0, locals := 29 })).room s m [.ref (b 0), .int (nI f), .int (nI 1)].toArray below meth c H locs 0 0 Q9 (F0 m 67 ls []) := by
              intro n67
              induction n67 with
              | zero => intro mm hm; exact absurd hm (Nat.not_lt_zero _)
              | succ n67 ih67 =>
                intro mm hm67 hi H locs hP hD hS ls hl
                refine lv_iload hx hb dMo_bandOf_67 (lv_at hl 4 rfl) ?_
                refine lv_iload hx hb dMo_bandOf_69 (lv_at hl 3 rfl) ?_
                refine lv_icmp_gt (tgt := 90) hx hb dMo_bandOf_71 (by decide) (fun c71 => ?_) (fun c71 => ?_)
                · have c71 : 4 < (3 + mm) := (nI_ltI (a := 4) (b := (3 + mm)) (by omega) (by omega)).mp (show nI 4 < nI (3 + mm) from c71)
                  obtain rfl : mm = 2 := by omega
                  refine lv_dload_n hx hb dMo_bandOf_90 rfl (lv_at hl 2 rfl) ?_
                  rw [hQ9]
                  exact ct_rd hx hb hr hlocks () rfl hP hD hS (Nat.le_refl _) (Nat.le_refl _) dMo_bandOf_91
                · have c71 : ¬ 4 < (3 + mm) := fun q9 => c71 (show nI 4 < nI (3 + mm) from (nI_ltI (a := 4) (b := (3 + mm)) (by omega) (by omega)).mpr q9)
                  refine lv_dload_n hx hb dMo_bandOf_74 rfl (lv_at hl 2 rfl) ?_
                  refine lv_aload_n hx hb dMo_bandOf_75 rfl (lv_at hl 0 rfl) ?_
                  refine lv_iload_n hx hb dMo_bandOf_76 rfl (lv_at hl 1 rfl) ?_
                  refine lv_iload hx hb dMo_bandOf_77 (lv_at hl 4 rfl) ?_
                  refine ct_d (va_runV (As := [.int (nI f), .int (nI (3 + mm))]) (rest := [.double (hd_bs (D 1) f 3 mm)]) ⟨hx, hb, hml, hown, hts⟩ (kMo_powerOf l dC dI k b I D _ f (3 + mm) hf (by omega) hs hc hsn) (cwV 2 hts (gw_V tw_798 tw_800 sl_Mo_powerOf tw_9 tw_801) rfl rfl rfl (by decide +kernel) ⟨Nat.le_of_ble_eq_true rfl, Nat.le_of_ble_eq_true rfl⟩) ⟨ct_blind (ev := fun _ => True) (fun _ _ _ _ h => h), va_recv hK hP (ci := 8) (q0 := 0) rfl rfl, ct_now (ev := fun _ => True) (fun _ _ _ => trivial) hP hK hD⟩ rfl rfl hl.1 rfl (lv_room (Nat.le_of_ble_eq_true rfl)) dMo_bandOf_79 ⟨Nat.le_of_ble_eq_true rfl, Nat.le_of_ble_eq_true rfl⟩) hD hS hA (fun r2 u2 H locs hw2 hP hD hS => ?_)
                  subst hw2
                  refine lv_dadd hx hb dMo_bandOf_82 (fb_n (hd_bs_b hs 3 (mm + 1) (by omega)) (by omega)) ?_
                  refine rw_d (y := hd_bs (D 1) f 3 (mm + 1)) rfl ?_
                  refine lv_dstore_n (lv' := [(3, .double (hd_bs (D 1) f 3 (mm + 1))), (0, .ref (b 0)), (1, .int (nI f)), (6, .int (nI 4)), (7, .int (nI (3 + mm)))]) hx hb dMo_bandOf_83 rfl hl (by decide) rfl (fun ls hl => ?_)
                  refine lv_iinc (v := nI ((3 + mm) + 1)) (lv' := [(7, .int (nI ((3 + mm) + 1))), (3, .double (hd_bs (D 1) f 3 (mm + 1))), (0, .ref (b 0)), (1, .int (nI f)), (6, .int (nI 4))]) hx hb dMo_bandOf_84 hl (k := 4) rfl (nI_1 _) (by decide) rfl (fun ls hl => ?_)
                  refine lv_goto (tgt := 67) hx hb dMo_bandOf_87 (by decide) ?_
                  exact ih67 (mm + 1) (by omega) (by omega) _ _ hP hD hS ls (lv_sub hl [2, 3, 1, 4, 0] rfl)
            exact L67 _ 0 (Nat.lt_succ_self _) (by omega) _ _ hP hD hS ls (lv_sub hl [4, 5, 3, 1, 0] rfl)
        · have c33 : 1 = 0 := (nI_eq (a := 1) (b := 0) (by omega) (by omega)).mp (show nI 1 = nI 0 from c33)
          exact absurd c33 (by decide)
    · have c3 : 1 = 0 := (nI_eq (a := 1) (b := 0) (by omega) (by omega)).mp (show nI 1 = nI 0 from c3)
      exact absurd c3 (by decide)
  · refine lv_dconst0 hx hb dMo_bandOf_0 ?_
    refine rw_d (y := 0) rfl ?_
    refine lv_dstore_n (lv' := [(3, .double 0), (0, .ref (b 0)), (1, .int (nI f)), (2, .int (nI 2))]) hx hb dMo_bandOf_1 rfl hl (by decide) rfl (fun ls hl => ?_)
    refine lv_iload_n hx hb dMo_bandOf_2 rfl (lv_at hl 3 rfl) ?_
    refine lv_if_ne (tgt := 10) hx hb dMo_bandOf_3 (by decide) (fun c3 => ?_) (fun c3 => ?_)
    · have c3 : ¬ 2 = 0 := fun q9 => c3 (show nI 2 = nI 0 from (nI_eq (a := 2) (b := 0) (by omega) (by omega)).mpr q9)
      refine lv_iload_n hx hb dMo_bandOf_10 rfl (lv_at hl 3 rfl) ?_
      refine lv_iconst (v := nI 1) hx hb dMo_bandOf_11 (by decide +kernel) ?_
      refine lv_icmp_ne (tgt := 19) hx hb dMo_bandOf_12 (by decide) (fun c12 => ?_) (fun c12 => ?_)
      · have c12 : ¬ 2 = 1 := fun q9 => c12 (show nI 2 = nI 1 from (nI_eq (a := 2) (b := 1) (by omega) (by omega)).mpr q9)
        refine lv_iload_n hx hb dMo_bandOf_19 rfl (lv_at hl 3 rfl) ?_
        refine lv_iconst (v := nI 2) hx hb dMo_bandOf_20 (by decide +kernel) ?_
        refine lv_icmp_ne (tgt := 28) hx hb dMo_bandOf_21 (by decide) (fun c21 => ?_) (fun c21 => ?_)
        · have c21 : ¬ 2 = 2 := fun q9 => c21 (show nI 2 = nI 2 from (nI_eq (a := 2) (b := 2) (by omega) (by omega)).mpr q9)
          exact absurd (by decide) c21
        · have c21 : 2 = 2 := (nI_eq (a := 2) (b := 2) (by omega) (by omega)).mp (show nI 2 = nI 2 from c21)
          refine lv_iconst (v := nI 5) hx hb dMo_bandOf_24 (by decide +kernel) ?_
          refine lv_goto (tgt := 30) hx hb dMo_bandOf_25 (by decide) ?_
          refine lv_istore (lv' := [(5, .int (nI 5)), (3, .double 0), (0, .ref (b 0)), (1, .int (nI f)), (2, .int (nI 2))]) hx hb dMo_bandOf_30 hl (by decide) rfl (fun ls hl => ?_)
          refine lv_iload_n hx hb dMo_bandOf_32 rfl (lv_at hl 4 rfl) ?_
          refine lv_if_ne (tgt := 40) hx hb dMo_bandOf_33 (by decide) (fun c33 => ?_) (fun c33 => ?_)
          · have c33 : ¬ 2 = 0 := fun q9 => c33 (show nI 2 = nI 0 from (nI_eq (a := 2) (b := 0) (by omega) (by omega)).mpr q9)
            refine lv_iload_n hx hb dMo_bandOf_40 rfl (lv_at hl 4 rfl) ?_
            refine lv_iconst (v := nI 1) hx hb dMo_bandOf_41 (by decide +kernel) ?_
            refine lv_icmp_ne (tgt := 49) hx hb dMo_bandOf_42 (by decide) (fun c42 => ?_) (fun c42 => ?_)
            · have c42 : ¬ 2 = 1 := fun q9 => c42 (show nI 2 = nI 1 from (nI_eq (a := 2) (b := 1) (by omega) (by omega)).mpr q9)
              refine lv_iload_n hx hb dMo_bandOf_49 rfl (lv_at hl 4 rfl) ?_
              refine lv_iconst (v := nI 2) hx hb dMo_bandOf_50 (by decide +kernel) ?_
              refine lv_icmp_ne (tgt := 59) hx hb dMo_bandOf_51 (by decide) (fun c51 => ?_) (fun c51 => ?_)
              · have c51 : ¬ 2 = 2 := fun q9 => c51 (show nI 2 = nI 2 from (nI_eq (a := 2) (b := 2) (by omega) (by omega)).mpr q9)
                exact absurd (by decide) c51
              · have c51 : 2 = 2 := (nI_eq (a := 2) (b := 2) (by omega) (by omega)).mp (show nI 2 = nI 2 from c51)
                refine lv_bipush (v := nI 8) hx hb dMo_bandOf_54 (by decide +kernel) ?_
                refine lv_goto (tgt := 61) hx hb dMo_bandOf_56 (by decide) ?_
                refine lv_istore (lv' := [(6, .int (nI 8)), (5, .int (nI 5)), (3, .double 0), (0, .ref (b 0)), (1, .int (nI f)), (2, .int (nI 2))]) hx hb dMo_bandOf_61 hl (by decide) rfl (fun ls hl => ?_)
                refine lv_iload hx hb dMo_bandOf_63 (lv_at hl 1 rfl) ?_
                refine lv_istore (lv' := [(7, .int (nI 5)), (6, .int (nI 8)), (5, .int (nI 5)), (3, .double 0), (0, .ref (b 0)), (1, .int (nI f)), (2, .int (nI 2))]) hx hb dMo_bandOf_65 hl (by decide) rfl (fun ls hl => ?_)
                have L67 : ∀ (n67 : Nat) (mm : Nat), 4 - mm < n67 → mm ≤ 4 → ∀ (H : Heap) (locs : List Loc), va_P (dC, dI) vwCl (wm k b I D) H → va_D A (wm k b I D) → va_S A s.heap H locs → ∀ ls : Array Slot, lv_has ls 8 [(0, .ref (b 0)), (1, .int (nI f)), (3, .double (hd_bs (D 1) f 5 mm)), (6, .int (nI 8)), (7, .int (nI (5 + mm)))] → W p l e (headSpec wMo_bandOf ({ frames := 1, cells := 0, slots := 0, locals := 29 })).room s m [.ref (b 0), .int (nI f), .int (nI 2)].toArray below meth c H locs 0 0 Q9 (F0 m 67 ls []) := by
                  intro n67
                  induction n67 with
                  | zero => intro mm hm; exact absurd hm (Nat.not_lt_zero _)
                  | succ n67 ih67 =>
                    intro mm hm67 hi H locs hP hD hS ls hl
                    refine lv_iload hx hb dMo_bandOf_67 (lv_at hl 4 rfl) ?_
                    refine lv_iload hx hb dMo_bandOf_69 (lv_at hl 3 rfl) ?_
                    refine lv_icmp_gt (tgt := 90) hx hb dMo_bandOf_71 (by decide) (fun c71 => ?_) (fun c71 => ?_)
                    · have c71 : 8 < (5 + mm) := (nI_ltI (a := 8) (b := (5 + mm)) (by omega) (by omega)).mp (show nI 8 < nI (5 + mm) from c71)
                      obtain rfl : mm = 4 := by omega
                      refine lv_dload_n hx hb dMo_bandOf_90 rfl (lv_at hl 2 rfl) ?_
                      rw [hQ9]
                      exact ct_rd hx hb hr hlocks () rfl hP hD hS (Nat.le_refl _) (Nat.le_refl _) dMo_bandOf_91
                    · have c71 : ¬ 8 < (5 + mm) := fun q9 => c71 (show nI 8 < nI (5 + mm) from (nI_ltI (a := 8) (b := (5 + mm)) (by omega) (by omega)).mpr q9)
                      refine lv_dload_n hx hb dMo_bandOf_74 rfl (lv_at hl 2 rfl) ?_
                      refine lv_aload_n hx hb dMo_bandOf_75 rfl (lv_at hl 0 rfl) ?_
                      refine lv_iload_n hx hb dMo_bandOf_76 rfl (lv_at hl 1 rfl) ?_
                      refine lv_iload hx hb dMo_bandOf_77 (lv_at hl 4 rfl) ?_
                      refine ct_d (va_runV (As := [.int (nI f), .int (nI (5 + mm))]) (rest := [.double (hd_bs (D 1) f 5 mm)]) ⟨hx, hb, hml, hown, hts⟩ (kMo_powerOf l dC dI k b I D _ f (5 + mm) hf (by omega) hs hc hsn) (cwV 2 hts (gw_V tw_798 tw_800 sl_Mo_powerOf tw_9 tw_801) rfl rfl rfl (by decide +kernel) ⟨Nat.le_of_ble_eq_true rfl, Nat.le_of_ble_eq_true rfl⟩) ⟨ct_blind (ev := fun _ => True) (fun _ _ _ _ h => h), va_recv hK hP (ci := 8) (q0 := 0) rfl rfl, ct_now (ev := fun _ => True) (fun _ _ _ => trivial) hP hK hD⟩ rfl rfl hl.1 rfl (lv_room (Nat.le_of_ble_eq_true rfl)) dMo_bandOf_79 ⟨Nat.le_of_ble_eq_true rfl, Nat.le_of_ble_eq_true rfl⟩) hD hS hA (fun r3 u3 H locs hw3 hP hD hS => ?_)
                      subst hw3
                      refine lv_dadd hx hb dMo_bandOf_82 (fb_n (hd_bs_b hs 5 (mm + 1) (by omega)) (by omega)) ?_
                      refine rw_d (y := hd_bs (D 1) f 5 (mm + 1)) rfl ?_
                      refine lv_dstore_n (lv' := [(3, .double (hd_bs (D 1) f 5 (mm + 1))), (0, .ref (b 0)), (1, .int (nI f)), (6, .int (nI 8)), (7, .int (nI (5 + mm)))]) hx hb dMo_bandOf_83 rfl hl (by decide) rfl (fun ls hl => ?_)
                      refine lv_iinc (v := nI ((5 + mm) + 1)) (lv' := [(7, .int (nI ((5 + mm) + 1))), (3, .double (hd_bs (D 1) f 5 (mm + 1))), (0, .ref (b 0)), (1, .int (nI f)), (6, .int (nI 8))]) hx hb dMo_bandOf_84 hl (k := 4) rfl (nI_1 _) (by decide) rfl (fun ls hl => ?_)
                      refine lv_goto (tgt := 67) hx hb dMo_bandOf_87 (by decide) ?_
                      exact ih67 (mm + 1) (by omega) (by omega) _ _ hP hD hS ls (lv_sub hl [2, 3, 1, 4, 0] rfl)
                exact L67 _ 0 (Nat.lt_succ_self _) (by omega) _ _ hP hD hS ls (lv_sub hl [4, 5, 3, 1, 0] rfl)
            · have c42 : 2 = 1 := (nI_eq (a := 2) (b := 1) (by omega) (by omega)).mp (show nI 2 = nI 1 from c42)
              exact absurd c42 (by decide)
          · have c33 : 2 = 0 := (nI_eq (a := 2) (b := 0) (by omega) (by omega)).mp (show nI 2 = nI 0 from c33)
            exact absurd c33 (by decide)
      · have c12 : 2 = 1 := (nI_eq (a := 2) (b := 1) (by omega) (by omega)).mp (show nI 2 = nI 1 from c12)
        exact absurd c12 (by decide)
    · have c3 : 2 = 0 := (nI_eq (a := 2) (b := 0) (by omega) (by omega)).mp (show nI 2 = nI 0 from c3)
      exact absurd c3 (by decide)
  · refine lv_dconst0 hx hb dMo_bandOf_0 ?_
    refine rw_d (y := 0) rfl ?_
    refine lv_dstore_n (lv' := [(3, .double 0), (0, .ref (b 0)), (1, .int (nI f)), (2, .int (nI 3))]) hx hb dMo_bandOf_1 rfl hl (by decide) rfl (fun ls hl => ?_)
    refine lv_iload_n hx hb dMo_bandOf_2 rfl (lv_at hl 3 rfl) ?_
    refine lv_if_ne (tgt := 10) hx hb dMo_bandOf_3 (by decide) (fun c3 => ?_) (fun c3 => ?_)
    · have c3 : ¬ 3 = 0 := fun q9 => c3 (show nI 3 = nI 0 from (nI_eq (a := 3) (b := 0) (by omega) (by omega)).mpr q9)
      refine lv_iload_n hx hb dMo_bandOf_10 rfl (lv_at hl 3 rfl) ?_
      refine lv_iconst (v := nI 1) hx hb dMo_bandOf_11 (by decide +kernel) ?_
      refine lv_icmp_ne (tgt := 19) hx hb dMo_bandOf_12 (by decide) (fun c12 => ?_) (fun c12 => ?_)
      · have c12 : ¬ 3 = 1 := fun q9 => c12 (show nI 3 = nI 1 from (nI_eq (a := 3) (b := 1) (by omega) (by omega)).mpr q9)
        refine lv_iload_n hx hb dMo_bandOf_19 rfl (lv_at hl 3 rfl) ?_
        refine lv_iconst (v := nI 2) hx hb dMo_bandOf_20 (by decide +kernel) ?_
        refine lv_icmp_ne (tgt := 28) hx hb dMo_bandOf_21 (by decide) (fun c21 => ?_) (fun c21 => ?_)
        · have c21 : ¬ 3 = 2 := fun q9 => c21 (show nI 3 = nI 2 from (nI_eq (a := 3) (b := 2) (by omega) (by omega)).mpr q9)
          refine lv_bipush (v := nI 9) hx hb dMo_bandOf_28 (by decide +kernel) ?_
          refine lv_istore (lv' := [(5, .int (nI 9)), (3, .double 0), (0, .ref (b 0)), (1, .int (nI f)), (2, .int (nI 3))]) hx hb dMo_bandOf_30 hl (by decide) rfl (fun ls hl => ?_)
          refine lv_iload_n hx hb dMo_bandOf_32 rfl (lv_at hl 4 rfl) ?_
          refine lv_if_ne (tgt := 40) hx hb dMo_bandOf_33 (by decide) (fun c33 => ?_) (fun c33 => ?_)
          · have c33 : ¬ 3 = 0 := fun q9 => c33 (show nI 3 = nI 0 from (nI_eq (a := 3) (b := 0) (by omega) (by omega)).mpr q9)
            refine lv_iload_n hx hb dMo_bandOf_40 rfl (lv_at hl 4 rfl) ?_
            refine lv_iconst (v := nI 1) hx hb dMo_bandOf_41 (by decide +kernel) ?_
            refine lv_icmp_ne (tgt := 49) hx hb dMo_bandOf_42 (by decide) (fun c42 => ?_) (fun c42 => ?_)
            · have c42 : ¬ 3 = 1 := fun q9 => c42 (show nI 3 = nI 1 from (nI_eq (a := 3) (b := 1) (by omega) (by omega)).mpr q9)
              refine lv_iload_n hx hb dMo_bandOf_49 rfl (lv_at hl 4 rfl) ?_
              refine lv_iconst (v := nI 2) hx hb dMo_bandOf_50 (by decide +kernel) ?_
              refine lv_icmp_ne (tgt := 59) hx hb dMo_bandOf_51 (by decide) (fun c51 => ?_) (fun c51 => ?_)
              · have c51 : ¬ 3 = 2 := fun q9 => c51 (show nI 3 = nI 2 from (nI_eq (a := 3) (b := 2) (by omega) (by omega)).mpr q9)
                refine lv_bipush (v := nI 16) hx hb dMo_bandOf_59 (by decide +kernel) ?_
                refine lv_istore (lv' := [(6, .int (nI 16)), (5, .int (nI 9)), (3, .double 0), (0, .ref (b 0)), (1, .int (nI f)), (2, .int (nI 3))]) hx hb dMo_bandOf_61 hl (by decide) rfl (fun ls hl => ?_)
                refine lv_iload hx hb dMo_bandOf_63 (lv_at hl 1 rfl) ?_
                refine lv_istore (lv' := [(7, .int (nI 9)), (6, .int (nI 16)), (5, .int (nI 9)), (3, .double 0), (0, .ref (b 0)), (1, .int (nI f)), (2, .int (nI 3))]) hx hb dMo_bandOf_65 hl (by decide) rfl (fun ls hl => ?_)
                have L67 : ∀ (n67 : Nat) (mm : Nat), 8 - mm < n67 → mm ≤ 8 → ∀ (H : Heap) (locs : List Loc), va_P (dC, dI) vwCl (wm k b I D) H → va_D A (wm k b I D) → va_S A s.heap H locs → ∀ ls : Array Slot, lv_has ls 8 [(0, .ref (b 0)), (1, .int (nI f)), (3, .double (hd_bs (D 1) f 9 mm)), (6, .int (nI 16)), (7, .int (nI (9 + mm)))] → W p l e (headSpec wMo_bandOf ({ frames := 1, cells := 0, slots := 0, locals := 29 })).room s m [.ref (b 0), .int (nI f), .int (nI 3)].toArray below meth c H locs 0 0 Q9 (F0 m 67 ls []) := by
                  intro n67
                  induction n67 with
                  | zero => intro mm hm; exact absurd hm (Nat.not_lt_zero _)
                  | succ n67 ih67 =>
                    intro mm hm67 hi H locs hP hD hS ls hl
                    refine lv_iload hx hb dMo_bandOf_67 (lv_at hl 4 rfl) ?_
                    refine lv_iload hx hb dMo_bandOf_69 (lv_at hl 3 rfl) ?_
                    refine lv_icmp_gt (tgt := 90) hx hb dMo_bandOf_71 (by decide) (fun c71 => ?_) (fun c71 => ?_)
                    · have c71 : 16 < (9 + mm) := (nI_ltI (a := 16) (b := (9 + mm)) (by omega) (by omega)).mp (show nI 16 < nI (9 + mm) from c71)
                      obtain rfl : mm = 8 := by omega
                      refine lv_dload_n hx hb dMo_bandOf_90 rfl (lv_at hl 2 rfl) ?_
                      rw [hQ9]
                      exact ct_rd hx hb hr hlocks () rfl hP hD hS (Nat.le_refl _) (Nat.le_refl _) dMo_bandOf_91
                    · have c71 : ¬ 16 < (9 + mm) := fun q9 => c71 (show nI 16 < nI (9 + mm) from (nI_ltI (a := 16) (b := (9 + mm)) (by omega) (by omega)).mpr q9)
                      refine lv_dload_n hx hb dMo_bandOf_74 rfl (lv_at hl 2 rfl) ?_
                      refine lv_aload_n hx hb dMo_bandOf_75 rfl (lv_at hl 0 rfl) ?_
                      refine lv_iload_n hx hb dMo_bandOf_76 rfl (lv_at hl 1 rfl) ?_
                      refine lv_iload hx hb dMo_bandOf_77 (lv_at hl 4 rfl) ?_
                      refine ct_d (va_runV (As := [.int (nI f), .int (nI (9 + mm))]) (rest := [.double (hd_bs (D 1) f 9 mm)]) ⟨hx, hb, hml, hown, hts⟩ (kMo_powerOf l dC dI k b I D _ f (9 + mm) hf (by omega) hs hc hsn) (cwV 2 hts (gw_V tw_798 tw_800 sl_Mo_powerOf tw_9 tw_801) rfl rfl rfl (by decide +kernel) ⟨Nat.le_of_ble_eq_true rfl, Nat.le_of_ble_eq_true rfl⟩) ⟨ct_blind (ev := fun _ => True) (fun _ _ _ _ h => h), va_recv hK hP (ci := 8) (q0 := 0) rfl rfl, ct_now (ev := fun _ => True) (fun _ _ _ => trivial) hP hK hD⟩ rfl rfl hl.1 rfl (lv_room (Nat.le_of_ble_eq_true rfl)) dMo_bandOf_79 ⟨Nat.le_of_ble_eq_true rfl, Nat.le_of_ble_eq_true rfl⟩) hD hS hA (fun r4 u4 H locs hw4 hP hD hS => ?_)
                      subst hw4
                      refine lv_dadd hx hb dMo_bandOf_82 (fb_n (hd_bs_b hs 9 (mm + 1) (by omega)) (by omega)) ?_
                      refine rw_d (y := hd_bs (D 1) f 9 (mm + 1)) rfl ?_
                      refine lv_dstore_n (lv' := [(3, .double (hd_bs (D 1) f 9 (mm + 1))), (0, .ref (b 0)), (1, .int (nI f)), (6, .int (nI 16)), (7, .int (nI (9 + mm)))]) hx hb dMo_bandOf_83 rfl hl (by decide) rfl (fun ls hl => ?_)
                      refine lv_iinc (v := nI ((9 + mm) + 1)) (lv' := [(7, .int (nI ((9 + mm) + 1))), (3, .double (hd_bs (D 1) f 9 (mm + 1))), (0, .ref (b 0)), (1, .int (nI f)), (6, .int (nI 16))]) hx hb dMo_bandOf_84 hl (k := 4) rfl (nI_1 _) (by decide) rfl (fun ls hl => ?_)
                      refine lv_goto (tgt := 67) hx hb dMo_bandOf_87 (by decide) ?_
                      exact ih67 (mm + 1) (by omega) (by omega) _ _ hP hD hS ls (lv_sub hl [2, 3, 1, 4, 0] rfl)
                exact L67 _ 0 (Nat.lt_succ_self _) (by omega) _ _ hP hD hS ls (lv_sub hl [4, 5, 3, 1, 0] rfl)
              · have c51 : 3 = 2 := (nI_eq (a := 3) (b := 2) (by omega) (by omega)).mp (show nI 3 = nI 2 from c51)
                exact absurd c51 (by decide)
            · have c42 : 3 = 1 := (nI_eq (a := 3) (b := 1) (by omega) (by omega)).mp (show nI 3 = nI 1 from c42)
              exact absurd c42 (by decide)
          · have c33 : 3 = 0 := (nI_eq (a := 3) (b := 0) (by omega) (by omega)).mp (show nI 3 = nI 0 from c33)
            exact absurd c33 (by decide)
        · have c21 : 3 = 2 := (nI_eq (a := 3) (b := 2) (by omega) (by omega)).mp (show nI 3 = nI 2 from c21)
          exact absurd c21 (by decide)
      · have c12 : 3 = 1 := (nI_eq (a := 3) (b := 1) (by omega) (by omega)).mp (show nI 3 = nI 1 from c12)
        exact absurd c12 (by decide)
    · have c3 : 3 = 0 := (nI_eq (a := 3) (b := 0) (by omega) (by omega)).mp (show nI 3 = nI 0 from c3)
      exact absurd c3 (by decide)
set_option maxHeartbeats 4000000 in
set_option maxRecDepth 100000 in
theorem kMo_isLoud (l : Launch) (dC : Nat → ClassId) (dI : Nat → Nat → Nat) (k : Nat → ClassId) (b : Nat → Nat) (I : Nat → Nat → Int32) (D : Nat → Nat → UInt64) (sz : Nat) (f : Nat) (hf : 16 * f + 32 ≤ 320) (hs : ∀ i, i < 32 → fb_ 1057 (D 1 (16 * f + i))) (hc : ∀ j, j < 32 → D 7 j = hd_C j) (hsn : ∀ j, j < 32 → D 8 j = hd_S j) : Met l yMo_isLoud wMo_isLoud ({ frames := 2, cells := 0, slots := 0, locals := 56 }) (va_Pc [.ref (b 0), .int (nI f)] (ct_pre (dC, dI) (mo_ty k) (fun _ => True) (wm k b I D) sz)) (va_Qi (fun r (_ : Unit) => r = (if hd_ld (D 1) f (D 0 0) then 1 else 0)) (fun u t => ct_at (dC, dI) (va_A (wm k b I D) sz) ((fun _ => wm k b I D) u) t) (va_A (wm k b I D) sz)) 0 0 (va_A (wm k b I D) sz) := by
  refine Met.ofW (cc := cMo_isLoud) (maxL := 5) (ret := (some .boolean)) (by decide) rfl ?_
  intro p e s m args below meth c s₁ B hml hv
  obtain ⟨rfl, hsz, hP, hK, hD0, hE⟩ := hv
  have hx := B.exec
  have hb := B.bytes
  have hr := B.returns
  have hts : ∀ w ∈ W0, w.before [.ref (b 0), .int (nI f)].toArray s = true := fun w h => atoms_spec (ws := wMo_isLoud) B.pre w (List.mem_cons_of_mem _ h)
  have hown : s.vm.findClass RMo = some m.cls := findClass_of_methodNamed B.named
  have hlocks := B.notSynchronized
  subst hsz
  have hD := hD0.self (sz := s.heap.size)
  generalize hAe : va_A (wm k b I D) s.heap.size = A at hD ⊢
  have hA : ∀ q : Nat, s.heap.size ≤ q → A q := fun q h => by rw [← hAe]; exact Or.inr h
  have hS : va_S A s.heap s.heap [] := va_S.rf
  have hl := lv_entry ([.ref (b 0), .int (nI f)]) (n := 5) (Nat.le_of_ble_eq_true rfl)
  rw [lg_entry_eq]
  generalize (lg_sl ([.ref (b 0), .int (nI f)]) ++ List.replicate (5 - (lg_sl ([.ref (b 0), .int (nI f)])).length) Slot.unset).toArray = ls at hl ⊢
  have hl : lv_has ls 5 [(0, .ref (b 0)), (1, .int (nI f))] := hl
  refine lp_q (fun Q9 hQ9 => ?_)
  refine lv_dconst0 hx hb dMo_isLoud_0 ?_
  refine rw_d (y := 0) rfl ?_
  refine lv_dstore_n (lv' := [(2, .double 0), (0, .ref (b 0)), (1, .int (nI f))]) hx hb dMo_isLoud_1 rfl hl (by decide) rfl (fun ls hl => ?_)
  refine lv_iconst (v := nI 0) hx hb dMo_isLoud_2 (by decide +kernel) ?_
  refine lv_istore (lv' := [(4, .int (nI 0)), (2, .double 0), (0, .ref (b 0)), (1, .int (nI f))]) hx hb dMo_isLoud_3 hl (by decide) rfl (fun ls hl => ?_)
  have L5 : ∀ (n5 : Nat) (bb : Nat), 4 - bb < n5 → bb ≤ 4 → ∀ (H : Heap) (locs : List Loc), va_P (dC, dI) vwCl (wm k b I D) H → va_D A (wm k b I D) → va_S A s.heap H locs → ∀ ls : Array Slot, lv_has ls 5 [(0, .ref (b 0)), (1, .int (nI f)), (2, .double (hd_lo (D 1) f bb)), (4, .int (nI bb))] → W p l e (headSpec wMo_isLoud ({ frames := 2, cells := 0, slots := 0, locals := 56 })).room s m [.ref (b 0), .int (nI f)].toArray below meth c H locs 0 0 Q9 (F0 m 5 ls []) := by
    intro n5
    induction n5 with
    | zero => intro bb hm; exact absurd hm (Nat.not_lt_zero _)
    | succ n5 ih5 =>
      intro bb hm5 hi H locs hP hD hS ls hl
      refine lv_iload hx hb dMo_isLoud_5 (lv_at hl 3 rfl) ?_
      refine lv_iconst (v := nI 4) hx hb dMo_isLoud_7 (by decide +kernel) ?_
      refine lv_icmp_ge (tgt := 27) hx hb dMo_isLoud_8 (by decide) (fun c8 => ?_) (fun c8 => ?_)
      · have c8 : 4 ≤ bb := (nI_leI (a := 4) (b := bb) (by omega) (by omega)).mp (show nI 4 ≤ nI bb from c8)
        obtain rfl : bb = 4 := by omega
        refine lv_dload_n hx hb dMo_isLoud_27 rfl (lv_at hl 2 rfl) ?_
        refine lv_aload_n hx hb dMo_isLoud_28 rfl (lv_at hl 0 rfl) ?_
        refine va_get (D := (dC, dI)) (ci := 8) (v := .double (D 0 0)) (C := RMo) (T := TMo) (N := 27) hx hb hts inMo hown hK hP 0 rfl rfl 10 (by decide) (hts _ tw_657) (fun _ h9 => h9) rfl dMo_isLoud_29 ?_
        refine lv_dcmp hx hb dMo_isLoud_32 ?_
        refine lv_if_lt (tgt := 40) hx hb dMo_isLoud_33 (by decide) (fun c33 => ?_) (fun c33 => ?_)
        · refine lv_iconst (v := nI 0) hx hb dMo_isLoud_40 (by decide +kernel) ?_
          rw [hQ9]
          exact ct_rz hx hb hr hlocks () (sp_post_0 (ld_0 c33)) hP hD hS (Nat.le_refl _) (Nat.le_refl _) dMo_isLoud_41
        · refine lv_iconst (v := nI 1) hx hb dMo_isLoud_36 (by decide +kernel) ?_
          refine lv_goto (tgt := 41) hx hb dMo_isLoud_37 (by decide) ?_
          rw [hQ9]
          exact ct_rz hx hb hr hlocks () (sp_post_1 (ld_1 c33)) hP hD hS (Nat.le_refl _) (Nat.le_refl _) dMo_isLoud_41
      · have c8 : ¬ 4 ≤ bb := fun q9 => c8 (show nI 4 ≤ nI bb from (nI_leI (a := 4) (b := bb) (by omega) (by omega)).mpr q9)
        refine lv_dload_n hx hb dMo_isLoud_11 rfl (lv_at hl 2 rfl) ?_
        refine lv_aload_n hx hb dMo_isLoud_12 rfl (lv_at hl 0 rfl) ?_
        refine lv_iload_n hx hb dMo_isLoud_13 rfl (lv_at hl 1 rfl) ?_
        refine lv_iload hx hb dMo_isLoud_14 (lv_at hl 3 rfl) ?_
        refine ct_d (va_runV (As := [.int (nI f), .int (nI bb)]) (rest := [.double (hd_lo (D 1) f bb)]) ⟨hx, hb, hml, hown, hts⟩ (kMo_bandOf l dC dI k b I D _ f bb hf (by omega) hs hc hsn) (cwV 2 hts (gw_V tw_812 tw_814 sl_Mo_bandOf tw_9 tw_815) rfl rfl rfl (by decide +kernel) ⟨Nat.le_of_ble_eq_true rfl, Nat.le_of_ble_eq_true rfl⟩) ⟨ct_blind (ev := fun _ => True) (fun _ _ _ _ h => h), va_recv hK hP (ci := 8) (q0 := 0) rfl rfl, ct_now (ev := fun _ => True) (fun _ _ _ => trivial) hP hK hD⟩ rfl rfl hl.1 rfl (lv_room (Nat.le_of_ble_eq_true rfl)) dMo_isLoud_16 ⟨Nat.le_of_ble_eq_true rfl, Nat.le_of_ble_eq_true rfl⟩) hD hS hA (fun r1 u1 H locs hw1 hP hD hS => ?_)
        subst hw1
        refine lv_dadd hx hb dMo_isLoud_19 (fb_n (hd_lo_b hs (bb + 1) (by omega)) (by omega)) ?_
        refine rw_d (y := hd_lo (D 1) f (bb + 1)) rfl ?_
        refine lv_dstore_n (lv' := [(2, .double (hd_lo (D 1) f (bb + 1))), (0, .ref (b 0)), (1, .int (nI f)), (4, .int (nI bb))]) hx hb dMo_isLoud_20 rfl hl (by decide) rfl (fun ls hl => ?_)
        refine lv_iinc (v := nI (bb + 1)) (lv' := [(4, .int (nI (bb + 1))), (2, .double (hd_lo (D 1) f (bb + 1))), (0, .ref (b 0)), (1, .int (nI f))]) hx hb dMo_isLoud_21 hl (k := 3) rfl (nI_1 _) (by decide) rfl (fun ls hl => ?_)
        refine lv_goto (tgt := 5) hx hb dMo_isLoud_24 (by decide) ?_
        exact ih5 (bb + 1) (by omega) (by omega) _ _ hP hD hS ls (lv_sub hl [2, 3, 1, 0] rfl)
  exact L5 _ 0 (Nat.lt_succ_self _) (by omega) _ _ hP hD hS ls (lv_sub hl [2, 3, 1, 0] rfl)
end
section
theorem l1_pos {n : Nat} {x : UInt64} {k : Int32} (h : FP.dcmp x hd_15 = some .gt ∨ FP.dcmp x hd_15 = some .eq) : hd_l1 (n + 1) x k = hd_l1 n (FP.ddiv x hd_2) (k + 1) := by
  show (if _ then _ else _) = _
  rw [if_pos h]
theorem l1_neg (n : Nat) {x : UInt64} {k : Int32} (h : ¬ (FP.dcmp x hd_15 = some .gt ∨ FP.dcmp x hd_15 = some .eq)) : hd_l1 n x k = (x, k) := by
  cases n with
  | zero => rfl
  | succ n =>
    show (if _ then _ else _) = _
    rw [if_neg h]
theorem l2_pos {n : Nat} {x : UInt64} {k : Int32} (h : FP.dcmp x hd_75 = some .lt) : hd_l2 (n + 1) x k = hd_l2 n (FP.dmul x hd_2) (k - 1) := by
  show (if _ then _ else _) = _
  rw [if_pos h]
theorem l2_neg (n : Nat) {x : UInt64} {k : Int32} (h : ¬ FP.dcmp x hd_75 = some .lt) : hd_l2 n x k = (x, k) := by
  cases n with
  | zero => rfl
  | succ n =>
    show (if _ then _ else _) = _
    rw [if_neg h]
theorem kr_m1 (k : Int32) : k + Int32.ofInt (-1) = k - 1 := by
  rw [Int32.sub_eq_add_neg, show Int32.ofInt (-1) = -1 by decide]
def jd (q : Nat) : Int32 := nI 19 - nI (2 * q)
theorem jd_n {q : Nat} (h : q < 10) : jd q = nI (19 - 2 * q) := pk_sub (by omega)
theorem jd_le : ∀ q, q ≤ 10 → (jd q ≤ 0 ↔ q = 10) := by decide +kernel
theorem jd_s : ∀ q, q < 10 → jd q + Int32.ofInt (-2) = jd (q + 1) := by decide +kernel
theorem jd_0 : nI 19 = jd 0 := by decide +kernel
end
section
set_option maxHeartbeats 4000000 in
set_option maxRecDepth 100000 in
theorem kMo_logarithm (l : Launch) (dC : Nat → ClassId) (dI : Nat → Nat → Nat) (k : Nat → ClassId) (b : Nat → Nat) (I : Nat → Nat → Int32) (D : Nat → Nat → UInt64) (sz : Nat) (x0 : UInt64) (h0 : hd_in x0) : Met l yMo_logarithm wMo_logarithm ({ frames := 0, cells := 0, slots := 0, locals := 0 }) (va_Pc [.double x0] (ct_pre (dC, dI) (mo_ty k) (fun _ => True) (wm k b I D) sz)) (va_Qd (fun r (_ : Unit) => r = hd_ln x0) (fun u t => ct_at (dC, dI) (va_A (wm k b I D) sz) ((fun _ => wm k b I D) u) t) (va_A (wm k b I D) sz)) 0 0 (va_A (wm k b I D) sz) := by
  refine Met.ofW (cc := cMo_logarithm) (maxL := 12) (ret := (some .double)) (by decide) rfl ?_
  intro p e s m args below meth c s₁ B hml hv
  obtain ⟨rfl, hsz, hP, hK, hD0, hE⟩ := hv
  have hx := B.exec
  have hb := B.bytes
  have hr := B.returns
  have hts : ∀ w ∈ W0, w.before [.double x0].toArray s = true := fun w h => atoms_spec (ws := wMo_logarithm) B.pre w (List.mem_cons_of_mem _ h)
  have hown : s.vm.findClass RMo = some m.cls := findClass_of_methodNamed B.named
  have hlocks := B.notSynchronized
  subst hsz
  have hD := hD0.self (sz := s.heap.size)
  generalize hAe : va_A (wm k b I D) s.heap.size = A at hD ⊢
  have hA : ∀ q : Nat, s.heap.size ≤ q → A q := fun q h => by rw [← hAe]; exact Or.inr h
  have hS : va_S A s.heap s.heap [] := va_S.rf
  have hl := lv_entry ([.double x0]) (n := 12) (Nat.le_of_ble_eq_true rfl)
  rw [lg_entry_eq]
  generalize (lg_sl ([.double x0]) ++ List.replicate (12 - (lg_sl ([.double x0])).length) Slot.unset).toArray = ls at hl ⊢
  have hl : lv_has ls 12 [(0, .double x0)] := hl
  refine lp_q (fun Q9 hQ9 => ?_)
  refine lv_dload_n hx hb dMo_logarithm_0 rfl (lv_at hl 0 rfl) ?_
  refine lv_dstore_n (lv' := [(2, .double x0), (0, .double x0)]) hx hb dMo_logarithm_1 rfl hl (by decide) rfl (fun ls hl => ?_)
  refine lv_iconst (v := nI 0) hx hb dMo_logarithm_2 (by decide +kernel) ?_
  refine lv_istore (lv' := [(4, .int (nI 0)), (2, .double x0), (0, .double x0)]) hx hb dMo_logarithm_3 hl (by decide) rfl (fun ls hl => ?_)
  have L5 : ∀ (n5 : Nat) (x : UInt64) (kq : Int32) (fu : Nat), fu < n5 → hd_in x → hd_l1 fu x kq = hd_l1 2000 x0 0 → x.toNat < 4609434218613702656 + fu * 2 ^ 52 → ∀ (H : Heap) (locs : List Loc), va_P (dC, dI) vwCl (wm k b I D) H → va_D A (wm k b I D) → va_S A s.heap H locs → ∀ ls : Array Slot, lv_has ls 12 [(2, .double x), (4, .int kq)] → W p l e (headSpec wMo_logarithm ({ frames := 0, cells := 0, slots := 0, locals := 0 })).room s m [.double x0].toArray below meth c H locs 0 0 Q9 (F0 m 5 ls []) := by
    intro n5
    induction n5 with
    | zero => intro x kq fu hm; exact absurd hm (Nat.not_lt_zero _)
    | succ n5 ih5 =>
      intro x kq fu hm5 hx5 hf5 hb5 H locs hP hD hS ls hl
      refine lv_dload_n hx hb dMo_logarithm_5 rfl (lv_at hl 0 rfl) ?_
      refine lv_ldc2d (v := 4609434218613702656) hx hb hown (hts _ tw_820) dMo_logarithm_6 ?_
      refine rw_d (y := hd_15) rfl ?_
      refine lv_dcmp hx hb dMo_logarithm_9 ?_
      refine lv_if_lt (tgt := 25) hx hb dMo_logarithm_10 (by decide) (fun c10 => ?_) (fun c10 => ?_)
      · have d1 : ¬ (FP.dcmp x hd_15 = some .gt ∨ FP.dcmp x hd_15 = some .eq) := fun q => Int32.not_lt.mpr ((fc_ge_l _).mpr q) c10
        have d2 : (x, kq) = hd_l1 2000 x0 0 := by rw [← hf5]; exact (l1_neg fu d1).symm
        have d3 : x.toNat < 4609434218613702656 := by have := mt (hd_c15 hx5).mpr d1; omega
        have hx6 := hx5
        unfold hd_in at hx6
        have L25 : ∀ (n25 : Nat) (y : UInt64) (kr : Int32) (fw : Nat), fw < n25 → hd_in y → y.toNat < 4609434218613702656 → hd_l2 fw y kr = hd_x2 x0 → 4604930618986332160 ≤ y.toNat + fw * 2 ^ 52 → ∀ (H : Heap) (locs : List Loc), va_P (dC, dI) vwCl (wm k b I D) H → va_D A (wm k b I D) → va_S A s.heap H locs → ∀ ls : Array Slot, lv_has ls 12 [(2, .double y), (4, .int kr)] → W p l e (headSpec wMo_logarithm ({ frames := 0, cells := 0, slots := 0, locals := 0 })).room s m [.double x0].toArray below meth c H locs 0 0 Q9 (F0 m 25 ls []) := by
          intro n25
          induction n25 with
          | zero => intro y kr fw hm; exact absurd hm (Nat.not_lt_zero _)
          | succ n25 ih25 =>
            intro y kr fw hm25 hy1 hy2 hy3 hy4 H locs hP hD hS ls hl
            refine lv_dload_n hx hb dMo_logarithm_25 rfl (lv_at hl 0 rfl) ?_
            refine lv_ldc2d (v := 4604930618986332160) hx hb hown (hts _ tw_821) dMo_logarithm_26 ?_
            refine rw_d (y := hd_75) rfl ?_
            refine lv_dcmp hx hb dMo_logarithm_29 ?_
            refine lv_if_ge (tgt := 45) hx hb dMo_logarithm_30 (by decide) (fun c30 => ?_) (fun c30 => ?_)
            · have e1 : ¬ FP.dcmp y hd_75 = some .lt := (fc_ge_g _).mp c30
              have e2 : (y, kr) = hd_x2 x0 := by rw [← hy3]; exact (l2_neg fw e1).symm
              have f3 : hd_ok y := ⟨by have := mt (hd_c75 hy1).mpr e1; omega, hy2⟩
              refine lv_dload_n hx hb dMo_logarithm_45 rfl (lv_at hl 0 rfl) ?_
              refine lv_dconst1 hx hb dMo_logarithm_46 ?_
              refine rw_d (y := hd_1) rfl ?_
              refine lv_dsub hx hb dMo_logarithm_47 (fb_n (hd_m1_b f3) (by decide)) ?_
              refine lv_dload_n hx hb dMo_logarithm_48 rfl (lv_at hl 0 rfl) ?_
              refine lv_dconst1 hx hb dMo_logarithm_49 ?_
              refine rw_d (y := hd_1) rfl ?_
              refine lv_dadd hx hb dMo_logarithm_50 (fb_n (hd_p1_b f3) (by decide)) ?_
              refine lv_ddiv hx hb dMo_logarithm_51 (fb_n (hd_z_b f3) (by decide)) ?_
              refine rw_d (y := hd_z y) rfl ?_
              refine lv_dstore (lv' := [(5, .double (hd_z y)), (2, .double y), (4, .int kr)]) hx hb dMo_logarithm_52 hl (by decide) rfl (fun ls hl => ?_)
              refine lv_dload hx hb dMo_logarithm_54 (lv_at hl 0 rfl) ?_
              refine lv_dload hx hb dMo_logarithm_56 (lv_at hl 0 rfl) ?_
              refine lv_dmul hx hb dMo_logarithm_58 (fb_n (hd_y_b f3) (by decide)) ?_
              refine lv_dstore (lv' := [(7, .double (FP.dmul (hd_z y) (hd_z y))), (5, .double (hd_z y)), (2, .double y), (4, .int kr)]) hx hb dMo_logarithm_59 hl (by decide) rfl (fun ls hl => ?_)
              refine lv_dconst0 hx hb dMo_logarithm_61 ?_
              refine rw_d (y := 0) rfl ?_
              refine lv_dstore (lv' := [(9, .double 0), (7, .double (FP.dmul (hd_z y) (hd_z y))), (5, .double (hd_z y)), (2, .double y), (4, .int kr)]) hx hb dMo_logarithm_62 hl (by decide) rfl (fun ls hl => ?_)
              refine lv_bipush (v := nI 19) hx hb dMo_logarithm_64 (by decide +kernel) ?_
              refine rw_i (y := jd 0) jd_0 ?_
              refine lv_istore (lv' := [(11, .int (jd 0)), (9, .double 0), (7, .double (FP.dmul (hd_z y) (hd_z y))), (5, .double (hd_z y)), (2, .double y), (4, .int kr)]) hx hb dMo_logarithm_66 hl (by decide) rfl (fun ls hl => ?_)
              have L68 : ∀ (n68 : Nat) (q : Nat), 10 - q < n68 → q ≤ 10 → ∀ (H : Heap) (locs : List Loc), va_P (dC, dI) vwCl (wm k b I D) H → va_D A (wm k b I D) → va_S A s.heap H locs → ∀ ls : Array Slot, lv_has ls 12 [(4, .int kr), (5, .double (hd_z y)), (7, .double (FP.dmul (hd_z y) (hd_z y))), (9, .double (hd_l3 (FP.dmul (hd_z y) (hd_z y)) q)), (11, .int (jd q))] → W p l e (headSpec wMo_logarithm ({ frames := 0, cells := 0, slots := 0, locals := 0 })).room s m [.double x0].toArray below meth c H locs 0 0 Q9 (F0 m 68 ls []) := by
                intro n68
                induction n68 with
                | zero => intro q hm; exact absurd hm (Nat.not_lt_zero _)
                | succ n68 ih68 =>
                  intro q hm68 hq H locs hP hD hS ls hl
                  refine lv_iload hx hb dMo_logarithm_68 (lv_at hl 4 rfl) ?_
                  refine lv_if_le (tgt := 92) hx hb dMo_logarithm_70 (by decide) (fun c70 => ?_) (fun c70 => ?_)
                  · obtain rfl : q = 10 := (jd_le q hq).mp c70
                    refine lv_ldc2d (v := 4611686018427387904) hx hb hown (hts _ tw_771) dMo_logarithm_92 ?_
                    refine rw_d (y := hd_2) rfl ?_
                    refine lv_dload hx hb dMo_logarithm_95 (lv_at hl 1 rfl) ?_
                    refine lv_dmul hx hb dMo_logarithm_97 (fb_n (hd_2z_b f3) (by decide)) ?_
                    refine lv_dload hx hb dMo_logarithm_98 (lv_at hl 3 rfl) ?_
                    refine lv_dmul hx hb dMo_logarithm_100 (fb_n (hd_2zs_b f3) (by decide)) ?_
                    refine lv_iload hx hb dMo_logarithm_101 (lv_at hl 0 rfl) ?_
                    refine lv_i2d hx hb dMo_logarithm_103 ?_
                    refine lv_ldc2d (v := 4604418534313441775) hx hb hown (hts _ tw_822) dMo_logarithm_104 ?_
                    refine rw_d (y := hd_l) rfl ?_
                    refine lv_dmul hx hb dMo_logarithm_107 (fb_n (hd_kl_b kr) (by decide)) ?_
                    refine lv_dadd hx hb dMo_logarithm_108 (fb_n (hd_le_b f3 kr) (by decide)) ?_
                    refine rw_d (y := hd_le y kr) rfl ?_
                    rw [hQ9]
                    exact ct_rd hx hb hr hlocks () (by unfold hd_ln; rw [← e2]) hP hD hS (Nat.le_refl _) (Nat.le_refl _) dMo_logarithm_109
                  · have hq2 : q ≠ 10 := fun z => c70 ((jd_le q hq).mpr z)
                    refine lv_dload hx hb dMo_logarithm_73 (lv_at hl 3 rfl) ?_
                    refine lv_dload hx hb dMo_logarithm_75 (lv_at hl 2 rfl) ?_
                    refine lv_dmul hx hb dMo_logarithm_77 (fb_n (hd_l3y_b (hd_y_b f3) (k := q) (by omega)) (by decide)) ?_
                    refine lv_dconst1 hx hb dMo_logarithm_78 ?_
                    refine rw_d (y := hd_1) rfl ?_
                    refine lv_iload hx hb dMo_logarithm_79 (lv_at hl 4 rfl) ?_
                    refine rw_i (y := nI (19 - 2 * q)) (jd_n (by omega)) ?_
                    refine lv_i2d hx hb dMo_logarithm_81 ?_
                    refine lv_ddiv hx hb dMo_logarithm_82 (fb_n (hd_j_b (k := q) (by omega)) (by decide)) ?_
                    refine lv_dadd hx hb dMo_logarithm_83 (fb_n (hd_l3_b (hd_y_b f3) (q + 1) (by omega)) (by omega)) ?_
                    refine rw_d (y := hd_l3 (FP.dmul (hd_z y) (hd_z y)) (q + 1)) rfl ?_
                    refine lv_dstore (lv' := [(9, .double (hd_l3 (FP.dmul (hd_z y) (hd_z y)) (q + 1))), (4, .int kr), (5, .double (hd_z y)), (7, .double (FP.dmul (hd_z y) (hd_z y))), (11, .int (jd q))]) hx hb dMo_logarithm_84 hl (by decide) rfl (fun ls hl => ?_)
                    refine lv_iinc (v := jd (q + 1)) (lv' := [(11, .int (jd (q + 1))), (9, .double (hd_l3 (FP.dmul (hd_z y) (hd_z y)) (q + 1))), (4, .int kr), (5, .double (hd_z y)), (7, .double (FP.dmul (hd_z y) (hd_z y)))]) hx hb dMo_logarithm_86 hl (k := 4) rfl (jd_s q (by omega)) (by decide) rfl (fun ls hl => ?_)
                    refine lv_goto (tgt := 68) hx hb dMo_logarithm_89 (by decide) ?_
                    exact ih68 (q + 1) (by omega) (by omega) _ _ hP hD hS ls (lv_sub hl [2, 3, 4, 1, 0] rfl)
              exact L68 _ 0 (Nat.lt_succ_self _) (by omega) _ _ hP hD hS ls (lv_sub hl [5, 3, 2, 1, 0] rfl)
            · have e1 : FP.dcmp y hd_75 = some .lt := (fc_lt_g _).mp (Int32.not_le.mp c30)
              have e2 := (hd_c75 hy1).mp e1
              obtain ⟨fv, rfl⟩ : ∃ fv, fw = fv + 1 := ⟨fw - 1, by omega⟩
              have hy6 := hy1
              unfold hd_in at hy6
              have e3 : (FP.dmul y hd_2).toNat = y.toNat + 2 ^ 52 := fn_dbl (by omega) (by omega)
              have e4 : hd_in (FP.dmul y hd_2) := by unfold hd_in; rw [e3]; omega
              have e5 : hd_l2 fv (FP.dmul y hd_2) (kr - 1) = hd_x2 x0 := by rw [← hy3]; exact (l2_pos e1).symm
              refine lv_dload_n hx hb dMo_logarithm_33 rfl (lv_at hl 0 rfl) ?_
              refine lv_ldc2d (v := 4611686018427387904) hx hb hown (hts _ tw_771) dMo_logarithm_34 ?_
              refine rw_d (y := hd_2) rfl ?_
              refine lv_dmul hx hb dMo_logarithm_37 (fb_n (hd_in_b e4) (by decide)) ?_
              refine lv_dstore_n (lv' := [(2, .double (FP.dmul y hd_2)), (4, .int kr)]) hx hb dMo_logarithm_38 rfl hl (by decide) rfl (fun ls hl => ?_)
              refine lv_iinc (v := kr - 1) (lv' := [(4, .int (kr - 1)), (2, .double (FP.dmul y hd_2))]) hx hb dMo_logarithm_39 hl (k := 1) rfl (kr_m1 _) (by decide) rfl (fun ls hl => ?_)
              refine lv_goto (tgt := 25) hx hb dMo_logarithm_42 (by decide) ?_
              exact ih25 (FP.dmul y hd_2) (kr - 1) fv (by omega) e4 (by rw [e3]; omega) e5 (by rw [e3]; omega) _ _ hP hD hS ls (lv_sub hl [1, 0] rfl)
        exact L25 _ x kq 2000 (Nat.lt_succ_self _) hx5 d3 (by unfold hd_x2; rw [← d2]) (by omega) _ _ hP hD hS ls (lv_sub hl [0, 1] rfl)
      · have d1 := (fc_ge_l _).mp (Int32.not_lt.mp c10)
        have d2 := (hd_c15 hx5).mp d1
        obtain ⟨fv, rfl⟩ : ∃ fv, fu = fv + 1 := ⟨fu - 1, by omega⟩
        have hx6 := hx5
        unfold hd_in at hx6
        have d3 : (FP.ddiv x hd_2).toNat = x.toNat - 2 ^ 52 := fn_half (by omega) (by omega)
        have d4 : hd_in (FP.ddiv x hd_2) := by unfold hd_in; rw [d3]; omega
        have d5 : hd_l1 fv (FP.ddiv x hd_2) (kq + 1) = hd_l1 2000 x0 0 := by rw [← hf5]; exact (l1_pos d1).symm
        refine lv_dload_n hx hb dMo_logarithm_13 rfl (lv_at hl 0 rfl) ?_
        refine lv_ldc2d (v := 4611686018427387904) hx hb hown (hts _ tw_771) dMo_logarithm_14 ?_
        refine rw_d (y := hd_2) rfl ?_
        refine lv_ddiv hx hb dMo_logarithm_17 (fb_n (hd_in_b d4) (by decide)) ?_
        refine lv_dstore_n (lv' := [(2, .double (FP.ddiv x hd_2)), (4, .int kq)]) hx hb dMo_logarithm_18 rfl hl (by decide) rfl (fun ls hl => ?_)
        refine lv_iinc (v := kq + 1) (lv' := [(4, .int (kq + 1)), (2, .double (FP.ddiv x hd_2))]) hx hb dMo_logarithm_19 hl (k := 1) rfl (rfl) (by decide) rfl (fun ls hl => ?_)
        refine lv_goto (tgt := 5) hx hb dMo_logarithm_22 (by decide) ?_
        exact ih5 (FP.ddiv x hd_2) (kq + 1) fv (by omega) d4 d5 (by rw [d3]; omega) _ _ hP hD hS ls (lv_sub hl [1, 0] rfl)
  exact L5 _ x0 0 2000 (Nat.lt_succ_self _) h0 rfl (by unfold hd_in at h0; omega) _ _ hP hD hS ls (lv_sub hl [1, 0] rfl)
set_option maxHeartbeats 4000000 in
set_option maxRecDepth 100000 in
theorem kMo_levelOf (l : Launch) (dC : Nat → ClassId) (dI : Nat → Nat → Nat) (k : Nat → ClassId) (b : Nat → Nat) (I : Nat → Nat → Int32) (D : Nat → Nat → UInt64) (sz : Nat) (f bb : Nat) (hf : 16 * f + 32 ≤ 320) (hb4 : bb < 4) (hs : ∀ i, i < 32 → fb_ 1057 (D 1 (16 * f + i))) (hc : ∀ j, j < 32 → D 7 j = hd_C j) (hsn : ∀ j, j < 32 → D 8 j = hd_S j) : Met l yMo_levelOf wMo_levelOf ({ frames := 2, cells := 0, slots := 0, locals := 56 }) (va_Pc [.ref (b 0), .int (nI f), .int (nI bb)] (ct_pre (dC, dI) (mo_ty k) (fun _ => True) (wm k b I D) sz)) (va_Qd (fun r (_ : Unit) => r = hd_lev (D 1) f bb) (fun u t => ct_at (dC, dI) (va_A (wm k b I D) sz) ((fun _ => wm k b I D) u) t) (va_A (wm k b I D) sz)) 0 0 (va_A (wm k b I D) sz) := by
  refine Met.ofW (cc := cMo_levelOf) (maxL := 5) (ret := (some .double)) (by decide) rfl ?_
  intro p e s m args below meth c s₁ B hml hv
  obtain ⟨rfl, hsz, hP, hK, hD0, hE⟩ := hv
  have hx := B.exec
  have hb := B.bytes
  have hr := B.returns
  have hts : ∀ w ∈ W0, w.before [.ref (b 0), .int (nI f), .int (nI bb)].toArray s = true := fun w h => atoms_spec (ws := wMo_levelOf) B.pre w (List.mem_cons_of_mem _ h)
  have hown : s.vm.findClass RMo = some m.cls := findClass_of_methodNamed B.named
  have hlocks := B.notSynchronized
  subst hsz
  have hD := hD0.self (sz := s.heap.size)
  generalize hAe : va_A (wm k b I D) s.heap.size = A at hD ⊢
  have hA : ∀ q : Nat, s.heap.size ≤ q → A q := fun q h => by rw [← hAe]; exact Or.inr h
  have hS : va_S A s.heap s.heap [] := va_S.rf
  have hl := lv_entry ([.ref (b 0), .int (nI f), .int (nI bb)]) (n := 5) (Nat.le_of_ble_eq_true rfl)
  rw [lg_entry_eq]
  generalize (lg_sl ([.ref (b 0), .int (nI f), .int (nI bb)]) ++ List.replicate (5 - (lg_sl ([.ref (b 0), .int (nI f), .int (nI bb)])).length) Slot.unset).toArray = ls at hl ⊢
  have hl : lv_has ls 5 [(0, .ref (b 0)), (1, .int (nI f)), (2, .int (nI bb))] := hl
  refine lv_aload_n hx hb dMo_levelOf_0 rfl (lv_at hl 0 rfl) ?_
  refine lv_iload_n hx hb dMo_levelOf_1 rfl (lv_at hl 1 rfl) ?_
  refine lv_iload_n hx hb dMo_levelOf_2 rfl (lv_at hl 2 rfl) ?_
  refine ct_d (va_runV (As := [.int (nI f), .int (nI bb)]) (rest := []) ⟨hx, hb, hml, hown, hts⟩ (kMo_bandOf l dC dI k b I D _ f bb hf hb4 hs hc hsn) (cwV 2 hts (gw_V tw_812 tw_814 sl_Mo_bandOf tw_9 tw_815) rfl rfl rfl (by decide +kernel) ⟨Nat.le_of_ble_eq_true rfl, Nat.le_of_ble_eq_true rfl⟩) ⟨ct_blind (ev := fun _ => True) (fun _ _ _ _ h => h), va_recv hK hP (ci := 8) (q0 := 0) rfl rfl, ct_now (ev := fun _ => True) (fun _ _ _ => trivial) hP hK hD⟩ rfl rfl hl.1 rfl (lv_room (Nat.le_of_ble_eq_true rfl)) dMo_levelOf_3 ⟨Nat.le_of_ble_eq_true rfl, Nat.le_of_ble_eq_true rfl⟩) hD hS hA (fun r1 u1 H locs hw1 hP hD hS => ?_)
  subst hw1
  refine lv_dstore_n (lv' := [(3, .double (hd_su (D 1) f bb)), (0, .ref (b 0)), (1, .int (nI f)), (2, .int (nI bb))]) hx hb dMo_levelOf_6 rfl hl (by decide) rfl (fun ls hl => ?_)
  refine lv_dload_n hx hb dMo_levelOf_7 rfl (lv_at hl 0 rfl) ?_
  refine lv_ldc2d (v := 4457293557087583675) hx hb hown (hts _ tw_816) dMo_levelOf_8 ?_
  refine rw_d (y := hd_ep) rfl ?_
  refine lv_dcmp hx hb dMo_levelOf_11 ?_
  refine lv_if_le (tgt := 19) hx hb dMo_levelOf_12 (by decide) (fun c12 => ?_) (fun c12 => ?_)
  · refine lv_ldc2d (v := 4457293557087583675) hx hb hown (hts _ tw_816) dMo_levelOf_19 ?_
    refine rw_d (y := hd_ep) rfl ?_
    refine rw_d (y := hd_fl (hd_su (D 1) f bb)) ((if_neg ((fc_le_l _).mp c12)).symm) ?_
    have hin := hd_fl_in (hd_su_b hs bb) (hd_su_p hs bb)
    refine ct_d (va_runS (As := [.double (hd_fl (hd_su (D 1) f bb))]) (rest := []) ⟨hx, hb, hml, hown, hts⟩ (kMo_logarithm l dC dI k b I D _ (hd_fl (hd_su (D 1) f bb)) hin) (va_cwS 1 hts (gw_S tw_817 tw_818 tw_9 tw_819) rfl rfl rfl (by decide +kernel) ⟨Nat.le_of_ble_eq_true rfl, Nat.le_of_ble_eq_true rfl⟩) ⟨ct_blind (ev := fun _ => True) (fun _ _ _ _ h => h), ct_now (ev := fun _ => True) (fun _ _ _ => trivial) hP hK hD⟩ rfl rfl hl.1 rfl (lv_room (Nat.le_of_ble_eq_true rfl)) dMo_levelOf_22 ⟨Nat.le_of_ble_eq_true rfl, Nat.le_of_ble_eq_true rfl⟩) hD hS hA (fun r2 u2 H locs hw2 hP hD hS => ?_)
    subst hw2
    exact ct_rd hx hb hr hlocks () rfl hP hD hS (Nat.le_refl _) (Nat.le_refl _) dMo_levelOf_25
  · refine lv_dload_n hx hb dMo_levelOf_15 rfl (lv_at hl 0 rfl) ?_
    refine lv_goto (tgt := 22) hx hb dMo_levelOf_16 (by decide) ?_
    refine rw_d (y := hd_fl (hd_su (D 1) f bb)) ((if_pos ((fc_gt_l _).mp (Int32.not_le.mp c12))).symm) ?_
    have hin := hd_fl_in (hd_su_b hs bb) (hd_su_p hs bb)
    refine ct_d (va_runS (As := [.double (hd_fl (hd_su (D 1) f bb))]) (rest := []) ⟨hx, hb, hml, hown, hts⟩ (kMo_logarithm l dC dI k b I D _ (hd_fl (hd_su (D 1) f bb)) hin) (va_cwS 1 hts (gw_S tw_817 tw_818 tw_9 tw_819) rfl rfl rfl (by decide +kernel) ⟨Nat.le_of_ble_eq_true rfl, Nat.le_of_ble_eq_true rfl⟩) ⟨ct_blind (ev := fun _ => True) (fun _ _ _ _ h => h), ct_now (ev := fun _ => True) (fun _ _ _ => trivial) hP hK hD⟩ rfl rfl hl.1 rfl (lv_room (Nat.le_of_ble_eq_true rfl)) dMo_levelOf_22 ⟨Nat.le_of_ble_eq_true rfl, Nat.le_of_ble_eq_true rfl⟩) hD hS hA (fun r3 u3 H locs hw3 hP hD hS => ?_)
    subst hw3
    exact ct_rd hx hb hr hlocks () rfl hP hD hS (Nat.le_refl _) (Nat.le_refl _) dMo_levelOf_25
end
section
theorem nf_le {n : Nat} (h : n ≤ 320) : hd_nf n ≤ 19 := by unfold hd_nf; split <;> omega
theorem nf_lt {n j : Nat} (h : j < hd_nf n) : 16 * j + 32 ≤ n := by
  unfold hd_nf at h
  split at h <;> omega
-- octets that come behind f others; a wave's samples behind ns others
def oc_w (W j : Nat) : Nat := W / 2 ^ (8 * j) % 256
def fi_wr (I : Nat → Nat → Int32) (c f W : Nat) : Nat → Nat → Nat → Int32
  | 0 => I
  | j + 1 => ui (fi_wr I c f W j) c (f + j) (nI (oc_w W j))
theorem fi_wr_o (I : Nat → Nat → Int32) (c f W : Nat) {c' : Nat} (h : c' ≠ c) : ∀ j, fi_wr I c f W j c' = I c'
  | 0 => rfl
  | j + 1 => (ui_o _ _ _ h).trans (fi_wr_o I c f W h j)
theorem fi_wr_lo (I : Nat → Nat → Int32) (c f W : Nat) {i : Nat} (h : i < f) : ∀ j, fi_wr I c f W j c i = I c i
  | 0 => rfl
  | j + 1 => (ui_n _ _ _ (by omega)).trans (fi_wr_lo I c f W h j)
theorem fi_wr_in (I : Nat → Nat → Int32) (c f W : Nat) {i : Nat} : ∀ j, i < j → fi_wr I c f W j c (f + i) = nI (oc_w W i)
  | j + 1, h => by
    by_cases e : i = j
    · subst e; exact ui_s _ _ _ _
    · exact (ui_n _ _ _ (by omega)).trans (fi_wr_in I c f W j (by omega))
theorem fi_wr_hi (I : Nat → Nat → Int32) (c f W : Nat) {i : Nat} : ∀ j, f + j ≤ i → fi_wr I c f W j c i = I c i
  | 0, _ => rfl
  | j + 1, h => (ui_n _ _ _ (by omega)).trans (fi_wr_hi I c f W j (by omega))
def hd_wr (D : Nat → Nat → UInt64) (c ns st : Nat) (a : UInt64) : Nat → Nat → Nat → UInt64
  | 0 => D
  | j + 1 => ud (hd_wr D c ns st a j) c (ns + j) (FP.dmul a (hd_C (j * st % 32)))
theorem hd_wr_o (D : Nat → Nat → UInt64) (c ns st : Nat) (a : UInt64) {c' : Nat} (h : c' ≠ c) : ∀ j, hd_wr D c ns st a j c' = D c'
  | 0 => rfl
  | j + 1 => (ud_o _ _ _ h).trans (hd_wr_o D c ns st a h j)
theorem hd_wr_lo (D : Nat → Nat → UInt64) (c ns st : Nat) (a : UInt64) {i : Nat} (h : i < ns) : ∀ j, hd_wr D c ns st a j c i = D c i
  | 0 => rfl
  | j + 1 => (ud_n _ _ _ (by omega)).trans (hd_wr_lo D c ns st a h j)
theorem hd_wr_in (D : Nat → Nat → UInt64) (c ns st : Nat) (a : UInt64) {i : Nat} : ∀ j, i < j → hd_wr D c ns st a j c (ns + i) = FP.dmul a (hd_C (i * st % 32))
  | j + 1, h => by
    by_cases e : i = j
    · subst e; exact ud_s _ _ _ _
    · exact (ud_n _ _ _ (by omega)).trans (hd_wr_in D c ns st a j (by omega))
theorem oc_shr {W j : Nat} (h : W < 2 ^ 64) (hj : j < 8) : ((lN W).toUInt64 >>> ((nI (8 * j)).toInt64.toUInt64 &&& Int64.toUInt64 63)).toInt64 = lN (W / 2 ^ (8 * j)) := wb_shr h (by omega)
theorem oc_and {W j : Nat} (h : W < 2 ^ 64) : lN (W / 2 ^ (8 * j)) &&& lN 255 = lN (oc_w W j) := wb_mask (n := W / 2 ^ (8 * j)) (k := 8) (Nat.lt_of_le_of_lt (Nat.div_le_self _ _) h) (by decide)
end
section
set_option maxHeartbeats 4000000 in
set_option maxRecDepth 100000 in
theorem kMo_octets (l : Launch) (dC : Nat → ClassId) (dI : Nat → Nat → Nat) (k : Nat → ClassId) (b : Nat → Nat) (I : Nat → Nat → Int32) (D : Nat → Nat → UInt64) (sz : Nat) (n : Int32) (Wv f : Nat) (hW : Wv < 2 ^ 64) (hf : f ≤ 400) (h1 : I 0 1 = nI f) : Met l yMo_octets wMo_octets ({ frames := 1, cells := 0, slots := 0, locals := 25 }) (va_Pc [.ref (b 0), .int n, .long (lN Wv)] (ct_pre (dC, dI) (mo_ty k) (fun _ => True) (wm k b I D) sz)) (va_Qi (fun r (u : Nat → Nat → Int32) => ((¬ ∃ q, 1 ≤ q ∧ q ≤ 8 ∧ n = nI q) ∧ u = ui (ui I 0 0 (nI 0)) 0 0 (nI 1)) ∨ (∃ q, 1 ≤ q ∧ q ≤ 8 ∧ n = nI q ∧ ((400 < f + q ∧ u = ui (ui I 0 0 (nI 0)) 0 0 (nI 2)) ∨ (f + q ≤ 400 ∧ r = nI (f + q) ∧ u = ui (fi_wr (ui I 0 0 (nI 0)) 1 f Wv q) 0 1 (nI (f + q)))))) (fun u t => ct_at (dC, dI) (va_A (wm k b I D) sz) ((fun u => wm k b u D) u) t) (va_A (wm k b I D) sz)) 0 0 (va_A (wm k b I D) sz) := by
  refine Met.ofW (cc := cMo_octets) (maxL := 5) (ret := (some .int)) (by decide) rfl ?_
  intro p e s m args below meth c s₁ B hml hv
  obtain ⟨rfl, hsz, hP, hK, hD0, hE⟩ := hv
  have hx := B.exec
  have hb := B.bytes
  have hr := B.returns
  have hts : ∀ w ∈ W0, w.before [.ref (b 0), .int n, .long (lN Wv)].toArray s = true := fun w h => atoms_spec (ws := wMo_octets) B.pre w (List.mem_cons_of_mem _ h)
  have hown : s.vm.findClass RMo = some m.cls := findClass_of_methodNamed B.named
  have hlocks := B.notSynchronized
  subst hsz
  have hD := hD0.self (sz := s.heap.size)
  generalize hAe : va_A (wm k b I D) s.heap.size = A at hD ⊢
  have hA : ∀ q : Nat, s.heap.size ≤ q → A q := fun q h => by rw [← hAe]; exact Or.inr h
  have hS : va_S A s.heap s.heap [] := va_S.rf
  have hl := lv_entry ([.ref (b 0), .int n, .long (lN Wv)]) (n := 5) (Nat.le_of_ble_eq_true rfl)
  rw [lg_entry_eq]
  generalize (lg_sl ([.ref (b 0), .int n, .long (lN Wv)]) ++ List.replicate (5 - (lg_sl ([.ref (b 0), .int n, .long (lN Wv)])).length) Slot.unset).toArray = ls at hl ⊢
  have hl : lv_has ls 5 [(0, .ref (b 0)), (1, .int n), (2, .long (lN Wv))] := hl
  refine lp_q (fun Q9 hQ9 => ?_)
  refine lv_aload_n hx hb dMo_octets_0 rfl (lv_at hl 0 rfl) ?_
  refine lv_iconst (v := nI 0) hx hb dMo_octets_1 (by decide +kernel) ?_
  refine va_put (D := (dC, dI)) (ci := 8) (fs := mo_f b I D) (v := .int (nI 0)) (ty := .int) (C := RMo) (T := TMo) (N := 27) hx hb hts inMo tyMo tyMo_ok nmMo hown hK hP hD hS 0 rfl rfl 0 (by decide) (hts _ tw_647) (fun _ h9 => h9) rfl (by decide +kernel) rfl rfl (Nat.le_of_ble_eq_true rfl) dMo_octets_2 (fun H locs hP hD hS => ?_)
  rw [wm_p0] at hP hD
  obtain ⟨I1, eI1⟩ : ∃ z, z = ui I 0 0 (nI 0) := ⟨_, rfl⟩
  rw [← eI1] at hP hD
  refine lv_aload_n hx hb dMo_octets_5 rfl (lv_at hl 0 rfl) ?_
  refine lv_iload_n hx hb dMo_octets_6 rfl (lv_at hl 1 rfl) ?_
  refine lv_i2l (v := n.toInt64) hx hb dMo_octets_7 rfl ?_
  refine lv_lconst (v := lN 1) hx hb dMo_octets_8 (by decide +kernel) ?_
  refine lv_ldc2 (v := 8) hx hb hown (hts _ tw_737) dMo_octets_9 ?_
  refine rw_l (y := lN 8) (by decide +kernel) ?_
  refine ct_i (va_runS (As := [.long n.toInt64, .long (lN 1), .long (lN 8)]) (rest := [.ref (b 0)]) ⟨hx, hb, hml, hown, hts⟩ (kMo_in l dC dI k b I1 D _ n.toInt64 (lN 1) (lN 8)) (va_cwS 3 hts (gw_S tw_738 tw_739 tw_9 tw_740) rfl rfl rfl (by decide +kernel) ⟨Nat.le_of_ble_eq_true rfl, Nat.le_of_ble_eq_true rfl⟩) ⟨ct_blind (ev := fun _ => True) (fun _ _ _ _ h => h), ct_now (ev := fun _ => True) (fun _ _ _ => trivial) hP hK hD⟩ rfl rfl hl.1 rfl (lv_room (Nat.le_of_ble_eq_true rfl)) dMo_octets_12 ⟨Nat.le_of_ble_eq_true rfl, Nat.le_of_ble_eq_true rfl⟩) hD hS hA (fun r2 u2 H locs hw2 hP hD hS => ?_)
  by_cases g12 : lN 1 ≤ n.toInt64 ∧ n.toInt64 ≤ lN 8
  · rw [if_pos g12] at hw2
    subst hw2
    refine rw_i (y := nI 1) rfl ?_
    obtain ⟨q, q1, q2, rfl⟩ := in_ab (by decide) (by decide) g12
    refine lv_if_ne (tgt := 22) hx hb dMo_octets_15 (by decide) (fun c15 => ?_) (fun c15 => ?_)
    · have c15 : ¬ 1 = 0 := fun q9 => c15 (show nI 1 = nI 0 from (nI_eq (a := 1) (b := 0) (by omega) (by omega)).mpr q9)
      refine lv_iconst (v := nI 0) hx hb dMo_octets_22 (by decide +kernel) ?_
      refine lv_iconst (v := nI 1) hx hb dMo_octets_23 (by decide +kernel) ?_
      refine ct_i (va_runV (As := [.int (nI 0), .int (nI 1)]) (rest := []) ⟨hx, hb, hml, hown, hts⟩ (kMo_fails0 l dC dI k b I1 D _ (nI 1) (by rw [eI1, ui_s])) (cwV 2 hts (gw_V tw_741 tw_743 sl_Mo_fails tw_9 tw_744) rfl rfl rfl (by decide +kernel) ⟨Nat.le_of_ble_eq_true rfl, Nat.le_of_ble_eq_true rfl⟩) ⟨ct_blind (ev := fun _ => True) (fun _ _ _ _ h => h), va_recv hK hP (ci := 8) (q0 := 0) rfl rfl, ct_now (ev := fun _ => True) (fun _ _ _ => trivial) hP hK hD⟩ rfl rfl hl.1 rfl (lv_room (Nat.le_of_ble_eq_true rfl)) dMo_octets_24 ⟨Nat.le_of_ble_eq_true rfl, Nat.le_of_ble_eq_true rfl⟩) hD hS hA (fun r3 u3 H locs hw3 hP hD hS => ?_)
      subst hw3
      refine lv_if_ne (tgt := 55) hx hb dMo_octets_27 (by decide) (fun c27 => ?_) (fun c27 => ?_)
      · have c27 : ¬ 0 = 0 := fun q9 => c27 (show nI 0 = nI 0 from (nI_eq (a := 0) (b := 0) (by omega) (by omega)).mpr q9)
        exact absurd (by decide) c27
      · have c27 : 0 = 0 := (nI_eq (a := 0) (b := 0) (by omega) (by omega)).mp (show nI 0 = nI 0 from c27)
        refine lv_aload_n hx hb dMo_octets_30 rfl (lv_at hl 0 rfl) ?_
        refine lv_aload_n hx hb dMo_octets_31 rfl (lv_at hl 0 rfl) ?_
        refine va_get (D := (dC, dI)) (ci := 8) (v := .int (I1 0 1)) (C := RMo) (T := TMo) (N := 27) hx hb hts inMo hown hK hP 0 rfl rfl 1 (by decide) (hts _ tw_648) (fun _ h9 => h9) rfl dMo_octets_32 ?_
        refine rw_i (y := I 0 1) (by rw [eI1, ui_n _ _ _ (by decide)]) ?_
        refine rw_i (y := nI f) h1 ?_
        refine lv_iload_n hx hb dMo_octets_35 rfl (lv_at hl 1 rfl) ?_
        refine lv_iadd hx hb dMo_octets_36 ?_
        refine rw_i (y := nI (f + q)) (nI_add _ _) ?_
        refine lv_sipush (v := nI 400) hx hb dMo_octets_37 (by decide +kernel) ?_
        refine lv_icmp_le (tgt := 47) hx hb dMo_octets_40 (by decide) (fun c40 => ?_) (fun c40 => ?_)
        · have c40 : (f + q) ≤ 400 := (nI_leI (a := (f + q)) (b := 400) (by omega) (by omega)).mp (show nI (f + q) ≤ nI 400 from c40)
          refine lv_iconst (v := nI 0) hx hb dMo_octets_47 (by decide +kernel) ?_
          refine lv_iconst (v := nI 2) hx hb dMo_octets_48 (by decide +kernel) ?_
          refine ct_i (va_runV (As := [.int (nI 0), .int (nI 2)]) (rest := []) ⟨hx, hb, hml, hown, hts⟩ (kMo_fails0 l dC dI k b I1 D _ (nI 2) (by rw [eI1, ui_s])) (cwV 2 hts (gw_V tw_741 tw_743 sl_Mo_fails tw_9 tw_744) rfl rfl rfl (by decide +kernel) ⟨Nat.le_of_ble_eq_true rfl, Nat.le_of_ble_eq_true rfl⟩) ⟨ct_blind (ev := fun _ => True) (fun _ _ _ _ h => h), va_recv hK hP (ci := 8) (q0 := 0) rfl rfl, ct_now (ev := fun _ => True) (fun _ _ _ => trivial) hP hK hD⟩ rfl rfl hl.1 rfl (lv_room (Nat.le_of_ble_eq_true rfl)) dMo_octets_49 ⟨Nat.le_of_ble_eq_true rfl, Nat.le_of_ble_eq_true rfl⟩) hD hS hA (fun r4 u4 H locs hw4 hP hD hS => ?_)
          subst hw4
          refine lv_if_eq (tgt := 57) hx hb dMo_octets_52 (by decide) (fun c52 => ?_) (fun c52 => ?_)
          · have c52 : 0 = 0 := (nI_eq (a := 0) (b := 0) (by omega) (by omega)).mp (show nI 0 = nI 0 from c52)
            refine lv_iconst (v := nI 0) hx hb dMo_octets_57 (by decide +kernel) ?_
            refine lv_istore (lv' := [(4, .int (nI 0)), (0, .ref (b 0)), (1, .int (nI q)), (2, .long (lN Wv))]) hx hb dMo_octets_58 hl (by decide) rfl (fun ls hl => ?_)
            have L60 : ∀ (n60 : Nat) (j : Nat), q - j < n60 → j ≤ q → ∀ (H : Heap) (locs : List Loc), va_P (dC, dI) vwCl (wm k b (fi_wr I1 1 f Wv j) D) H → va_D A (wm k b (fi_wr I1 1 f Wv j) D) → va_S A s.heap H locs → ∀ ls : Array Slot, lv_has ls 5 [(0, .ref (b 0)), (1, .int (nI q)), (2, .long (lN Wv)), (4, .int (nI j))] → W p l e (headSpec wMo_octets ({ frames := 1, cells := 0, slots := 0, locals := 25 })).room s m [.ref (b 0), .int (nI q), .long (lN Wv)].toArray below meth c H locs 0 0 Q9 (F0 m 60 ls []) := by
              intro n60
              induction n60 with
              | zero => intro j hm; exact absurd hm (Nat.not_lt_zero _)
              | succ n60 ih60 =>
                intro j hm60 hj H locs hP hD hS ls hl
                refine lv_iload hx hb dMo_octets_60 (lv_at hl 3 rfl) ?_
                refine lv_iload_n hx hb dMo_octets_62 rfl (lv_at hl 1 rfl) ?_
                refine lv_icmp_ge (tgt := 96) hx hb dMo_octets_63 (by decide) (fun c63 => ?_) (fun c63 => ?_)
                · have c63 : q ≤ j := (nI_leI (a := q) (b := j) (by omega) (by omega)).mp (show nI q ≤ nI j from c63)
                  obtain rfl : j = q := by omega
                  refine lv_aload_n hx hb dMo_octets_96 rfl (lv_at hl 0 rfl) ?_
                  refine lv_dup hx hb dMo_octets_97 rfl ?_
                  refine va_get (D := (dC, dI)) (ci := 8) (v := .int ((fi_wr I1 1 f Wv j) 0 1)) (C := RMo) (T := TMo) (N := 27) hx hb hts inMo hown hK hP 0 rfl rfl 1 (by decide) (hts _ tw_648) (fun _ h9 => h9) rfl dMo_octets_98 ?_
                  refine rw_i (y := nI f) (by rw [fi_wr_o _ _ _ _ (by decide), eI1, ui_n _ _ _ (by decide)]; exact h1) ?_
                  refine lv_iload_n hx hb dMo_octets_101 rfl (lv_at hl 1 rfl) ?_
                  refine lv_iadd hx hb dMo_octets_102 ?_
                  refine rw_i (y := nI (f + j)) (nI_add _ _) ?_
                  refine va_put (D := (dC, dI)) (ci := 8) (fs := mo_f b (fi_wr I1 1 f Wv j) D) (v := .int (nI (f + j))) (ty := .int) (C := RMo) (T := TMo) (N := 27) hx hb hts inMo tyMo tyMo_ok nmMo hown hK hP hD hS 0 rfl rfl 1 (by decide) (hts _ tw_648) (fun _ h9 => h9) rfl (by decide +kernel) rfl rfl (Nat.le_of_ble_eq_true rfl) dMo_octets_103 (fun H locs hP hD hS => ?_)
                  rw [wm_p1] at hP hD
                  obtain ⟨I5, eI5⟩ : ∃ z, z = ui (fi_wr I1 1 f Wv j) 0 1 (nI (f + j)) := ⟨_, rfl⟩
                  rw [← eI5] at hP hD
                  refine lv_aload_n hx hb dMo_octets_106 rfl (lv_at hl 0 rfl) ?_
                  refine va_get (D := (dC, dI)) (ci := 8) (v := .int (I5 0 1)) (C := RMo) (T := TMo) (N := 27) hx hb hts inMo hown hK hP 0 rfl rfl 1 (by decide) (hts _ tw_648) (fun _ h9 => h9) rfl dMo_octets_107 ?_
                  refine rw_i (y := nI (f + j)) (by rw [eI5, ui_s]) ?_
                  rw [hQ9]
                  exact ct_ri hx hb hr hlocks I5 (Or.inr ⟨j, q1, q2, rfl, Or.inr ⟨by omega, rfl, by rw [eI5, eI1]⟩⟩) hP hD hS (Nat.le_refl _) (Nat.le_refl _) dMo_octets_110
                · have c63 : ¬ q ≤ j := fun q9 => c63 (show nI q ≤ nI j from (nI_leI (a := q) (b := j) (by omega) (by omega)).mpr q9)
                  refine lv_aload_n hx hb dMo_octets_66 rfl (lv_at hl 0 rfl) ?_
                  refine va_get (D := (dC, dI)) (ci := 8) (v := .ref (b 1)) (C := RMo) (T := TMo) (N := 27) hx hb hts inMo hown hK hP 0 rfl rfl 12 (by decide) (hts _ tw_659) (fun _ h9 => h9) rfl dMo_octets_67 ?_
                  refine lv_aload_n hx hb dMo_octets_70 rfl (lv_at hl 0 rfl) ?_
                  refine va_get (D := (dC, dI)) (ci := 8) (v := .int ((fi_wr I1 1 f Wv j) 0 1)) (C := RMo) (T := TMo) (N := 27) hx hb hts inMo hown hK hP 0 rfl rfl 1 (by decide) (hts _ tw_648) (fun _ h9 => h9) rfl dMo_octets_71 ?_
                  refine rw_i (y := nI f) (by rw [fi_wr_o _ _ _ _ (by decide), eI1, ui_n _ _ _ (by decide)]; exact h1) ?_
                  refine lv_iload hx hb dMo_octets_74 (lv_at hl 3 rfl) ?_
                  refine lv_iadd hx hb dMo_octets_76 ?_
                  refine rw_i (y := nI (f + j)) (nI_add _ _) ?_
                  refine lv_lload_n hx hb dMo_octets_77 rfl (lv_at hl 2 rfl) ?_
                  refine lv_bipush (v := nI 8) hx hb dMo_octets_78 (by decide +kernel) ?_
                  refine lv_iload hx hb dMo_octets_80 (lv_at hl 3 rfl) ?_
                  refine lv_imul hx hb dMo_octets_82 ?_
                  refine rw_i (y := nI (8 * j)) (pk_mul _ _) ?_
                  refine lv_lushr (v := lN (Wv / 2 ^ (8 * j))) hx hb dMo_octets_83 (oc_shr hW (by omega)) ?_
                  refine lv_ldc2 (v := 255) hx hb hown (hts _ tw_745) dMo_octets_84 ?_
                  refine rw_l (y := lN 255) (by decide +kernel) ?_
                  refine lv_land hx hb dMo_octets_87 ?_
                  refine rw_l (y := lN (oc_w Wv j)) (oc_and hW) ?_
                  refine lv_l2i (v := nI (oc_w Wv j)) hx hb dMo_octets_88 (lN_i _) ?_
                  refine rw_ast_i hx hb hK hP hD hS 1 0 rfl rfl (by omega) (by decide) dMo_octets_89 (fun H locs hP hD hS => ?_)
                  rw [wm_a1] at hP hD
                  obtain ⟨I6, eI6⟩ : ∃ z, z = ui (fi_wr I1 1 f Wv j) 1 (f + j) (nI (oc_w Wv j)) := ⟨_, rfl⟩
                  rw [← eI6] at hP hD
                  refine lv_iinc (v := nI (j + 1)) (lv' := [(4, .int (nI (j + 1))), (0, .ref (b 0)), (1, .int (nI q)), (2, .long (lN Wv))]) hx hb dMo_octets_90 hl (k := 3) rfl (nI_1 _) (by decide) rfl (fun ls hl => ?_)
                  refine lv_goto (tgt := 60) hx hb dMo_octets_93 (by decide) ?_
                  rw [eI6] at hP hD
                  exact ih60 (j + 1) (by omega) (by omega) _ _ hP hD hS ls (lv_sub hl [1, 2, 3, 0] rfl)
            exact L60 _ 0 (Nat.lt_succ_self _) (by omega) _ _ hP hD hS ls (lv_sub hl [1, 2, 3, 0] rfl)
          · have c52 : ¬ 0 = 0 := fun q9 => c52 (show nI 0 = nI 0 from (nI_eq (a := 0) (b := 0) (by omega) (by omega)).mpr q9)
            exact absurd (by decide) c52
        · have c40 : ¬ (f + q) ≤ 400 := fun q9 => c40 (show nI (f + q) ≤ nI 400 from (nI_leI (a := (f + q)) (b := 400) (by omega) (by omega)).mpr q9)
          refine lv_iconst (v := nI 1) hx hb dMo_octets_43 (by decide +kernel) ?_
          refine lv_goto (tgt := 48) hx hb dMo_octets_44 (by decide) ?_
          refine lv_iconst (v := nI 2) hx hb dMo_octets_48 (by decide +kernel) ?_
          refine ct_i (va_runV (As := [.int (nI 1), .int (nI 2)]) (rest := []) ⟨hx, hb, hml, hown, hts⟩ (kMo_fails1 l dC dI k b I1 D _ 2 (by omega) (by omega) (by rw [eI1, ui_s])) (cwV 2 hts (gw_V tw_741 tw_743 sl_Mo_fails tw_9 tw_744) rfl rfl rfl (by decide +kernel) ⟨Nat.le_of_ble_eq_true rfl, Nat.le_of_ble_eq_true rfl⟩) ⟨ct_blind (ev := fun _ => True) (fun _ _ _ _ h => h), va_recv hK hP (ci := 8) (q0 := 0) rfl rfl, ct_now (ev := fun _ => True) (fun _ _ _ => trivial) hP hK hD⟩ rfl rfl hl.1 rfl (lv_room (Nat.le_of_ble_eq_true rfl)) dMo_octets_49 ⟨Nat.le_of_ble_eq_true rfl, Nat.le_of_ble_eq_true rfl⟩) hD hS hA (fun r7 u7 H locs hw7 hP hD hS => ?_)
          obtain ⟨r7e, eu7⟩ := hw7
          subst r7e
          refine lv_if_eq (tgt := 57) hx hb dMo_octets_52 (by decide) (fun c52 => ?_) (fun c52 => ?_)
          · have c52 : 1 = 0 := (nI_eq (a := 1) (b := 0) (by omega) (by omega)).mp (show nI 1 = nI 0 from c52)
            exact absurd c52 (by decide)
          · have c52 : ¬ 1 = 0 := fun q9 => c52 (show nI 1 = nI 0 from (nI_eq (a := 1) (b := 0) (by omega) (by omega)).mpr q9)
            refine lv_iconst (v := nI 0) hx hb dMo_octets_55 (by decide +kernel) ?_
            rw [hQ9]
            exact ct_ri hx hb hr hlocks u7 (Or.inr ⟨q, q1, q2, rfl, Or.inl ⟨by omega, by rw [eu7, eI1]⟩⟩) hP hD hS (Nat.le_refl _) (Nat.le_refl _) dMo_octets_56
    · have c15 : 1 = 0 := (nI_eq (a := 1) (b := 0) (by omega) (by omega)).mp (show nI 1 = nI 0 from c15)
      exact absurd c15 (by decide)
  · rw [if_neg g12] at hw2
    subst hw2
    refine rw_i (y := nI 0) rfl ?_
    refine lv_if_ne (tgt := 22) hx hb dMo_octets_15 (by decide) (fun c15 => ?_) (fun c15 => ?_)
    · have c15 : ¬ 0 = 0 := fun q9 => c15 (show nI 0 = nI 0 from (nI_eq (a := 0) (b := 0) (by omega) (by omega)).mpr q9)
      exact absurd (by decide) c15
    · have c15 : 0 = 0 := (nI_eq (a := 0) (b := 0) (by omega) (by omega)).mp (show nI 0 = nI 0 from c15)
      refine lv_iconst (v := nI 1) hx hb dMo_octets_18 (by decide +kernel) ?_
      refine lv_goto (tgt := 23) hx hb dMo_octets_19 (by decide) ?_
      refine lv_iconst (v := nI 1) hx hb dMo_octets_23 (by decide +kernel) ?_
      refine ct_i (va_runV (As := [.int (nI 1), .int (nI 1)]) (rest := []) ⟨hx, hb, hml, hown, hts⟩ (kMo_fails1 l dC dI k b I1 D _ 1 (by omega) (by omega) (by rw [eI1, ui_s])) (cwV 2 hts (gw_V tw_741 tw_743 sl_Mo_fails tw_9 tw_744) rfl rfl rfl (by decide +kernel) ⟨Nat.le_of_ble_eq_true rfl, Nat.le_of_ble_eq_true rfl⟩) ⟨ct_blind (ev := fun _ => True) (fun _ _ _ _ h => h), va_recv hK hP (ci := 8) (q0 := 0) rfl rfl, ct_now (ev := fun _ => True) (fun _ _ _ => trivial) hP hK hD⟩ rfl rfl hl.1 rfl (lv_room (Nat.le_of_ble_eq_true rfl)) dMo_octets_24 ⟨Nat.le_of_ble_eq_true rfl, Nat.le_of_ble_eq_true rfl⟩) hD hS hA (fun r8 u8 H locs hw8 hP hD hS => ?_)
      obtain ⟨r8e, eu8⟩ := hw8
      subst r8e
      refine lv_if_ne (tgt := 55) hx hb dMo_octets_27 (by decide) (fun c27 => ?_) (fun c27 => ?_)
      · have c27 : ¬ 1 = 0 := fun q9 => c27 (show nI 1 = nI 0 from (nI_eq (a := 1) (b := 0) (by omega) (by omega)).mpr q9)
        refine lv_iconst (v := nI 0) hx hb dMo_octets_55 (by decide +kernel) ?_
        rw [hQ9]
        exact ct_ri hx hb hr hlocks u8 (Or.inl ⟨fun q => g12 (in_ba (by decide) (by decide) q), by rw [eu8, eI1]⟩) hP hD hS (Nat.le_refl _) (Nat.le_refl _) dMo_octets_56
      · have c27 : 1 = 0 := (nI_eq (a := 1) (b := 0) (by omega) (by omega)).mp (show nI 1 = nI 0 from c27)
        exact absurd c27 (by decide)
set_option maxHeartbeats 4000000 in
set_option maxRecDepth 100000 in
theorem kMo_power (l : Launch) (dC : Nat → ClassId) (dI : Nat → Nat → Nat) (k : Nat → ClassId) (b : Nat → Nat) (I : Nat → Nat → Int32) (D : Nat → Nat → UInt64) (sz : Nat) (f9 k9 : Int32) (ns : Nat) (hn : ns ≤ 320) (h3 : I 0 3 = nI ns) (hsm : ∀ i, i < ns → fb_ 1057 (D 1 i)) (hc : ∀ j, j < 32 → D 7 j = hd_C j) (hsn : ∀ j, j < 32 → D 8 j = hd_S j) : Met l yMo_power wMo_power ({ frames := 1, cells := 0, slots := 0, locals := 29 }) (va_Pc [.ref (b 0), .int f9, .int k9] (ct_pre (dC, dI) (mo_ty k) (fun _ => True) (wm k b I D) sz)) (va_Qd (fun r (u : Nat → Nat → Int32) => ((¬ ∃ j, j < hd_nf ns ∧ f9 = nI j) ∧ u = ui (ui I 0 0 (nI 0)) 0 0 (nI 1)) ∨ (∃ j, j < hd_nf ns ∧ f9 = nI j ∧ (((¬ ∃ q, 0 ≤ q ∧ q ≤ 16 ∧ k9 = nI q) ∧ u = ui (ui I 0 0 (nI 0)) 0 0 (nI 2)) ∨ (∃ q, 0 ≤ q ∧ q ≤ 16 ∧ k9 = nI q ∧ u = ui I 0 0 (nI 0) ∧ r = hd_P (D 1) j q)))) (fun u t => ct_at (dC, dI) (va_A (wm k b I D) sz) ((fun u => wm k b u D) u) t) (va_A (wm k b I D) sz)) 0 0 (va_A (wm k b I D) sz) := by
  refine Met.ofW (cc := cMo_power) (maxL := 3) (ret := (some .double)) (by decide) rfl ?_
  intro p e s m args below meth c s₁ B hml hv
  obtain ⟨rfl, hsz, hP, hK, hD0, hE⟩ := hv
  have hx := B.exec
  have hb := B.bytes
  have hr := B.returns
  have hts : ∀ w ∈ W0, w.before [.ref (b 0), .int f9, .int k9].toArray s = true := fun w h => atoms_spec (ws := wMo_power) B.pre w (List.mem_cons_of_mem _ h)
  have hown : s.vm.findClass RMo = some m.cls := findClass_of_methodNamed B.named
  have hlocks := B.notSynchronized
  subst hsz
  have hD := hD0.self (sz := s.heap.size)
  generalize hAe : va_A (wm k b I D) s.heap.size = A at hD ⊢
  have hA : ∀ q : Nat, s.heap.size ≤ q → A q := fun q h => by rw [← hAe]; exact Or.inr h
  have hS : va_S A s.heap s.heap [] := va_S.rf
  have hl := lv_entry ([.ref (b 0), .int f9, .int k9]) (n := 3) (Nat.le_of_ble_eq_true rfl)
  rw [lg_entry_eq]
  generalize (lg_sl ([.ref (b 0), .int f9, .int k9]) ++ List.replicate (3 - (lg_sl ([.ref (b 0), .int f9, .int k9])).length) Slot.unset).toArray = ls at hl ⊢
  have hl : lv_has ls 3 [(0, .ref (b 0)), (1, .int f9), (2, .int k9)] := hl
  refine lv_aload_n hx hb dMo_power_0 rfl (lv_at hl 0 rfl) ?_
  refine lv_iconst (v := nI 0) hx hb dMo_power_1 (by decide +kernel) ?_
  refine va_put (D := (dC, dI)) (ci := 8) (fs := mo_f b I D) (v := .int (nI 0)) (ty := .int) (C := RMo) (T := TMo) (N := 27) hx hb hts inMo tyMo tyMo_ok nmMo hown hK hP hD hS 0 rfl rfl 0 (by decide) (hts _ tw_647) (fun _ h9 => h9) rfl (by decide +kernel) rfl rfl (Nat.le_of_ble_eq_true rfl) dMo_power_2 (fun H locs hP hD hS => ?_)
  rw [wm_p0] at hP hD
  obtain ⟨I1, eI1⟩ : ∃ z, z = ui I 0 0 (nI 0) := ⟨_, rfl⟩
  rw [← eI1] at hP hD
  refine lv_aload_n hx hb dMo_power_5 rfl (lv_at hl 0 rfl) ?_
  refine lv_iload_n hx hb dMo_power_6 rfl (lv_at hl 1 rfl) ?_
  refine lv_i2l (v := f9.toInt64) hx hb dMo_power_7 rfl ?_
  refine lv_lconst (v := lN 0) hx hb dMo_power_8 (by decide +kernel) ?_
  refine lv_aload_n hx hb dMo_power_9 rfl (lv_at hl 0 rfl) ?_
  refine ct_i (va_runV (As := []) (rest := [.long (lN 0), .long f9.toInt64, .ref (b 0)]) ⟨hx, hb, hml, hown, hts⟩ (kMo_frames l dC dI k b I1 D _ ns hn (by rw [eI1, ui_n _ _ _ (by decide)]; exact h3)) (cwV 0 hts (gw_V tw_794 tw_796 sl_Mo_frames tw_9 tw_797) rfl rfl rfl (by decide +kernel) ⟨Nat.le_of_ble_eq_true rfl, Nat.le_of_ble_eq_true rfl⟩) ⟨ct_blind (ev := fun _ => True) (fun _ _ _ _ h => h), va_recv hK hP (ci := 8) (q0 := 0) rfl rfl, ct_now (ev := fun _ => True) (fun _ _ _ => trivial) hP hK hD⟩ rfl rfl hl.1 rfl (lv_room (Nat.le_of_ble_eq_true rfl)) dMo_power_10 ⟨Nat.le_of_ble_eq_true rfl, Nat.le_of_ble_eq_true rfl⟩) hD hS hA (fun r2 u2 H locs hw2 hP hD hS => ?_)
  subst hw2
  refine lv_iconst (v := nI 1) hx hb dMo_power_13 (by decide +kernel) ?_
  refine lv_isub hx hb dMo_power_14 ?_
  refine lv_i2l (v := ((nI (hd_nf ns)) - (nI 1)).toInt64) hx hb dMo_power_15 rfl ?_
  refine ct_i (va_runS (As := [.long f9.toInt64, .long (lN 0), .long (((nI (hd_nf ns)) - (nI 1)).toInt64)]) (rest := [.ref (b 0)]) ⟨hx, hb, hml, hown, hts⟩ (kMo_in l dC dI k b I1 D _ f9.toInt64 (lN 0) (((nI (hd_nf ns)) - (nI 1)).toInt64)) (va_cwS 3 hts (gw_S tw_738 tw_739 tw_9 tw_740) rfl rfl rfl (by decide +kernel) ⟨Nat.le_of_ble_eq_true rfl, Nat.le_of_ble_eq_true rfl⟩) ⟨ct_blind (ev := fun _ => True) (fun _ _ _ _ h => h), ct_now (ev := fun _ => True) (fun _ _ _ => trivial) hP hK hD⟩ rfl rfl hl.1 rfl (lv_room (Nat.le_of_ble_eq_true rfl)) dMo_power_16 ⟨Nat.le_of_ble_eq_true rfl, Nat.le_of_ble_eq_true rfl⟩) hD hS hA (fun r3 u3 H locs hw3 hP hD hS => ?_)
  by_cases g16 : lN 0 ≤ f9.toInt64 ∧ f9.toInt64 ≤ ((nI (hd_nf ns)) - (nI 1)).toInt64
  · rw [if_pos g16] at hw3
    subst hw3
    refine rw_i (y := nI 1) rfl ?_
    obtain ⟨j, hj, rfl⟩ := in_0n (Nat.le_trans (nf_le hn) (by decide)) g16
    have hj2 := nf_lt hj
    refine lv_if_ne (tgt := 26) hx hb dMo_power_19 (by decide) (fun c19 => ?_) (fun c19 => ?_)
    · have c19 : ¬ 1 = 0 := fun q9 => c19 (show nI 1 = nI 0 from (nI_eq (a := 1) (b := 0) (by omega) (by omega)).mpr q9)
      refine lv_iconst (v := nI 0) hx hb dMo_power_26 (by decide +kernel) ?_
      refine lv_iconst (v := nI 1) hx hb dMo_power_27 (by decide +kernel) ?_
      refine ct_i (va_runV (As := [.int (nI 0), .int (nI 1)]) (rest := []) ⟨hx, hb, hml, hown, hts⟩ (kMo_fails0 l dC dI k b I1 D _ (nI 1) (by rw [eI1, ui_s])) (cwV 2 hts (gw_V tw_741 tw_743 sl_Mo_fails tw_9 tw_744) rfl rfl rfl (by decide +kernel) ⟨Nat.le_of_ble_eq_true rfl, Nat.le_of_ble_eq_true rfl⟩) ⟨ct_blind (ev := fun _ => True) (fun _ _ _ _ h => h), va_recv hK hP (ci := 8) (q0 := 0) rfl rfl, ct_now (ev := fun _ => True) (fun _ _ _ => trivial) hP hK hD⟩ rfl rfl hl.1 rfl (lv_room (Nat.le_of_ble_eq_true rfl)) dMo_power_28 ⟨Nat.le_of_ble_eq_true rfl, Nat.le_of_ble_eq_true rfl⟩) hD hS hA (fun r4 u4 H locs hw4 hP hD hS => ?_)
      subst hw4
      refine lv_if_ne (tgt := 59) hx hb dMo_power_31 (by decide) (fun c31 => ?_) (fun c31 => ?_)
      · have c31 : ¬ 0 = 0 := fun q9 => c31 (show nI 0 = nI 0 from (nI_eq (a := 0) (b := 0) (by omega) (by omega)).mpr q9)
        exact absurd (by decide) c31
      · have c31 : 0 = 0 := (nI_eq (a := 0) (b := 0) (by omega) (by omega)).mp (show nI 0 = nI 0 from c31)
        refine lv_aload_n hx hb dMo_power_34 rfl (lv_at hl 0 rfl) ?_
        refine lv_iload_n hx hb dMo_power_35 rfl (lv_at hl 2 rfl) ?_
        refine lv_i2l (v := k9.toInt64) hx hb dMo_power_36 rfl ?_
        refine lv_lconst (v := lN 0) hx hb dMo_power_37 (by decide +kernel) ?_
        refine lv_ldc2 (v := 16) hx hb hown (hts _ tw_762) dMo_power_38 ?_
        refine rw_l (y := lN 16) (by decide +kernel) ?_
        refine ct_i (va_runS (As := [.long k9.toInt64, .long (lN 0), .long (lN 16)]) (rest := [.ref (b 0)]) ⟨hx, hb, hml, hown, hts⟩ (kMo_in l dC dI k b I1 D _ k9.toInt64 (lN 0) (lN 16)) (va_cwS 3 hts (gw_S tw_738 tw_739 tw_9 tw_740) rfl rfl rfl (by decide +kernel) ⟨Nat.le_of_ble_eq_true rfl, Nat.le_of_ble_eq_true rfl⟩) ⟨ct_blind (ev := fun _ => True) (fun _ _ _ _ h => h), ct_now (ev := fun _ => True) (fun _ _ _ => trivial) hP hK hD⟩ rfl rfl hl.1 rfl (lv_room (Nat.le_of_ble_eq_true rfl)) dMo_power_41 ⟨Nat.le_of_ble_eq_true rfl, Nat.le_of_ble_eq_true rfl⟩) hD hS hA (fun r5 u5 H locs hw5 hP hD hS => ?_)
        by_cases g41 : lN 0 ≤ k9.toInt64 ∧ k9.toInt64 ≤ lN 16
        · rw [if_pos g41] at hw5
          subst hw5
          refine rw_i (y := nI 1) rfl ?_
          obtain ⟨q, q1, q2, rfl⟩ := in_ab (by decide) (by decide) g41
          refine lv_if_ne (tgt := 51) hx hb dMo_power_44 (by decide) (fun c44 => ?_) (fun c44 => ?_)
          · have c44 : ¬ 1 = 0 := fun q9 => c44 (show nI 1 = nI 0 from (nI_eq (a := 1) (b := 0) (by omega) (by omega)).mpr q9)
            refine lv_iconst (v := nI 0) hx hb dMo_power_51 (by decide +kernel) ?_
            refine lv_iconst (v := nI 2) hx hb dMo_power_52 (by decide +kernel) ?_
            refine ct_i (va_runV (As := [.int (nI 0), .int (nI 2)]) (rest := []) ⟨hx, hb, hml, hown, hts⟩ (kMo_fails0 l dC dI k b I1 D _ (nI 2) (by rw [eI1, ui_s])) (cwV 2 hts (gw_V tw_741 tw_743 sl_Mo_fails tw_9 tw_744) rfl rfl rfl (by decide +kernel) ⟨Nat.le_of_ble_eq_true rfl, Nat.le_of_ble_eq_true rfl⟩) ⟨ct_blind (ev := fun _ => True) (fun _ _ _ _ h => h), va_recv hK hP (ci := 8) (q0 := 0) rfl rfl, ct_now (ev := fun _ => True) (fun _ _ _ => trivial) hP hK hD⟩ rfl rfl hl.1 rfl (lv_room (Nat.le_of_ble_eq_true rfl)) dMo_power_53 ⟨Nat.le_of_ble_eq_true rfl, Nat.le_of_ble_eq_true rfl⟩) hD hS hA (fun r6 u6 H locs hw6 hP hD hS => ?_)
            subst hw6
            refine lv_if_eq (tgt := 63) hx hb dMo_power_56 (by decide) (fun c56 => ?_) (fun c56 => ?_)
            · have c56 : 0 = 0 := (nI_eq (a := 0) (b := 0) (by omega) (by omega)).mp (show nI 0 = nI 0 from c56)
              refine lv_aload_n hx hb dMo_power_63 rfl (lv_at hl 0 rfl) ?_
              refine lv_iload_n hx hb dMo_power_64 rfl (lv_at hl 1 rfl) ?_
              refine lv_iload_n hx hb dMo_power_65 rfl (lv_at hl 2 rfl) ?_
              refine ct_d (va_runV (As := [.int (nI j), .int (nI q)]) (rest := []) ⟨hx, hb, hml, hown, hts⟩ (kMo_powerOf l dC dI k b I1 D _ j q (by omega) q2 (fun i hi => hsm _ (by omega)) hc hsn) (cwV 2 hts (gw_V tw_798 tw_800 sl_Mo_powerOf tw_9 tw_801) rfl rfl rfl (by decide +kernel) ⟨Nat.le_of_ble_eq_true rfl, Nat.le_of_ble_eq_true rfl⟩) ⟨ct_blind (ev := fun _ => True) (fun _ _ _ _ h => h), va_recv hK hP (ci := 8) (q0 := 0) rfl rfl, ct_now (ev := fun _ => True) (fun _ _ _ => trivial) hP hK hD⟩ rfl rfl hl.1 rfl (lv_room (Nat.le_of_ble_eq_true rfl)) dMo_power_66 ⟨Nat.le_of_ble_eq_true rfl, Nat.le_of_ble_eq_true rfl⟩) hD hS hA (fun r7 u7 H locs hw7 hP hD hS => ?_)
              subst hw7
              exact ct_rd hx hb hr hlocks I1 (Or.inr ⟨j, hj, rfl, Or.inr ⟨q, q1, q2, rfl, by rw [eI1], rfl⟩⟩) hP hD hS (Nat.le_refl _) (Nat.le_refl _) dMo_power_69
            · have c56 : ¬ 0 = 0 := fun q9 => c56 (show nI 0 = nI 0 from (nI_eq (a := 0) (b := 0) (by omega) (by omega)).mpr q9)
              exact absurd (by decide) c56
          · have c44 : 1 = 0 := (nI_eq (a := 1) (b := 0) (by omega) (by omega)).mp (show nI 1 = nI 0 from c44)
            exact absurd c44 (by decide)
        · rw [if_neg g41] at hw5
          subst hw5
          refine rw_i (y := nI 0) rfl ?_
          refine lv_if_ne (tgt := 51) hx hb dMo_power_44 (by decide) (fun c44 => ?_) (fun c44 => ?_)
          · have c44 : ¬ 0 = 0 := fun q9 => c44 (show nI 0 = nI 0 from (nI_eq (a := 0) (b := 0) (by omega) (by omega)).mpr q9)
            exact absurd (by decide) c44
          · have c44 : 0 = 0 := (nI_eq (a := 0) (b := 0) (by omega) (by omega)).mp (show nI 0 = nI 0 from c44)
            refine lv_iconst (v := nI 1) hx hb dMo_power_47 (by decide +kernel) ?_
            refine lv_goto (tgt := 52) hx hb dMo_power_48 (by decide) ?_
            refine lv_iconst (v := nI 2) hx hb dMo_power_52 (by decide +kernel) ?_
            refine ct_i (va_runV (As := [.int (nI 1), .int (nI 2)]) (rest := []) ⟨hx, hb, hml, hown, hts⟩ (kMo_fails1 l dC dI k b I1 D _ 2 (by omega) (by omega) (by rw [eI1, ui_s])) (cwV 2 hts (gw_V tw_741 tw_743 sl_Mo_fails tw_9 tw_744) rfl rfl rfl (by decide +kernel) ⟨Nat.le_of_ble_eq_true rfl, Nat.le_of_ble_eq_true rfl⟩) ⟨ct_blind (ev := fun _ => True) (fun _ _ _ _ h => h), va_recv hK hP (ci := 8) (q0 := 0) rfl rfl, ct_now (ev := fun _ => True) (fun _ _ _ => trivial) hP hK hD⟩ rfl rfl hl.1 rfl (lv_room (Nat.le_of_ble_eq_true rfl)) dMo_power_53 ⟨Nat.le_of_ble_eq_true rfl, Nat.le_of_ble_eq_true rfl⟩) hD hS hA (fun r8 u8 H locs hw8 hP hD hS => ?_)
            obtain ⟨r8e, eu8⟩ := hw8
            subst r8e
            refine lv_if_eq (tgt := 63) hx hb dMo_power_56 (by decide) (fun c56 => ?_) (fun c56 => ?_)
            · have c56 : 1 = 0 := (nI_eq (a := 1) (b := 0) (by omega) (by omega)).mp (show nI 1 = nI 0 from c56)
              exact absurd c56 (by decide)
            · have c56 : ¬ 1 = 0 := fun q9 => c56 (show nI 1 = nI 0 from (nI_eq (a := 1) (b := 0) (by omega) (by omega)).mpr q9)
              refine lv_dconst0 hx hb dMo_power_59 ?_
              refine rw_d (y := 0) rfl ?_
              refine lv_goto (tgt := 69) hx hb dMo_power_60 (by decide) ?_
              exact ct_rd hx hb hr hlocks u8 (Or.inr ⟨j, hj, rfl, Or.inl ⟨fun q => g41 (in_ba (by decide) (by decide) q), by rw [eu8, eI1]⟩⟩) hP hD hS (Nat.le_refl _) (Nat.le_refl _) dMo_power_69
    · have c19 : 1 = 0 := (nI_eq (a := 1) (b := 0) (by omega) (by omega)).mp (show nI 1 = nI 0 from c19)
      exact absurd c19 (by decide)
  · rw [if_neg g16] at hw3
    subst hw3
    refine rw_i (y := nI 0) rfl ?_
    refine lv_if_ne (tgt := 26) hx hb dMo_power_19 (by decide) (fun c19 => ?_) (fun c19 => ?_)
    · have c19 : ¬ 0 = 0 := fun q9 => c19 (show nI 0 = nI 0 from (nI_eq (a := 0) (b := 0) (by omega) (by omega)).mpr q9)
      exact absurd (by decide) c19
    · have c19 : 0 = 0 := (nI_eq (a := 0) (b := 0) (by omega) (by omega)).mp (show nI 0 = nI 0 from c19)
      refine lv_iconst (v := nI 1) hx hb dMo_power_22 (by decide +kernel) ?_
      refine lv_goto (tgt := 27) hx hb dMo_power_23 (by decide) ?_
      refine lv_iconst (v := nI 1) hx hb dMo_power_27 (by decide +kernel) ?_
      refine ct_i (va_runV (As := [.int (nI 1), .int (nI 1)]) (rest := []) ⟨hx, hb, hml, hown, hts⟩ (kMo_fails1 l dC dI k b I1 D _ 1 (by omega) (by omega) (by rw [eI1, ui_s])) (cwV 2 hts (gw_V tw_741 tw_743 sl_Mo_fails tw_9 tw_744) rfl rfl rfl (by decide +kernel) ⟨Nat.le_of_ble_eq_true rfl, Nat.le_of_ble_eq_true rfl⟩) ⟨ct_blind (ev := fun _ => True) (fun _ _ _ _ h => h), va_recv hK hP (ci := 8) (q0 := 0) rfl rfl, ct_now (ev := fun _ => True) (fun _ _ _ => trivial) hP hK hD⟩ rfl rfl hl.1 rfl (lv_room (Nat.le_of_ble_eq_true rfl)) dMo_power_28 ⟨Nat.le_of_ble_eq_true rfl, Nat.le_of_ble_eq_true rfl⟩) hD hS hA (fun r9 u9 H locs hw9 hP hD hS => ?_)
      obtain ⟨r9e, eu9⟩ := hw9
      subst r9e
      refine lv_if_ne (tgt := 59) hx hb dMo_power_31 (by decide) (fun c31 => ?_) (fun c31 => ?_)
      · have c31 : ¬ 1 = 0 := fun q9 => c31 (show nI 1 = nI 0 from (nI_eq (a := 1) (b := 0) (by omega) (by omega)).mpr q9)
        refine lv_dconst0 hx hb dMo_power_59 ?_
        refine rw_d (y := 0) rfl ?_
        refine lv_goto (tgt := 69) hx hb dMo_power_60 (by decide) ?_
        exact ct_rd hx hb hr hlocks u9 (Or.inl ⟨fun q => g16 (in_n0 (Nat.le_trans (nf_le hn) (by decide)) q), by rw [eu9, eI1]⟩) hP hD hS (Nat.le_refl _) (Nat.le_refl _) dMo_power_69
      · have c31 : 1 = 0 := (nI_eq (a := 1) (b := 0) (by omega) (by omega)).mp (show nI 1 = nI 0 from c31)
        exact absurd c31 (by decide)
set_option maxHeartbeats 4000000 in
set_option maxRecDepth 100000 in
theorem kMo_level (l : Launch) (dC : Nat → ClassId) (dI : Nat → Nat → Nat) (k : Nat → ClassId) (b : Nat → Nat) (I : Nat → Nat → Int32) (D : Nat → Nat → UInt64) (sz : Nat) (f9 k9 : Int32) (ns : Nat) (hn : ns ≤ 320) (h3 : I 0 3 = nI ns) (hsm : ∀ i, i < ns → fb_ 1057 (D 1 i)) (hc : ∀ j, j < 32 → D 7 j = hd_C j) (hsn : ∀ j, j < 32 → D 8 j = hd_S j) : Met l yMo_level wMo_level ({ frames := 3, cells := 0, slots := 0, locals := 80 }) (va_Pc [.ref (b 0), .int f9, .int k9] (ct_pre (dC, dI) (mo_ty k) (fun _ => True) (wm k b I D) sz)) (va_Qd (fun r (u : Nat → Nat → Int32) => ((¬ ∃ j, j < hd_nf ns ∧ f9 = nI j) ∧ u = ui (ui I 0 0 (nI 0)) 0 0 (nI 1)) ∨ (∃ j, j < hd_nf ns ∧ f9 = nI j ∧ (((¬ ∃ q, 0 ≤ q ∧ q ≤ 3 ∧ k9 = nI q) ∧ u = ui (ui I 0 0 (nI 0)) 0 0 (nI 2)) ∨ (∃ q, 0 ≤ q ∧ q ≤ 3 ∧ k9 = nI q ∧ u = ui I 0 0 (nI 0) ∧ r = hd_lev (D 1) j q)))) (fun u t => ct_at (dC, dI) (va_A (wm k b I D) sz) ((fun u => wm k b u D) u) t) (va_A (wm k b I D) sz)) 0 0 (va_A (wm k b I D) sz) := by
  refine Met.ofW (cc := cMo_level) (maxL := 3) (ret := (some .double)) (by decide) rfl ?_
  intro p e s m args below meth c s₁ B hml hv
  obtain ⟨rfl, hsz, hP, hK, hD0, hE⟩ := hv
  have hx := B.exec
  have hb := B.bytes
  have hr := B.returns
  have hts : ∀ w ∈ W0, w.before [.ref (b 0), .int f9, .int k9].toArray s = true := fun w h => atoms_spec (ws := wMo_level) B.pre w (List.mem_cons_of_mem _ h)
  have hown : s.vm.findClass RMo = some m.cls := findClass_of_methodNamed B.named
  have hlocks := B.notSynchronized
  subst hsz
  have hD := hD0.self (sz := s.heap.size)
  generalize hAe : va_A (wm k b I D) s.heap.size = A at hD ⊢
  have hA : ∀ q : Nat, s.heap.size ≤ q → A q := fun q h => by rw [← hAe]; exact Or.inr h
  have hS : va_S A s.heap s.heap [] := va_S.rf
  have hl := lv_entry ([.ref (b 0), .int f9, .int k9]) (n := 3) (Nat.le_of_ble_eq_true rfl)
  rw [lg_entry_eq]
  generalize (lg_sl ([.ref (b 0), .int f9, .int k9]) ++ List.replicate (3 - (lg_sl ([.ref (b 0), .int f9, .int k9])).length) Slot.unset).toArray = ls at hl ⊢
  have hl : lv_has ls 3 [(0, .ref (b 0)), (1, .int f9), (2, .int k9)] := hl
  refine lv_aload_n hx hb dMo_level_0 rfl (lv_at hl 0 rfl) ?_
  refine lv_iconst (v := nI 0) hx hb dMo_level_1 (by decide +kernel) ?_
  refine va_put (D := (dC, dI)) (ci := 8) (fs := mo_f b I D) (v := .int (nI 0)) (ty := .int) (C := RMo) (T := TMo) (N := 27) hx hb hts inMo tyMo tyMo_ok nmMo hown hK hP hD hS 0 rfl rfl 0 (by decide) (hts _ tw_647) (fun _ h9 => h9) rfl (by decide +kernel) rfl rfl (Nat.le_of_ble_eq_true rfl) dMo_level_2 (fun H locs hP hD hS => ?_)
  rw [wm_p0] at hP hD
  obtain ⟨I1, eI1⟩ : ∃ z, z = ui I 0 0 (nI 0) := ⟨_, rfl⟩
  rw [← eI1] at hP hD
  refine lv_aload_n hx hb dMo_level_5 rfl (lv_at hl 0 rfl) ?_
  refine lv_iload_n hx hb dMo_level_6 rfl (lv_at hl 1 rfl) ?_
  refine lv_i2l (v := f9.toInt64) hx hb dMo_level_7 rfl ?_
  refine lv_lconst (v := lN 0) hx hb dMo_level_8 (by decide +kernel) ?_
  refine lv_aload_n hx hb dMo_level_9 rfl (lv_at hl 0 rfl) ?_
  refine ct_i (va_runV (As := []) (rest := [.long (lN 0), .long f9.toInt64, .ref (b 0)]) ⟨hx, hb, hml, hown, hts⟩ (kMo_frames l dC dI k b I1 D _ ns hn (by rw [eI1, ui_n _ _ _ (by decide)]; exact h3)) (cwV 0 hts (gw_V tw_794 tw_796 sl_Mo_frames tw_9 tw_797) rfl rfl rfl (by decide +kernel) ⟨Nat.le_of_ble_eq_true rfl, Nat.le_of_ble_eq_true rfl⟩) ⟨ct_blind (ev := fun _ => True) (fun _ _ _ _ h => h), va_recv hK hP (ci := 8) (q0 := 0) rfl rfl, ct_now (ev := fun _ => True) (fun _ _ _ => trivial) hP hK hD⟩ rfl rfl hl.1 rfl (lv_room (Nat.le_of_ble_eq_true rfl)) dMo_level_10 ⟨Nat.le_of_ble_eq_true rfl, Nat.le_of_ble_eq_true rfl⟩) hD hS hA (fun r2 u2 H locs hw2 hP hD hS => ?_)
  subst hw2
  refine lv_iconst (v := nI 1) hx hb dMo_level_13 (by decide +kernel) ?_
  refine lv_isub hx hb dMo_level_14 ?_
  refine lv_i2l (v := ((nI (hd_nf ns)) - (nI 1)).toInt64) hx hb dMo_level_15 rfl ?_
  refine ct_i (va_runS (As := [.long f9.toInt64, .long (lN 0), .long (((nI (hd_nf ns)) - (nI 1)).toInt64)]) (rest := [.ref (b 0)]) ⟨hx, hb, hml, hown, hts⟩ (kMo_in l dC dI k b I1 D _ f9.toInt64 (lN 0) (((nI (hd_nf ns)) - (nI 1)).toInt64)) (va_cwS 3 hts (gw_S tw_738 tw_739 tw_9 tw_740) rfl rfl rfl (by decide +kernel) ⟨Nat.le_of_ble_eq_true rfl, Nat.le_of_ble_eq_true rfl⟩) ⟨ct_blind (ev := fun _ => True) (fun _ _ _ _ h => h), ct_now (ev := fun _ => True) (fun _ _ _ => trivial) hP hK hD⟩ rfl rfl hl.1 rfl (lv_room (Nat.le_of_ble_eq_true rfl)) dMo_level_16 ⟨Nat.le_of_ble_eq_true rfl, Nat.le_of_ble_eq_true rfl⟩) hD hS hA (fun r3 u3 H locs hw3 hP hD hS => ?_)
  by_cases g16 : lN 0 ≤ f9.toInt64 ∧ f9.toInt64 ≤ ((nI (hd_nf ns)) - (nI 1)).toInt64
  · rw [if_pos g16] at hw3
    subst hw3
    refine rw_i (y := nI 1) rfl ?_
    obtain ⟨j, hj, rfl⟩ := in_0n (Nat.le_trans (nf_le hn) (by decide)) g16
    have hj2 := nf_lt hj
    refine lv_if_ne (tgt := 26) hx hb dMo_level_19 (by decide) (fun c19 => ?_) (fun c19 => ?_)
    · have c19 : ¬ 1 = 0 := fun q9 => c19 (show nI 1 = nI 0 from (nI_eq (a := 1) (b := 0) (by omega) (by omega)).mpr q9)
      refine lv_iconst (v := nI 0) hx hb dMo_level_26 (by decide +kernel) ?_
      refine lv_iconst (v := nI 1) hx hb dMo_level_27 (by decide +kernel) ?_
      refine ct_i (va_runV (As := [.int (nI 0), .int (nI 1)]) (rest := []) ⟨hx, hb, hml, hown, hts⟩ (kMo_fails0 l dC dI k b I1 D _ (nI 1) (by rw [eI1, ui_s])) (cwV 2 hts (gw_V tw_741 tw_743 sl_Mo_fails tw_9 tw_744) rfl rfl rfl (by decide +kernel) ⟨Nat.le_of_ble_eq_true rfl, Nat.le_of_ble_eq_true rfl⟩) ⟨ct_blind (ev := fun _ => True) (fun _ _ _ _ h => h), va_recv hK hP (ci := 8) (q0 := 0) rfl rfl, ct_now (ev := fun _ => True) (fun _ _ _ => trivial) hP hK hD⟩ rfl rfl hl.1 rfl (lv_room (Nat.le_of_ble_eq_true rfl)) dMo_level_28 ⟨Nat.le_of_ble_eq_true rfl, Nat.le_of_ble_eq_true rfl⟩) hD hS hA (fun r4 u4 H locs hw4 hP hD hS => ?_)
      subst hw4
      refine lv_if_ne (tgt := 59) hx hb dMo_level_31 (by decide) (fun c31 => ?_) (fun c31 => ?_)
      · have c31 : ¬ 0 = 0 := fun q9 => c31 (show nI 0 = nI 0 from (nI_eq (a := 0) (b := 0) (by omega) (by omega)).mpr q9)
        exact absurd (by decide) c31
      · have c31 : 0 = 0 := (nI_eq (a := 0) (b := 0) (by omega) (by omega)).mp (show nI 0 = nI 0 from c31)
        refine lv_aload_n hx hb dMo_level_34 rfl (lv_at hl 0 rfl) ?_
        refine lv_iload_n hx hb dMo_level_35 rfl (lv_at hl 2 rfl) ?_
        refine lv_i2l (v := k9.toInt64) hx hb dMo_level_36 rfl ?_
        refine lv_lconst (v := lN 0) hx hb dMo_level_37 (by decide +kernel) ?_
        refine lv_ldc2 (v := 3) hx hb hown (hts _ tw_807) dMo_level_38 ?_
        refine rw_l (y := lN 3) (by decide +kernel) ?_
        refine ct_i (va_runS (As := [.long k9.toInt64, .long (lN 0), .long (lN 3)]) (rest := [.ref (b 0)]) ⟨hx, hb, hml, hown, hts⟩ (kMo_in l dC dI k b I1 D _ k9.toInt64 (lN 0) (lN 3)) (va_cwS 3 hts (gw_S tw_738 tw_739 tw_9 tw_740) rfl rfl rfl (by decide +kernel) ⟨Nat.le_of_ble_eq_true rfl, Nat.le_of_ble_eq_true rfl⟩) ⟨ct_blind (ev := fun _ => True) (fun _ _ _ _ h => h), ct_now (ev := fun _ => True) (fun _ _ _ => trivial) hP hK hD⟩ rfl rfl hl.1 rfl (lv_room (Nat.le_of_ble_eq_true rfl)) dMo_level_41 ⟨Nat.le_of_ble_eq_true rfl, Nat.le_of_ble_eq_true rfl⟩) hD hS hA (fun r5 u5 H locs hw5 hP hD hS => ?_)
        by_cases g41 : lN 0 ≤ k9.toInt64 ∧ k9.toInt64 ≤ lN 3
        · rw [if_pos g41] at hw5
          subst hw5
          refine rw_i (y := nI 1) rfl ?_
          obtain ⟨q, q1, q2, rfl⟩ := in_ab (by decide) (by decide) g41
          refine lv_if_ne (tgt := 51) hx hb dMo_level_44 (by decide) (fun c44 => ?_) (fun c44 => ?_)
          · have c44 : ¬ 1 = 0 := fun q9 => c44 (show nI 1 = nI 0 from (nI_eq (a := 1) (b := 0) (by omega) (by omega)).mpr q9)
            refine lv_iconst (v := nI 0) hx hb dMo_level_51 (by decide +kernel) ?_
            refine lv_iconst (v := nI 2) hx hb dMo_level_52 (by decide +kernel) ?_
            refine ct_i (va_runV (As := [.int (nI 0), .int (nI 2)]) (rest := []) ⟨hx, hb, hml, hown, hts⟩ (kMo_fails0 l dC dI k b I1 D _ (nI 2) (by rw [eI1, ui_s])) (cwV 2 hts (gw_V tw_741 tw_743 sl_Mo_fails tw_9 tw_744) rfl rfl rfl (by decide +kernel) ⟨Nat.le_of_ble_eq_true rfl, Nat.le_of_ble_eq_true rfl⟩) ⟨ct_blind (ev := fun _ => True) (fun _ _ _ _ h => h), va_recv hK hP (ci := 8) (q0 := 0) rfl rfl, ct_now (ev := fun _ => True) (fun _ _ _ => trivial) hP hK hD⟩ rfl rfl hl.1 rfl (lv_room (Nat.le_of_ble_eq_true rfl)) dMo_level_53 ⟨Nat.le_of_ble_eq_true rfl, Nat.le_of_ble_eq_true rfl⟩) hD hS hA (fun r6 u6 H locs hw6 hP hD hS => ?_)
            subst hw6
            refine lv_if_eq (tgt := 63) hx hb dMo_level_56 (by decide) (fun c56 => ?_) (fun c56 => ?_)
            · have c56 : 0 = 0 := (nI_eq (a := 0) (b := 0) (by omega) (by omega)).mp (show nI 0 = nI 0 from c56)
              refine lv_aload_n hx hb dMo_level_63 rfl (lv_at hl 0 rfl) ?_
              refine lv_iload_n hx hb dMo_level_64 rfl (lv_at hl 1 rfl) ?_
              refine lv_iload_n hx hb dMo_level_65 rfl (lv_at hl 2 rfl) ?_
              refine ct_d (va_runV (As := [.int (nI j), .int (nI q)]) (rest := []) ⟨hx, hb, hml, hown, hts⟩ (kMo_levelOf l dC dI k b I1 D _ j q (by omega) (by omega) (fun i hi => hsm _ (by omega)) hc hsn) (cwV 2 hts (gw_V tw_808 tw_810 sl_Mo_levelOf tw_9 tw_811) rfl rfl rfl (by decide +kernel) ⟨Nat.le_of_ble_eq_true rfl, Nat.le_of_ble_eq_true rfl⟩) ⟨ct_blind (ev := fun _ => True) (fun _ _ _ _ h => h), va_recv hK hP (ci := 8) (q0 := 0) rfl rfl, ct_now (ev := fun _ => True) (fun _ _ _ => trivial) hP hK hD⟩ rfl rfl hl.1 rfl (lv_room (Nat.le_of_ble_eq_true rfl)) dMo_level_66 ⟨Nat.le_of_ble_eq_true rfl, Nat.le_of_ble_eq_true rfl⟩) hD hS hA (fun r7 u7 H locs hw7 hP hD hS => ?_)
              subst hw7
              exact ct_rd hx hb hr hlocks I1 (Or.inr ⟨j, hj, rfl, Or.inr ⟨q, q1, q2, rfl, by rw [eI1], rfl⟩⟩) hP hD hS (Nat.le_refl _) (Nat.le_refl _) dMo_level_69
            · have c56 : ¬ 0 = 0 := fun q9 => c56 (show nI 0 = nI 0 from (nI_eq (a := 0) (b := 0) (by omega) (by omega)).mpr q9)
              exact absurd (by decide) c56
          · have c44 : 1 = 0 := (nI_eq (a := 1) (b := 0) (by omega) (by omega)).mp (show nI 1 = nI 0 from c44)
            exact absurd c44 (by decide)
        · rw [if_neg g41] at hw5
          subst hw5
          refine rw_i (y := nI 0) rfl ?_
          refine lv_if_ne (tgt := 51) hx hb dMo_level_44 (by decide) (fun c44 => ?_) (fun c44 => ?_)
          · have c44 : ¬ 0 = 0 := fun q9 => c44 (show nI 0 = nI 0 from (nI_eq (a := 0) (b := 0) (by omega) (by omega)).mpr q9)
            exact absurd (by decide) c44
          · have c44 : 0 = 0 := (nI_eq (a := 0) (b := 0) (by omega) (by omega)).mp (show nI 0 = nI 0 from c44)
            refine lv_iconst (v := nI 1) hx hb dMo_level_47 (by decide +kernel) ?_
            refine lv_goto (tgt := 52) hx hb dMo_level_48 (by decide) ?_
            refine lv_iconst (v := nI 2) hx hb dMo_level_52 (by decide +kernel) ?_
            refine ct_i (va_runV (As := [.int (nI 1), .int (nI 2)]) (rest := []) ⟨hx, hb, hml, hown, hts⟩ (kMo_fails1 l dC dI k b I1 D _ 2 (by omega) (by omega) (by rw [eI1, ui_s])) (cwV 2 hts (gw_V tw_741 tw_743 sl_Mo_fails tw_9 tw_744) rfl rfl rfl (by decide +kernel) ⟨Nat.le_of_ble_eq_true rfl, Nat.le_of_ble_eq_true rfl⟩) ⟨ct_blind (ev := fun _ => True) (fun _ _ _ _ h => h), va_recv hK hP (ci := 8) (q0 := 0) rfl rfl, ct_now (ev := fun _ => True) (fun _ _ _ => trivial) hP hK hD⟩ rfl rfl hl.1 rfl (lv_room (Nat.le_of_ble_eq_true rfl)) dMo_level_53 ⟨Nat.le_of_ble_eq_true rfl, Nat.le_of_ble_eq_true rfl⟩) hD hS hA (fun r8 u8 H locs hw8 hP hD hS => ?_)
            obtain ⟨r8e, eu8⟩ := hw8
            subst r8e
            refine lv_if_eq (tgt := 63) hx hb dMo_level_56 (by decide) (fun c56 => ?_) (fun c56 => ?_)
            · have c56 : 1 = 0 := (nI_eq (a := 1) (b := 0) (by omega) (by omega)).mp (show nI 1 = nI 0 from c56)
              exact absurd c56 (by decide)
            · have c56 : ¬ 1 = 0 := fun q9 => c56 (show nI 1 = nI 0 from (nI_eq (a := 1) (b := 0) (by omega) (by omega)).mpr q9)
              refine lv_dconst0 hx hb dMo_level_59 ?_
              refine rw_d (y := 0) rfl ?_
              refine lv_goto (tgt := 69) hx hb dMo_level_60 (by decide) ?_
              exact ct_rd hx hb hr hlocks u8 (Or.inr ⟨j, hj, rfl, Or.inl ⟨fun q => g41 (in_ba (by decide) (by decide) q), by rw [eu8, eI1]⟩⟩) hP hD hS (Nat.le_refl _) (Nat.le_refl _) dMo_level_69
    · have c19 : 1 = 0 := (nI_eq (a := 1) (b := 0) (by omega) (by omega)).mp (show nI 1 = nI 0 from c19)
      exact absurd c19 (by decide)
  · rw [if_neg g16] at hw3
    subst hw3
    refine rw_i (y := nI 0) rfl ?_
    refine lv_if_ne (tgt := 26) hx hb dMo_level_19 (by decide) (fun c19 => ?_) (fun c19 => ?_)
    · have c19 : ¬ 0 = 0 := fun q9 => c19 (show nI 0 = nI 0 from (nI_eq (a := 0) (b := 0) (by omega) (by omega)).mpr q9)
      exact absurd (by decide) c19
    · have c19 : 0 = 0 := (nI_eq (a := 0) (b := 0) (by omega) (by omega)).mp (show nI 0 = nI 0 from c19)
      refine lv_iconst (v := nI 1) hx hb dMo_level_22 (by decide +kernel) ?_
      refine lv_goto (tgt := 27) hx hb dMo_level_23 (by decide) ?_
      refine lv_iconst (v := nI 1) hx hb dMo_level_27 (by decide +kernel) ?_
      refine ct_i (va_runV (As := [.int (nI 1), .int (nI 1)]) (rest := []) ⟨hx, hb, hml, hown, hts⟩ (kMo_fails1 l dC dI k b I1 D _ 1 (by omega) (by omega) (by rw [eI1, ui_s])) (cwV 2 hts (gw_V tw_741 tw_743 sl_Mo_fails tw_9 tw_744) rfl rfl rfl (by decide +kernel) ⟨Nat.le_of_ble_eq_true rfl, Nat.le_of_ble_eq_true rfl⟩) ⟨ct_blind (ev := fun _ => True) (fun _ _ _ _ h => h), va_recv hK hP (ci := 8) (q0 := 0) rfl rfl, ct_now (ev := fun _ => True) (fun _ _ _ => trivial) hP hK hD⟩ rfl rfl hl.1 rfl (lv_room (Nat.le_of_ble_eq_true rfl)) dMo_level_28 ⟨Nat.le_of_ble_eq_true rfl, Nat.le_of_ble_eq_true rfl⟩) hD hS hA (fun r9 u9 H locs hw9 hP hD hS => ?_)
      obtain ⟨r9e, eu9⟩ := hw9
      subst r9e
      refine lv_if_ne (tgt := 59) hx hb dMo_level_31 (by decide) (fun c31 => ?_) (fun c31 => ?_)
      · have c31 : ¬ 1 = 0 := fun q9 => c31 (show nI 1 = nI 0 from (nI_eq (a := 1) (b := 0) (by omega) (by omega)).mpr q9)
        refine lv_dconst0 hx hb dMo_level_59 ?_
        refine rw_d (y := 0) rfl ?_
        refine lv_goto (tgt := 69) hx hb dMo_level_60 (by decide) ?_
        exact ct_rd hx hb hr hlocks u9 (Or.inl ⟨fun q => g16 (in_n0 (Nat.le_trans (nf_le hn) (by decide)) q), by rw [eu9, eI1]⟩) hP hD hS (Nat.le_refl _) (Nat.le_refl _) dMo_level_69
      · have c31 : 1 = 0 := (nI_eq (a := 1) (b := 0) (by omega) (by omega)).mp (show nI 1 = nI 0 from c31)
        exact absurd c31 (by decide)
end
section
set_option maxHeartbeats 4000000 in
set_option maxRecDepth 100000 in
theorem kMo_wave (l : Launch) (dC : Nat → ClassId) (dI : Nat → Nat → Nat) (k : Nat → ClassId) (b : Nat → Nat) (I : Nat → Nat → Int32) (D : Nat → Nat → UInt64) (sz : Nat) (n st : Int32) (a : UInt64) (ha : fb_ 1055 a) (ns : Nat) (hn : ns ≤ 320) (h3 : I 0 3 = nI ns) (hc : ∀ j, j < 32 → D 7 j = hd_C j) : Met l yMo_wave wMo_wave ({ frames := 1, cells := 0, slots := 0, locals := 25 }) (va_Pc [.ref (b 0), .int n, .int st, .double a] (ct_pre (dC, dI) (mo_ty k) (fun _ => True) (wm k b I D) sz)) (va_Qi (fun r (u : (Nat → Nat → Int32) × (Nat → Nat → UInt64)) => ((¬ ((∃ q, 1 ≤ q ∧ q ≤ 64 ∧ n = nI q) ∧ ∃ sp, 0 ≤ sp ∧ sp ≤ 31 ∧ st = nI sp)) ∧ u = (ui (ui I 0 0 (nI 0)) 0 0 (nI 1), D)) ∨ (∃ q, 1 ≤ q ∧ q ≤ 64 ∧ n = nI q ∧ ∃ sp, 0 ≤ sp ∧ sp ≤ 31 ∧ st = nI sp ∧ ((320 < ns + q ∧ u = (ui (ui I 0 0 (nI 0)) 0 0 (nI 2), D)) ∨ (ns + q ≤ 320 ∧ r = nI (ns + q) ∧ u = (ui (ui I 0 0 (nI 0)) 0 3 (nI (ns + q)), hd_wr D 1 ns sp a q))))) (fun u t => ct_at (dC, dI) (va_A (wm k b I D) sz) ((fun u => wm k b u.1 u.2) u) t) (va_A (wm k b I D) sz)) 0 0 (va_A (wm k b I D) sz) := by
  refine Met.ofW (cc := cMo_wave) (maxL := 6) (ret := (some .int)) (by decide) rfl ?_
  intro p e s m args below meth c s₁ B hml hv
  obtain ⟨rfl, hsz, hP, hK, hD0, hE⟩ := hv
  have hx := B.exec
  have hb := B.bytes
  have hr := B.returns
  have hts : ∀ w ∈ W0, w.before [.ref (b 0), .int n, .int st, .double a].toArray s = true := fun w h => atoms_spec (ws := wMo_wave) B.pre w (List.mem_cons_of_mem _ h)
  have hown : s.vm.findClass RMo = some m.cls := findClass_of_methodNamed B.named
  have hlocks := B.notSynchronized
  subst hsz
  have hD := hD0.self (sz := s.heap.size)
  generalize hAe : va_A (wm k b I D) s.heap.size = A at hD ⊢
  have hA : ∀ q : Nat, s.heap.size ≤ q → A q := fun q h => by rw [← hAe]; exact Or.inr h
  have hS : va_S A s.heap s.heap [] := va_S.rf
  have hl := lv_entry ([.ref (b 0), .int n, .int st, .double a]) (n := 6) (Nat.le_of_ble_eq_true rfl)
  rw [lg_entry_eq]
  generalize (lg_sl ([.ref (b 0), .int n, .int st, .double a]) ++ List.replicate (6 - (lg_sl ([.ref (b 0), .int n, .int st, .double a])).length) Slot.unset).toArray = ls at hl ⊢
  have hl : lv_has ls 6 [(0, .ref (b 0)), (1, .int n), (2, .int st), (3, .double a)] := hl
  refine lp_q (fun Q9 hQ9 => ?_)
  refine lv_aload_n hx hb dMo_wave_0 rfl (lv_at hl 0 rfl) ?_
  refine lv_iconst (v := nI 0) hx hb dMo_wave_1 (by decide +kernel) ?_
  refine va_put (D := (dC, dI)) (ci := 8) (fs := mo_f b I D) (v := .int (nI 0)) (ty := .int) (C := RMo) (T := TMo) (N := 27) hx hb hts inMo tyMo tyMo_ok nmMo hown hK hP hD hS 0 rfl rfl 0 (by decide) (hts _ tw_647) (fun _ h9 => h9) rfl (by decide +kernel) rfl rfl (Nat.le_of_ble_eq_true rfl) dMo_wave_2 (fun H locs hP hD hS => ?_)
  rw [wm_p0] at hP hD
  obtain ⟨I1, eI1⟩ : ∃ z, z = ui I 0 0 (nI 0) := ⟨_, rfl⟩
  rw [← eI1] at hP hD
  refine lv_aload_n hx hb dMo_wave_5 rfl (lv_at hl 0 rfl) ?_
  refine lv_iload_n hx hb dMo_wave_6 rfl (lv_at hl 1 rfl) ?_
  refine lv_i2l (v := n.toInt64) hx hb dMo_wave_7 rfl ?_
  refine lv_lconst (v := lN 1) hx hb dMo_wave_8 (by decide +kernel) ?_
  refine lv_ldc2 (v := 64) hx hb hown (hts _ tw_780) dMo_wave_9 ?_
  refine rw_l (y := lN 64) (by decide +kernel) ?_
  refine ct_i (va_runS (As := [.long n.toInt64, .long (lN 1), .long (lN 64)]) (rest := [.ref (b 0)]) ⟨hx, hb, hml, hown, hts⟩ (kMo_in l dC dI k b I1 D _ n.toInt64 (lN 1) (lN 64)) (va_cwS 3 hts (gw_S tw_738 tw_739 tw_9 tw_740) rfl rfl rfl (by decide +kernel) ⟨Nat.le_of_ble_eq_true rfl, Nat.le_of_ble_eq_true rfl⟩) ⟨ct_blind (ev := fun _ => True) (fun _ _ _ _ h => h), ct_now (ev := fun _ => True) (fun _ _ _ => trivial) hP hK hD⟩ rfl rfl hl.1 rfl (lv_room (Nat.le_of_ble_eq_true rfl)) dMo_wave_12 ⟨Nat.le_of_ble_eq_true rfl, Nat.le_of_ble_eq_true rfl⟩) hD hS hA (fun r2 u2 H locs hw2 hP hD hS => ?_)
  by_cases g12 : lN 1 ≤ n.toInt64 ∧ n.toInt64 ≤ lN 64
  · rw [if_pos g12] at hw2
    subst hw2
    refine rw_i (y := nI 1) rfl ?_
    obtain ⟨q, q1, q2, rfl⟩ := in_ab (by decide) (by decide) g12
    refine lv_if_eq (tgt := 30) hx hb dMo_wave_15 (by decide) (fun c15 => ?_) (fun c15 => ?_)
    · have c15 : 1 = 0 := (nI_eq (a := 1) (b := 0) (by omega) (by omega)).mp (show nI 1 = nI 0 from c15)
      exact absurd c15 (by decide)
    · have c15 : ¬ 1 = 0 := fun q9 => c15 (show nI 1 = nI 0 from (nI_eq (a := 1) (b := 0) (by omega) (by omega)).mpr q9)
      refine lv_iload_n hx hb dMo_wave_18 rfl (lv_at hl 2 rfl) ?_
      refine lv_i2l (v := st.toInt64) hx hb dMo_wave_19 rfl ?_
      refine lv_lconst (v := lN 0) hx hb dMo_wave_20 (by decide +kernel) ?_
      refine lv_ldc2 (v := 31) hx hb hown (hts _ tw_781) dMo_wave_21 ?_
      refine rw_l (y := lN 31) (by decide +kernel) ?_
      refine ct_i (va_runS (As := [.long st.toInt64, .long (lN 0), .long (lN 31)]) (rest := [.ref (b 0)]) ⟨hx, hb, hml, hown, hts⟩ (kMo_in l dC dI k b I1 D _ st.toInt64 (lN 0) (lN 31)) (va_cwS 3 hts (gw_S tw_738 tw_739 tw_9 tw_740) rfl rfl rfl (by decide +kernel) ⟨Nat.le_of_ble_eq_true rfl, Nat.le_of_ble_eq_true rfl⟩) ⟨ct_blind (ev := fun _ => True) (fun _ _ _ _ h => h), ct_now (ev := fun _ => True) (fun _ _ _ => trivial) hP hK hD⟩ rfl rfl hl.1 rfl (lv_room (Nat.le_of_ble_eq_true rfl)) dMo_wave_24 ⟨Nat.le_of_ble_eq_true rfl, Nat.le_of_ble_eq_true rfl⟩) hD hS hA (fun r3 u3 H locs hw3 hP hD hS => ?_)
      by_cases g24 : lN 0 ≤ st.toInt64 ∧ st.toInt64 ≤ lN 31
      · rw [if_pos g24] at hw3
        subst hw3
        refine rw_i (y := nI 1) rfl ?_
        obtain ⟨sp, s1, s2, rfl⟩ := in_ab (by decide) (by decide) g24
        refine lv_if_ne (tgt := 34) hx hb dMo_wave_27 (by decide) (fun c27 => ?_) (fun c27 => ?_)
        · have c27 : ¬ 1 = 0 := fun q9 => c27 (show nI 1 = nI 0 from (nI_eq (a := 1) (b := 0) (by omega) (by omega)).mpr q9)
          refine lv_iconst (v := nI 0) hx hb dMo_wave_34 (by decide +kernel) ?_
          refine lv_iconst (v := nI 1) hx hb dMo_wave_35 (by decide +kernel) ?_
          refine ct_i (va_runV (As := [.int (nI 0), .int (nI 1)]) (rest := []) ⟨hx, hb, hml, hown, hts⟩ (kMo_fails0 l dC dI k b I1 D _ (nI 1) (by rw [eI1, ui_s])) (cwV 2 hts (gw_V tw_741 tw_743 sl_Mo_fails tw_9 tw_744) rfl rfl rfl (by decide +kernel) ⟨Nat.le_of_ble_eq_true rfl, Nat.le_of_ble_eq_true rfl⟩) ⟨ct_blind (ev := fun _ => True) (fun _ _ _ _ h => h), va_recv hK hP (ci := 8) (q0 := 0) rfl rfl, ct_now (ev := fun _ => True) (fun _ _ _ => trivial) hP hK hD⟩ rfl rfl hl.1 rfl (lv_room (Nat.le_of_ble_eq_true rfl)) dMo_wave_36 ⟨Nat.le_of_ble_eq_true rfl, Nat.le_of_ble_eq_true rfl⟩) hD hS hA (fun r4 u4 H locs hw4 hP hD hS => ?_)
          subst hw4
          refine lv_if_ne (tgt := 67) hx hb dMo_wave_39 (by decide) (fun c39 => ?_) (fun c39 => ?_)
          · have c39 : ¬ 0 = 0 := fun q9 => c39 (show nI 0 = nI 0 from (nI_eq (a := 0) (b := 0) (by omega) (by omega)).mpr q9)
            exact absurd (by decide) c39
          · have c39 : 0 = 0 := (nI_eq (a := 0) (b := 0) (by omega) (by omega)).mp (show nI 0 = nI 0 from c39)
            refine lv_aload_n hx hb dMo_wave_42 rfl (lv_at hl 0 rfl) ?_
            refine lv_aload_n hx hb dMo_wave_43 rfl (lv_at hl 0 rfl) ?_
            refine va_get (D := (dC, dI)) (ci := 8) (v := .int (I1 0 3)) (C := RMo) (T := TMo) (N := 27) hx hb hts inMo hown hK hP 0 rfl rfl 3 (by decide) (hts _ tw_650) (fun _ h9 => h9) rfl dMo_wave_44 ?_
            refine rw_i (y := I 0 3) (by rw [eI1, ui_n _ _ _ (by decide)]) ?_
            refine rw_i (y := nI ns) h3 ?_
            refine lv_iload_n hx hb dMo_wave_47 rfl (lv_at hl 1 rfl) ?_
            refine lv_iadd hx hb dMo_wave_48 ?_
            refine rw_i (y := nI (ns + q)) (nI_add _ _) ?_
            refine lv_sipush (v := nI 320) hx hb dMo_wave_49 (by decide +kernel) ?_
            refine lv_icmp_le (tgt := 59) hx hb dMo_wave_52 (by decide) (fun c52 => ?_) (fun c52 => ?_)
            · have c52 : (ns + q) ≤ 320 := (nI_leI (a := (ns + q)) (b := 320) (by omega) (by omega)).mp (show nI (ns + q) ≤ nI 320 from c52)
              refine lv_iconst (v := nI 0) hx hb dMo_wave_59 (by decide +kernel) ?_
              refine lv_iconst (v := nI 2) hx hb dMo_wave_60 (by decide +kernel) ?_
              refine ct_i (va_runV (As := [.int (nI 0), .int (nI 2)]) (rest := []) ⟨hx, hb, hml, hown, hts⟩ (kMo_fails0 l dC dI k b I1 D _ (nI 2) (by rw [eI1, ui_s])) (cwV 2 hts (gw_V tw_741 tw_743 sl_Mo_fails tw_9 tw_744) rfl rfl rfl (by decide +kernel) ⟨Nat.le_of_ble_eq_true rfl, Nat.le_of_ble_eq_true rfl⟩) ⟨ct_blind (ev := fun _ => True) (fun _ _ _ _ h => h), va_recv hK hP (ci := 8) (q0 := 0) rfl rfl, ct_now (ev := fun _ => True) (fun _ _ _ => trivial) hP hK hD⟩ rfl rfl hl.1 rfl (lv_room (Nat.le_of_ble_eq_true rfl)) dMo_wave_61 ⟨Nat.le_of_ble_eq_true rfl, Nat.le_of_ble_eq_true rfl⟩) hD hS hA (fun r5 u5 H locs hw5 hP hD hS => ?_)
              subst hw5
              refine lv_if_eq (tgt := 69) hx hb dMo_wave_64 (by decide) (fun c64 => ?_) (fun c64 => ?_)
              · have c64 : 0 = 0 := (nI_eq (a := 0) (b := 0) (by omega) (by omega)).mp (show nI 0 = nI 0 from c64)
                refine lv_iconst (v := nI 0) hx hb dMo_wave_69 (by decide +kernel) ?_
                refine lv_istore (lv' := [(5, .int (nI 0)), (0, .ref (b 0)), (1, .int (nI q)), (2, .int (nI sp)), (3, .double a)]) hx hb dMo_wave_70 hl (by decide) rfl (fun ls hl => ?_)
                have L72 : ∀ (n72 : Nat) (j : Nat), q - j < n72 → j ≤ q → ∀ (H : Heap) (locs : List Loc), va_P (dC, dI) vwCl (wm k b I1 (hd_wr D 1 ns sp a j)) H → va_D A (wm k b I1 (hd_wr D 1 ns sp a j)) → va_S A s.heap H locs → ∀ ls : Array Slot, lv_has ls 6 [(0, .ref (b 0)), (1, .int (nI q)), (2, .int (nI sp)), (3, .double a), (5, .int (nI j))] → W p l e (headSpec wMo_wave ({ frames := 1, cells := 0, slots := 0, locals := 25 })).room s m [.ref (b 0), .int (nI q), .int (nI sp), .double a].toArray below meth c H locs 0 0 Q9 (F0 m 72 ls []) := by
                  intro n72
                  induction n72 with
                  | zero => intro j hm; exact absurd hm (Nat.not_lt_zero _)
                  | succ n72 ih72 =>
                    intro j hm72 hj H locs hP hD hS ls hl
                    refine lv_iload hx hb dMo_wave_72 (lv_at hl 4 rfl) ?_
                    refine lv_iload_n hx hb dMo_wave_74 rfl (lv_at hl 1 rfl) ?_
                    refine lv_icmp_ge (tgt := 110) hx hb dMo_wave_75 (by decide) (fun c75 => ?_) (fun c75 => ?_)
                    · have c75 : q ≤ j := (nI_leI (a := q) (b := j) (by omega) (by omega)).mp (show nI q ≤ nI j from c75)
                      obtain rfl : j = q := by omega
                      refine lv_aload_n hx hb dMo_wave_110 rfl (lv_at hl 0 rfl) ?_
                      refine lv_dup hx hb dMo_wave_111 rfl ?_
                      refine va_get (D := (dC, dI)) (ci := 8) (v := .int (I1 0 3)) (C := RMo) (T := TMo) (N := 27) hx hb hts inMo hown hK hP 0 rfl rfl 3 (by decide) (hts _ tw_650) (fun _ h9 => h9) rfl dMo_wave_112 ?_
                      refine rw_i (y := I 0 3) (by rw [eI1, ui_n _ _ _ (by decide)]) ?_
                      refine rw_i (y := nI ns) h3 ?_
                      refine lv_iload_n hx hb dMo_wave_115 rfl (lv_at hl 1 rfl) ?_
                      refine lv_iadd hx hb dMo_wave_116 ?_
                      refine rw_i (y := nI (ns + j)) (nI_add _ _) ?_
                      refine va_put (D := (dC, dI)) (ci := 8) (fs := mo_f b I1 (hd_wr D 1 ns sp a j)) (v := .int (nI (ns + j))) (ty := .int) (C := RMo) (T := TMo) (N := 27) hx hb hts inMo tyMo tyMo_ok nmMo hown hK hP hD hS 0 rfl rfl 3 (by decide) (hts _ tw_650) (fun _ h9 => h9) rfl (by decide +kernel) rfl rfl (Nat.le_of_ble_eq_true rfl) dMo_wave_117 (fun H locs hP hD hS => ?_)
                      rw [wm_p3] at hP hD
                      obtain ⟨I6, eI6⟩ : ∃ z, z = ui I1 0 3 (nI (ns + j)) := ⟨_, rfl⟩
                      rw [← eI6] at hP hD
                      refine lv_aload_n hx hb dMo_wave_120 rfl (lv_at hl 0 rfl) ?_
                      refine va_get (D := (dC, dI)) (ci := 8) (v := .int (I6 0 3)) (C := RMo) (T := TMo) (N := 27) hx hb hts inMo hown hK hP 0 rfl rfl 3 (by decide) (hts _ tw_650) (fun _ h9 => h9) rfl dMo_wave_121 ?_
                      refine rw_i (y := nI (ns + j)) (by rw [eI6, ui_s]) ?_
                      rw [hQ9]
                      exact ct_ri hx hb hr hlocks (I6, (hd_wr D 1 ns sp a j)) (Or.inr ⟨j, q1, q2, rfl, sp, s1, s2, rfl, Or.inr ⟨by omega, rfl, by rw [eI6, eI1]⟩⟩) hP hD hS (Nat.le_refl _) (Nat.le_refl _) dMo_wave_124
                    · have c75 : ¬ q ≤ j := fun q9 => c75 (show nI q ≤ nI j from (nI_leI (a := q) (b := j) (by omega) (by omega)).mpr q9)
                      refine lv_aload_n hx hb dMo_wave_78 rfl (lv_at hl 0 rfl) ?_
                      refine va_get (D := (dC, dI)) (ci := 8) (v := .ref (b 8)) (C := RMo) (T := TMo) (N := 27) hx hb hts inMo hown hK hP 0 rfl rfl 19 (by decide) (hts _ tw_666) (fun _ h9 => h9) rfl dMo_wave_79 ?_
                      refine lv_aload_n hx hb dMo_wave_82 rfl (lv_at hl 0 rfl) ?_
                      refine va_get (D := (dC, dI)) (ci := 8) (v := .int (I1 0 3)) (C := RMo) (T := TMo) (N := 27) hx hb hts inMo hown hK hP 0 rfl rfl 3 (by decide) (hts _ tw_650) (fun _ h9 => h9) rfl dMo_wave_83 ?_
                      refine rw_i (y := I 0 3) (by rw [eI1, ui_n _ _ _ (by decide)]) ?_
                      refine rw_i (y := nI ns) h3 ?_
                      refine lv_iload hx hb dMo_wave_86 (lv_at hl 4 rfl) ?_
                      refine lv_iadd hx hb dMo_wave_88 ?_
                      refine rw_i (y := nI (ns + j)) (nI_add _ _) ?_
                      refine lv_dload_n hx hb dMo_wave_89 rfl (lv_at hl 3 rfl) ?_
                      refine lv_aload_n hx hb dMo_wave_90 rfl (lv_at hl 0 rfl) ?_
                      refine va_get (D := (dC, dI)) (ci := 8) (v := .ref (b 14)) (C := RMo) (T := TMo) (N := 27) hx hb hts inMo hown hK hP 0 rfl rfl 25 (by decide) (hts _ tw_672) (fun _ h9 => h9) rfl dMo_wave_91 ?_
                      refine lv_iload hx hb dMo_wave_94 (lv_at hl 4 rfl) ?_
                      refine lv_iload_n hx hb dMo_wave_96 rfl (lv_at hl 2 rfl) ?_
                      refine lv_imul hx hb dMo_wave_97 ?_
                      refine rw_i (y := nI (j * sp)) (pk_mul _ _) ?_
                      refine lv_bipush (v := nI 32) hx hb dMo_wave_98 (by decide +kernel) ?_
                      have hjs : j * sp ≤ 64 * 31 := Nat.mul_le_mul (by omega) s2
                      refine lv_irem hx hb dMo_wave_100 (by decide +kernel) ?_
                      refine rw_i (y := nI ((j * sp) % 32)) (pk_rem (by omega) (by omega) (by omega)) ?_
                      refine rw_ald_d hx hb hK hP 14 1 rfl rfl (Nat.mod_lt _ (by decide)) (by decide) dMo_wave_101 ?_
                      refine rw_d (y := hd_C ((j * sp) % 32)) (by rw [hd_wr_o _ _ _ _ _ (by decide)]; exact hc _ (Nat.mod_lt _ (by decide))) ?_
                      refine lv_dmul hx hb dMo_wave_102 (fb_n (fb_mul ha (hd_C_b _ (Nat.mod_lt _ (by decide))) (by decide) (by decide)) (by decide)) ?_
                      refine rw_ast_d hx hb hK hP hD hS 8 1 rfl rfl (by omega) (by decide) dMo_wave_103 (fun H locs hP hD hS => ?_)
                      rw [wm_a8] at hP hD
                      obtain ⟨D7, eD7⟩ : ∃ z, z = ud (hd_wr D 1 ns sp a j) 1 (ns + j) (FP.dmul a (hd_C ((j * sp) % 32))) := ⟨_, rfl⟩
                      rw [← eD7] at hP hD
                      refine lv_iinc (v := nI (j + 1)) (lv' := [(5, .int (nI (j + 1))), (0, .ref (b 0)), (1, .int (nI q)), (2, .int (nI sp)), (3, .double a)]) hx hb dMo_wave_104 hl (k := 4) rfl (nI_1 _) (by decide) rfl (fun ls hl => ?_)
                      refine lv_goto (tgt := 72) hx hb dMo_wave_107 (by decide) ?_
                      rw [eD7] at hP hD
                      exact ih72 (j + 1) (by omega) (by omega) _ _ hP hD hS ls (lv_sub hl [1, 2, 3, 4, 0] rfl)
                exact L72 _ 0 (Nat.lt_succ_self _) (by omega) _ _ hP hD hS ls (lv_sub hl [1, 2, 3, 4, 0] rfl)
              · have c64 : ¬ 0 = 0 := fun q9 => c64 (show nI 0 = nI 0 from (nI_eq (a := 0) (b := 0) (by omega) (by omega)).mpr q9)
                exact absurd (by decide) c64
            · have c52 : ¬ (ns + q) ≤ 320 := fun q9 => c52 (show nI (ns + q) ≤ nI 320 from (nI_leI (a := (ns + q)) (b := 320) (by omega) (by omega)).mpr q9)
              refine lv_iconst (v := nI 1) hx hb dMo_wave_55 (by decide +kernel) ?_
              refine lv_goto (tgt := 60) hx hb dMo_wave_56 (by decide) ?_
              refine lv_iconst (v := nI 2) hx hb dMo_wave_60 (by decide +kernel) ?_
              refine ct_i (va_runV (As := [.int (nI 1), .int (nI 2)]) (rest := []) ⟨hx, hb, hml, hown, hts⟩ (kMo_fails1 l dC dI k b I1 D _ 2 (by omega) (by omega) (by rw [eI1, ui_s])) (cwV 2 hts (gw_V tw_741 tw_743 sl_Mo_fails tw_9 tw_744) rfl rfl rfl (by decide +kernel) ⟨Nat.le_of_ble_eq_true rfl, Nat.le_of_ble_eq_true rfl⟩) ⟨ct_blind (ev := fun _ => True) (fun _ _ _ _ h => h), va_recv hK hP (ci := 8) (q0 := 0) rfl rfl, ct_now (ev := fun _ => True) (fun _ _ _ => trivial) hP hK hD⟩ rfl rfl hl.1 rfl (lv_room (Nat.le_of_ble_eq_true rfl)) dMo_wave_61 ⟨Nat.le_of_ble_eq_true rfl, Nat.le_of_ble_eq_true rfl⟩) hD hS hA (fun r8 u8 H locs hw8 hP hD hS => ?_)
              obtain ⟨r8e, eu8⟩ := hw8
              subst r8e
              refine lv_if_eq (tgt := 69) hx hb dMo_wave_64 (by decide) (fun c64 => ?_) (fun c64 => ?_)
              · have c64 : 1 = 0 := (nI_eq (a := 1) (b := 0) (by omega) (by omega)).mp (show nI 1 = nI 0 from c64)
                exact absurd c64 (by decide)
              · have c64 : ¬ 1 = 0 := fun q9 => c64 (show nI 1 = nI 0 from (nI_eq (a := 1) (b := 0) (by omega) (by omega)).mpr q9)
                refine lv_iconst (v := nI 0) hx hb dMo_wave_67 (by decide +kernel) ?_
                rw [hQ9]
                exact ct_ri hx hb hr hlocks (u8, D) (Or.inr ⟨q, q1, q2, rfl, sp, s1, s2, rfl, Or.inl ⟨by omega, by rw [eu8, eI1]⟩⟩) hP hD hS (Nat.le_refl _) (Nat.le_refl _) dMo_wave_68
        · have c27 : 1 = 0 := (nI_eq (a := 1) (b := 0) (by omega) (by omega)).mp (show nI 1 = nI 0 from c27)
          exact absurd c27 (by decide)
      · rw [if_neg g24] at hw3
        subst hw3
        refine rw_i (y := nI 0) rfl ?_
        refine lv_if_ne (tgt := 34) hx hb dMo_wave_27 (by decide) (fun c27 => ?_) (fun c27 => ?_)
        · have c27 : ¬ 0 = 0 := fun q9 => c27 (show nI 0 = nI 0 from (nI_eq (a := 0) (b := 0) (by omega) (by omega)).mpr q9)
          exact absurd (by decide) c27
        · have c27 : 0 = 0 := (nI_eq (a := 0) (b := 0) (by omega) (by omega)).mp (show nI 0 = nI 0 from c27)
          refine lv_iconst (v := nI 1) hx hb dMo_wave_30 (by decide +kernel) ?_
          refine lv_goto (tgt := 35) hx hb dMo_wave_31 (by decide) ?_
          refine lv_iconst (v := nI 1) hx hb dMo_wave_35 (by decide +kernel) ?_
          refine ct_i (va_runV (As := [.int (nI 1), .int (nI 1)]) (rest := []) ⟨hx, hb, hml, hown, hts⟩ (kMo_fails1 l dC dI k b I1 D _ 1 (by omega) (by omega) (by rw [eI1, ui_s])) (cwV 2 hts (gw_V tw_741 tw_743 sl_Mo_fails tw_9 tw_744) rfl rfl rfl (by decide +kernel) ⟨Nat.le_of_ble_eq_true rfl, Nat.le_of_ble_eq_true rfl⟩) ⟨ct_blind (ev := fun _ => True) (fun _ _ _ _ h => h), va_recv hK hP (ci := 8) (q0 := 0) rfl rfl, ct_now (ev := fun _ => True) (fun _ _ _ => trivial) hP hK hD⟩ rfl rfl hl.1 rfl (lv_room (Nat.le_of_ble_eq_true rfl)) dMo_wave_36 ⟨Nat.le_of_ble_eq_true rfl, Nat.le_of_ble_eq_true rfl⟩) hD hS hA (fun r9 u9 H locs hw9 hP hD hS => ?_)
          obtain ⟨r9e, eu9⟩ := hw9
          subst r9e
          refine lv_if_ne (tgt := 67) hx hb dMo_wave_39 (by decide) (fun c39 => ?_) (fun c39 => ?_)
          · have c39 : ¬ 1 = 0 := fun q9 => c39 (show nI 1 = nI 0 from (nI_eq (a := 1) (b := 0) (by omega) (by omega)).mpr q9)
            refine lv_iconst (v := nI 0) hx hb dMo_wave_67 (by decide +kernel) ?_
            rw [hQ9]
            exact ct_ri hx hb hr hlocks (u9, D) (Or.inl ⟨by first | (exact fun z => g12 (in_ba (by decide) (by decide) z.1)) | (exact fun z => g24 (in_ba (by decide) (by decide) z.2)), by rw [eu9, eI1]⟩) hP hD hS (Nat.le_refl _) (Nat.le_refl _) dMo_wave_68
          · have c39 : 1 = 0 := (nI_eq (a := 1) (b := 0) (by omega) (by omega)).mp (show nI 1 = nI 0 from c39)
            exact absurd c39 (by decide)
  · rw [if_neg g12] at hw2
    subst hw2
    refine rw_i (y := nI 0) rfl ?_
    refine lv_if_eq (tgt := 30) hx hb dMo_wave_15 (by decide) (fun c15 => ?_) (fun c15 => ?_)
    · have c15 : 0 = 0 := (nI_eq (a := 0) (b := 0) (by omega) (by omega)).mp (show nI 0 = nI 0 from c15)
      refine lv_iconst (v := nI 1) hx hb dMo_wave_30 (by decide +kernel) ?_
      refine lv_goto (tgt := 35) hx hb dMo_wave_31 (by decide) ?_
      refine lv_iconst (v := nI 1) hx hb dMo_wave_35 (by decide +kernel) ?_
      refine ct_i (va_runV (As := [.int (nI 1), .int (nI 1)]) (rest := []) ⟨hx, hb, hml, hown, hts⟩ (kMo_fails1 l dC dI k b I1 D _ 1 (by omega) (by omega) (by rw [eI1, ui_s])) (cwV 2 hts (gw_V tw_741 tw_743 sl_Mo_fails tw_9 tw_744) rfl rfl rfl (by decide +kernel) ⟨Nat.le_of_ble_eq_true rfl, Nat.le_of_ble_eq_true rfl⟩) ⟨ct_blind (ev := fun _ => True) (fun _ _ _ _ h => h), va_recv hK hP (ci := 8) (q0 := 0) rfl rfl, ct_now (ev := fun _ => True) (fun _ _ _ => trivial) hP hK hD⟩ rfl rfl hl.1 rfl (lv_room (Nat.le_of_ble_eq_true rfl)) dMo_wave_36 ⟨Nat.le_of_ble_eq_true rfl, Nat.le_of_ble_eq_true rfl⟩) hD hS hA (fun r10 u10 H locs hw10 hP hD hS => ?_)
      obtain ⟨r10e, eu10⟩ := hw10
      subst r10e
      refine lv_if_ne (tgt := 67) hx hb dMo_wave_39 (by decide) (fun c39 => ?_) (fun c39 => ?_)
      · have c39 : ¬ 1 = 0 := fun q9 => c39 (show nI 1 = nI 0 from (nI_eq (a := 1) (b := 0) (by omega) (by omega)).mpr q9)
        refine lv_iconst (v := nI 0) hx hb dMo_wave_67 (by decide +kernel) ?_
        rw [hQ9]
        exact ct_ri hx hb hr hlocks (u10, D) (Or.inl ⟨by first | (exact fun z => g12 (in_ba (by decide) (by decide) z.1)) | (exact fun z => g24 (in_ba (by decide) (by decide) z.2)), by rw [eu10, eI1]⟩) hP hD hS (Nat.le_refl _) (Nat.le_refl _) dMo_wave_68
      · have c39 : 1 = 0 := (nI_eq (a := 1) (b := 0) (by omega) (by omega)).mp (show nI 1 = nI 0 from c39)
        exact absurd c39 (by decide)
    · have c15 : ¬ 0 = 0 := fun q9 => c15 (show nI 0 = nI 0 from (nI_eq (a := 0) (b := 0) (by omega) (by omega)).mpr q9)
      exact absurd (by decide) c15
set_option maxHeartbeats 4000000 in
set_option maxRecDepth 100000 in
theorem kMo_ways (l : Launch) (dC : Nat → ClassId) (dI : Nat → Nat → Nat) (k : Nat → ClassId) (b : Nat → Nat) (I : Nat → Nat → Int32) (D : Nat → Nat → UInt64) (sz : Nat) (th lm : UInt64) (gp : Int32) : Met l yMo_ways wMo_ways ({ frames := 1, cells := 0, slots := 0, locals := 25 }) (va_Pc [.ref (b 0), .double th, .int gp, .double lm] (ct_pre (dC, dI) (mo_ty k) (fun _ => True) (wm k b I D) sz)) (va_Qv (fun (u : (Nat → Nat → Int32) × (Nat → Nat → UInt64)) => (¬ (FP.dcmp th 0 = some .gt ∧ (∃ g, 1 ≤ g ∧ g ≤ 4 ∧ gp = nI g) ∧ ¬ FP.dcmp lm 0 = some .lt) ∧ u = (ui (ui I 0 0 (nI 0)) 0 0 (nI 1), D)) ∨ (FP.dcmp th 0 = some .gt ∧ ¬ FP.dcmp lm 0 = some .lt ∧ ∃ g, 1 ≤ g ∧ g ≤ 4 ∧ gp = nI g ∧ u = (ui (ui I 0 0 (nI 0)) 0 7 (nI g), ud (ud D 0 0 th) 0 1 lm))) (fun u t => ct_at (dC, dI) (va_A (wm k b I D) sz) ((fun u => wm k b u.1 u.2) u) t) (va_A (wm k b I D) sz)) 0 0 (va_A (wm k b I D) sz) := by
  refine Met.ofW (cc := cMo_ways) (maxL := 6) (ret := none) (by decide) rfl ?_
  intro p e s m args below meth c s₁ B hml hv
  obtain ⟨rfl, hsz, hP, hK, hD0, hE⟩ := hv
  have hx := B.exec
  have hb := B.bytes
  have hr := B.returns
  have hts : ∀ w ∈ W0, w.before [.ref (b 0), .double th, .int gp, .double lm].toArray s = true := fun w h => atoms_spec (ws := wMo_ways) B.pre w (List.mem_cons_of_mem _ h)
  have hown : s.vm.findClass RMo = some m.cls := findClass_of_methodNamed B.named
  have hlocks := B.notSynchronized
  subst hsz
  have hD := hD0.self (sz := s.heap.size)
  generalize hAe : va_A (wm k b I D) s.heap.size = A at hD ⊢
  have hA : ∀ q : Nat, s.heap.size ≤ q → A q := fun q h => by rw [← hAe]; exact Or.inr h
  have hS : va_S A s.heap s.heap [] := va_S.rf
  have hl := lv_entry ([.ref (b 0), .double th, .int gp, .double lm]) (n := 6) (Nat.le_of_ble_eq_true rfl)
  rw [lg_entry_eq]
  generalize (lg_sl ([.ref (b 0), .double th, .int gp, .double lm]) ++ List.replicate (6 - (lg_sl ([.ref (b 0), .double th, .int gp, .double lm])).length) Slot.unset).toArray = ls at hl ⊢
  have hl : lv_has ls 6 [(0, .ref (b 0)), (1, .double th), (3, .int gp), (4, .double lm)] := hl
  refine lv_aload_n hx hb dMo_ways_0 rfl (lv_at hl 0 rfl) ?_
  refine lv_iconst (v := nI 0) hx hb dMo_ways_1 (by decide +kernel) ?_
  refine va_put (D := (dC, dI)) (ci := 8) (fs := mo_f b I D) (v := .int (nI 0)) (ty := .int) (C := RMo) (T := TMo) (N := 27) hx hb hts inMo tyMo tyMo_ok nmMo hown hK hP hD hS 0 rfl rfl 0 (by decide) (hts _ tw_647) (fun _ h9 => h9) rfl (by decide +kernel) rfl rfl (Nat.le_of_ble_eq_true rfl) dMo_ways_2 (fun H locs hP hD hS => ?_)
  rw [wm_p0] at hP hD
  obtain ⟨I1, eI1⟩ : ∃ z, z = ui I 0 0 (nI 0) := ⟨_, rfl⟩
  rw [← eI1] at hP hD
  refine lv_aload_n hx hb dMo_ways_5 rfl (lv_at hl 0 rfl) ?_
  refine lv_dload_n hx hb dMo_ways_6 rfl (lv_at hl 1 rfl) ?_
  refine lv_dconst0 hx hb dMo_ways_7 ?_
  refine rw_d (y := 0) rfl ?_
  refine lv_dcmp hx hb dMo_ways_8 ?_
  refine lv_if_le (tgt := 31) hx hb dMo_ways_9 (by decide) (fun c9 => ?_) (fun c9 => ?_)
  · refine lv_iconst (v := nI 1) hx hb dMo_ways_31 (by decide +kernel) ?_
    refine lv_goto (tgt := 36) hx hb dMo_ways_32 (by decide) ?_
    refine lv_iconst (v := nI 1) hx hb dMo_ways_36 (by decide +kernel) ?_
    refine ct_i (va_runV (As := [.int (nI 1), .int (nI 1)]) (rest := []) ⟨hx, hb, hml, hown, hts⟩ (kMo_fails1 l dC dI k b I1 D _ 1 (by omega) (by omega) (by rw [eI1, ui_s])) (cwV 2 hts (gw_V tw_741 tw_743 sl_Mo_fails tw_9 tw_744) rfl rfl rfl (by decide +kernel) ⟨Nat.le_of_ble_eq_true rfl, Nat.le_of_ble_eq_true rfl⟩) ⟨ct_blind (ev := fun _ => True) (fun _ _ _ _ h => h), va_recv hK hP (ci := 8) (q0 := 0) rfl rfl, ct_now (ev := fun _ => True) (fun _ _ _ => trivial) hP hK hD⟩ rfl rfl hl.1 rfl (lv_room (Nat.le_of_ble_eq_true rfl)) dMo_ways_37 ⟨Nat.le_of_ble_eq_true rfl, Nat.le_of_ble_eq_true rfl⟩) hD hS hA (fun r2 u2 H locs hw2 hP hD hS => ?_)
    obtain ⟨r2e, eu2⟩ := hw2
    subst r2e
    refine lv_if_eq (tgt := 44) hx hb dMo_ways_40 (by decide) (fun c40 => ?_) (fun c40 => ?_)
    · have c40 : 1 = 0 := (nI_eq (a := 1) (b := 0) (by omega) (by omega)).mp (show nI 1 = nI 0 from c40)
      exact absurd c40 (by decide)
    · have c40 : ¬ 1 = 0 := fun q9 => c40 (show nI 1 = nI 0 from (nI_eq (a := 1) (b := 0) (by omega) (by omega)).mpr q9)
      exact ct_rv hx hb hr hlocks (u2, D) (Or.inl ⟨by first | (exact fun z => (fc_le_l _).mp c9 z.1) | (exact fun z => g18 (in_ba (by decide) (by decide) z.2.1)) | (exact fun z => z.2.2 ((fc_lt_g _).mp (Int32.not_le.mp c28))), by rw [eu2, eI1]⟩) hP hD hS (Nat.le_refl _) (Nat.le_refl _) dMo_ways_43
  · refine lv_iload_n hx hb dMo_ways_12 rfl (lv_at hl 2 rfl) ?_
    refine lv_i2l (v := gp.toInt64) hx hb dMo_ways_13 rfl ?_
    refine lv_lconst (v := lN 1) hx hb dMo_ways_14 (by decide +kernel) ?_
    refine lv_ldc2 (v := 4) hx hb hown (hts _ tw_827) dMo_ways_15 ?_
    refine rw_l (y := lN 4) (by decide +kernel) ?_
    refine ct_i (va_runS (As := [.long gp.toInt64, .long (lN 1), .long (lN 4)]) (rest := [.ref (b 0)]) ⟨hx, hb, hml, hown, hts⟩ (kMo_in l dC dI k b I1 D _ gp.toInt64 (lN 1) (lN 4)) (va_cwS 3 hts (gw_S tw_738 tw_739 tw_9 tw_740) rfl rfl rfl (by decide +kernel) ⟨Nat.le_of_ble_eq_true rfl, Nat.le_of_ble_eq_true rfl⟩) ⟨ct_blind (ev := fun _ => True) (fun _ _ _ _ h => h), ct_now (ev := fun _ => True) (fun _ _ _ => trivial) hP hK hD⟩ rfl rfl hl.1 rfl (lv_room (Nat.le_of_ble_eq_true rfl)) dMo_ways_18 ⟨Nat.le_of_ble_eq_true rfl, Nat.le_of_ble_eq_true rfl⟩) hD hS hA (fun r3 u3 H locs hw3 hP hD hS => ?_)
    by_cases g18 : lN 1 ≤ gp.toInt64 ∧ gp.toInt64 ≤ lN 4
    · rw [if_pos g18] at hw3
      subst hw3
      refine rw_i (y := nI 1) rfl ?_
      obtain ⟨g, g1, g2, rfl⟩ := in_ab (by decide) (by decide) g18
      refine lv_if_eq (tgt := 31) hx hb dMo_ways_21 (by decide) (fun c21 => ?_) (fun c21 => ?_)
      · have c21 : 1 = 0 := (nI_eq (a := 1) (b := 0) (by omega) (by omega)).mp (show nI 1 = nI 0 from c21)
        exact absurd c21 (by decide)
      · have c21 : ¬ 1 = 0 := fun q9 => c21 (show nI 1 = nI 0 from (nI_eq (a := 1) (b := 0) (by omega) (by omega)).mpr q9)
        refine lv_dload hx hb dMo_ways_24 (lv_at hl 3 rfl) ?_
        refine lv_dconst0 hx hb dMo_ways_26 ?_
        refine rw_d (y := 0) rfl ?_
        refine lv_dcmp hx hb dMo_ways_27 ?_
        refine lv_if_ge (tgt := 35) hx hb dMo_ways_28 (by decide) (fun c28 => ?_) (fun c28 => ?_)
        · refine lv_iconst (v := nI 0) hx hb dMo_ways_35 (by decide +kernel) ?_
          refine lv_iconst (v := nI 1) hx hb dMo_ways_36 (by decide +kernel) ?_
          refine ct_i (va_runV (As := [.int (nI 0), .int (nI 1)]) (rest := []) ⟨hx, hb, hml, hown, hts⟩ (kMo_fails0 l dC dI k b I1 D _ (nI 1) (by rw [eI1, ui_s])) (cwV 2 hts (gw_V tw_741 tw_743 sl_Mo_fails tw_9 tw_744) rfl rfl rfl (by decide +kernel) ⟨Nat.le_of_ble_eq_true rfl, Nat.le_of_ble_eq_true rfl⟩) ⟨ct_blind (ev := fun _ => True) (fun _ _ _ _ h => h), va_recv hK hP (ci := 8) (q0 := 0) rfl rfl, ct_now (ev := fun _ => True) (fun _ _ _ => trivial) hP hK hD⟩ rfl rfl hl.1 rfl (lv_room (Nat.le_of_ble_eq_true rfl)) dMo_ways_37 ⟨Nat.le_of_ble_eq_true rfl, Nat.le_of_ble_eq_true rfl⟩) hD hS hA (fun r4 u4 H locs hw4 hP hD hS => ?_)
          subst hw4
          refine lv_if_eq (tgt := 44) hx hb dMo_ways_40 (by decide) (fun c40 => ?_) (fun c40 => ?_)
          · have c40 : 0 = 0 := (nI_eq (a := 0) (b := 0) (by omega) (by omega)).mp (show nI 0 = nI 0 from c40)
            refine lv_aload_n hx hb dMo_ways_44 rfl (lv_at hl 0 rfl) ?_
            refine lv_dload_n hx hb dMo_ways_45 rfl (lv_at hl 1 rfl) ?_
            refine va_put (D := (dC, dI)) (ci := 8) (fs := mo_f b I1 D) (v := .double th) (ty := .double) (C := RMo) (T := TMo) (N := 27) hx hb hts inMo tyMo tyMo_ok nmMo hown hK hP hD hS 0 rfl rfl 10 (by decide) (hts _ tw_657) (fun _ h9 => h9) rfl (by decide +kernel) rfl rfl (Nat.le_of_ble_eq_true rfl) dMo_ways_46 (fun H locs hP hD hS => ?_)
            rw [wm_p10] at hP hD
            obtain ⟨D5, eD5⟩ : ∃ z, z = ud D 0 0 th := ⟨_, rfl⟩
            rw [← eD5] at hP hD
            refine lv_aload_n hx hb dMo_ways_49 rfl (lv_at hl 0 rfl) ?_
            refine lv_iload_n hx hb dMo_ways_50 rfl (lv_at hl 2 rfl) ?_
            refine va_put (D := (dC, dI)) (ci := 8) (fs := mo_f b I1 D5) (v := .int (nI g)) (ty := .int) (C := RMo) (T := TMo) (N := 27) hx hb hts inMo tyMo tyMo_ok nmMo hown hK hP hD hS 0 rfl rfl 7 (by decide) (hts _ tw_654) (fun _ h9 => h9) rfl (by decide +kernel) rfl rfl (Nat.le_of_ble_eq_true rfl) dMo_ways_51 (fun H locs hP hD hS => ?_)
            rw [wm_p7] at hP hD
            obtain ⟨I6, eI6⟩ : ∃ z, z = ui I1 0 7 (nI g) := ⟨_, rfl⟩
            rw [← eI6] at hP hD
            refine lv_aload_n hx hb dMo_ways_54 rfl (lv_at hl 0 rfl) ?_
            refine lv_dload hx hb dMo_ways_55 (lv_at hl 3 rfl) ?_
            refine va_put (D := (dC, dI)) (ci := 8) (fs := mo_f b I6 D5) (v := .double lm) (ty := .double) (C := RMo) (T := TMo) (N := 27) hx hb hts inMo tyMo tyMo_ok nmMo hown hK hP hD hS 0 rfl rfl 11 (by decide) (hts _ tw_658) (fun _ h9 => h9) rfl (by decide +kernel) rfl rfl (Nat.le_of_ble_eq_true rfl) dMo_ways_57 (fun H locs hP hD hS => ?_)
            rw [wm_p11] at hP hD
            obtain ⟨D7, eD7⟩ : ∃ z, z = ud D5 0 1 lm := ⟨_, rfl⟩
            rw [← eD7] at hP hD
            exact ct_rv hx hb hr hlocks (I6, D7) (Or.inr ⟨(fc_gt_l _).mp (Int32.not_le.mp c9), (fc_ge_g _).mp c28, g, g1, g2, rfl, by rw [eI6, eI1, eD7, eD5]⟩) hP hD hS (Nat.le_refl _) (Nat.le_refl _) dMo_ways_60
          · have c40 : ¬ 0 = 0 := fun q9 => c40 (show nI 0 = nI 0 from (nI_eq (a := 0) (b := 0) (by omega) (by omega)).mpr q9)
            exact absurd (by decide) c40
        · refine lv_iconst (v := nI 1) hx hb dMo_ways_31 (by decide +kernel) ?_
          refine lv_goto (tgt := 36) hx hb dMo_ways_32 (by decide) ?_
          refine lv_iconst (v := nI 1) hx hb dMo_ways_36 (by decide +kernel) ?_
          refine ct_i (va_runV (As := [.int (nI 1), .int (nI 1)]) (rest := []) ⟨hx, hb, hml, hown, hts⟩ (kMo_fails1 l dC dI k b I1 D _ 1 (by omega) (by omega) (by rw [eI1, ui_s])) (cwV 2 hts (gw_V tw_741 tw_743 sl_Mo_fails tw_9 tw_744) rfl rfl rfl (by decide +kernel) ⟨Nat.le_of_ble_eq_true rfl, Nat.le_of_ble_eq_true rfl⟩) ⟨ct_blind (ev := fun _ => True) (fun _ _ _ _ h => h), va_recv hK hP (ci := 8) (q0 := 0) rfl rfl, ct_now (ev := fun _ => True) (fun _ _ _ => trivial) hP hK hD⟩ rfl rfl hl.1 rfl (lv_room (Nat.le_of_ble_eq_true rfl)) dMo_ways_37 ⟨Nat.le_of_ble_eq_true rfl, Nat.le_of_ble_eq_true rfl⟩) hD hS hA (fun r8 u8 H locs hw8 hP hD hS => ?_)
          obtain ⟨r8e, eu8⟩ := hw8
          subst r8e
          refine lv_if_eq (tgt := 44) hx hb dMo_ways_40 (by decide) (fun c40 => ?_) (fun c40 => ?_)
          · have c40 : 1 = 0 := (nI_eq (a := 1) (b := 0) (by omega) (by omega)).mp (show nI 1 = nI 0 from c40)
            exact absurd c40 (by decide)
          · have c40 : ¬ 1 = 0 := fun q9 => c40 (show nI 1 = nI 0 from (nI_eq (a := 1) (b := 0) (by omega) (by omega)).mpr q9)
            exact ct_rv hx hb hr hlocks (u8, D) (Or.inl ⟨by first | (exact fun z => (fc_le_l _).mp c9 z.1) | (exact fun z => g18 (in_ba (by decide) (by decide) z.2.1)) | (exact fun z => z.2.2 ((fc_lt_g _).mp (Int32.not_le.mp c28))), by rw [eu8, eI1]⟩) hP hD hS (Nat.le_refl _) (Nat.le_refl _) dMo_ways_43
    · rw [if_neg g18] at hw3
      subst hw3
      refine rw_i (y := nI 0) rfl ?_
      refine lv_if_eq (tgt := 31) hx hb dMo_ways_21 (by decide) (fun c21 => ?_) (fun c21 => ?_)
      · have c21 : 0 = 0 := (nI_eq (a := 0) (b := 0) (by omega) (by omega)).mp (show nI 0 = nI 0 from c21)
        refine lv_iconst (v := nI 1) hx hb dMo_ways_31 (by decide +kernel) ?_
        refine lv_goto (tgt := 36) hx hb dMo_ways_32 (by decide) ?_
        refine lv_iconst (v := nI 1) hx hb dMo_ways_36 (by decide +kernel) ?_
        refine ct_i (va_runV (As := [.int (nI 1), .int (nI 1)]) (rest := []) ⟨hx, hb, hml, hown, hts⟩ (kMo_fails1 l dC dI k b I1 D _ 1 (by omega) (by omega) (by rw [eI1, ui_s])) (cwV 2 hts (gw_V tw_741 tw_743 sl_Mo_fails tw_9 tw_744) rfl rfl rfl (by decide +kernel) ⟨Nat.le_of_ble_eq_true rfl, Nat.le_of_ble_eq_true rfl⟩) ⟨ct_blind (ev := fun _ => True) (fun _ _ _ _ h => h), va_recv hK hP (ci := 8) (q0 := 0) rfl rfl, ct_now (ev := fun _ => True) (fun _ _ _ => trivial) hP hK hD⟩ rfl rfl hl.1 rfl (lv_room (Nat.le_of_ble_eq_true rfl)) dMo_ways_37 ⟨Nat.le_of_ble_eq_true rfl, Nat.le_of_ble_eq_true rfl⟩) hD hS hA (fun r9 u9 H locs hw9 hP hD hS => ?_)
        obtain ⟨r9e, eu9⟩ := hw9
        subst r9e
        refine lv_if_eq (tgt := 44) hx hb dMo_ways_40 (by decide) (fun c40 => ?_) (fun c40 => ?_)
        · have c40 : 1 = 0 := (nI_eq (a := 1) (b := 0) (by omega) (by omega)).mp (show nI 1 = nI 0 from c40)
          exact absurd c40 (by decide)
        · have c40 : ¬ 1 = 0 := fun q9 => c40 (show nI 1 = nI 0 from (nI_eq (a := 1) (b := 0) (by omega) (by omega)).mpr q9)
          exact ct_rv hx hb hr hlocks (u9, D) (Or.inl ⟨by first | (exact fun z => (fc_le_l _).mp c9 z.1) | (exact fun z => g18 (in_ba (by decide) (by decide) z.2.1)) | (exact fun z => z.2.2 ((fc_lt_g _).mp (Int32.not_le.mp c28))), by rw [eu9, eI1]⟩) hP hD hS (Nat.le_refl _) (Nat.le_refl _) dMo_ways_43
      · have c21 : ¬ 0 = 0 := fun q9 => c21 (show nI 0 = nI 0 from (nI_eq (a := 0) (b := 0) (by omega) (by omega)).mpr q9)
        exact absurd (by decide) c21
set_option maxHeartbeats 4000000 in
set_option maxRecDepth 100000 in
theorem kMo_cost (l : Launch) (dC : Nat → ClassId) (dI : Nat → Nat → Nat) (k : Nat → ClassId) (b : Nat → Nat) (I : Nat → Nat → Int32) (D : Nat → Nat → UInt64) (sz : Nat) (i : Int32) (nw : Nat) (hn : nw ≤ 20) (h6 : I 0 6 = nI nw) : Met l yMo_cost wMo_cost ({ frames := 1, cells := 0, slots := 0, locals := 25 }) (va_Pc [.ref (b 0), .int i] (ct_pre (dC, dI) (mo_ty k) (fun _ => True) (wm k b I D) sz)) (va_Qd (fun r (u : Nat → Nat → Int32) => ((¬ ∃ j, j < nw ∧ i = nI j) ∧ u = ui (ui I 0 0 (nI 0)) 0 0 (nI 1)) ∨ (∃ j, j < nw ∧ i = nI j ∧ ((I 7 j < 0 ∧ u = ui (ui I 0 0 (nI 0)) 0 0 (nI 2)) ∨ (¬ I 7 j < 0 ∧ u = ui I 0 0 (nI 0) ∧ r = D 3 j)))) (fun u t => ct_at (dC, dI) (va_A (wm k b I D) sz) ((fun u => wm k b u D) u) t) (va_A (wm k b I D) sz)) 0 0 (va_A (wm k b I D) sz) := by
  refine Met.ofW (cc := cMo_cost) (maxL := 2) (ret := (some .double)) (by decide) rfl ?_
  intro p e s m args below meth c s₁ B hml hv
  obtain ⟨rfl, hsz, hP, hK, hD0, hE⟩ := hv
  have hx := B.exec
  have hb := B.bytes
  have hr := B.returns
  have hts : ∀ w ∈ W0, w.before [.ref (b 0), .int i].toArray s = true := fun w h => atoms_spec (ws := wMo_cost) B.pre w (List.mem_cons_of_mem _ h)
  have hown : s.vm.findClass RMo = some m.cls := findClass_of_methodNamed B.named
  have hlocks := B.notSynchronized
  subst hsz
  have hD := hD0.self (sz := s.heap.size)
  generalize hAe : va_A (wm k b I D) s.heap.size = A at hD ⊢
  have hA : ∀ q : Nat, s.heap.size ≤ q → A q := fun q h => by rw [← hAe]; exact Or.inr h
  have hS : va_S A s.heap s.heap [] := va_S.rf
  have hl := lv_entry ([.ref (b 0), .int i]) (n := 2) (Nat.le_of_ble_eq_true rfl)
  rw [lg_entry_eq]
  generalize (lg_sl ([.ref (b 0), .int i]) ++ List.replicate (2 - (lg_sl ([.ref (b 0), .int i])).length) Slot.unset).toArray = ls at hl ⊢
  have hl : lv_has ls 2 [(0, .ref (b 0)), (1, .int i)] := hl
  refine lv_aload_n hx hb dMo_cost_0 rfl (lv_at hl 0 rfl) ?_
  refine lv_iconst (v := nI 0) hx hb dMo_cost_1 (by decide +kernel) ?_
  refine va_put (D := (dC, dI)) (ci := 8) (fs := mo_f b I D) (v := .int (nI 0)) (ty := .int) (C := RMo) (T := TMo) (N := 27) hx hb hts inMo tyMo tyMo_ok nmMo hown hK hP hD hS 0 rfl rfl 0 (by decide) (hts _ tw_647) (fun _ h9 => h9) rfl (by decide +kernel) rfl rfl (Nat.le_of_ble_eq_true rfl) dMo_cost_2 (fun H locs hP hD hS => ?_)
  rw [wm_p0] at hP hD
  obtain ⟨I1, eI1⟩ : ∃ z, z = ui I 0 0 (nI 0) := ⟨_, rfl⟩
  rw [← eI1] at hP hD
  refine lv_aload_n hx hb dMo_cost_5 rfl (lv_at hl 0 rfl) ?_
  refine lv_iload_n hx hb dMo_cost_6 rfl (lv_at hl 1 rfl) ?_
  refine lv_i2l (v := i.toInt64) hx hb dMo_cost_7 rfl ?_
  refine lv_lconst (v := lN 0) hx hb dMo_cost_8 (by decide +kernel) ?_
  refine lv_aload_n hx hb dMo_cost_9 rfl (lv_at hl 0 rfl) ?_
  refine va_get (D := (dC, dI)) (ci := 8) (v := .int (I1 0 6)) (C := RMo) (T := TMo) (N := 27) hx hb hts inMo hown hK hP 0 rfl rfl 6 (by decide) (hts _ tw_653) (fun _ h9 => h9) rfl dMo_cost_10 ?_
  refine rw_i (y := I 0 6) (by rw [eI1, ui_n _ _ _ (by decide)]) ?_
  refine rw_i (y := nI nw) h6 ?_
  refine lv_iconst (v := nI 1) hx hb dMo_cost_13 (by decide +kernel) ?_
  refine lv_isub hx hb dMo_cost_14 ?_
  refine lv_i2l (v := ((nI nw) - (nI 1)).toInt64) hx hb dMo_cost_15 rfl ?_
  refine ct_i (va_runS (As := [.long i.toInt64, .long (lN 0), .long (((nI nw) - (nI 1)).toInt64)]) (rest := [.ref (b 0)]) ⟨hx, hb, hml, hown, hts⟩ (kMo_in l dC dI k b I1 D _ i.toInt64 (lN 0) (((nI nw) - (nI 1)).toInt64)) (va_cwS 3 hts (gw_S tw_738 tw_739 tw_9 tw_740) rfl rfl rfl (by decide +kernel) ⟨Nat.le_of_ble_eq_true rfl, Nat.le_of_ble_eq_true rfl⟩) ⟨ct_blind (ev := fun _ => True) (fun _ _ _ _ h => h), ct_now (ev := fun _ => True) (fun _ _ _ => trivial) hP hK hD⟩ rfl rfl hl.1 rfl (lv_room (Nat.le_of_ble_eq_true rfl)) dMo_cost_16 ⟨Nat.le_of_ble_eq_true rfl, Nat.le_of_ble_eq_true rfl⟩) hD hS hA (fun r2 u2 H locs hw2 hP hD hS => ?_)
  by_cases g16 : lN 0 ≤ i.toInt64 ∧ i.toInt64 ≤ ((nI nw) - (nI 1)).toInt64
  · rw [if_pos g16] at hw2
    subst hw2
    refine rw_i (y := nI 1) rfl ?_
    obtain ⟨j, hj, rfl⟩ := in_0n (Nat.le_trans hn (by decide)) g16
    refine lv_if_ne (tgt := 26) hx hb dMo_cost_19 (by decide) (fun c19 => ?_) (fun c19 => ?_)
    · have c19 : ¬ 1 = 0 := fun q9 => c19 (show nI 1 = nI 0 from (nI_eq (a := 1) (b := 0) (by omega) (by omega)).mpr q9)
      refine lv_iconst (v := nI 0) hx hb dMo_cost_26 (by decide +kernel) ?_
      refine lv_iconst (v := nI 1) hx hb dMo_cost_27 (by decide +kernel) ?_
      refine ct_i (va_runV (As := [.int (nI 0), .int (nI 1)]) (rest := []) ⟨hx, hb, hml, hown, hts⟩ (kMo_fails0 l dC dI k b I1 D _ (nI 1) (by rw [eI1, ui_s])) (cwV 2 hts (gw_V tw_741 tw_743 sl_Mo_fails tw_9 tw_744) rfl rfl rfl (by decide +kernel) ⟨Nat.le_of_ble_eq_true rfl, Nat.le_of_ble_eq_true rfl⟩) ⟨ct_blind (ev := fun _ => True) (fun _ _ _ _ h => h), va_recv hK hP (ci := 8) (q0 := 0) rfl rfl, ct_now (ev := fun _ => True) (fun _ _ _ => trivial) hP hK hD⟩ rfl rfl hl.1 rfl (lv_room (Nat.le_of_ble_eq_true rfl)) dMo_cost_28 ⟨Nat.le_of_ble_eq_true rfl, Nat.le_of_ble_eq_true rfl⟩) hD hS hA (fun r3 u3 H locs hw3 hP hD hS => ?_)
      subst hw3
      refine lv_if_ne (tgt := 56) hx hb dMo_cost_31 (by decide) (fun c31 => ?_) (fun c31 => ?_)
      · have c31 : ¬ 0 = 0 := fun q9 => c31 (show nI 0 = nI 0 from (nI_eq (a := 0) (b := 0) (by omega) (by omega)).mpr q9)
        exact absurd (by decide) c31
      · have c31 : 0 = 0 := (nI_eq (a := 0) (b := 0) (by omega) (by omega)).mp (show nI 0 = nI 0 from c31)
        refine lv_aload_n hx hb dMo_cost_34 rfl (lv_at hl 0 rfl) ?_
        refine lv_aload_n hx hb dMo_cost_35 rfl (lv_at hl 0 rfl) ?_
        refine va_get (D := (dC, dI)) (ci := 8) (v := .ref (b 7)) (C := RMo) (T := TMo) (N := 27) hx hb hts inMo hown hK hP 0 rfl rfl 18 (by decide) (hts _ tw_665) (fun _ h9 => h9) rfl dMo_cost_36 ?_
        refine lv_iload_n hx hb dMo_cost_39 rfl (lv_at hl 1 rfl) ?_
        refine rw_ald_i hx hb hK hP 7 0 rfl rfl (by omega) (by decide) dMo_cost_40 ?_
        refine rw_i (y := I 7 j) (by rw [eI1, ui_o _ _ _ (by decide)]) ?_
        refine lv_if_ge (tgt := 48) hx hb dMo_cost_41 (by decide) (fun c41 => ?_) (fun c41 => ?_)
        · refine lv_iconst (v := nI 0) hx hb dMo_cost_48 (by decide +kernel) ?_
          refine lv_iconst (v := nI 2) hx hb dMo_cost_49 (by decide +kernel) ?_
          refine ct_i (va_runV (As := [.int (nI 0), .int (nI 2)]) (rest := []) ⟨hx, hb, hml, hown, hts⟩ (kMo_fails0 l dC dI k b I1 D _ (nI 2) (by rw [eI1, ui_s])) (cwV 2 hts (gw_V tw_741 tw_743 sl_Mo_fails tw_9 tw_744) rfl rfl rfl (by decide +kernel) ⟨Nat.le_of_ble_eq_true rfl, Nat.le_of_ble_eq_true rfl⟩) ⟨ct_blind (ev := fun _ => True) (fun _ _ _ _ h => h), va_recv hK hP (ci := 8) (q0 := 0) rfl rfl, ct_now (ev := fun _ => True) (fun _ _ _ => trivial) hP hK hD⟩ rfl rfl hl.1 rfl (lv_room (Nat.le_of_ble_eq_true rfl)) dMo_cost_50 ⟨Nat.le_of_ble_eq_true rfl, Nat.le_of_ble_eq_true rfl⟩) hD hS hA (fun r4 u4 H locs hw4 hP hD hS => ?_)
          subst hw4
          refine lv_if_eq (tgt := 58) hx hb dMo_cost_53 (by decide) (fun c53 => ?_) (fun c53 => ?_)
          · have c53 : 0 = 0 := (nI_eq (a := 0) (b := 0) (by omega) (by omega)).mp (show nI 0 = nI 0 from c53)
            refine lv_aload_n hx hb dMo_cost_58 rfl (lv_at hl 0 rfl) ?_
            refine va_get (D := (dC, dI)) (ci := 8) (v := .ref (b 10)) (C := RMo) (T := TMo) (N := 27) hx hb hts inMo hown hK hP 0 rfl rfl 21 (by decide) (hts _ tw_668) (fun _ h9 => h9) rfl dMo_cost_59 ?_
            refine lv_iload_n hx hb dMo_cost_62 rfl (lv_at hl 1 rfl) ?_
            refine rw_ald_d hx hb hK hP 10 1 rfl rfl (by omega) (by decide) dMo_cost_63 ?_
            exact ct_rd hx hb hr hlocks I1 (Or.inr ⟨j, hj, rfl, Or.inr ⟨Int32.not_lt.mpr c41, by rw [eI1], rfl⟩⟩) hP hD hS (Nat.le_refl _) (Nat.le_refl _) dMo_cost_64
          · have c53 : ¬ 0 = 0 := fun q9 => c53 (show nI 0 = nI 0 from (nI_eq (a := 0) (b := 0) (by omega) (by omega)).mpr q9)
            exact absurd (by decide) c53
        · refine lv_iconst (v := nI 1) hx hb dMo_cost_44 (by decide +kernel) ?_
          refine lv_goto (tgt := 49) hx hb dMo_cost_45 (by decide) ?_
          refine lv_iconst (v := nI 2) hx hb dMo_cost_49 (by decide +kernel) ?_
          refine ct_i (va_runV (As := [.int (nI 1), .int (nI 2)]) (rest := []) ⟨hx, hb, hml, hown, hts⟩ (kMo_fails1 l dC dI k b I1 D _ 2 (by omega) (by omega) (by rw [eI1, ui_s])) (cwV 2 hts (gw_V tw_741 tw_743 sl_Mo_fails tw_9 tw_744) rfl rfl rfl (by decide +kernel) ⟨Nat.le_of_ble_eq_true rfl, Nat.le_of_ble_eq_true rfl⟩) ⟨ct_blind (ev := fun _ => True) (fun _ _ _ _ h => h), va_recv hK hP (ci := 8) (q0 := 0) rfl rfl, ct_now (ev := fun _ => True) (fun _ _ _ => trivial) hP hK hD⟩ rfl rfl hl.1 rfl (lv_room (Nat.le_of_ble_eq_true rfl)) dMo_cost_50 ⟨Nat.le_of_ble_eq_true rfl, Nat.le_of_ble_eq_true rfl⟩) hD hS hA (fun r5 u5 H locs hw5 hP hD hS => ?_)
          obtain ⟨r5e, eu5⟩ := hw5
          subst r5e
          refine lv_if_eq (tgt := 58) hx hb dMo_cost_53 (by decide) (fun c53 => ?_) (fun c53 => ?_)
          · have c53 : 1 = 0 := (nI_eq (a := 1) (b := 0) (by omega) (by omega)).mp (show nI 1 = nI 0 from c53)
            exact absurd c53 (by decide)
          · have c53 : ¬ 1 = 0 := fun q9 => c53 (show nI 1 = nI 0 from (nI_eq (a := 1) (b := 0) (by omega) (by omega)).mpr q9)
            refine lv_dconst0 hx hb dMo_cost_56 ?_
            refine rw_d (y := 0) rfl ?_
            exact ct_rd hx hb hr hlocks u5 (Or.inr ⟨j, hj, rfl, Or.inl ⟨Int32.not_le.mp c41, by rw [eu5, eI1]⟩⟩) hP hD hS (Nat.le_refl _) (Nat.le_refl _) dMo_cost_57
    · have c19 : 1 = 0 := (nI_eq (a := 1) (b := 0) (by omega) (by omega)).mp (show nI 1 = nI 0 from c19)
      exact absurd c19 (by decide)
  · rw [if_neg g16] at hw2
    subst hw2
    refine rw_i (y := nI 0) rfl ?_
    refine lv_if_ne (tgt := 26) hx hb dMo_cost_19 (by decide) (fun c19 => ?_) (fun c19 => ?_)
    · have c19 : ¬ 0 = 0 := fun q9 => c19 (show nI 0 = nI 0 from (nI_eq (a := 0) (b := 0) (by omega) (by omega)).mpr q9)
      exact absurd (by decide) c19
    · have c19 : 0 = 0 := (nI_eq (a := 0) (b := 0) (by omega) (by omega)).mp (show nI 0 = nI 0 from c19)
      refine lv_iconst (v := nI 1) hx hb dMo_cost_22 (by decide +kernel) ?_
      refine lv_goto (tgt := 27) hx hb dMo_cost_23 (by decide) ?_
      refine lv_iconst (v := nI 1) hx hb dMo_cost_27 (by decide +kernel) ?_
      refine ct_i (va_runV (As := [.int (nI 1), .int (nI 1)]) (rest := []) ⟨hx, hb, hml, hown, hts⟩ (kMo_fails1 l dC dI k b I1 D _ 1 (by omega) (by omega) (by rw [eI1, ui_s])) (cwV 2 hts (gw_V tw_741 tw_743 sl_Mo_fails tw_9 tw_744) rfl rfl rfl (by decide +kernel) ⟨Nat.le_of_ble_eq_true rfl, Nat.le_of_ble_eq_true rfl⟩) ⟨ct_blind (ev := fun _ => True) (fun _ _ _ _ h => h), va_recv hK hP (ci := 8) (q0 := 0) rfl rfl, ct_now (ev := fun _ => True) (fun _ _ _ => trivial) hP hK hD⟩ rfl rfl hl.1 rfl (lv_room (Nat.le_of_ble_eq_true rfl)) dMo_cost_28 ⟨Nat.le_of_ble_eq_true rfl, Nat.le_of_ble_eq_true rfl⟩) hD hS hA (fun r6 u6 H locs hw6 hP hD hS => ?_)
      obtain ⟨r6e, eu6⟩ := hw6
      subst r6e
      refine lv_if_ne (tgt := 56) hx hb dMo_cost_31 (by decide) (fun c31 => ?_) (fun c31 => ?_)
      · have c31 : ¬ 1 = 0 := fun q9 => c31 (show nI 1 = nI 0 from (nI_eq (a := 1) (b := 0) (by omega) (by omega)).mpr q9)
        refine lv_dconst0 hx hb dMo_cost_56 ?_
        refine rw_d (y := 0) rfl ?_
        exact ct_rd hx hb hr hlocks u6 (Or.inl ⟨fun q => g16 (in_n0 (Nat.le_trans hn (by decide)) q), by rw [eu6, eI1]⟩) hP hD hS (Nat.le_refl _) (Nat.le_refl _) dMo_cost_57
      · have c31 : 1 = 0 := (nI_eq (a := 1) (b := 0) (by omega) (by omega)).mp (show nI 1 = nI 0 from c31)
        exact absurd c31 (by decide)
end
section
def mo_wd (I : Nat → Nat → Int32) (j q : Nat) : Int32 := if q = 0 then I 4 j else if q = 1 then I 5 j else if q = 2 then I 6 j else if q = 3 then I 7 j else if q = 4 then nI 16 * I 5 j * nI 1000 / I 0 4 else (nI 16 * (I 5 j + I 6 j) + nI 16) * nI 1000 / I 0 4
def ld_cnt (sa : Nat → UInt64) (th : UInt64) : Nat → Nat
  | 0 => 0
  | f + 1 => ld_cnt sa th f + if hd_ld sa f th then 1 else 0
theorem ld_s1 {sa : Nat → UInt64} {th : UInt64} {f : Nat} (h : hd_ld sa f th) : ld_cnt sa th (f + 1) = ld_cnt sa th f + 1 := by
  show ld_cnt sa th f + (if _ then 1 else 0) = _
  rw [if_pos h]
theorem ld_s0 {sa : Nat → UInt64} {th : UInt64} {f : Nat} (h : ¬ hd_ld sa f th) : ld_cnt sa th (f + 1) = ld_cnt sa th f := by
  show ld_cnt sa th f + (if _ then 1 else 0) = _
  rw [if_neg h, Nat.add_zero]
def mo_ct (I : Nat → Nat → Int32) (sa : Nat → UInt64) (th : UInt64) (ns q : Nat) : Int32 := if q = 0 then I 0 1 else if q = 1 then nI ns else if q = 2 then nI (hd_nf ns) else if q = 3 then I 0 4 else if q = 4 then I 0 5 else if q = 5 then I 0 6 else nI (ld_cnt sa th (hd_nf ns))
-- a channel's number as a SAMPLE
def fi_ci (oc : Nat → Nat) (bits t : Nat) : Int32 := if bits = 8 then (nI (oc t) - nI 128) * nI 256 else (nI (nu oc t 2)).toInt16.toInt32
def fi_ch (oc : Nat → Nat) (bits t : Nat) : UInt64 := FP.ddiv (FP.i2d (fi_ci oc bits t)) 4674736413210574848
theorem fi_ch_b (oc : Nat → Nat) (bits t : Nat) : fb_ 1042 (fi_ch oc bits t) := fb_mono (fb_div (K := 1056) (L := 1038) (fb_i2d _) (by decide) (by unfold fb_; decide) (by decide) (by decide)) (by omega)
end
section
set_option maxHeartbeats 4000000 in
set_option maxRecDepth 100000 in
theorem kMo_word (l : Launch) (dC : Nat → ClassId) (dI : Nat → Nat → Nat) (k : Nat → ClassId) (b : Nat → Nat) (I : Nat → Nat → Int32) (D : Nat → Nat → UInt64) (sz : Nat) (i wh : Int32) (nw : Nat) (hn : nw ≤ 20) (h6 : I 0 6 = nI nw) (hr0 : I 0 4 ≠ 0) : Met l yMo_word wMo_word ({ frames := 1, cells := 0, slots := 0, locals := 25 }) (va_Pc [.ref (b 0), .int i, .int wh] (ct_pre (dC, dI) (mo_ty k) (fun _ => True) (wm k b I D) sz)) (va_Qi (fun r (u : Nat → Nat → Int32) => ((¬ ∃ j, j < nw ∧ i = nI j) ∧ u = ui (ui I 0 0 (nI 0)) 0 0 (nI 1)) ∨ (∃ j, j < nw ∧ i = nI j ∧ (((¬ ∃ q, 0 ≤ q ∧ q ≤ 5 ∧ wh = nI q) ∧ u = ui (ui I 0 0 (nI 0)) 0 0 (nI 2)) ∨ (∃ q, 0 ≤ q ∧ q ≤ 5 ∧ wh = nI q ∧ u = ui I 0 0 (nI 0) ∧ r = mo_wd I j q)))) (fun u t => ct_at (dC, dI) (va_A (wm k b I D) sz) ((fun u => wm k b u D) u) t) (va_A (wm k b I D) sz)) 0 0 (va_A (wm k b I D) sz) := by
  refine Met.ofW (cc := cMo_word) (maxL := 3) (ret := (some .int)) (by decide) rfl ?_
  intro p e s m args below meth c s₁ B hml hv
  obtain ⟨rfl, hsz, hP, hK, hD0, hE⟩ := hv
  have hx := B.exec
  have hb := B.bytes
  have hr := B.returns
  have hts : ∀ w ∈ W0, w.before [.ref (b 0), .int i, .int wh].toArray s = true := fun w h => atoms_spec (ws := wMo_word) B.pre w (List.mem_cons_of_mem _ h)
  have hown : s.vm.findClass RMo = some m.cls := findClass_of_methodNamed B.named
  have hlocks := B.notSynchronized
  subst hsz
  have hD := hD0.self (sz := s.heap.size)
  generalize hAe : va_A (wm k b I D) s.heap.size = A at hD ⊢
  have hA : ∀ q : Nat, s.heap.size ≤ q → A q := fun q h => by rw [← hAe]; exact Or.inr h
  have hS : va_S A s.heap s.heap [] := va_S.rf
  have hl := lv_entry ([.ref (b 0), .int i, .int wh]) (n := 3) (Nat.le_of_ble_eq_true rfl)
  rw [lg_entry_eq]
  generalize (lg_sl ([.ref (b 0), .int i, .int wh]) ++ List.replicate (3 - (lg_sl ([.ref (b 0), .int i, .int wh])).length) Slot.unset).toArray = ls at hl ⊢
  have hl : lv_has ls 3 [(0, .ref (b 0)), (1, .int i), (2, .int wh)] := hl
  refine lv_aload_n hx hb dMo_word_0 rfl (lv_at hl 0 rfl) ?_
  refine lv_iconst (v := nI 0) hx hb dMo_word_1 (by decide +kernel) ?_
  refine va_put (D := (dC, dI)) (ci := 8) (fs := mo_f b I D) (v := .int (nI 0)) (ty := .int) (C := RMo) (T := TMo) (N := 27) hx hb hts inMo tyMo tyMo_ok nmMo hown hK hP hD hS 0 rfl rfl 0 (by decide) (hts _ tw_647) (fun _ h9 => h9) rfl (by decide +kernel) rfl rfl (Nat.le_of_ble_eq_true rfl) dMo_word_2 (fun H locs hP hD hS => ?_)
  rw [wm_p0] at hP hD
  obtain ⟨I1, eI1⟩ : ∃ z, z = ui I 0 0 (nI 0) := ⟨_, rfl⟩
  rw [← eI1] at hP hD
  refine lv_aload_n hx hb dMo_word_5 rfl (lv_at hl 0 rfl) ?_
  refine lv_iload_n hx hb dMo_word_6 rfl (lv_at hl 1 rfl) ?_
  refine lv_i2l (v := i.toInt64) hx hb dMo_word_7 rfl ?_
  refine lv_lconst (v := lN 0) hx hb dMo_word_8 (by decide +kernel) ?_
  refine lv_aload_n hx hb dMo_word_9 rfl (lv_at hl 0 rfl) ?_
  refine va_get (D := (dC, dI)) (ci := 8) (v := .int (I1 0 6)) (C := RMo) (T := TMo) (N := 27) hx hb hts inMo hown hK hP 0 rfl rfl 6 (by decide) (hts _ tw_653) (fun _ h9 => h9) rfl dMo_word_10 ?_
  refine rw_i (y := I 0 6) (by rw [eI1, ui_n _ _ _ (by decide)]) ?_
  refine rw_i (y := nI nw) h6 ?_
  refine lv_iconst (v := nI 1) hx hb dMo_word_13 (by decide +kernel) ?_
  refine lv_isub hx hb dMo_word_14 ?_
  refine lv_i2l (v := ((nI nw) - (nI 1)).toInt64) hx hb dMo_word_15 rfl ?_
  refine ct_i (va_runS (As := [.long i.toInt64, .long (lN 0), .long (((nI nw) - (nI 1)).toInt64)]) (rest := [.ref (b 0)]) ⟨hx, hb, hml, hown, hts⟩ (kMo_in l dC dI k b I1 D _ i.toInt64 (lN 0) (((nI nw) - (nI 1)).toInt64)) (va_cwS 3 hts (gw_S tw_738 tw_739 tw_9 tw_740) rfl rfl rfl (by decide +kernel) ⟨Nat.le_of_ble_eq_true rfl, Nat.le_of_ble_eq_true rfl⟩) ⟨ct_blind (ev := fun _ => True) (fun _ _ _ _ h => h), ct_now (ev := fun _ => True) (fun _ _ _ => trivial) hP hK hD⟩ rfl rfl hl.1 rfl (lv_room (Nat.le_of_ble_eq_true rfl)) dMo_word_16 ⟨Nat.le_of_ble_eq_true rfl, Nat.le_of_ble_eq_true rfl⟩) hD hS hA (fun r2 u2 H locs hw2 hP hD hS => ?_)
  by_cases g16 : lN 0 ≤ i.toInt64 ∧ i.toInt64 ≤ ((nI nw) - (nI 1)).toInt64
  · rw [if_pos g16] at hw2
    subst hw2
    refine rw_i (y := nI 1) rfl ?_
    obtain ⟨j, hj, rfl⟩ := in_0n (Nat.le_trans hn (by decide)) g16
    refine lv_if_ne (tgt := 26) hx hb dMo_word_19 (by decide) (fun c19 => ?_) (fun c19 => ?_)
    · have c19 : ¬ 1 = 0 := fun q9 => c19 (show nI 1 = nI 0 from (nI_eq (a := 1) (b := 0) (by omega) (by omega)).mpr q9)
      refine lv_iconst (v := nI 0) hx hb dMo_word_26 (by decide +kernel) ?_
      refine lv_iconst (v := nI 1) hx hb dMo_word_27 (by decide +kernel) ?_
      refine ct_i (va_runV (As := [.int (nI 0), .int (nI 1)]) (rest := []) ⟨hx, hb, hml, hown, hts⟩ (kMo_fails0 l dC dI k b I1 D _ (nI 1) (by rw [eI1, ui_s])) (cwV 2 hts (gw_V tw_741 tw_743 sl_Mo_fails tw_9 tw_744) rfl rfl rfl (by decide +kernel) ⟨Nat.le_of_ble_eq_true rfl, Nat.le_of_ble_eq_true rfl⟩) ⟨ct_blind (ev := fun _ => True) (fun _ _ _ _ h => h), va_recv hK hP (ci := 8) (q0 := 0) rfl rfl, ct_now (ev := fun _ => True) (fun _ _ _ => trivial) hP hK hD⟩ rfl rfl hl.1 rfl (lv_room (Nat.le_of_ble_eq_true rfl)) dMo_word_28 ⟨Nat.le_of_ble_eq_true rfl, Nat.le_of_ble_eq_true rfl⟩) hD hS hA (fun r3 u3 H locs hw3 hP hD hS => ?_)
      subst hw3
      refine lv_if_ne (tgt := 59) hx hb dMo_word_31 (by decide) (fun c31 => ?_) (fun c31 => ?_)
      · have c31 : ¬ 0 = 0 := fun q9 => c31 (show nI 0 = nI 0 from (nI_eq (a := 0) (b := 0) (by omega) (by omega)).mpr q9)
        exact absurd (by decide) c31
      · have c31 : 0 = 0 := (nI_eq (a := 0) (b := 0) (by omega) (by omega)).mp (show nI 0 = nI 0 from c31)
        refine lv_aload_n hx hb dMo_word_34 rfl (lv_at hl 0 rfl) ?_
        refine lv_iload_n hx hb dMo_word_35 rfl (lv_at hl 2 rfl) ?_
        refine lv_i2l (v := wh.toInt64) hx hb dMo_word_36 rfl ?_
        refine lv_lconst (v := lN 0) hx hb dMo_word_37 (by decide +kernel) ?_
        refine lv_ldc2 (v := 5) hx hb hown (hts _ tw_866) dMo_word_38 ?_
        refine rw_l (y := lN 5) (by decide +kernel) ?_
        refine ct_i (va_runS (As := [.long wh.toInt64, .long (lN 0), .long (lN 5)]) (rest := [.ref (b 0)]) ⟨hx, hb, hml, hown, hts⟩ (kMo_in l dC dI k b I1 D _ wh.toInt64 (lN 0) (lN 5)) (va_cwS 3 hts (gw_S tw_738 tw_739 tw_9 tw_740) rfl rfl rfl (by decide +kernel) ⟨Nat.le_of_ble_eq_true rfl, Nat.le_of_ble_eq_true rfl⟩) ⟨ct_blind (ev := fun _ => True) (fun _ _ _ _ h => h), ct_now (ev := fun _ => True) (fun _ _ _ => trivial) hP hK hD⟩ rfl rfl hl.1 rfl (lv_room (Nat.le_of_ble_eq_true rfl)) dMo_word_41 ⟨Nat.le_of_ble_eq_true rfl, Nat.le_of_ble_eq_true rfl⟩) hD hS hA (fun r4 u4 H locs hw4 hP hD hS => ?_)
        by_cases g41 : lN 0 ≤ wh.toInt64 ∧ wh.toInt64 ≤ lN 5
        · rw [if_pos g41] at hw4
          subst hw4
          refine rw_i (y := nI 1) rfl ?_
          obtain ⟨q, q1, q2, rfl⟩ := in_ab (by decide) (by decide) g41
          refine lv_if_ne (tgt := 51) hx hb dMo_word_44 (by decide) (fun c44 => ?_) (fun c44 => ?_)
          · have c44 : ¬ 1 = 0 := fun q9 => c44 (show nI 1 = nI 0 from (nI_eq (a := 1) (b := 0) (by omega) (by omega)).mpr q9)
            refine lv_iconst (v := nI 0) hx hb dMo_word_51 (by decide +kernel) ?_
            refine lv_iconst (v := nI 2) hx hb dMo_word_52 (by decide +kernel) ?_
            refine ct_i (va_runV (As := [.int (nI 0), .int (nI 2)]) (rest := []) ⟨hx, hb, hml, hown, hts⟩ (kMo_fails0 l dC dI k b I1 D _ (nI 2) (by rw [eI1, ui_s])) (cwV 2 hts (gw_V tw_741 tw_743 sl_Mo_fails tw_9 tw_744) rfl rfl rfl (by decide +kernel) ⟨Nat.le_of_ble_eq_true rfl, Nat.le_of_ble_eq_true rfl⟩) ⟨ct_blind (ev := fun _ => True) (fun _ _ _ _ h => h), va_recv hK hP (ci := 8) (q0 := 0) rfl rfl, ct_now (ev := fun _ => True) (fun _ _ _ => trivial) hP hK hD⟩ rfl rfl hl.1 rfl (lv_room (Nat.le_of_ble_eq_true rfl)) dMo_word_53 ⟨Nat.le_of_ble_eq_true rfl, Nat.le_of_ble_eq_true rfl⟩) hD hS hA (fun r5 u5 H locs hw5 hP hD hS => ?_)
            subst hw5
            refine lv_if_eq (tgt := 61) hx hb dMo_word_56 (by decide) (fun c56 => ?_) (fun c56 => ?_)
            · have c56 : 0 = 0 := (nI_eq (a := 0) (b := 0) (by omega) (by omega)).mp (show nI 0 = nI 0 from c56)
              rcases (show q = 0 ∨ q = 1 ∨ q = 2 ∨ q = 3 ∨ q = 4 ∨ q = 5 by omega) with rfl | rfl | rfl | rfl | rfl | rfl
              · refine lv_iload_n hx hb dMo_word_61 rfl (lv_at hl 2 rfl) ?_
                refine lv_tableIn (off := 34) (tgt := 96) hx hb dMo_word_62 (by decide +kernel) (by decide +kernel) (by decide +kernel) (by decide) ?_
                refine lv_aload_n hx hb dMo_word_96 rfl (lv_at hl 0 rfl) ?_
                refine va_get (D := (dC, dI)) (ci := 8) (v := .ref (b 4)) (C := RMo) (T := TMo) (N := 27) hx hb hts inMo hown hK hP 0 rfl rfl 15 (by decide) (hts _ tw_662) (fun _ h9 => h9) rfl dMo_word_97 ?_
                refine lv_iload_n hx hb dMo_word_100 rfl (lv_at hl 1 rfl) ?_
                refine rw_ald_i hx hb hK hP 4 0 rfl rfl (by omega) (by decide) dMo_word_101 ?_
                refine rw_i (y := I 4 j) (by rw [eI1, ui_o _ _ _ (by decide)]) ?_
                exact ct_ri hx hb hr hlocks I1 (Or.inr ⟨j, hj, rfl, Or.inr ⟨_, q1, q2, rfl, by rw [eI1], rfl⟩⟩) hP hD hS (Nat.le_refl _) (Nat.le_refl _) dMo_word_102
              · refine lv_iload_n hx hb dMo_word_61 rfl (lv_at hl 2 rfl) ?_
                refine lv_tableIn (off := 41) (tgt := 103) hx hb dMo_word_62 (by decide +kernel) (by decide +kernel) (by decide +kernel) (by decide) ?_
                refine lv_aload_n hx hb dMo_word_103 rfl (lv_at hl 0 rfl) ?_
                refine va_get (D := (dC, dI)) (ci := 8) (v := .ref (b 5)) (C := RMo) (T := TMo) (N := 27) hx hb hts inMo hown hK hP 0 rfl rfl 16 (by decide) (hts _ tw_663) (fun _ h9 => h9) rfl dMo_word_104 ?_
                refine lv_iload_n hx hb dMo_word_107 rfl (lv_at hl 1 rfl) ?_
                refine rw_ald_i hx hb hK hP 5 0 rfl rfl (by omega) (by decide) dMo_word_108 ?_
                refine rw_i (y := I 5 j) (by rw [eI1, ui_o _ _ _ (by decide)]) ?_
                exact ct_ri hx hb hr hlocks I1 (Or.inr ⟨j, hj, rfl, Or.inr ⟨_, q1, q2, rfl, by rw [eI1], rfl⟩⟩) hP hD hS (Nat.le_refl _) (Nat.le_refl _) dMo_word_109
              · refine lv_iload_n hx hb dMo_word_61 rfl (lv_at hl 2 rfl) ?_
                refine lv_tableIn (off := 48) (tgt := 110) hx hb dMo_word_62 (by decide +kernel) (by decide +kernel) (by decide +kernel) (by decide) ?_
                refine lv_aload_n hx hb dMo_word_110 rfl (lv_at hl 0 rfl) ?_
                refine va_get (D := (dC, dI)) (ci := 8) (v := .ref (b 6)) (C := RMo) (T := TMo) (N := 27) hx hb hts inMo hown hK hP 0 rfl rfl 17 (by decide) (hts _ tw_664) (fun _ h9 => h9) rfl dMo_word_111 ?_
                refine lv_iload_n hx hb dMo_word_114 rfl (lv_at hl 1 rfl) ?_
                refine rw_ald_i hx hb hK hP 6 0 rfl rfl (by omega) (by decide) dMo_word_115 ?_
                refine rw_i (y := I 6 j) (by rw [eI1, ui_o _ _ _ (by decide)]) ?_
                exact ct_ri hx hb hr hlocks I1 (Or.inr ⟨j, hj, rfl, Or.inr ⟨_, q1, q2, rfl, by rw [eI1], rfl⟩⟩) hP hD hS (Nat.le_refl _) (Nat.le_refl _) dMo_word_116
              · refine lv_iload_n hx hb dMo_word_61 rfl (lv_at hl 2 rfl) ?_
                refine lv_tableIn (off := 55) (tgt := 117) hx hb dMo_word_62 (by decide +kernel) (by decide +kernel) (by decide +kernel) (by decide) ?_
                refine lv_aload_n hx hb dMo_word_117 rfl (lv_at hl 0 rfl) ?_
                refine va_get (D := (dC, dI)) (ci := 8) (v := .ref (b 7)) (C := RMo) (T := TMo) (N := 27) hx hb hts inMo hown hK hP 0 rfl rfl 18 (by decide) (hts _ tw_665) (fun _ h9 => h9) rfl dMo_word_118 ?_
                refine lv_iload_n hx hb dMo_word_121 rfl (lv_at hl 1 rfl) ?_
                refine rw_ald_i hx hb hK hP 7 0 rfl rfl (by omega) (by decide) dMo_word_122 ?_
                refine rw_i (y := I 7 j) (by rw [eI1, ui_o _ _ _ (by decide)]) ?_
                exact ct_ri hx hb hr hlocks I1 (Or.inr ⟨j, hj, rfl, Or.inr ⟨_, q1, q2, rfl, by rw [eI1], rfl⟩⟩) hP hD hS (Nat.le_refl _) (Nat.le_refl _) dMo_word_123
              · refine lv_iload_n hx hb dMo_word_61 rfl (lv_at hl 2 rfl) ?_
                refine lv_tableIn (off := 62) (tgt := 124) hx hb dMo_word_62 (by decide +kernel) (by decide +kernel) (by decide +kernel) (by decide) ?_
                refine lv_bipush (v := nI 16) hx hb dMo_word_124 (by decide +kernel) ?_
                refine lv_aload_n hx hb dMo_word_126 rfl (lv_at hl 0 rfl) ?_
                refine va_get (D := (dC, dI)) (ci := 8) (v := .ref (b 5)) (C := RMo) (T := TMo) (N := 27) hx hb hts inMo hown hK hP 0 rfl rfl 16 (by decide) (hts _ tw_663) (fun _ h9 => h9) rfl dMo_word_127 ?_
                refine lv_iload_n hx hb dMo_word_130 rfl (lv_at hl 1 rfl) ?_
                refine rw_ald_i hx hb hK hP 5 0 rfl rfl (by omega) (by decide) dMo_word_131 ?_
                refine rw_i (y := I 5 j) (by rw [eI1, ui_o _ _ _ (by decide)]) ?_
                refine lv_imul hx hb dMo_word_132 ?_
                refine lv_sipush (v := nI 1000) hx hb dMo_word_133 (by decide +kernel) ?_
                refine lv_imul hx hb dMo_word_136 ?_
                refine lv_aload_n hx hb dMo_word_137 rfl (lv_at hl 0 rfl) ?_
                refine va_get (D := (dC, dI)) (ci := 8) (v := .int (I1 0 4)) (C := RMo) (T := TMo) (N := 27) hx hb hts inMo hown hK hP 0 rfl rfl 4 (by decide) (hts _ tw_651) (fun _ h9 => h9) rfl dMo_word_138 ?_
                refine rw_i (y := I 0 4) (by rw [eI1, ui_n _ _ _ (by decide)]) ?_
                refine lv_idiv hx hb dMo_word_141 (fun z => hr0 z) ?_
                exact ct_ri hx hb hr hlocks I1 (Or.inr ⟨j, hj, rfl, Or.inr ⟨_, q1, q2, rfl, by rw [eI1], rfl⟩⟩) hP hD hS (Nat.le_refl _) (Nat.le_refl _) dMo_word_142
              · refine lv_iload_n hx hb dMo_word_61 rfl (lv_at hl 2 rfl) ?_
                refine lv_tableOut (tgt := 143) hx hb dMo_word_62 (by decide +kernel) (by decide) ?_
                refine lv_bipush (v := nI 16) hx hb dMo_word_143 (by decide +kernel) ?_
                refine lv_aload_n hx hb dMo_word_145 rfl (lv_at hl 0 rfl) ?_
                refine va_get (D := (dC, dI)) (ci := 8) (v := .ref (b 5)) (C := RMo) (T := TMo) (N := 27) hx hb hts inMo hown hK hP 0 rfl rfl 16 (by decide) (hts _ tw_663) (fun _ h9 => h9) rfl dMo_word_146 ?_
                refine lv_iload_n hx hb dMo_word_149 rfl (lv_at hl 1 rfl) ?_
                refine rw_ald_i hx hb hK hP 5 0 rfl rfl (by omega) (by decide) dMo_word_150 ?_
                refine rw_i (y := I 5 j) (by rw [eI1, ui_o _ _ _ (by decide)]) ?_
                refine lv_aload_n hx hb dMo_word_151 rfl (lv_at hl 0 rfl) ?_
                refine va_get (D := (dC, dI)) (ci := 8) (v := .ref (b 6)) (C := RMo) (T := TMo) (N := 27) hx hb hts inMo hown hK hP 0 rfl rfl 17 (by decide) (hts _ tw_664) (fun _ h9 => h9) rfl dMo_word_152 ?_
                refine lv_iload_n hx hb dMo_word_155 rfl (lv_at hl 1 rfl) ?_
                refine rw_ald_i hx hb hK hP 6 0 rfl rfl (by omega) (by decide) dMo_word_156 ?_
                refine rw_i (y := I 6 j) (by rw [eI1, ui_o _ _ _ (by decide)]) ?_
                refine lv_iadd hx hb dMo_word_157 ?_
                refine lv_imul hx hb dMo_word_158 ?_
                refine lv_bipush (v := nI 16) hx hb dMo_word_159 (by decide +kernel) ?_
                refine lv_iadd hx hb dMo_word_161 ?_
                refine lv_sipush (v := nI 1000) hx hb dMo_word_162 (by decide +kernel) ?_
                refine lv_imul hx hb dMo_word_165 ?_
                refine lv_aload_n hx hb dMo_word_166 rfl (lv_at hl 0 rfl) ?_
                refine va_get (D := (dC, dI)) (ci := 8) (v := .int (I1 0 4)) (C := RMo) (T := TMo) (N := 27) hx hb hts inMo hown hK hP 0 rfl rfl 4 (by decide) (hts _ tw_651) (fun _ h9 => h9) rfl dMo_word_167 ?_
                refine rw_i (y := I 0 4) (by rw [eI1, ui_n _ _ _ (by decide)]) ?_
                refine lv_idiv hx hb dMo_word_170 (fun z => hr0 z) ?_
                exact ct_ri hx hb hr hlocks I1 (Or.inr ⟨j, hj, rfl, Or.inr ⟨_, q1, q2, rfl, by rw [eI1], rfl⟩⟩) hP hD hS (Nat.le_refl _) (Nat.le_refl _) dMo_word_171
            · have c56 : ¬ 0 = 0 := fun q9 => c56 (show nI 0 = nI 0 from (nI_eq (a := 0) (b := 0) (by omega) (by omega)).mpr q9)
              exact absurd (by decide) c56
          · have c44 : 1 = 0 := (nI_eq (a := 1) (b := 0) (by omega) (by omega)).mp (show nI 1 = nI 0 from c44)
            exact absurd c44 (by decide)
        · rw [if_neg g41] at hw4
          subst hw4
          refine rw_i (y := nI 0) rfl ?_
          refine lv_if_ne (tgt := 51) hx hb dMo_word_44 (by decide) (fun c44 => ?_) (fun c44 => ?_)
          · have c44 : ¬ 0 = 0 := fun q9 => c44 (show nI 0 = nI 0 from (nI_eq (a := 0) (b := 0) (by omega) (by omega)).mpr q9)
            exact absurd (by decide) c44
          · have c44 : 0 = 0 := (nI_eq (a := 0) (b := 0) (by omega) (by omega)).mp (show nI 0 = nI 0 from c44)
            refine lv_iconst (v := nI 1) hx hb dMo_word_47 (by decide +kernel) ?_
            refine lv_goto (tgt := 52) hx hb dMo_word_48 (by decide) ?_
            refine lv_iconst (v := nI 2) hx hb dMo_word_52 (by decide +kernel) ?_
            refine ct_i (va_runV (As := [.int (nI 1), .int (nI 2)]) (rest := []) ⟨hx, hb, hml, hown, hts⟩ (kMo_fails1 l dC dI k b I1 D _ 2 (by omega) (by omega) (by rw [eI1, ui_s])) (cwV 2 hts (gw_V tw_741 tw_743 sl_Mo_fails tw_9 tw_744) rfl rfl rfl (by decide +kernel) ⟨Nat.le_of_ble_eq_true rfl, Nat.le_of_ble_eq_true rfl⟩) ⟨ct_blind (ev := fun _ => True) (fun _ _ _ _ h => h), va_recv hK hP (ci := 8) (q0 := 0) rfl rfl, ct_now (ev := fun _ => True) (fun _ _ _ => trivial) hP hK hD⟩ rfl rfl hl.1 rfl (lv_room (Nat.le_of_ble_eq_true rfl)) dMo_word_53 ⟨Nat.le_of_ble_eq_true rfl, Nat.le_of_ble_eq_true rfl⟩) hD hS hA (fun r6 u6 H locs hw6 hP hD hS => ?_)
            obtain ⟨r6e, eu6⟩ := hw6
            subst r6e
            refine lv_if_eq (tgt := 61) hx hb dMo_word_56 (by decide) (fun c56 => ?_) (fun c56 => ?_)
            · have c56 : 1 = 0 := (nI_eq (a := 1) (b := 0) (by omega) (by omega)).mp (show nI 1 = nI 0 from c56)
              exact absurd c56 (by decide)
            · have c56 : ¬ 1 = 0 := fun q9 => c56 (show nI 1 = nI 0 from (nI_eq (a := 1) (b := 0) (by omega) (by omega)).mpr q9)
              refine lv_iconst (v := nI 0) hx hb dMo_word_59 (by decide +kernel) ?_
              exact ct_ri hx hb hr hlocks u6 (Or.inr ⟨j, hj, rfl, Or.inl ⟨fun q => g41 (in_ba (by decide) (by decide) q), by rw [eu6, eI1]⟩⟩) hP hD hS (Nat.le_refl _) (Nat.le_refl _) dMo_word_60
    · have c19 : 1 = 0 := (nI_eq (a := 1) (b := 0) (by omega) (by omega)).mp (show nI 1 = nI 0 from c19)
      exact absurd c19 (by decide)
  · rw [if_neg g16] at hw2
    subst hw2
    refine rw_i (y := nI 0) rfl ?_
    refine lv_if_ne (tgt := 26) hx hb dMo_word_19 (by decide) (fun c19 => ?_) (fun c19 => ?_)
    · have c19 : ¬ 0 = 0 := fun q9 => c19 (show nI 0 = nI 0 from (nI_eq (a := 0) (b := 0) (by omega) (by omega)).mpr q9)
      exact absurd (by decide) c19
    · have c19 : 0 = 0 := (nI_eq (a := 0) (b := 0) (by omega) (by omega)).mp (show nI 0 = nI 0 from c19)
      refine lv_iconst (v := nI 1) hx hb dMo_word_22 (by decide +kernel) ?_
      refine lv_goto (tgt := 27) hx hb dMo_word_23 (by decide) ?_
      refine lv_iconst (v := nI 1) hx hb dMo_word_27 (by decide +kernel) ?_
      refine ct_i (va_runV (As := [.int (nI 1), .int (nI 1)]) (rest := []) ⟨hx, hb, hml, hown, hts⟩ (kMo_fails1 l dC dI k b I1 D _ 1 (by omega) (by omega) (by rw [eI1, ui_s])) (cwV 2 hts (gw_V tw_741 tw_743 sl_Mo_fails tw_9 tw_744) rfl rfl rfl (by decide +kernel) ⟨Nat.le_of_ble_eq_true rfl, Nat.le_of_ble_eq_true rfl⟩) ⟨ct_blind (ev := fun _ => True) (fun _ _ _ _ h => h), va_recv hK hP (ci := 8) (q0 := 0) rfl rfl, ct_now (ev := fun _ => True) (fun _ _ _ => trivial) hP hK hD⟩ rfl rfl hl.1 rfl (lv_room (Nat.le_of_ble_eq_true rfl)) dMo_word_28 ⟨Nat.le_of_ble_eq_true rfl, Nat.le_of_ble_eq_true rfl⟩) hD hS hA (fun r7 u7 H locs hw7 hP hD hS => ?_)
      obtain ⟨r7e, eu7⟩ := hw7
      subst r7e
      refine lv_if_ne (tgt := 59) hx hb dMo_word_31 (by decide) (fun c31 => ?_) (fun c31 => ?_)
      · have c31 : ¬ 1 = 0 := fun q9 => c31 (show nI 1 = nI 0 from (nI_eq (a := 1) (b := 0) (by omega) (by omega)).mpr q9)
        refine lv_iconst (v := nI 0) hx hb dMo_word_59 (by decide +kernel) ?_
        exact ct_ri hx hb hr hlocks u7 (Or.inl ⟨fun q => g16 (in_n0 (Nat.le_trans hn (by decide)) q), by rw [eu7, eI1]⟩) hP hD hS (Nat.le_refl _) (Nat.le_refl _) dMo_word_60
      · have c31 : 1 = 0 := (nI_eq (a := 1) (b := 0) (by omega) (by omega)).mp (show nI 1 = nI 0 from c31)
        exact absurd c31 (by decide)
set_option maxHeartbeats 4000000 in
set_option maxRecDepth 100000 in
theorem kMo_count (l : Launch) (dC : Nat → ClassId) (dI : Nat → Nat → Nat) (k : Nat → ClassId) (b : Nat → Nat) (I : Nat → Nat → Int32) (D : Nat → Nat → UInt64) (sz : Nat) (wh : Int32) (ns : Nat) (hn : ns ≤ 320) (h3 : I 0 3 = nI ns) (hsm : ∀ i, i < ns → fb_ 1057 (D 1 i)) (hc : ∀ j, j < 32 → D 7 j = hd_C j) (hsn : ∀ j, j < 32 → D 8 j = hd_S j) : Met l yMo_count wMo_count ({ frames := 3, cells := 0, slots := 0, locals := 80 }) (va_Pc [.ref (b 0), .int wh] (ct_pre (dC, dI) (mo_ty k) (fun _ => True) (wm k b I D) sz)) (va_Qi (fun r (u : Nat → Nat → Int32) => ((¬ ∃ q, 0 ≤ q ∧ q ≤ 6 ∧ wh = nI q) ∧ u = ui (ui I 0 0 (nI 0)) 0 0 (nI 1)) ∨ (∃ q, 0 ≤ q ∧ q ≤ 6 ∧ wh = nI q ∧ u = ui I 0 0 (nI 0) ∧ r = mo_ct I (D 1) (D 0 0) ns q)) (fun u t => ct_at (dC, dI) (va_A (wm k b I D) sz) ((fun u => wm k b u D) u) t) (va_A (wm k b I D) sz)) 0 0 (va_A (wm k b I D) sz) := by
  refine Met.ofW (cc := cMo_count) (maxL := 4) (ret := (some .int)) (by decide) rfl ?_
  intro p e s m args below meth c s₁ B hml hv
  obtain ⟨rfl, hsz, hP, hK, hD0, hE⟩ := hv
  have hx := B.exec
  have hb := B.bytes
  have hr := B.returns
  have hts : ∀ w ∈ W0, w.before [.ref (b 0), .int wh].toArray s = true := fun w h => atoms_spec (ws := wMo_count) B.pre w (List.mem_cons_of_mem _ h)
  have hown : s.vm.findClass RMo = some m.cls := findClass_of_methodNamed B.named
  have hlocks := B.notSynchronized
  subst hsz
  have hD := hD0.self (sz := s.heap.size)
  generalize hAe : va_A (wm k b I D) s.heap.size = A at hD ⊢
  have hA : ∀ q : Nat, s.heap.size ≤ q → A q := fun q h => by rw [← hAe]; exact Or.inr h
  have hS : va_S A s.heap s.heap [] := va_S.rf
  have hl := lv_entry ([.ref (b 0), .int wh]) (n := 4) (Nat.le_of_ble_eq_true rfl)
  rw [lg_entry_eq]
  generalize (lg_sl ([.ref (b 0), .int wh]) ++ List.replicate (4 - (lg_sl ([.ref (b 0), .int wh])).length) Slot.unset).toArray = ls at hl ⊢
  have hl : lv_has ls 4 [(0, .ref (b 0)), (1, .int wh)] := hl
  refine lp_q (fun Q9 hQ9 => ?_)
  refine lv_aload_n hx hb dMo_count_0 rfl (lv_at hl 0 rfl) ?_
  refine lv_iconst (v := nI 0) hx hb dMo_count_1 (by decide +kernel) ?_
  refine va_put (D := (dC, dI)) (ci := 8) (fs := mo_f b I D) (v := .int (nI 0)) (ty := .int) (C := RMo) (T := TMo) (N := 27) hx hb hts inMo tyMo tyMo_ok nmMo hown hK hP hD hS 0 rfl rfl 0 (by decide) (hts _ tw_647) (fun _ h9 => h9) rfl (by decide +kernel) rfl rfl (Nat.le_of_ble_eq_true rfl) dMo_count_2 (fun H locs hP hD hS => ?_)
  rw [wm_p0] at hP hD
  obtain ⟨I1, eI1⟩ : ∃ z, z = ui I 0 0 (nI 0) := ⟨_, rfl⟩
  rw [← eI1] at hP hD
  refine lv_aload_n hx hb dMo_count_5 rfl (lv_at hl 0 rfl) ?_
  refine lv_iload_n hx hb dMo_count_6 rfl (lv_at hl 1 rfl) ?_
  refine lv_i2l (v := wh.toInt64) hx hb dMo_count_7 rfl ?_
  refine lv_lconst (v := lN 0) hx hb dMo_count_8 (by decide +kernel) ?_
  refine lv_ldc2 (v := 6) hx hb hown (hts _ tw_875) dMo_count_9 ?_
  refine rw_l (y := lN 6) (by decide +kernel) ?_
  refine ct_i (va_runS (As := [.long wh.toInt64, .long (lN 0), .long (lN 6)]) (rest := [.ref (b 0)]) ⟨hx, hb, hml, hown, hts⟩ (kMo_in l dC dI k b I1 D _ wh.toInt64 (lN 0) (lN 6)) (va_cwS 3 hts (gw_S tw_738 tw_739 tw_9 tw_740) rfl rfl rfl (by decide +kernel) ⟨Nat.le_of_ble_eq_true rfl, Nat.le_of_ble_eq_true rfl⟩) ⟨ct_blind (ev := fun _ => True) (fun _ _ _ _ h => h), ct_now (ev := fun _ => True) (fun _ _ _ => trivial) hP hK hD⟩ rfl rfl hl.1 rfl (lv_room (Nat.le_of_ble_eq_true rfl)) dMo_count_12 ⟨Nat.le_of_ble_eq_true rfl, Nat.le_of_ble_eq_true rfl⟩) hD hS hA (fun r2 u2 H locs hw2 hP hD hS => ?_)
  by_cases g12 : lN 0 ≤ wh.toInt64 ∧ wh.toInt64 ≤ lN 6
  · rw [if_pos g12] at hw2
    subst hw2
    refine rw_i (y := nI 1) rfl ?_
    obtain ⟨q, q1, q2, rfl⟩ := in_ab (by decide) (by decide) g12
    refine lv_if_ne (tgt := 22) hx hb dMo_count_15 (by decide) (fun c15 => ?_) (fun c15 => ?_)
    · have c15 : ¬ 1 = 0 := fun q9 => c15 (show nI 1 = nI 0 from (nI_eq (a := 1) (b := 0) (by omega) (by omega)).mpr q9)
      refine lv_iconst (v := nI 0) hx hb dMo_count_22 (by decide +kernel) ?_
      refine lv_iconst (v := nI 1) hx hb dMo_count_23 (by decide +kernel) ?_
      refine ct_i (va_runV (As := [.int (nI 0), .int (nI 1)]) (rest := []) ⟨hx, hb, hml, hown, hts⟩ (kMo_fails0 l dC dI k b I1 D _ (nI 1) (by rw [eI1, ui_s])) (cwV 2 hts (gw_V tw_741 tw_743 sl_Mo_fails tw_9 tw_744) rfl rfl rfl (by decide +kernel) ⟨Nat.le_of_ble_eq_true rfl, Nat.le_of_ble_eq_true rfl⟩) ⟨ct_blind (ev := fun _ => True) (fun _ _ _ _ h => h), va_recv hK hP (ci := 8) (q0 := 0) rfl rfl, ct_now (ev := fun _ => True) (fun _ _ _ => trivial) hP hK hD⟩ rfl rfl hl.1 rfl (lv_room (Nat.le_of_ble_eq_true rfl)) dMo_count_24 ⟨Nat.le_of_ble_eq_true rfl, Nat.le_of_ble_eq_true rfl⟩) hD hS hA (fun r3 u3 H locs hw3 hP hD hS => ?_)
      subst hw3
      refine lv_if_eq (tgt := 32) hx hb dMo_count_27 (by decide) (fun c27 => ?_) (fun c27 => ?_)
      · have c27 : 0 = 0 := (nI_eq (a := 0) (b := 0) (by omega) (by omega)).mp (show nI 0 = nI 0 from c27)
        have hnf := nf_le hn
        rcases (show q = 0 ∨ q = 1 ∨ q = 2 ∨ q = 3 ∨ q = 4 ∨ q = 5 ∨ q = 6 by omega) with rfl | rfl | rfl | rfl | rfl | rfl | rfl
        · refine lv_iconst (v := nI 0) hx hb dMo_count_32 (by decide +kernel) ?_
          refine lv_istore_n (lv' := [(2, .int (nI 0)), (0, .ref (b 0)), (1, .int (nI 0))]) hx hb dMo_count_33 rfl hl (by decide) rfl (fun ls hl => ?_)
          refine lv_iconst (v := nI 0) hx hb dMo_count_34 (by decide +kernel) ?_
          refine lv_istore_n (lv' := [(3, .int (nI 0)), (2, .int (nI 0)), (0, .ref (b 0)), (1, .int (nI 0))]) hx hb dMo_count_35 rfl hl (by decide) rfl (fun ls hl => ?_)
          refine lv_iload_n hx hb dMo_count_36 rfl (lv_at hl 0 rfl) ?_
          refine lv_aload_n hx hb dMo_count_37 rfl (lv_at hl 2 rfl) ?_
          refine ct_i (va_runV (As := []) (rest := [.int (nI 0)]) ⟨hx, hb, hml, hown, hts⟩ (kMo_frames l dC dI k b I1 D _ ns hn (by rw [eI1, ui_n _ _ _ (by decide)]; exact h3)) (cwV 0 hts (gw_V tw_794 tw_796 sl_Mo_frames tw_9 tw_797) rfl rfl rfl (by decide +kernel) ⟨Nat.le_of_ble_eq_true rfl, Nat.le_of_ble_eq_true rfl⟩) ⟨ct_blind (ev := fun _ => True) (fun _ _ _ _ h => h), va_recv hK hP (ci := 8) (q0 := 0) rfl rfl, ct_now (ev := fun _ => True) (fun _ _ _ => trivial) hP hK hD⟩ rfl rfl hl.1 rfl (lv_room (Nat.le_of_ble_eq_true rfl)) dMo_count_38 ⟨Nat.le_of_ble_eq_true rfl, Nat.le_of_ble_eq_true rfl⟩) hD hS hA (fun r4 u4 H locs hw4 hP hD hS => ?_)
          subst hw4
          refine lv_icmp_ge (tgt := 67) hx hb dMo_count_41 (by decide) (fun c41 => ?_) (fun c41 => ?_)
          · have c41 : (hd_nf ns) ≤ 0 := (nI_leI (a := (hd_nf ns)) (b := 0) (by omega) (by omega)).mp (show nI (hd_nf ns) ≤ nI 0 from c41)
            refine lv_iload_n hx hb dMo_count_67 rfl (lv_at hl 3 rfl) ?_
            refine lv_tableIn (off := 40) (tgt := 108) hx hb dMo_count_68 (by decide +kernel) (by decide +kernel) (by decide +kernel) (by decide) ?_
            refine lv_aload_n hx hb dMo_count_108 rfl (lv_at hl 2 rfl) ?_
            refine va_get (D := (dC, dI)) (ci := 8) (v := .int (I1 0 1)) (C := RMo) (T := TMo) (N := 27) hx hb hts inMo hown hK hP 0 rfl rfl 1 (by decide) (hts _ tw_648) (fun _ h9 => h9) rfl dMo_count_109 ?_
            refine rw_i (y := I 0 1) (by rw [eI1, ui_n _ _ _ (by decide)]) ?_
            rw [hQ9]
            exact ct_ri hx hb hr hlocks I1 (Or.inr ⟨_, q1, q2, rfl, by rw [eI1], rfl⟩) hP hD hS (Nat.le_refl _) (Nat.le_refl _) dMo_count_112
          · have c41 : ¬ (hd_nf ns) ≤ 0 := fun q9 => c41 (show nI (hd_nf ns) ≤ nI 0 from (nI_leI (a := (hd_nf ns)) (b := 0) (by omega) (by omega)).mpr q9)
            refine lv_iload_n hx hb dMo_count_44 rfl (lv_at hl 3 rfl) ?_
            refine lv_bipush (v := nI 6) hx hb dMo_count_45 (by decide +kernel) ?_
            refine lv_icmp_ne (tgt := 67) hx hb dMo_count_47 (by decide) (fun c47 => ?_) (fun c47 => ?_)
            · have c47 : ¬ 0 = 6 := fun q9 => c47 (show nI 0 = nI 6 from (nI_eq (a := 0) (b := 6) (by omega) (by omega)).mpr q9)
              refine lv_iload_n hx hb dMo_count_67 rfl (lv_at hl 3 rfl) ?_
              refine lv_tableIn (off := 40) (tgt := 108) hx hb dMo_count_68 (by decide +kernel) (by decide +kernel) (by decide +kernel) (by decide) ?_
              refine lv_aload_n hx hb dMo_count_108 rfl (lv_at hl 2 rfl) ?_
              refine va_get (D := (dC, dI)) (ci := 8) (v := .int (I1 0 1)) (C := RMo) (T := TMo) (N := 27) hx hb hts inMo hown hK hP 0 rfl rfl 1 (by decide) (hts _ tw_648) (fun _ h9 => h9) rfl dMo_count_109 ?_
              refine rw_i (y := I 0 1) (by rw [eI1, ui_n _ _ _ (by decide)]) ?_
              rw [hQ9]
              exact ct_ri hx hb hr hlocks I1 (Or.inr ⟨_, q1, q2, rfl, by rw [eI1], rfl⟩) hP hD hS (Nat.le_refl _) (Nat.le_refl _) dMo_count_112
            · have c47 : 0 = 6 := (nI_eq (a := 0) (b := 6) (by omega) (by omega)).mp (show nI 0 = nI 6 from c47)
              exact absurd c47 (by decide)
        · refine lv_iconst (v := nI 0) hx hb dMo_count_32 (by decide +kernel) ?_
          refine lv_istore_n (lv' := [(2, .int (nI 0)), (0, .ref (b 0)), (1, .int (nI 1))]) hx hb dMo_count_33 rfl hl (by decide) rfl (fun ls hl => ?_)
          refine lv_iconst (v := nI 0) hx hb dMo_count_34 (by decide +kernel) ?_
          refine lv_istore_n (lv' := [(3, .int (nI 0)), (2, .int (nI 0)), (0, .ref (b 0)), (1, .int (nI 1))]) hx hb dMo_count_35 rfl hl (by decide) rfl (fun ls hl => ?_)
          refine lv_iload_n hx hb dMo_count_36 rfl (lv_at hl 0 rfl) ?_
          refine lv_aload_n hx hb dMo_count_37 rfl (lv_at hl 2 rfl) ?_
          refine ct_i (va_runV (As := []) (rest := [.int (nI 0)]) ⟨hx, hb, hml, hown, hts⟩ (kMo_frames l dC dI k b I1 D _ ns hn (by rw [eI1, ui_n _ _ _ (by decide)]; exact h3)) (cwV 0 hts (gw_V tw_794 tw_796 sl_Mo_frames tw_9 tw_797) rfl rfl rfl (by decide +kernel) ⟨Nat.le_of_ble_eq_true rfl, Nat.le_of_ble_eq_true rfl⟩) ⟨ct_blind (ev := fun _ => True) (fun _ _ _ _ h => h), va_recv hK hP (ci := 8) (q0 := 0) rfl rfl, ct_now (ev := fun _ => True) (fun _ _ _ => trivial) hP hK hD⟩ rfl rfl hl.1 rfl (lv_room (Nat.le_of_ble_eq_true rfl)) dMo_count_38 ⟨Nat.le_of_ble_eq_true rfl, Nat.le_of_ble_eq_true rfl⟩) hD hS hA (fun r5 u5 H locs hw5 hP hD hS => ?_)
          subst hw5
          refine lv_icmp_ge (tgt := 67) hx hb dMo_count_41 (by decide) (fun c41 => ?_) (fun c41 => ?_)
          · have c41 : (hd_nf ns) ≤ 0 := (nI_leI (a := (hd_nf ns)) (b := 0) (by omega) (by omega)).mp (show nI (hd_nf ns) ≤ nI 0 from c41)
            refine lv_iload_n hx hb dMo_count_67 rfl (lv_at hl 3 rfl) ?_
            refine lv_tableIn (off := 45) (tgt := 113) hx hb dMo_count_68 (by decide +kernel) (by decide +kernel) (by decide +kernel) (by decide) ?_
            refine lv_aload_n hx hb dMo_count_113 rfl (lv_at hl 2 rfl) ?_
            refine va_get (D := (dC, dI)) (ci := 8) (v := .int (I1 0 3)) (C := RMo) (T := TMo) (N := 27) hx hb hts inMo hown hK hP 0 rfl rfl 3 (by decide) (hts _ tw_650) (fun _ h9 => h9) rfl dMo_count_114 ?_
            refine rw_i (y := I 0 3) (by rw [eI1, ui_n _ _ _ (by decide)]) ?_
            refine rw_i (y := nI ns) h3 ?_
            rw [hQ9]
            exact ct_ri hx hb hr hlocks I1 (Or.inr ⟨_, q1, q2, rfl, by rw [eI1], rfl⟩) hP hD hS (Nat.le_refl _) (Nat.le_refl _) dMo_count_117
          · have c41 : ¬ (hd_nf ns) ≤ 0 := fun q9 => c41 (show nI (hd_nf ns) ≤ nI 0 from (nI_leI (a := (hd_nf ns)) (b := 0) (by omega) (by omega)).mpr q9)
            refine lv_iload_n hx hb dMo_count_44 rfl (lv_at hl 3 rfl) ?_
            refine lv_bipush (v := nI 6) hx hb dMo_count_45 (by decide +kernel) ?_
            refine lv_icmp_ne (tgt := 67) hx hb dMo_count_47 (by decide) (fun c47 => ?_) (fun c47 => ?_)
            · have c47 : ¬ 1 = 6 := fun q9 => c47 (show nI 1 = nI 6 from (nI_eq (a := 1) (b := 6) (by omega) (by omega)).mpr q9)
              refine lv_iload_n hx hb dMo_count_67 rfl (lv_at hl 3 rfl) ?_
              refine lv_tableIn (off := 45) (tgt := 113) hx hb dMo_count_68 (by decide +kernel) (by decide +kernel) (by decide +kernel) (by decide) ?_
              refine lv_aload_n hx hb dMo_count_113 rfl (lv_at hl 2 rfl) ?_
              refine va_get (D := (dC, dI)) (ci := 8) (v := .int (I1 0 3)) (C := RMo) (T := TMo) (N := 27) hx hb hts inMo hown hK hP 0 rfl rfl 3 (by decide) (hts _ tw_650) (fun _ h9 => h9) rfl dMo_count_114 ?_
              refine rw_i (y := I 0 3) (by rw [eI1, ui_n _ _ _ (by decide)]) ?_
              refine rw_i (y := nI ns) h3 ?_
              rw [hQ9]
              exact ct_ri hx hb hr hlocks I1 (Or.inr ⟨_, q1, q2, rfl, by rw [eI1], rfl⟩) hP hD hS (Nat.le_refl _) (Nat.le_refl _) dMo_count_117
            · have c47 : 1 = 6 := (nI_eq (a := 1) (b := 6) (by omega) (by omega)).mp (show nI 1 = nI 6 from c47)
              exact absurd c47 (by decide)
        · refine lv_iconst (v := nI 0) hx hb dMo_count_32 (by decide +kernel) ?_
          refine lv_istore_n (lv' := [(2, .int (nI 0)), (0, .ref (b 0)), (1, .int (nI 2))]) hx hb dMo_count_33 rfl hl (by decide) rfl (fun ls hl => ?_)
          refine lv_iconst (v := nI 0) hx hb dMo_count_34 (by decide +kernel) ?_
          refine lv_istore_n (lv' := [(3, .int (nI 0)), (2, .int (nI 0)), (0, .ref (b 0)), (1, .int (nI 2))]) hx hb dMo_count_35 rfl hl (by decide) rfl (fun ls hl => ?_)
          refine lv_iload_n hx hb dMo_count_36 rfl (lv_at hl 0 rfl) ?_
          refine lv_aload_n hx hb dMo_count_37 rfl (lv_at hl 2 rfl) ?_
          refine ct_i (va_runV (As := []) (rest := [.int (nI 0)]) ⟨hx, hb, hml, hown, hts⟩ (kMo_frames l dC dI k b I1 D _ ns hn (by rw [eI1, ui_n _ _ _ (by decide)]; exact h3)) (cwV 0 hts (gw_V tw_794 tw_796 sl_Mo_frames tw_9 tw_797) rfl rfl rfl (by decide +kernel) ⟨Nat.le_of_ble_eq_true rfl, Nat.le_of_ble_eq_true rfl⟩) ⟨ct_blind (ev := fun _ => True) (fun _ _ _ _ h => h), va_recv hK hP (ci := 8) (q0 := 0) rfl rfl, ct_now (ev := fun _ => True) (fun _ _ _ => trivial) hP hK hD⟩ rfl rfl hl.1 rfl (lv_room (Nat.le_of_ble_eq_true rfl)) dMo_count_38 ⟨Nat.le_of_ble_eq_true rfl, Nat.le_of_ble_eq_true rfl⟩) hD hS hA (fun r6 u6 H locs hw6 hP hD hS => ?_)
          subst hw6
          refine lv_icmp_ge (tgt := 67) hx hb dMo_count_41 (by decide) (fun c41 => ?_) (fun c41 => ?_)
          · have c41 : (hd_nf ns) ≤ 0 := (nI_leI (a := (hd_nf ns)) (b := 0) (by omega) (by omega)).mp (show nI (hd_nf ns) ≤ nI 0 from c41)
            refine lv_iload_n hx hb dMo_count_67 rfl (lv_at hl 3 rfl) ?_
            refine lv_tableIn (off := 50) (tgt := 118) hx hb dMo_count_68 (by decide +kernel) (by decide +kernel) (by decide +kernel) (by decide) ?_
            refine lv_aload_n hx hb dMo_count_118 rfl (lv_at hl 2 rfl) ?_
            refine ct_i (va_runV (As := []) (rest := []) ⟨hx, hb, hml, hown, hts⟩ (kMo_frames l dC dI k b I1 D _ ns hn (by rw [eI1, ui_n _ _ _ (by decide)]; exact h3)) (cwV 0 hts (gw_V tw_794 tw_796 sl_Mo_frames tw_9 tw_797) rfl rfl rfl (by decide +kernel) ⟨Nat.le_of_ble_eq_true rfl, Nat.le_of_ble_eq_true rfl⟩) ⟨ct_blind (ev := fun _ => True) (fun _ _ _ _ h => h), va_recv hK hP (ci := 8) (q0 := 0) rfl rfl, ct_now (ev := fun _ => True) (fun _ _ _ => trivial) hP hK hD⟩ rfl rfl hl.1 rfl (lv_room (Nat.le_of_ble_eq_true rfl)) dMo_count_119 ⟨Nat.le_of_ble_eq_true rfl, Nat.le_of_ble_eq_true rfl⟩) hD hS hA (fun r7 u7 H locs hw7 hP hD hS => ?_)
            subst hw7
            rw [hQ9]
            exact ct_ri hx hb hr hlocks I1 (Or.inr ⟨_, q1, q2, rfl, by rw [eI1], rfl⟩) hP hD hS (Nat.le_refl _) (Nat.le_refl _) dMo_count_122
          · have c41 : ¬ (hd_nf ns) ≤ 0 := fun q9 => c41 (show nI (hd_nf ns) ≤ nI 0 from (nI_leI (a := (hd_nf ns)) (b := 0) (by omega) (by omega)).mpr q9)
            refine lv_iload_n hx hb dMo_count_44 rfl (lv_at hl 3 rfl) ?_
            refine lv_bipush (v := nI 6) hx hb dMo_count_45 (by decide +kernel) ?_
            refine lv_icmp_ne (tgt := 67) hx hb dMo_count_47 (by decide) (fun c47 => ?_) (fun c47 => ?_)
            · have c47 : ¬ 2 = 6 := fun q9 => c47 (show nI 2 = nI 6 from (nI_eq (a := 2) (b := 6) (by omega) (by omega)).mpr q9)
              refine lv_iload_n hx hb dMo_count_67 rfl (lv_at hl 3 rfl) ?_
              refine lv_tableIn (off := 50) (tgt := 118) hx hb dMo_count_68 (by decide +kernel) (by decide +kernel) (by decide +kernel) (by decide) ?_
              refine lv_aload_n hx hb dMo_count_118 rfl (lv_at hl 2 rfl) ?_
              refine ct_i (va_runV (As := []) (rest := []) ⟨hx, hb, hml, hown, hts⟩ (kMo_frames l dC dI k b I1 D _ ns hn (by rw [eI1, ui_n _ _ _ (by decide)]; exact h3)) (cwV 0 hts (gw_V tw_794 tw_796 sl_Mo_frames tw_9 tw_797) rfl rfl rfl (by decide +kernel) ⟨Nat.le_of_ble_eq_true rfl, Nat.le_of_ble_eq_true rfl⟩) ⟨ct_blind (ev := fun _ => True) (fun _ _ _ _ h => h), va_recv hK hP (ci := 8) (q0 := 0) rfl rfl, ct_now (ev := fun _ => True) (fun _ _ _ => trivial) hP hK hD⟩ rfl rfl hl.1 rfl (lv_room (Nat.le_of_ble_eq_true rfl)) dMo_count_119 ⟨Nat.le_of_ble_eq_true rfl, Nat.le_of_ble_eq_true rfl⟩) hD hS hA (fun r8 u8 H locs hw8 hP hD hS => ?_)
              subst hw8
              rw [hQ9]
              exact ct_ri hx hb hr hlocks I1 (Or.inr ⟨_, q1, q2, rfl, by rw [eI1], rfl⟩) hP hD hS (Nat.le_refl _) (Nat.le_refl _) dMo_count_122
            · have c47 : 2 = 6 := (nI_eq (a := 2) (b := 6) (by omega) (by omega)).mp (show nI 2 = nI 6 from c47)
              exact absurd c47 (by decide)
        · refine lv_iconst (v := nI 0) hx hb dMo_count_32 (by decide +kernel) ?_
          refine lv_istore_n (lv' := [(2, .int (nI 0)), (0, .ref (b 0)), (1, .int (nI 3))]) hx hb dMo_count_33 rfl hl (by decide) rfl (fun ls hl => ?_)
          refine lv_iconst (v := nI 0) hx hb dMo_count_34 (by decide +kernel) ?_
          refine lv_istore_n (lv' := [(3, .int (nI 0)), (2, .int (nI 0)), (0, .ref (b 0)), (1, .int (nI 3))]) hx hb dMo_count_35 rfl hl (by decide) rfl (fun ls hl => ?_)
          refine lv_iload_n hx hb dMo_count_36 rfl (lv_at hl 0 rfl) ?_
          refine lv_aload_n hx hb dMo_count_37 rfl (lv_at hl 2 rfl) ?_
          refine ct_i (va_runV (As := []) (rest := [.int (nI 0)]) ⟨hx, hb, hml, hown, hts⟩ (kMo_frames l dC dI k b I1 D _ ns hn (by rw [eI1, ui_n _ _ _ (by decide)]; exact h3)) (cwV 0 hts (gw_V tw_794 tw_796 sl_Mo_frames tw_9 tw_797) rfl rfl rfl (by decide +kernel) ⟨Nat.le_of_ble_eq_true rfl, Nat.le_of_ble_eq_true rfl⟩) ⟨ct_blind (ev := fun _ => True) (fun _ _ _ _ h => h), va_recv hK hP (ci := 8) (q0 := 0) rfl rfl, ct_now (ev := fun _ => True) (fun _ _ _ => trivial) hP hK hD⟩ rfl rfl hl.1 rfl (lv_room (Nat.le_of_ble_eq_true rfl)) dMo_count_38 ⟨Nat.le_of_ble_eq_true rfl, Nat.le_of_ble_eq_true rfl⟩) hD hS hA (fun r9 u9 H locs hw9 hP hD hS => ?_)
          subst hw9
          refine lv_icmp_ge (tgt := 67) hx hb dMo_count_41 (by decide) (fun c41 => ?_) (fun c41 => ?_)
          · have c41 : (hd_nf ns) ≤ 0 := (nI_leI (a := (hd_nf ns)) (b := 0) (by omega) (by omega)).mp (show nI (hd_nf ns) ≤ nI 0 from c41)
            refine lv_iload_n hx hb dMo_count_67 rfl (lv_at hl 3 rfl) ?_
            refine lv_tableIn (off := 55) (tgt := 123) hx hb dMo_count_68 (by decide +kernel) (by decide +kernel) (by decide +kernel) (by decide) ?_
            refine lv_aload_n hx hb dMo_count_123 rfl (lv_at hl 2 rfl) ?_
            refine va_get (D := (dC, dI)) (ci := 8) (v := .int (I1 0 4)) (C := RMo) (T := TMo) (N := 27) hx hb hts inMo hown hK hP 0 rfl rfl 4 (by decide) (hts _ tw_651) (fun _ h9 => h9) rfl dMo_count_124 ?_
            refine rw_i (y := I 0 4) (by rw [eI1, ui_n _ _ _ (by decide)]) ?_
            rw [hQ9]
            exact ct_ri hx hb hr hlocks I1 (Or.inr ⟨_, q1, q2, rfl, by rw [eI1], rfl⟩) hP hD hS (Nat.le_refl _) (Nat.le_refl _) dMo_count_127
          · have c41 : ¬ (hd_nf ns) ≤ 0 := fun q9 => c41 (show nI (hd_nf ns) ≤ nI 0 from (nI_leI (a := (hd_nf ns)) (b := 0) (by omega) (by omega)).mpr q9)
            refine lv_iload_n hx hb dMo_count_44 rfl (lv_at hl 3 rfl) ?_
            refine lv_bipush (v := nI 6) hx hb dMo_count_45 (by decide +kernel) ?_
            refine lv_icmp_ne (tgt := 67) hx hb dMo_count_47 (by decide) (fun c47 => ?_) (fun c47 => ?_)
            · have c47 : ¬ 3 = 6 := fun q9 => c47 (show nI 3 = nI 6 from (nI_eq (a := 3) (b := 6) (by omega) (by omega)).mpr q9)
              refine lv_iload_n hx hb dMo_count_67 rfl (lv_at hl 3 rfl) ?_
              refine lv_tableIn (off := 55) (tgt := 123) hx hb dMo_count_68 (by decide +kernel) (by decide +kernel) (by decide +kernel) (by decide) ?_
              refine lv_aload_n hx hb dMo_count_123 rfl (lv_at hl 2 rfl) ?_
              refine va_get (D := (dC, dI)) (ci := 8) (v := .int (I1 0 4)) (C := RMo) (T := TMo) (N := 27) hx hb hts inMo hown hK hP 0 rfl rfl 4 (by decide) (hts _ tw_651) (fun _ h9 => h9) rfl dMo_count_124 ?_
              refine rw_i (y := I 0 4) (by rw [eI1, ui_n _ _ _ (by decide)]) ?_
              rw [hQ9]
              exact ct_ri hx hb hr hlocks I1 (Or.inr ⟨_, q1, q2, rfl, by rw [eI1], rfl⟩) hP hD hS (Nat.le_refl _) (Nat.le_refl _) dMo_count_127
            · have c47 : 3 = 6 := (nI_eq (a := 3) (b := 6) (by omega) (by omega)).mp (show nI 3 = nI 6 from c47)
              exact absurd c47 (by decide)
        · refine lv_iconst (v := nI 0) hx hb dMo_count_32 (by decide +kernel) ?_
          refine lv_istore_n (lv' := [(2, .int (nI 0)), (0, .ref (b 0)), (1, .int (nI 4))]) hx hb dMo_count_33 rfl hl (by decide) rfl (fun ls hl => ?_)
          refine lv_iconst (v := nI 0) hx hb dMo_count_34 (by decide +kernel) ?_
          refine lv_istore_n (lv' := [(3, .int (nI 0)), (2, .int (nI 0)), (0, .ref (b 0)), (1, .int (nI 4))]) hx hb dMo_count_35 rfl hl (by decide) rfl (fun ls hl => ?_)
          refine lv_iload_n hx hb dMo_count_36 rfl (lv_at hl 0 rfl) ?_
          refine lv_aload_n hx hb dMo_count_37 rfl (lv_at hl 2 rfl) ?_
          refine ct_i (va_runV (As := []) (rest := [.int (nI 0)]) ⟨hx, hb, hml, hown, hts⟩ (kMo_frames l dC dI k b I1 D _ ns hn (by rw [eI1, ui_n _ _ _ (by decide)]; exact h3)) (cwV 0 hts (gw_V tw_794 tw_796 sl_Mo_frames tw_9 tw_797) rfl rfl rfl (by decide +kernel) ⟨Nat.le_of_ble_eq_true rfl, Nat.le_of_ble_eq_true rfl⟩) ⟨ct_blind (ev := fun _ => True) (fun _ _ _ _ h => h), va_recv hK hP (ci := 8) (q0 := 0) rfl rfl, ct_now (ev := fun _ => True) (fun _ _ _ => trivial) hP hK hD⟩ rfl rfl hl.1 rfl (lv_room (Nat.le_of_ble_eq_true rfl)) dMo_count_38 ⟨Nat.le_of_ble_eq_true rfl, Nat.le_of_ble_eq_true rfl⟩) hD hS hA (fun r10 u10 H locs hw10 hP hD hS => ?_)
          subst hw10
          refine lv_icmp_ge (tgt := 67) hx hb dMo_count_41 (by decide) (fun c41 => ?_) (fun c41 => ?_)
          · have c41 : (hd_nf ns) ≤ 0 := (nI_leI (a := (hd_nf ns)) (b := 0) (by omega) (by omega)).mp (show nI (hd_nf ns) ≤ nI 0 from c41)
            refine lv_iload_n hx hb dMo_count_67 rfl (lv_at hl 3 rfl) ?_
            refine lv_tableIn (off := 60) (tgt := 128) hx hb dMo_count_68 (by decide +kernel) (by decide +kernel) (by decide +kernel) (by decide) ?_
            refine lv_aload_n hx hb dMo_count_128 rfl (lv_at hl 2 rfl) ?_
            refine va_get (D := (dC, dI)) (ci := 8) (v := .int (I1 0 5)) (C := RMo) (T := TMo) (N := 27) hx hb hts inMo hown hK hP 0 rfl rfl 5 (by decide) (hts _ tw_652) (fun _ h9 => h9) rfl dMo_count_129 ?_
            refine rw_i (y := I 0 5) (by rw [eI1, ui_n _ _ _ (by decide)]) ?_
            rw [hQ9]
            exact ct_ri hx hb hr hlocks I1 (Or.inr ⟨_, q1, q2, rfl, by rw [eI1], rfl⟩) hP hD hS (Nat.le_refl _) (Nat.le_refl _) dMo_count_132
          · have c41 : ¬ (hd_nf ns) ≤ 0 := fun q9 => c41 (show nI (hd_nf ns) ≤ nI 0 from (nI_leI (a := (hd_nf ns)) (b := 0) (by omega) (by omega)).mpr q9)
            refine lv_iload_n hx hb dMo_count_44 rfl (lv_at hl 3 rfl) ?_
            refine lv_bipush (v := nI 6) hx hb dMo_count_45 (by decide +kernel) ?_
            refine lv_icmp_ne (tgt := 67) hx hb dMo_count_47 (by decide) (fun c47 => ?_) (fun c47 => ?_)
            · have c47 : ¬ 4 = 6 := fun q9 => c47 (show nI 4 = nI 6 from (nI_eq (a := 4) (b := 6) (by omega) (by omega)).mpr q9)
              refine lv_iload_n hx hb dMo_count_67 rfl (lv_at hl 3 rfl) ?_
              refine lv_tableIn (off := 60) (tgt := 128) hx hb dMo_count_68 (by decide +kernel) (by decide +kernel) (by decide +kernel) (by decide) ?_
              refine lv_aload_n hx hb dMo_count_128 rfl (lv_at hl 2 rfl) ?_
              refine va_get (D := (dC, dI)) (ci := 8) (v := .int (I1 0 5)) (C := RMo) (T := TMo) (N := 27) hx hb hts inMo hown hK hP 0 rfl rfl 5 (by decide) (hts _ tw_652) (fun _ h9 => h9) rfl dMo_count_129 ?_
              refine rw_i (y := I 0 5) (by rw [eI1, ui_n _ _ _ (by decide)]) ?_
              rw [hQ9]
              exact ct_ri hx hb hr hlocks I1 (Or.inr ⟨_, q1, q2, rfl, by rw [eI1], rfl⟩) hP hD hS (Nat.le_refl _) (Nat.le_refl _) dMo_count_132
            · have c47 : 4 = 6 := (nI_eq (a := 4) (b := 6) (by omega) (by omega)).mp (show nI 4 = nI 6 from c47)
              exact absurd c47 (by decide)
        · refine lv_iconst (v := nI 0) hx hb dMo_count_32 (by decide +kernel) ?_
          refine lv_istore_n (lv' := [(2, .int (nI 0)), (0, .ref (b 0)), (1, .int (nI 5))]) hx hb dMo_count_33 rfl hl (by decide) rfl (fun ls hl => ?_)
          refine lv_iconst (v := nI 0) hx hb dMo_count_34 (by decide +kernel) ?_
          refine lv_istore_n (lv' := [(3, .int (nI 0)), (2, .int (nI 0)), (0, .ref (b 0)), (1, .int (nI 5))]) hx hb dMo_count_35 rfl hl (by decide) rfl (fun ls hl => ?_)
          refine lv_iload_n hx hb dMo_count_36 rfl (lv_at hl 0 rfl) ?_
          refine lv_aload_n hx hb dMo_count_37 rfl (lv_at hl 2 rfl) ?_
          refine ct_i (va_runV (As := []) (rest := [.int (nI 0)]) ⟨hx, hb, hml, hown, hts⟩ (kMo_frames l dC dI k b I1 D _ ns hn (by rw [eI1, ui_n _ _ _ (by decide)]; exact h3)) (cwV 0 hts (gw_V tw_794 tw_796 sl_Mo_frames tw_9 tw_797) rfl rfl rfl (by decide +kernel) ⟨Nat.le_of_ble_eq_true rfl, Nat.le_of_ble_eq_true rfl⟩) ⟨ct_blind (ev := fun _ => True) (fun _ _ _ _ h => h), va_recv hK hP (ci := 8) (q0 := 0) rfl rfl, ct_now (ev := fun _ => True) (fun _ _ _ => trivial) hP hK hD⟩ rfl rfl hl.1 rfl (lv_room (Nat.le_of_ble_eq_true rfl)) dMo_count_38 ⟨Nat.le_of_ble_eq_true rfl, Nat.le_of_ble_eq_true rfl⟩) hD hS hA (fun r11 u11 H locs hw11 hP hD hS => ?_)
          subst hw11
          refine lv_icmp_ge (tgt := 67) hx hb dMo_count_41 (by decide) (fun c41 => ?_) (fun c41 => ?_)
          · have c41 : (hd_nf ns) ≤ 0 := (nI_leI (a := (hd_nf ns)) (b := 0) (by omega) (by omega)).mp (show nI (hd_nf ns) ≤ nI 0 from c41)
            refine lv_iload_n hx hb dMo_count_67 rfl (lv_at hl 3 rfl) ?_
            refine lv_tableIn (off := 65) (tgt := 133) hx hb dMo_count_68 (by decide +kernel) (by decide +kernel) (by decide +kernel) (by decide) ?_
            refine lv_aload_n hx hb dMo_count_133 rfl (lv_at hl 2 rfl) ?_
            refine va_get (D := (dC, dI)) (ci := 8) (v := .int (I1 0 6)) (C := RMo) (T := TMo) (N := 27) hx hb hts inMo hown hK hP 0 rfl rfl 6 (by decide) (hts _ tw_653) (fun _ h9 => h9) rfl dMo_count_134 ?_
            refine rw_i (y := I 0 6) (by rw [eI1, ui_n _ _ _ (by decide)]) ?_
            rw [hQ9]
            exact ct_ri hx hb hr hlocks I1 (Or.inr ⟨_, q1, q2, rfl, by rw [eI1], rfl⟩) hP hD hS (Nat.le_refl _) (Nat.le_refl _) dMo_count_137
          · have c41 : ¬ (hd_nf ns) ≤ 0 := fun q9 => c41 (show nI (hd_nf ns) ≤ nI 0 from (nI_leI (a := (hd_nf ns)) (b := 0) (by omega) (by omega)).mpr q9)
            refine lv_iload_n hx hb dMo_count_44 rfl (lv_at hl 3 rfl) ?_
            refine lv_bipush (v := nI 6) hx hb dMo_count_45 (by decide +kernel) ?_
            refine lv_icmp_ne (tgt := 67) hx hb dMo_count_47 (by decide) (fun c47 => ?_) (fun c47 => ?_)
            · have c47 : ¬ 5 = 6 := fun q9 => c47 (show nI 5 = nI 6 from (nI_eq (a := 5) (b := 6) (by omega) (by omega)).mpr q9)
              refine lv_iload_n hx hb dMo_count_67 rfl (lv_at hl 3 rfl) ?_
              refine lv_tableIn (off := 65) (tgt := 133) hx hb dMo_count_68 (by decide +kernel) (by decide +kernel) (by decide +kernel) (by decide) ?_
              refine lv_aload_n hx hb dMo_count_133 rfl (lv_at hl 2 rfl) ?_
              refine va_get (D := (dC, dI)) (ci := 8) (v := .int (I1 0 6)) (C := RMo) (T := TMo) (N := 27) hx hb hts inMo hown hK hP 0 rfl rfl 6 (by decide) (hts _ tw_653) (fun _ h9 => h9) rfl dMo_count_134 ?_
              refine rw_i (y := I 0 6) (by rw [eI1, ui_n _ _ _ (by decide)]) ?_
              rw [hQ9]
              exact ct_ri hx hb hr hlocks I1 (Or.inr ⟨_, q1, q2, rfl, by rw [eI1], rfl⟩) hP hD hS (Nat.le_refl _) (Nat.le_refl _) dMo_count_137
            · have c47 : 5 = 6 := (nI_eq (a := 5) (b := 6) (by omega) (by omega)).mp (show nI 5 = nI 6 from c47)
              exact absurd c47 (by decide)
        · refine lv_iconst (v := nI 0) hx hb dMo_count_32 (by decide +kernel) ?_
          refine lv_istore_n (lv' := [(2, .int (nI 0)), (0, .ref (b 0)), (1, .int (nI 6))]) hx hb dMo_count_33 rfl hl (by decide) rfl (fun ls hl => ?_)
          refine lv_iconst (v := nI 0) hx hb dMo_count_34 (by decide +kernel) ?_
          refine lv_istore_n (lv' := [(3, .int (nI 0)), (2, .int (nI 0)), (0, .ref (b 0)), (1, .int (nI 6))]) hx hb dMo_count_35 rfl hl (by decide) rfl (fun ls hl => ?_)
          have L36 : ∀ (n36 : Nat) (f : Nat), hd_nf ns - f < n36 → f ≤ hd_nf ns → ∀ (H : Heap) (locs : List Loc), va_P (dC, dI) vwCl (wm k b I1 D) H → va_D A (wm k b I1 D) → va_S A s.heap H locs → ∀ ls : Array Slot, lv_has ls 4 [(0, .ref (b 0)), (1, .int (nI 6)), (2, .int (nI (ld_cnt (D 1) (D 0 0) f))), (3, .int (nI f))] → W p l e (headSpec wMo_count ({ frames := 3, cells := 0, slots := 0, locals := 80 })).room s m [.ref (b 0), .int (nI 6)].toArray below meth c H locs 0 0 Q9 (F0 m 36 ls []) := by
            intro n36
            induction n36 with
            | zero => intro f hm; exact absurd hm (Nat.not_lt_zero _)
            | succ n36 ih36 =>
              intro f hm36 hf H locs hP hD hS ls hl
              refine lv_iload_n hx hb dMo_count_36 rfl (lv_at hl 3 rfl) ?_
              refine lv_aload_n hx hb dMo_count_37 rfl (lv_at hl 0 rfl) ?_
              refine ct_i (va_runV (As := []) (rest := [.int (nI f)]) ⟨hx, hb, hml, hown, hts⟩ (kMo_frames l dC dI k b I1 D _ ns hn (by rw [eI1, ui_n _ _ _ (by decide)]; exact h3)) (cwV 0 hts (gw_V tw_794 tw_796 sl_Mo_frames tw_9 tw_797) rfl rfl rfl (by decide +kernel) ⟨Nat.le_of_ble_eq_true rfl, Nat.le_of_ble_eq_true rfl⟩) ⟨ct_blind (ev := fun _ => True) (fun _ _ _ _ h => h), va_recv hK hP (ci := 8) (q0 := 0) rfl rfl, ct_now (ev := fun _ => True) (fun _ _ _ => trivial) hP hK hD⟩ rfl rfl hl.1 rfl (lv_room (Nat.le_of_ble_eq_true rfl)) dMo_count_38 ⟨Nat.le_of_ble_eq_true rfl, Nat.le_of_ble_eq_true rfl⟩) hD hS hA (fun r12 u12 H locs hw12 hP hD hS => ?_)
              subst hw12
              refine lv_icmp_ge (tgt := 67) hx hb dMo_count_41 (by decide) (fun c41 => ?_) (fun c41 => ?_)
              · have c41 : (hd_nf ns) ≤ f := (nI_leI (a := (hd_nf ns)) (b := f) (by omega) (by omega)).mp (show nI (hd_nf ns) ≤ nI f from c41)
                obtain rfl : f = hd_nf ns := by omega
                refine lv_iload_n hx hb dMo_count_67 rfl (lv_at hl 1 rfl) ?_
                refine lv_tableOut (tgt := 138) hx hb dMo_count_68 (by decide +kernel) (by decide) ?_
                refine lv_iload_n hx hb dMo_count_138 rfl (lv_at hl 2 rfl) ?_
                rw [hQ9]
                exact ct_ri hx hb hr hlocks I1 (Or.inr ⟨_, q1, q2, rfl, by rw [eI1], rfl⟩) hP hD hS (Nat.le_refl _) (Nat.le_refl _) dMo_count_139
              · have c41 : ¬ (hd_nf ns) ≤ f := fun q9 => c41 (show nI (hd_nf ns) ≤ nI f from (nI_leI (a := (hd_nf ns)) (b := f) (by omega) (by omega)).mpr q9)
                have hf2 := nf_lt (n := ns) (j := f) (by omega)
                refine lv_iload_n hx hb dMo_count_44 rfl (lv_at hl 1 rfl) ?_
                refine lv_bipush (v := nI 6) hx hb dMo_count_45 (by decide +kernel) ?_
                refine lv_icmp_ne (tgt := 67) hx hb dMo_count_47 (by decide) (fun c47 => ?_) (fun c47 => ?_)
                · have c47 : ¬ 6 = 6 := fun q9 => c47 (show nI 6 = nI 6 from (nI_eq (a := 6) (b := 6) (by omega) (by omega)).mpr q9)
                  exact absurd (by decide) c47
                · have c47 : 6 = 6 := (nI_eq (a := 6) (b := 6) (by omega) (by omega)).mp (show nI 6 = nI 6 from c47)
                  refine lv_aload_n hx hb dMo_count_50 rfl (lv_at hl 0 rfl) ?_
                  refine lv_iload_n hx hb dMo_count_51 rfl (lv_at hl 3 rfl) ?_
                  refine ct_i (va_runV (As := [.int (nI f)]) (rest := []) ⟨hx, hb, hml, hown, hts⟩ (kMo_isLoud l dC dI k b I1 D _ f (by omega) (fun i hi => hsm _ (by omega)) hc hsn) (cwV 1 hts (gw_V tw_854 tw_856 sl_Mo_isLoud tw_9 tw_857) rfl rfl rfl (by decide +kernel) ⟨Nat.le_of_ble_eq_true rfl, Nat.le_of_ble_eq_true rfl⟩) ⟨ct_blind (ev := fun _ => True) (fun _ _ _ _ h => h), va_recv hK hP (ci := 8) (q0 := 0) rfl rfl, ct_now (ev := fun _ => True) (fun _ _ _ => trivial) hP hK hD⟩ rfl rfl hl.1 rfl (lv_room (Nat.le_of_ble_eq_true rfl)) dMo_count_52 ⟨Nat.le_of_ble_eq_true rfl, Nat.le_of_ble_eq_true rfl⟩) hD hS hA (fun r13 u13 H locs hw13 hP hD hS => ?_)
                  by_cases g52 : hd_ld (D 1) f (D 0 0)
                  · rw [if_pos g52] at hw13
                    subst hw13
                    refine rw_i (y := nI 1) rfl ?_
                    refine lv_if_eq (tgt := 61) hx hb dMo_count_55 (by decide) (fun c55 => ?_) (fun c55 => ?_)
                    · have c55 : 1 = 0 := (nI_eq (a := 1) (b := 0) (by omega) (by omega)).mp (show nI 1 = nI 0 from c55)
                      exact absurd c55 (by decide)
                    · have c55 : ¬ 1 = 0 := fun q9 => c55 (show nI 1 = nI 0 from (nI_eq (a := 1) (b := 0) (by omega) (by omega)).mpr q9)
                      refine lv_iinc (v := nI (ld_cnt (D 1) (D 0 0) (f + 1))) (lv' := [(2, .int (nI (ld_cnt (D 1) (D 0 0) (f + 1)))), (0, .ref (b 0)), (1, .int (nI 6)), (3, .int (nI f))]) hx hb dMo_count_58 hl (k := 2) rfl ((nI_1 _).trans (by rw [ld_s1 g52])) (by decide) rfl (fun ls hl => ?_)
                      refine lv_iinc (v := nI (f + 1)) (lv' := [(3, .int (nI (f + 1))), (2, .int (nI (ld_cnt (D 1) (D 0 0) (f + 1)))), (0, .ref (b 0)), (1, .int (nI 6))]) hx hb dMo_count_61 hl (k := 3) rfl (nI_1 _) (by decide) rfl (fun ls hl => ?_)
                      refine lv_goto (tgt := 36) hx hb dMo_count_64 (by decide) ?_
                      exact ih36 (f + 1) (by omega) (by omega) _ _ hP hD hS ls (lv_sub hl [2, 3, 1, 0] rfl)
                  · rw [if_neg g52] at hw13
                    subst hw13
                    refine rw_i (y := nI 0) rfl ?_
                    refine lv_if_eq (tgt := 61) hx hb dMo_count_55 (by decide) (fun c55 => ?_) (fun c55 => ?_)
                    · have c55 : 0 = 0 := (nI_eq (a := 0) (b := 0) (by omega) (by omega)).mp (show nI 0 = nI 0 from c55)
                      rw [← ld_s0 g52] at hl
                      refine lv_iinc (v := nI (f + 1)) (lv' := [(3, .int (nI (f + 1))), (0, .ref (b 0)), (1, .int (nI 6)), (2, .int (nI (ld_cnt (D 1) (D 0 0) (f + 1))))]) hx hb dMo_count_61 hl (k := 3) rfl (nI_1 _) (by decide) rfl (fun ls hl => ?_)
                      refine lv_goto (tgt := 36) hx hb dMo_count_64 (by decide) ?_
                      exact ih36 (f + 1) (by omega) (by omega) _ _ hP hD hS ls (lv_sub hl [1, 2, 3, 0] rfl)
                    · have c55 : ¬ 0 = 0 := fun q9 => c55 (show nI 0 = nI 0 from (nI_eq (a := 0) (b := 0) (by omega) (by omega)).mpr q9)
                      exact absurd (by decide) c55
          exact L36 _ 0 (Nat.lt_succ_self _) (by omega) _ _ hP hD hS ls (lv_sub hl [2, 3, 1, 0] rfl)
      · have c27 : ¬ 0 = 0 := fun q9 => c27 (show nI 0 = nI 0 from (nI_eq (a := 0) (b := 0) (by omega) (by omega)).mpr q9)
        exact absurd (by decide) c27
    · have c15 : 1 = 0 := (nI_eq (a := 1) (b := 0) (by omega) (by omega)).mp (show nI 1 = nI 0 from c15)
      exact absurd c15 (by decide)
  · rw [if_neg g12] at hw2
    subst hw2
    refine rw_i (y := nI 0) rfl ?_
    refine lv_if_ne (tgt := 22) hx hb dMo_count_15 (by decide) (fun c15 => ?_) (fun c15 => ?_)
    · have c15 : ¬ 0 = 0 := fun q9 => c15 (show nI 0 = nI 0 from (nI_eq (a := 0) (b := 0) (by omega) (by omega)).mpr q9)
      exact absurd (by decide) c15
    · have c15 : 0 = 0 := (nI_eq (a := 0) (b := 0) (by omega) (by omega)).mp (show nI 0 = nI 0 from c15)
      refine lv_iconst (v := nI 1) hx hb dMo_count_18 (by decide +kernel) ?_
      refine lv_goto (tgt := 23) hx hb dMo_count_19 (by decide) ?_
      refine lv_iconst (v := nI 1) hx hb dMo_count_23 (by decide +kernel) ?_
      refine ct_i (va_runV (As := [.int (nI 1), .int (nI 1)]) (rest := []) ⟨hx, hb, hml, hown, hts⟩ (kMo_fails1 l dC dI k b I1 D _ 1 (by omega) (by omega) (by rw [eI1, ui_s])) (cwV 2 hts (gw_V tw_741 tw_743 sl_Mo_fails tw_9 tw_744) rfl rfl rfl (by decide +kernel) ⟨Nat.le_of_ble_eq_true rfl, Nat.le_of_ble_eq_true rfl⟩) ⟨ct_blind (ev := fun _ => True) (fun _ _ _ _ h => h), va_recv hK hP (ci := 8) (q0 := 0) rfl rfl, ct_now (ev := fun _ => True) (fun _ _ _ => trivial) hP hK hD⟩ rfl rfl hl.1 rfl (lv_room (Nat.le_of_ble_eq_true rfl)) dMo_count_24 ⟨Nat.le_of_ble_eq_true rfl, Nat.le_of_ble_eq_true rfl⟩) hD hS hA (fun r14 u14 H locs hw14 hP hD hS => ?_)
      obtain ⟨r14e, eu14⟩ := hw14
      subst r14e
      refine lv_if_eq (tgt := 32) hx hb dMo_count_27 (by decide) (fun c27 => ?_) (fun c27 => ?_)
      · have c27 : 1 = 0 := (nI_eq (a := 1) (b := 0) (by omega) (by omega)).mp (show nI 1 = nI 0 from c27)
        exact absurd c27 (by decide)
      · have c27 : ¬ 1 = 0 := fun q9 => c27 (show nI 1 = nI 0 from (nI_eq (a := 1) (b := 0) (by omega) (by omega)).mpr q9)
        refine lv_iconst (v := nI 0) hx hb dMo_count_30 (by decide +kernel) ?_
        rw [hQ9]
        exact ct_ri hx hb hr hlocks u14 (Or.inl ⟨fun q => g12 (in_ba (by decide) (by decide) q), by rw [eu14, eI1]⟩) hP hD hS (Nat.le_refl _) (Nat.le_refl _) dMo_count_31
set_option maxHeartbeats 4000000 in
set_option maxRecDepth 100000 in
theorem kMo_heard (l : Launch) (dC : Nat → ClassId) (dI : Nat → Nat → Nat) (k : Nat → ClassId) (b : Nat → Nat) (I : Nat → Nat → Int32) (D : Nat → Nat → UInt64) (sz : Nat) (t bits : Nat) (oc : Nat → Nat) (ht : t + 2 ≤ 400) (hbt : bits < 65536) (ho : ∀ j, j < 400 → I 1 j = nI (oc j) ∧ oc j < 256) : Met l yMo_heard wMo_heard ({ frames := 1, cells := 0, slots := 0, locals := 25 }) (va_Pc [.ref (b 0), .int (nI t), .int (nI bits)] (ct_pre (dC, dI) (mo_ty k) (fun _ => True) (wm k b I D) sz)) (va_Qd (fun r (_ : Unit) => r = fi_ch oc bits t) (fun u t => ct_at (dC, dI) (va_A (wm k b I D) sz) ((fun _ => wm k b I D) u) t) (va_A (wm k b I D) sz)) 0 0 (va_A (wm k b I D) sz) := by
  refine Met.ofW (cc := cMo_heard) (maxL := 4) (ret := (some .double)) (by decide) rfl ?_
  intro p e s m args below meth c s₁ B hml hv
  obtain ⟨rfl, hsz, hP, hK, hD0, hE⟩ := hv
  have hx := B.exec
  have hb := B.bytes
  have hr := B.returns
  have hts : ∀ w ∈ W0, w.before [.ref (b 0), .int (nI t), .int (nI bits)].toArray s = true := fun w h => atoms_spec (ws := wMo_heard) B.pre w (List.mem_cons_of_mem _ h)
  have hown : s.vm.findClass RMo = some m.cls := findClass_of_methodNamed B.named
  have hlocks := B.notSynchronized
  subst hsz
  have hD := hD0.self (sz := s.heap.size)
  generalize hAe : va_A (wm k b I D) s.heap.size = A at hD ⊢
  have hA : ∀ q : Nat, s.heap.size ≤ q → A q := fun q h => by rw [← hAe]; exact Or.inr h
  have hS : va_S A s.heap s.heap [] := va_S.rf
  have hl := lv_entry ([.ref (b 0), .int (nI t), .int (nI bits)]) (n := 4) (Nat.le_of_ble_eq_true rfl)
  rw [lg_entry_eq]
  generalize (lg_sl ([.ref (b 0), .int (nI t), .int (nI bits)]) ++ List.replicate (4 - (lg_sl ([.ref (b 0), .int (nI t), .int (nI bits)])).length) Slot.unset).toArray = ls at hl ⊢
  have hl : lv_has ls 4 [(0, .ref (b 0)), (1, .int (nI t)), (2, .int (nI bits))] := hl
  refine lv_iload_n hx hb dMo_heard_0 rfl (lv_at hl 2 rfl) ?_
  refine lv_bipush (v := nI 8) hx hb dMo_heard_1 (by decide +kernel) ?_
  refine lv_icmp_ne (tgt := 23) hx hb dMo_heard_3 (by decide) (fun c3 => ?_) (fun c3 => ?_)
  · have c3 : ¬ bits = 8 := fun q9 => c3 (show nI bits = nI 8 from (nI_eq (a := bits) (b := 8) (by omega) (by omega)).mpr q9)
    refine lv_aload_n hx hb dMo_heard_23 rfl (lv_at hl 0 rfl) ?_
    refine lv_iload_n hx hb dMo_heard_24 rfl (lv_at hl 1 rfl) ?_
    refine lv_iconst (v := nI 2) hx hb dMo_heard_25 (by decide +kernel) ?_
    refine ct_l (va_runV (As := [.int (nI t), .int (nI 2)]) (rest := []) ⟨hx, hb, hml, hown, hts⟩ (kMo_number l dC dI k b I D _ t 2 oc (by omega) (by omega) (by omega) ho) (cwV 2 hts (gw_V tw_754 tw_756 sl_Mo_number tw_9 tw_757) rfl rfl rfl (by decide +kernel) ⟨Nat.le_of_ble_eq_true rfl, Nat.le_of_ble_eq_true rfl⟩) ⟨ct_blind (ev := fun _ => True) (fun _ _ _ _ h => h), va_recv hK hP (ci := 8) (q0 := 0) rfl rfl, ct_now (ev := fun _ => True) (fun _ _ _ => trivial) hP hK hD⟩ rfl rfl hl.1 rfl (lv_room (Nat.le_of_ble_eq_true rfl)) dMo_heard_26 ⟨Nat.le_of_ble_eq_true rfl, Nat.le_of_ble_eq_true rfl⟩) hD hS hA (fun r1 u1 H locs hw1 hP hD hS => ?_)
    subst hw1
    refine lv_l2i (v := nI (nu oc t 2)) hx hb dMo_heard_29 (lN_i _) ?_
    refine lv_i2s (v := (nI (nu oc t 2)).toInt16.toInt32) hx hb dMo_heard_30 rfl ?_
    refine rw_i (y := fi_ci oc bits t) ((if_neg c3).symm) ?_
    refine lv_istore_n (lv' := [(3, .int (fi_ci oc bits t)), (0, .ref (b 0)), (1, .int (nI t)), (2, .int (nI bits))]) hx hb dMo_heard_31 rfl hl (by decide) rfl (fun ls hl => ?_)
    refine lv_iload_n hx hb dMo_heard_32 rfl (lv_at hl 0 rfl) ?_
    refine lv_i2d hx hb dMo_heard_33 ?_
    refine lv_ldc2d (v := 4674736413210574848) hx hb hown (hts _ tw_770) dMo_heard_34 ?_
    refine lv_ddiv hx hb dMo_heard_37 (fb_n (fi_ch_b oc bits t) (by decide)) ?_
    refine rw_d (y := fi_ch oc bits t) rfl ?_
    exact ct_rd hx hb hr hlocks () rfl hP hD hS (Nat.le_refl _) (Nat.le_refl _) dMo_heard_38
  · have c3 : bits = 8 := (nI_eq (a := bits) (b := 8) (by omega) (by omega)).mp (show nI bits = nI 8 from c3)
    refine lv_aload_n hx hb dMo_heard_6 rfl (lv_at hl 0 rfl) ?_
    refine va_get (D := (dC, dI)) (ci := 8) (v := .ref (b 1)) (C := RMo) (T := TMo) (N := 27) hx hb hts inMo hown hK hP 0 rfl rfl 12 (by decide) (hts _ tw_659) (fun _ h9 => h9) rfl dMo_heard_7 ?_
    refine lv_iload_n hx hb dMo_heard_10 rfl (lv_at hl 1 rfl) ?_
    refine rw_ald_i hx hb hK hP 1 0 rfl rfl (by omega) (by decide) dMo_heard_11 ?_
    refine rw_i (y := nI (oc t)) ((ho _ (by omega)).1) ?_
    refine lv_sipush (v := nI 128) hx hb dMo_heard_12 (by decide +kernel) ?_
    refine lv_isub hx hb dMo_heard_15 ?_
    refine lv_sipush (v := nI 256) hx hb dMo_heard_16 (by decide +kernel) ?_
    refine lv_imul hx hb dMo_heard_19 ?_
    refine lv_goto (tgt := 31) hx hb dMo_heard_20 (by decide) ?_
    refine rw_i (y := fi_ci oc bits t) ((if_pos c3).symm) ?_
    refine lv_istore_n (lv' := [(3, .int (fi_ci oc bits t)), (0, .ref (b 0)), (1, .int (nI t)), (2, .int (nI bits))]) hx hb dMo_heard_31 rfl hl (by decide) rfl (fun ls hl => ?_)
    refine lv_iload_n hx hb dMo_heard_32 rfl (lv_at hl 0 rfl) ?_
    refine lv_i2d hx hb dMo_heard_33 ?_
    refine lv_ldc2d (v := 4674736413210574848) hx hb hown (hts _ tw_770) dMo_heard_34 ?_
    refine lv_ddiv hx hb dMo_heard_37 (fb_n (fi_ch_b oc bits t) (by decide)) ?_
    refine rw_d (y := fi_ch oc bits t) rfl ?_
    exact ct_rd hx hb hr hlocks () rfl hP hD hS (Nat.le_refl _) (Nat.le_refl _) dMo_heard_38
end
