section
-- numbers: doubles by their bits; fb_ K a: the magnitude of a is below 2 ^ (K - 1023), so a is finite where K ≤ 2047
def fb_ (K : Nat) (a : UInt64) : Prop := a.toNat % 2 ^ 63 < K * 2 ^ 52
theorem fb_mono {K L : Nat} {a : UInt64} (h : fb_ K a) (hl : K ≤ L) : fb_ L a := Nat.lt_of_lt_of_le h (Nat.mul_le_mul_right _ hl)
theorem fb_n {K : Nat} {a : UInt64} (h : fb_ K a) (hK : K ≤ 2047) : vf_n64 a := by
  unfold vf_n64
  unfold fb_ at h
  rw [UInt64.le_iff_toNat_le, FP.Core.mask_toNat]
  have e : (0x7ff0000000000000 : UInt64).toNat = 9218868437227405312 := by decide
  rw [e]
  omega
theorem fb_fin {K : Nat} {a : UInt64} (h : fb_ K a) (hK : K ≤ 2047) : FP.Core.DFin a := FP.Core.fin_of_lt h hK
theorem fb_nn {K : Nat} {a : UInt64} (h : fb_ K a) (hK : K ≤ 2047) : FP.Core.val64 a ≠ .nan := (fb_fin h hK).ne_nan
theorem fb_add {K : Nat} {a b : UInt64} (ha : fb_ K a) (hb : fb_ K b) (hK : K ≤ 2047) : fb_ (K + 2) (FP.dadd a b) := FP.Core.dadd_mag ha hb hK
theorem fb_sub {K : Nat} {a b : UInt64} (ha : fb_ K a) (hb : fb_ K b) (hK : K ≤ 2047) : fb_ (K + 2) (FP.dsub a b) := FP.Core.dsub_mag ha hb hK
theorem fb_mul {K L : Nat} {a b : UInt64} (ha : fb_ K a) (hb : fb_ L b) (hK : K ≤ 2047) (hL : L ≤ 2047) : fb_ (K + L - 1025 + 3) (FP.dmul a b) := FP.Core.dmul_mag ha hb hK hL
theorem fb_div {K L : Nat} {a b : UInt64} (ha : fb_ K a) (hb : L * 2 ^ 52 ≤ b.toNat % 2 ^ 63) (hb2 : fb_ 2047 b) (hK : K ≤ 2047) (hL : 1 ≤ L) : fb_ (K + 1021 - L + 3) (FP.ddiv a b) := FP.Core.ddiv_mag ha hb hb2 hK hL
theorem fb_i2d (x : Int32) : fb_ 1056 (FP.i2d x) := FP.Core.i2d_mag x
-- the sign bit is clear
def po_ (a : UInt64) : Prop := a.toNat < 2 ^ 63
theorem po_of {a : UInt64} (h : FP.Core.val64 a ≠ .nan) (hs : FP.Core.sgn (FP.Core.val64 a) = false) : po_ a := by
  rw [FP.Core.sgn_bits h] at hs
  have := of_decide_eq_false hs
  unfold po_
  omega
theorem po_sgn {a : UInt64} (h : FP.Core.val64 a ≠ .nan) (hs : po_ a) : FP.Core.sgn (FP.Core.val64 a) = false := by
  rw [FP.Core.sgn_bits h]
  unfold po_ at hs
  exact decide_eq_false (by omega)
theorem po_sq {a : UInt64} (h : FP.Core.DFin a) : po_ (FP.dmul a a) := by
  obtain ⟨s, c, q, hv⟩ := h
  have e : FP.Core.val64 (FP.dmul a a) = FP.Core.roundRatio FP.Core.b64 false (c * c) 1 (q + q) := by
    rw [FP.Core.val64_dmul, hv]
    show FP.Core.round FP.Core.b64 (.fin (s != s) (c * c) (q + q)) = _
    rw [show (s != s) = false by cases s <;> rfl]
    rfl
  refine po_of ?_ ?_
  · rw [e]; exact FP.Core.roundRatio_ne_nan _ _ _ _ _
  · rw [e]; exact FP.Core.sgn_roundRatio _ _ _ _ _
theorem po_add {a b : UInt64} (ha : FP.Core.DFin a) (hb : FP.Core.DFin b) (pa : po_ a) (pb : po_ b) : po_ (FP.dadd a b) := by
  have sa := po_sgn ha.ne_nan pa
  have sb := po_sgn hb.ne_nan pb
  obtain ⟨s, c, q, hv⟩ := ha
  obtain ⟨t, d, r, hw⟩ := hb
  rw [hv] at sa
  rw [hw] at sb
  have es : s = false := sa
  have et : t = false := sb
  subst es
  subst et
  have hn : ¬ FP.Core.sumUnits false c q false d r (min q r) < 0 := by
    unfold FP.Core.sumUnits FP.Core.signed
    simp only [Bool.false_eq_true, if_false]
    omega
  have e : FP.Core.val64 (FP.dadd a b) = FP.Core.roundRatio FP.Core.b64 false (FP.Core.sumUnits false c q false d r (min q r)).natAbs 1 (min q r) := by
    rw [FP.Core.val64_dadd, hv, hw]
    show FP.Core.round FP.Core.b64 (.fin (FP.Core.sumSign false false (FP.Core.sumUnits false c q false d r (min q r))) _ _) = _
    rw [show FP.Core.sumSign false false (FP.Core.sumUnits false c q false d r (min q r)) = false by
      unfold FP.Core.sumSign
      split
      · rfl
      · exact decide_eq_false hn]
    rfl
  refine po_of ?_ ?_
  · rw [e]; exact FP.Core.roundRatio_ne_nan _ _ _ _ _
  · rw [e]; exact FP.Core.sgn_roundRatio _ _ _ _ _
theorem po_zero {a : UInt64} (h : FP.Core.DFin a) (pa : po_ a) : FP.dadd a 0 = a := by
  refine FP.Core.dadd_zero h.ne_nan (fun q => ?_)
  rw [q] at pa
  exact absurd pa (by unfold po_; decide)
-- a positive normal number, halved and doubled: one less, one more in its exponent
theorem fn_val {a : UInt64} {E T : Nat} (h : a.toNat = E * 2 ^ 52 + T) (hT : T < 2 ^ 52) (h1 : 1 ≤ E) (h2 : E < 2047) : FP.Core.val64 a = .fin false (2 ^ 52 + T) (-1074 + ((E : Int) - 1)) := by
  have he : FP.Core.b64.exps = 2048 := by decide
  have ht := FP.Core.tails_b64
  have h3 : a.toNat = FP.Core.assemble FP.Core.b64 false E T := by
    unfold FP.Core.assemble
    rw [ht, h]
    simp
  unfold FP.Core.val64
  rw [h3, FP.Core.decode_assemble _ _ _ _ (by omega) (by omega), if_neg (by omega), if_neg (by omega), ht, FP.Core.qmin_b64]
theorem fn_ex {N : Nat} (h : N < 2 ^ 64) : ∃ b : UInt64, b.toNat = N := ⟨UInt64.ofNat N, by rw [UInt64.toNat_ofNat']; exact Nat.mod_eq_of_lt h⟩
theorem fn_two : FP.Core.val64 0x4000000000000000 = .fin false (2 ^ 52) (-51) := by decide +kernel
theorem fn_half {a : UInt64} (h1 : 2 * 2 ^ 52 ≤ a.toNat) (h2 : a.toNat < 2047 * 2 ^ 52) : (FP.ddiv a 0x4000000000000000).toNat = a.toNat - 2 ^ 52 := by
  obtain ⟨E, T, hE, hT⟩ : ∃ E T, a.toNat = E * 2 ^ 52 + T ∧ T < 2 ^ 52 := ⟨a.toNat / 2 ^ 52, a.toNat % 2 ^ 52, by omega, by omega⟩
  have v1 := fn_val hE hT (by omega) (by omega)
  obtain ⟨b, hb⟩ := fn_ex (N := (E - 1) * 2 ^ 52 + T) (by omega)
  have v2 := fn_val hb hT (by omega) (by omega)
  have hf := FP.Core.val64_fits b
  rw [v2] at hf
  have e : FP.ddiv a 0x4000000000000000 = b := by
    refine (FP.Core.val64_inj (by rw [v2]; exact FP.Core.Datum.noConfusion) ?_).symm
    refine v2.trans ?_
    refine Eq.trans ?_ (FP.Core.val64_ddiv a 0x4000000000000000).symm
    rw [v1, fn_two]
    show _ = if (2 ^ 52 : Nat) = 0 then (if (2 ^ 52 + T) = 0 then FP.Core.Datum.nan else FP.Core.Datum.inf (false != false)) else FP.Core.roundRatio FP.Core.b64 (false != false) (2 ^ 52 + T) (2 ^ 52) (-1074 + ((E : Int) - 1) - (-51))
    rw [if_neg (by decide)]
    refine (FP.Core.roundRatio_exact FP.Core.good_b64 (by decide) hf ?_).symm
    rw [show (-1074 + ((E : Int) - 1) - (-51) - (-1074 + (((E - 1 : Nat) : Int) - 1))).toNat = 52 by omega, show (-1074 + (((E - 1 : Nat) : Int) - 1) - (-1074 + ((E : Int) - 1) - (-51))).toNat = 0 by omega]
    simp
  rw [e, hb, hE]
  omega
theorem fn_dbl {a : UInt64} (h1 : 2 ^ 52 ≤ a.toNat) (h2 : a.toNat < 2046 * 2 ^ 52) : (FP.dmul a 0x4000000000000000).toNat = a.toNat + 2 ^ 52 := by
  obtain ⟨E, T, hE, hT⟩ : ∃ E T, a.toNat = E * 2 ^ 52 + T ∧ T < 2 ^ 52 := ⟨a.toNat / 2 ^ 52, a.toNat % 2 ^ 52, by omega, by omega⟩
  have v1 := fn_val hE hT (by omega) (by omega)
  obtain ⟨b, hb⟩ := fn_ex (N := (E + 1) * 2 ^ 52 + T) (by omega)
  have v2 := fn_val hb hT (by omega) (by omega)
  have hf := FP.Core.val64_fits b
  rw [v2] at hf
  have e : FP.dmul a 0x4000000000000000 = b := by
    refine (FP.Core.val64_inj (by rw [v2]; exact FP.Core.Datum.noConfusion) ?_).symm
    refine v2.trans ?_
    refine Eq.trans ?_ (FP.Core.val64_dmul a 0x4000000000000000).symm
    rw [v1, fn_two]
    show _ = FP.Core.roundRatio FP.Core.b64 (false != false) ((2 ^ 52 + T) * 2 ^ 52) 1 (-1074 + ((E : Int) - 1) + (-51))
    refine (FP.Core.roundRatio_exact FP.Core.good_b64 (by decide) hf ?_).symm
    rw [show (-1074 + ((E : Int) - 1) + (-51) - (-1074 + (((E + 1 : Nat) : Int) - 1))).toNat = 0 by omega, show (-1074 + (((E + 1 : Nat) : Int) - 1) - (-1074 + ((E : Int) - 1) + (-51))).toNat = 52 by omega]
    simp
  rw [e, hb, hE]
  omega
-- order of numbers with a clear sign: by bits
theorem fo_lt {a b : UInt64} (ha : FP.Core.val64 a ≠ .nan) (hb : FP.Core.val64 b ≠ .nan) (pa : po_ a) (pb : po_ b) : FP.dcmp a b = some .lt ↔ a.toNat < b.toNat := (FP.Core.mono_bits ha hb pa pb).1
theorem fo_eq {a b : UInt64} (ha : FP.Core.val64 a ≠ .nan) (hb : FP.Core.val64 b ≠ .nan) (pa : po_ a) (pb : po_ b) : FP.dcmp a b = some .eq ↔ a.toNat = b.toNat := (FP.Core.mono_bits ha hb pa pb).2.1
theorem fo_gt {a b : UInt64} (ha : FP.Core.val64 a ≠ .nan) (hb : FP.Core.val64 b ≠ .nan) (pa : po_ a) (pb : po_ b) : FP.dcmp a b = some .gt ↔ b.toNat < a.toNat := (FP.Core.mono_bits ha hb pa pb).2.2
-- what dcmpl, dcmpg and a branch say
theorem fc_lt_l (o : Option Ordering) : Op.cmpValue o .l < 0 ↔ o = some .lt ∨ o = none := by rcases o with _ | (_ | _ | _) <;> decide
theorem fc_le_l (o : Option Ordering) : Op.cmpValue o .l ≤ 0 ↔ o ≠ some .gt := by rcases o with _ | (_ | _ | _) <;> decide
theorem fc_eq_l (o : Option Ordering) : Op.cmpValue o .l = 0 ↔ o = some .eq := by rcases o with _ | (_ | _ | _) <;> decide
theorem fc_gt_l (o : Option Ordering) : 0 < Op.cmpValue o .l ↔ o = some .gt := by rcases o with _ | (_ | _ | _) <;> decide
theorem fc_ge_l (o : Option Ordering) : 0 ≤ Op.cmpValue o .l ↔ o = some .gt ∨ o = some .eq := by rcases o with _ | (_ | _ | _) <;> decide
theorem fc_lt_g (o : Option Ordering) : Op.cmpValue o .g < 0 ↔ o = some .lt := by rcases o with _ | (_ | _ | _) <;> decide
theorem fc_le_g (o : Option Ordering) : Op.cmpValue o .g ≤ 0 ↔ o = some .lt ∨ o = some .eq := by rcases o with _ | (_ | _ | _) <;> decide
theorem fc_eq_g (o : Option Ordering) : Op.cmpValue o .g = 0 ↔ o = some .eq := by rcases o with _ | (_ | _ | _) <;> decide
theorem fc_gt_g (o : Option Ordering) : 0 < Op.cmpValue o .g ↔ o = some .gt ∨ o = none := by rcases o with _ | (_ | _ | _) <;> decide
theorem fc_ge_g (o : Option Ordering) : 0 ≤ Op.cmpValue o .g ↔ o ≠ some .lt := by rcases o with _ | (_ | _ | _) <;> decide
end
section
-- what the document calls A, C, S, P, LN, LEVEL, LOUD, FAR, D, WARP: as functions on bits
def hd_1 : UInt64 := 4607182418800017408
def hd_2 : UInt64 := 4611686018427387904
def hd_h : UInt64 := 4602678819172646912
def hd_ep : UInt64 := 4457293557087583675
def hd_15 : UInt64 := 4609434218613702656
def hd_75 : UInt64 := 4604930618986332160
def hd_l : UInt64 := 4604418534313441775
def hd_A (n : Nat) : UInt64 := FP.dmul (FP.i2d (if 17 ≤ n then nI n - 32 else nI n)) 4596242258042563864
def hd_sr (o : Nat) (y : UInt64) : Nat → UInt64
  | 0 => hd_1
  | k + 1 => FP.dsub hd_1 (FP.ddiv (FP.dmul y (hd_sr o y k)) (FP.i2d (nI ((24 - 2 * k + o) * (24 - 2 * k + o - 1)))))
def hd_C (n : Nat) : UInt64 := hd_sr 0 (FP.dmul (hd_A n) (hd_A n)) 12
def hd_S (n : Nat) : UInt64 := FP.dmul (hd_A n) (hd_sr 1 (FP.dmul (hd_A n) (hd_A n)) 12)
def hd_W (n : Nat) : UInt64 := FP.dsub hd_h (FP.dmul hd_h (hd_C n))
def hd_v (sa : Nat → UInt64) (f i : Nat) : UInt64 := FP.dmul (sa (16 * f + i)) (hd_W i)
def hd_re (sa : Nat → UInt64) (f k : Nat) : Nat → UInt64
  | 0 => 0
  | i + 1 => FP.dadd (hd_re sa f k i) (FP.dmul (hd_v sa f i) (hd_C (k * i % 32)))
def hd_im (sa : Nat → UInt64) (f k : Nat) : Nat → UInt64
  | 0 => 0
  | i + 1 => FP.dsub (hd_im sa f k i) (FP.dmul (hd_v sa f i) (hd_S (k * i % 32)))
def hd_P (sa : Nat → UInt64) (f k : Nat) : UInt64 := FP.dadd (FP.dmul (hd_re sa f k 32) (hd_re sa f k 32)) (FP.dmul (hd_im sa f k 32) (hd_im sa f k 32))
def hd_bl (b : Nat) : Nat := if b = 0 then 1 else if b = 1 then 3 else if b = 2 then 5 else 9
def hd_bn (b : Nat) : Nat := if b = 0 then 2 else if b = 1 then 2 else if b = 2 then 4 else 8
def hd_bs (sa : Nat → UInt64) (f lo : Nat) : Nat → UInt64
  | 0 => 0
  | m + 1 => FP.dadd (hd_bs sa f lo m) (hd_P sa f (lo + m))
def hd_su (sa : Nat → UInt64) (f b : Nat) : UInt64 := hd_bs sa f (hd_bl b) (hd_bn b)
def hd_lo (sa : Nat → UInt64) (f : Nat) : Nat → UInt64
  | 0 => 0
  | b + 1 => FP.dadd (hd_lo sa f b) (hd_su sa f b)
-- LN: halved as long as it is 1.5 or more, doubled as long as it is below 0.75 (the fuel is never used up), then the series
def hd_l1 : Nat → UInt64 → Int32 → UInt64 × Int32
  | 0, x, k => (x, k)
  | n + 1, x, k => if FP.dcmp x hd_15 = some .gt ∨ FP.dcmp x hd_15 = some .eq then hd_l1 n (FP.ddiv x hd_2) (k + 1) else (x, k)
def hd_l2 : Nat → UInt64 → Int32 → UInt64 × Int32
  | 0, x, k => (x, k)
  | n + 1, x, k => if FP.dcmp x hd_75 = some .lt then hd_l2 n (FP.dmul x hd_2) (k - 1) else (x, k)
def hd_l3 (y : UInt64) : Nat → UInt64
  | 0 => 0
  | k + 1 => FP.dadd (FP.dmul (hd_l3 y k) y) (FP.ddiv hd_1 (FP.i2d (nI (19 - 2 * k))))
def hd_z (x : UInt64) : UInt64 := FP.ddiv (FP.dsub x hd_1) (FP.dadd x hd_1)
def hd_le (x : UInt64) (k : Int32) : UInt64 := FP.dadd (FP.dmul (FP.dmul hd_2 (hd_z x)) (hd_l3 (FP.dmul (hd_z x) (hd_z x)) 10)) (FP.dmul (FP.i2d k) hd_l)
def hd_x2 (x : UInt64) : UInt64 × Int32 := hd_l2 2000 (hd_l1 2000 x 0).1 (hd_l1 2000 x 0).2
def hd_ln (x : UInt64) : UInt64 := hd_le (hd_x2 x).1 (hd_x2 x).2
def hd_fl (s : UInt64) : UInt64 := if FP.dcmp s hd_ep = some .gt then s else hd_ep
def hd_lev (sa : Nat → UInt64) (f b : Nat) : UInt64 := hd_ln (hd_fl (hd_su sa f b))
-- bounds
theorem hd_C_b : ∀ n, n < 32 → (hd_C n).toNat % 2 ^ 63 < 1024 * 2 ^ 52 := by decide +kernel
theorem hd_S_b : ∀ n, n < 32 → (hd_S n).toNat % 2 ^ 63 < 1024 * 2 ^ 52 := by decide +kernel
theorem hd_W_b : ∀ n, n < 32 → (hd_W n).toNat % 2 ^ 63 < 1024 * 2 ^ 52 := by decide +kernel
theorem hd_v_b {sa : Nat → UInt64} {f : Nat} (h : ∀ i, i < 32 → fb_ 1057 (sa (16 * f + i))) {i : Nat} (hi : i < 32) : fb_ 1059 (hd_v sa f i) := fb_mono (fb_mul (h i hi) (hd_W_b i hi) (by decide) (by decide)) (by omega)
theorem hd_vc_b {sa : Nat → UInt64} {f : Nat} (h : ∀ i, i < 32 → fb_ 1057 (sa (16 * f + i))) {i j : Nat} (hi : i < 32) (hj : j < 32) : fb_ 1061 (FP.dmul (hd_v sa f i) (hd_C j)) := fb_mono (fb_mul (hd_v_b h hi) (hd_C_b j hj) (by decide) (by decide)) (by omega)
theorem hd_vs_b {sa : Nat → UInt64} {f : Nat} (h : ∀ i, i < 32 → fb_ 1057 (sa (16 * f + i))) {i j : Nat} (hi : i < 32) (hj : j < 32) : fb_ 1061 (FP.dmul (hd_v sa f i) (hd_S j)) := fb_mono (fb_mul (hd_v_b h hi) (hd_S_b j hj) (by decide) (by decide)) (by omega)
theorem hd_re_b {sa : Nat → UInt64} {f : Nat} (h : ∀ i, i < 32 → fb_ 1057 (sa (16 * f + i))) (k : Nat) : ∀ n, n ≤ 32 → fb_ (1061 + 2 * n) (hd_re sa f k n)
  | 0, _ => by unfold fb_ hd_re; decide
  | n + 1, hn => fb_mono (fb_add (hd_re_b h k n (by omega)) (fb_mono (hd_vc_b h (by omega) (Nat.mod_lt _ (by decide))) (by omega)) (by omega)) (by omega)
theorem hd_im_b {sa : Nat → UInt64} {f : Nat} (h : ∀ i, i < 32 → fb_ 1057 (sa (16 * f + i))) (k : Nat) : ∀ n, n ≤ 32 → fb_ (1061 + 2 * n) (hd_im sa f k n)
  | 0, _ => by unfold fb_ hd_im; decide
  | n + 1, hn => fb_mono (fb_sub (hd_im_b h k n (by omega)) (fb_mono (hd_vs_b h (by omega) (Nat.mod_lt _ (by decide))) (by omega)) (by omega)) (by omega)
theorem hd_re2_b {sa : Nat → UInt64} {f : Nat} (h : ∀ i, i < 32 → fb_ 1057 (sa (16 * f + i))) (k : Nat) : fb_ 1228 (FP.dmul (hd_re sa f k 32) (hd_re sa f k 32)) := fb_mono (fb_mul (hd_re_b h k 32 (by decide)) (hd_re_b h k 32 (by decide)) (by decide) (by decide)) (by omega)
theorem hd_im2_b {sa : Nat → UInt64} {f : Nat} (h : ∀ i, i < 32 → fb_ 1057 (sa (16 * f + i))) (k : Nat) : fb_ 1228 (FP.dmul (hd_im sa f k 32) (hd_im sa f k 32)) := fb_mono (fb_mul (hd_im_b h k 32 (by decide)) (hd_im_b h k 32 (by decide)) (by decide) (by decide)) (by omega)
theorem hd_P_b {sa : Nat → UInt64} {f : Nat} (h : ∀ i, i < 32 → fb_ 1057 (sa (16 * f + i))) (k : Nat) : fb_ 1230 (hd_P sa f k) := fb_mono (fb_add (hd_re2_b h k) (hd_im2_b h k) (by decide)) (by omega)
theorem hd_P_p {sa : Nat → UInt64} {f : Nat} (h : ∀ i, i < 32 → fb_ 1057 (sa (16 * f + i))) (k : Nat) : po_ (hd_P sa f k) := po_add (fb_fin (hd_re2_b h k) (by decide)) (fb_fin (hd_im2_b h k) (by decide)) (po_sq (fb_fin (hd_re_b h k 32 (by decide)) (by decide))) (po_sq (fb_fin (hd_im_b h k 32 (by decide)) (by decide)))
theorem hd_bs_b {sa : Nat → UInt64} {f : Nat} (h : ∀ i, i < 32 → fb_ 1057 (sa (16 * f + i))) (lo : Nat) : ∀ m, m ≤ 8 → fb_ (1230 + 2 * m) (hd_bs sa f lo m)
  | 0, _ => by unfold fb_ hd_bs; decide
  | m + 1, hm => fb_mono (fb_add (hd_bs_b h lo m (by omega)) (fb_mono (hd_P_b h (lo + m)) (by omega)) (by omega)) (by omega)
theorem hd_bs_p {sa : Nat → UInt64} {f : Nat} (h : ∀ i, i < 32 → fb_ 1057 (sa (16 * f + i))) (lo : Nat) : ∀ m, m ≤ 8 → po_ (hd_bs sa f lo m)
  | 0, _ => by unfold po_ hd_bs; decide
  | m + 1, hm => po_add (fb_fin (hd_bs_b h lo m (by omega)) (by omega)) (fb_fin (hd_P_b h (lo + m)) (by decide)) (hd_bs_p h lo m (by omega)) (hd_P_p h (lo + m))
theorem hd_bn_8 (b : Nat) : hd_bn b ≤ 8 := by unfold hd_bn; split <;> (try split) <;> (try split) <;> omega
theorem hd_su_b {sa : Nat → UInt64} {f : Nat} (h : ∀ i, i < 32 → fb_ 1057 (sa (16 * f + i))) (b : Nat) : fb_ 1246 (hd_su sa f b) := fb_mono (hd_bs_b h (hd_bl b) (hd_bn b) (hd_bn_8 b)) (by have := hd_bn_8 b; omega)
theorem hd_su_p {sa : Nat → UInt64} {f : Nat} (h : ∀ i, i < 32 → fb_ 1057 (sa (16 * f + i))) (b : Nat) : po_ (hd_su sa f b) := hd_bs_p h (hd_bl b) (hd_bn b) (hd_bn_8 b)
theorem hd_lo_b {sa : Nat → UInt64} {f : Nat} (h : ∀ i, i < 32 → fb_ 1057 (sa (16 * f + i))) : ∀ b, b ≤ 4 → fb_ (1246 + 2 * b) (hd_lo sa f b)
  | 0, _ => by unfold fb_ hd_lo; decide
  | b + 1, hb => fb_mono (fb_add (hd_lo_b h b (by omega)) (fb_mono (hd_su_b h b) (by omega)) (by omega)) (by omega)
-- LN: what goes in lies between 0.0000000001 and 2 ^ 223; what is left lies between 0.75 and 1.5
def hd_in (x : UInt64) : Prop := 989 * 2 ^ 52 ≤ x.toNat ∧ x.toNat < 1246 * 2 ^ 52
theorem hd_in_p {x : UInt64} (h : hd_in x) : po_ x := by unfold hd_in at h; unfold po_; omega
theorem hd_in_b {x : UInt64} (h : hd_in x) : fb_ 1246 x := by unfold hd_in at h; unfold fb_; omega
theorem hd_fl_in {s : UInt64} (h : fb_ 1246 s) (p : po_ s) : hd_in (hd_fl s) := by
  have e : hd_ep.toNat = 4457293557087583675 := by decide
  unfold hd_fl
  by_cases c : FP.dcmp s hd_ep = some .gt
  · rw [if_pos c]
    rw [fo_gt (fb_nn h (by decide)) (by decide +kernel) p (by unfold po_; decide), e] at c
    unfold hd_in
    unfold fb_ at h
    unfold po_ at p
    omega
  · rw [if_neg c]
    unfold hd_in
    rw [e]
    omega
theorem hd_15_n : hd_15.toNat = 4609434218613702656 := by decide
theorem hd_75_n : hd_75.toNat = 4604930618986332160 := by decide
theorem hd_c15 {x : UInt64} (h : hd_in x) : (FP.dcmp x hd_15 = some .gt ∨ FP.dcmp x hd_15 = some .eq) ↔ 4609434218613702656 ≤ x.toNat := by
  have n1 := fb_nn (hd_in_b h) (by decide)
  have n2 : FP.Core.val64 hd_15 ≠ .nan := by decide +kernel
  have p2 : po_ hd_15 := by unfold po_; decide
  rw [fo_gt n1 n2 (hd_in_p h) p2, fo_eq n1 n2 (hd_in_p h) p2, hd_15_n]
  omega
theorem hd_c75 {x : UInt64} (h : hd_in x) : FP.dcmp x hd_75 = some .lt ↔ x.toNat < 4604930618986332160 := by
  rw [fo_lt (fb_nn (hd_in_b h) (by decide)) (by decide +kernel) (hd_in_p h) (by unfold po_; decide), hd_75_n]
theorem hd_l1_in : ∀ (n : Nat) (x : UInt64) (k : Int32), hd_in x → x.toNat < 4609434218613702656 + n * 2 ^ 52 → hd_in (hd_l1 n x k).1 ∧ (hd_l1 n x k).1.toNat < 4609434218613702656
  | 0, x, k, h, hn => ⟨h, by show x.toNat < _; omega⟩
  | n + 1, x, k, h, hn => by
    unfold hd_l1
    by_cases c : FP.dcmp x hd_15 = some .gt ∨ FP.dcmp x hd_15 = some .eq
    · rw [if_pos c]
      have c' := (hd_c15 h).mp c
      have e : (FP.ddiv x hd_2).toNat = x.toNat - 2 ^ 52 := fn_half (by omega) (by unfold hd_in at h; omega)
      exact hd_l1_in n _ _ (by unfold hd_in at h ⊢; rw [e]; omega) (by rw [e]; omega)
    · rw [if_neg c]
      exact ⟨h, by have := mt (hd_c15 h).mpr c; show x.toNat < _; omega⟩
theorem hd_l2_in : ∀ (n : Nat) (x : UInt64) (k : Int32), hd_in x → x.toNat < 4609434218613702656 → 4604930618986332160 ≤ x.toNat + n * 2 ^ 52 → 4604930618986332160 ≤ (hd_l2 n x k).1.toNat ∧ (hd_l2 n x k).1.toNat < 4609434218613702656
  | 0, x, k, h, h1, hn => ⟨by show _ ≤ x.toNat; omega, h1⟩
  | n + 1, x, k, h, h1, hn => by
    unfold hd_l2
    by_cases c : FP.dcmp x hd_75 = some .lt
    · rw [if_pos c]
      have c' := (hd_c75 h).mp c
      have e : (FP.dmul x hd_2).toNat = x.toNat + 2 ^ 52 := fn_dbl (by unfold hd_in at h; omega) (by unfold hd_in at h; omega)
      exact hd_l2_in n _ _ (by unfold hd_in at h ⊢; rw [e]; omega) (by rw [e]; omega) (by rw [e]; omega)
    · rw [if_neg c]
      exact ⟨by have := mt (hd_c75 h).mpr c; show _ ≤ x.toNat; omega, h1⟩
theorem hd_x2_in {x : UInt64} (h : hd_in x) : 4604930618986332160 ≤ (hd_x2 x).1.toNat ∧ (hd_x2 x).1.toNat < 4609434218613702656 := by
  obtain ⟨a, b⟩ := hd_l1_in 2000 x 0 h (by unfold hd_in at h; omega)
  exact hd_l2_in 2000 _ _ a b (by unfold hd_in at a; omega)
-- the series of LN
def hd_ok (x : UInt64) : Prop := 4604930618986332160 ≤ x.toNat ∧ x.toNat < 4609434218613702656
theorem hd_ok_b {x : UInt64} (h : hd_ok x) : fb_ 1024 x := by unfold hd_ok at h; unfold fb_; omega
theorem hd_ok_p {x : UInt64} (h : hd_ok x) : po_ x := by unfold hd_ok at h; unfold po_; omega
theorem hd_1_b : fb_ 1024 hd_1 := by unfold fb_; decide
theorem hd_1_p : po_ hd_1 := by unfold po_; decide
theorem hd_m1_b {x : UInt64} (h : hd_ok x) : fb_ 1026 (FP.dsub x hd_1) := fb_mono (fb_sub (hd_ok_b h) hd_1_b (by decide)) (by omega)
theorem hd_p1_b {x : UInt64} (h : hd_ok x) : fb_ 1026 (FP.dadd x hd_1) := fb_mono (fb_add (hd_ok_b h) hd_1_b (by decide)) (by omega)
theorem hd_p1_p {x : UInt64} (h : hd_ok x) : po_ (FP.dadd x hd_1) := po_add (fb_fin (hd_ok_b h) (by decide)) (fb_fin hd_1_b (by decide)) (hd_ok_p h) hd_1_p
theorem hd_p1_g {x : UInt64} (h : hd_ok x) : 1023 * 2 ^ 52 ≤ (FP.dadd x hd_1).toNat % 2 ^ 63 := by
  have nx := fb_nn (hd_ok_b h) (by decide)
  have n1 := fb_nn hd_1_b (by decide)
  have hs := FP.Core.sum_ge FP.Core.good_b64 (fb_fin (hd_ok_b h) (by decide)) (fb_fin hd_1_b (by decide)) (FP.Core.val64_fits x) (FP.Core.val64_fits hd_1) (FP.Core.val64_fits hd_1) n1 (by have := FP.Core.zval_nonneg nx (hd_ok_p h); omega)
  rw [← FP.Core.val64_dadd] at hs
  have np := fb_nn (hd_p1_b h) (by decide)
  have hc := FP.Core.dcmp_ge.mpr ⟨np, n1, hs⟩
  have pp := hd_p1_p h
  have hc2 : hd_1.toNat ≤ (FP.dadd x hd_1).toNat := by
    rcases hc with g | g
    · exact Nat.le_of_lt ((fo_gt np n1 pp hd_1_p).mp g)
    · exact Nat.le_of_eq ((fo_eq np n1 pp hd_1_p).mp g).symm
  have e : hd_1.toNat = 4607182418800017408 := by decide
  rw [e] at hc2
  unfold po_ at pp
  omega
theorem hd_z_b {x : UInt64} (h : hd_ok x) : fb_ 1027 (hd_z x) := fb_mono (fb_div (hd_m1_b h) (hd_p1_g h) (fb_mono (hd_p1_b h) (by decide)) (by decide) (by decide)) (by omega)
theorem hd_y_b {x : UInt64} (h : hd_ok x) : fb_ 1032 (FP.dmul (hd_z x) (hd_z x)) := fb_mono (fb_mul (hd_z_b h) (hd_z_b h) (by decide) (by decide)) (by omega)
theorem hd_j_g : ∀ k, k < 10 → 1023 * 2 ^ 52 ≤ (FP.i2d (nI (19 - 2 * k))).toNat % 2 ^ 63 := by decide +kernel
theorem hd_j_b {k : Nat} (hk : k < 10) : fb_ 1025 (FP.ddiv hd_1 (FP.i2d (nI (19 - 2 * k)))) := fb_mono (fb_div hd_1_b (hd_j_g k hk) (fb_mono (fb_i2d _) (by decide)) (by decide) (by decide)) (by omega)
theorem hd_l3_b {y : UInt64} (h : fb_ 1032 y) : ∀ k, k ≤ 10 → fb_ (1025 + 12 * k) (hd_l3 y k)
  | 0, _ => by unfold fb_ hd_l3; decide
  | k + 1, hk => fb_mono (fb_add (K := 1035 + 12 * k) (fb_mono (fb_mul (hd_l3_b h k (by omega)) h (by omega) (by decide)) (by omega)) (fb_mono (hd_j_b (by omega)) (by omega)) (by omega)) (by omega)
theorem hd_l3y_b {y : UInt64} (h : fb_ 1032 y) {k : Nat} (hk : k ≤ 10) : fb_ 1155 (FP.dmul (hd_l3 y k) y) := fb_mono (fb_mul (hd_l3_b h k hk) h (by omega) (by decide)) (by omega)
theorem hd_2z_b {x : UInt64} (h : hd_ok x) : fb_ 1030 (FP.dmul hd_2 (hd_z x)) := fb_mono (fb_mul (K := 1025) (by unfold fb_; decide) (hd_z_b h) (by decide) (by decide)) (by omega)
theorem hd_2zs_b {x : UInt64} (h : hd_ok x) : fb_ 1153 (FP.dmul (FP.dmul hd_2 (hd_z x)) (hd_l3 (FP.dmul (hd_z x) (hd_z x)) 10)) := fb_mono (fb_mul (hd_2z_b h) (hd_l3_b (hd_y_b h) 10 (by decide)) (by decide) (by decide)) (by omega)
theorem hd_kl_b (k : Int32) : fb_ 1057 (FP.dmul (FP.i2d k) hd_l) := fb_mono (fb_mul (L := 1023) (fb_i2d k) (by unfold fb_; decide) (by decide) (by decide)) (by omega)
theorem hd_le_b {x : UInt64} (h : hd_ok x) (k : Int32) : fb_ 1155 (hd_le x k) := fb_mono (fb_add (hd_2zs_b h) (fb_mono (hd_kl_b k) (by decide)) (by decide)) (by omega)
theorem hd_ln_b {x : UInt64} (h : hd_in x) : fb_ 1155 (hd_ln x) := hd_le_b (hd_x2_in h) _
theorem hd_lev_b {sa : Nat → UInt64} {f : Nat} (h : ∀ i, i < 32 → fb_ 1057 (sa (16 * f + i))) (b : Nat) : fb_ 1155 (hd_lev sa f b) := hd_ln_b (hd_fl_in (hd_su_b h b) (hd_su_p h b))
-- FAR of two rows of four, D and WARP
def hd_far (a b : Nat → UInt64) : Nat → UInt64
  | 0 => 0
  | k + 1 => FP.dadd (hd_far a b k) (FP.dmul (FP.dsub (a k) (b k)) (FP.dsub (a k) (b k)))
theorem hd_df_b {x y : UInt64} (hx : fb_ 1155 x) (hy : fb_ 1155 y) : fb_ 1157 (FP.dsub x y) := fb_mono (fb_sub hx hy (by decide)) (by omega)
theorem hd_dd_b {x y : UInt64} (hx : fb_ 1155 x) (hy : fb_ 1155 y) : fb_ 1292 (FP.dmul (FP.dsub x y) (FP.dsub x y)) := fb_mono (fb_mul (hd_df_b hx hy) (hd_df_b hx hy) (by decide) (by decide)) (by omega)
theorem hd_far_b {a b : Nat → UInt64} (ha : ∀ k, k < 4 → fb_ 1155 (a k)) (hb : ∀ k, k < 4 → fb_ 1155 (b k)) : ∀ n, n ≤ 4 → fb_ (1292 + 2 * n) (hd_far a b n)
  | 0, _ => by unfold fb_ hd_far; decide
  | n + 1, hn => fb_mono (fb_add (hd_far_b ha hb n (by omega)) (fb_mono (hd_dd_b (ha n (by omega)) (hb n (by omega))) (by omega)) (by omega)) (by omega)
theorem hd_far_p {a b : Nat → UInt64} (ha : ∀ k, k < 4 → fb_ 1155 (a k)) (hb : ∀ k, k < 4 → fb_ 1155 (b k)) : ∀ n, n ≤ 4 → po_ (hd_far a b n)
  | 0, _ => by unfold po_ hd_far; decide
  | n + 1, hn => po_add (fb_fin (hd_far_b ha hb n (by omega)) (by omega)) (fb_fin (hd_dd_b (ha n (by omega)) (hb n (by omega))) (by decide)) (hd_far_p ha hb n (by omega)) (po_sq (fb_fin (hd_df_b (ha n (by omega)) (hb n (by omega))) (by decide)))
end
section
-- short rows over the kit's: the top of the stack by another name, arrays by a number as index
section RW
variable {p : Program} {l : Launch} {e : Env} {R : Room} {s : State} {m : MethodId} {args : Array Value} {below : List Frame} {meth : Method} {c : Code} {H : Heap} {locs : List Loc} {cells slots : Nat} {Q : State → Prop}
variable {cc : ByteArray} {pc : Nat} {ls : Array Slot} {rest : List Value} {D : va_G} {cl : List vw_C} {A : Nat → Prop} {a : Nat} {tys : List (ClassId × FieldType)} {ws : va_W} {H0 : Heap}
theorem rw_i {x y : Int32} (h : x = y) (k : W p l e R s m args below meth c H locs cells slots Q (F0 m pc ls (.int y :: rest))) : W p l e R s m args below meth c H locs cells slots Q (F0 m pc ls (.int x :: rest)) := h ▸ k
theorem rw_l {x y : Int64} (h : x = y) (k : W p l e R s m args below meth c H locs cells slots Q (F0 m pc ls (.long y :: rest))) : W p l e R s m args below meth c H locs cells slots Q (F0 m pc ls (.long x :: rest)) := h ▸ k
theorem rw_d {x y : UInt64} (h : x = y) (k : W p l e R s m args below meth c H locs cells slots Q (F0 m pc ls (.double y :: rest))) : W p l e R s m args below meth c H locs cells slots Q (F0 m pc ls (.double x :: rest)) := h ▸ k
theorem rw_ald_i (hexec : p.tables.exec = Jvm.exec) (hb : c.code = cc) (hK : va_K D cl tys s) (hP : va_P D cl ws H) (q0 t0 : Nat) {cA : ClassId} {n : Nat} {f : Nat → Int32} (ha : ws[q0]? = some (a, .inl (cA, n, .inl f))) (ht : tys[t0]? = some (cA, .int)) {k : Nat} (hk : k < n) (hn : n < 2 ^ 31) (hdg : decode cc pc = .ok (.iaload, 1))
    (kk : W p l e R s m args below meth c H locs cells slots Q (F0 m (pc + 1) ls (.int (f k) :: rest))) : W p l e R s m args below meth c H locs cells slots Q (F0 m pc ls (.int (nI k) :: .ref a :: rest)) := by
  refine va_iald hexec hb hK hP q0 t0 ha ht (vp_in_nI hk hn) hdg ?_
  rw [nI_clamp (by omega)]
  exact kk
theorem rw_ald_d (hexec : p.tables.exec = Jvm.exec) (hb : c.code = cc) (hK : va_K D cl tys s) (hP : va_P D cl ws H) (q0 t0 : Nat) {cA : ClassId} {n : Nat} {f : Nat → UInt64} (ha : ws[q0]? = some (a, .inl (cA, n, .inr (.inr (.inr (.inl f)))))) (ht : tys[t0]? = some (cA, .double)) {k : Nat} (hk : k < n) (hn : n < 2 ^ 31) (hdg : decode cc pc = .ok (.daload, 1))
    (kk : W p l e R s m args below meth c H locs cells slots Q (F0 m (pc + 1) ls (.double (f k) :: rest))) : W p l e R s m args below meth c H locs cells slots Q (F0 m pc ls (.int (nI k) :: .ref a :: rest)) := by
  refine va_dald hexec hb hK hP q0 t0 ha ht (vp_in_nI hk hn) hdg ?_
  rw [nI_clamp (by omega)]
  exact kk
theorem rw_ald_q (hexec : p.tables.exec = Jvm.exec) (hb : c.code = cc) (hK : va_K D cl tys s) (hP : va_P D cl ws H) (q0 t0 : Nat) {cA : ClassId} {C : String} {n : Nat} {f : Nat → Option Nat} (ha : ws[q0]? = some (a, .inl (cA, n, .inr (.inr (.inr (.inr f)))))) (ht : tys[t0]? = some (cA, .object C)) {k x : Nat} (hx : f k = some x) (hk : k < n) (hn : n < 2 ^ 31) (hdg : decode cc pc = .ok (.aaload, 1))
    (kk : W p l e R s m args below meth c H locs cells slots Q (F0 m (pc + 1) ls (.ref x :: rest))) : W p l e R s m args below meth c H locs cells slots Q (F0 m pc ls (.int (nI k) :: .ref a :: rest)) := by
  refine va_aldq hexec hb hK hP q0 t0 ha ht (vp_in_nI hk hn) hdg ?_
  rw [nI_clamp (by omega), hx]
  exact kk
theorem rw_ast_i (hexec : p.tables.exec = Jvm.exec) (hb : c.code = cc) (hK : va_K D cl tys s) (hP : va_P D cl ws H) (hD : va_D A ws) (hS : va_S A H0 H locs) (q0 t0 : Nat) {cA : ClassId} {n : Nat} {f : Nat → Int32} (ha : ws[q0]? = some (a, .inl (cA, n, .inl f))) (ht : tys[t0]? = some (cA, .int)) {k : Nat} {x : Int32} (hk : k < n) (hn : n < 2 ^ 31) (hdg : decode cc pc = .ok (.iastore, 1))
    (kk : ∀ (H1 : Heap) (locs1 : List Loc), va_P D cl (ws.set q0 (a, .inl (cA, n, .inl (upd f k x)))) H1 → va_D A (ws.set q0 (a, .inl (cA, n, .inl (upd f k x)))) → va_S A H0 H1 locs1 → W p l e R s m args below meth c H1 locs1 cells slots Q (F0 m (pc + 1) ls rest)) : W p l e R s m args below meth c H locs cells slots Q (F0 m pc ls (.int x :: .int (nI k) :: .ref a :: rest)) := by
  refine va_iast hexec hb hK hP hD hS q0 t0 ha ht (vp_in_nI hk hn) hdg ?_
  rw [nI_clamp (by omega)]
  exact kk
theorem rw_ast_d (hexec : p.tables.exec = Jvm.exec) (hb : c.code = cc) (hK : va_K D cl tys s) (hP : va_P D cl ws H) (hD : va_D A ws) (hS : va_S A H0 H locs) (q0 t0 : Nat) {cA : ClassId} {n : Nat} {f : Nat → UInt64} (ha : ws[q0]? = some (a, .inl (cA, n, .inr (.inr (.inr (.inl f)))))) (ht : tys[t0]? = some (cA, .double)) {k : Nat} {x : UInt64} (hk : k < n) (hn : n < 2 ^ 31) (hdg : decode cc pc = .ok (.dastore, 1))
    (kk : ∀ (H1 : Heap) (locs1 : List Loc), va_P D cl (ws.set q0 (a, .inl (cA, n, .inr (.inr (.inr (.inl (vf_upd f k x))))))) H1 → va_D A (ws.set q0 (a, .inl (cA, n, .inr (.inr (.inr (.inl (vf_upd f k x))))))) → va_S A H0 H1 locs1 → W p l e R s m args below meth c H1 locs1 cells slots Q (F0 m (pc + 1) ls rest)) : W p l e R s m args below meth c H locs cells slots Q (F0 m pc ls (.double x :: .int (nI k) :: .ref a :: rest)) := by
  refine va_dast hexec hb hK hP hD hS q0 t0 ha ht (vp_in_nI hk hn) hdg ?_
  rw [nI_clamp (by omega)]
  exact kk
theorem rw_ast_q (hexec : p.tables.exec = Jvm.exec) (hb : c.code = cc) (hK : va_K D cl tys s) (hP : va_P D cl ws H) (hD : va_D A ws) (hS : va_S A H0 H locs) (q0 t0 qk ci : Nat) {cA : ClassId} {r : vw_C} {n v : Nat} {vs : List Value} {f : Nat → Option Nat} (ha : ws[q0]? = some (a, .inl (cA, n, .inr (.inr (.inr (.inr f)))))) (ht : tys[t0]? = some (cA, .object r.1)) (hv : ws[qk]? = some (v, .inr (ci, vs))) (hc : cl[ci]? = some r) {k : Nat} (hk : k < n) (hn : n < 2 ^ 31) (hdg : decode cc pc = .ok (.aastore, 1))
    (kk : ∀ (H1 : Heap) (locs1 : List Loc), va_P D cl (ws.set q0 (a, .inl (cA, n, .inr (.inr (.inr (.inr (va_up f k (some v)))))))) H1 → va_D A (ws.set q0 (a, .inl (cA, n, .inr (.inr (.inr (.inr (va_up f k (some v)))))))) → va_S A H0 H1 locs1 → W p l e R s m args below meth c H1 locs1 cells slots Q (F0 m (pc + 1) ls rest)) : W p l e R s m args below meth c H locs cells slots Q (F0 m pc ls (.ref v :: .int (nI k) :: .ref a :: rest)) := by
  refine va_astq hexec hb hK hP hD hS q0 t0 qk ci ha ht hv hc (vp_in_nI hk hn) hdg ?_
  rw [nI_clamp (by omega)]
  exact kk
end RW
end
