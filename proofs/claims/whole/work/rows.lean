section
-- numbers: doubles by their bits; fb_ K a: the magnitude of a is below 2 ^ (K - 1023), so a is finite where K ≤ 2047
def fb_ (K : Nat) (a : UInt64) : Prop := a.toNat % 2 ^ 63 < K * 2 ^ 52
theorem fb_mono {K L : Nat} {a : UInt64} (h : fb_ K a) (hl : K ≤ L) : fb_ L a := Nat.lt_of_lt_of_le h (Nat.mul_le_mul_right _ hl)
theorem fb_n {K : Nat} {a : UInt64} (h : fb_ K a) (hK : K ≤ 2047) : vf_n64 a := by
  unfold vf_n64
  unfold fb_ at h
  rw [UInt64.le_iff_toNat_le, FP.Core.mask_toNat]
  have e : (0x7ff0000000000000 : UInt64).toNat = 9218868437227405312 := by decide
  rw [e]
  omega
theorem fb_fin {K : Nat} {a : UInt64} (h : fb_ K a) (hK : K ≤ 2047) : FP.Core.DFin a := FP.Core.fin_of_lt h hK
theorem fb_nn {K : Nat} {a : UInt64} (h : fb_ K a) (hK : K ≤ 2047) : FP.Core.val64 a ≠ .nan := (fb_fin h hK).ne_nan
theorem fb_add {K : Nat} {a b : UInt64} (ha : fb_ K a) (hb : fb_ K b) (hK : K ≤ 2047) : fb_ (K + 2) (FP.dadd a b) := FP.Core.dadd_mag ha hb hK
theorem fb_sub {K : Nat} {a b : UInt64} (ha : fb_ K a) (hb : fb_ K b) (hK : K ≤ 2047) : fb_ (K + 2) (FP.dsub a b) := FP.Core.dsub_mag ha hb hK
theorem fb_mul {K L : Nat} {a b : UInt64} (ha : fb_ K a) (hb : fb_ L b) (hK : K ≤ 2047) (hL : L ≤ 2047) : fb_ (K + L - 1025 + 3) (FP.dmul a b) := FP.Core.dmul_mag ha hb hK hL
theorem fb_div {K L : Nat} {a b : UInt64} (ha : fb_ K a) (hb : L * 2 ^ 52 ≤ b.toNat % 2 ^ 63) (hb2 : fb_ 2047 b) (hK : K ≤ 2047) (hL : 1 ≤ L) : fb_ (K + 1021 - L + 3) (FP.ddiv a b) := FP.Core.ddiv_mag ha hb hb2 hK hL
theorem fb_i2d (x : Int32) : fb_ 1056 (FP.i2d x) := FP.Core.i2d_mag x
-- the sign bit is clear
def po_ (a : UInt64) : Prop := a.toNat < 2 ^ 63
theorem po_of {a : UInt64} (h : FP.Core.val64 a ≠ .nan) (hs : FP.Core.sgn (FP.Core.val64 a) = false) : po_ a := by
  rw [FP.Core.sgn_bits h] at hs
  have := of_decide_eq_false hs
  unfold po_
  omega
theorem po_sgn {a : UInt64} (h : FP.Core.val64 a ≠ .nan) (hs : po_ a) : FP.Core.sgn (FP.Core.val64 a) = false := by
  rw [FP.Core.sgn_bits h]
  unfold po_ at hs
  exact decide_eq_false (by omega)
theorem po_sq {a : UInt64} (h : FP.Core.DFin a) : po_ (FP.dmul a a) := by
  obtain ⟨s, c, q, hv⟩ := h
  have e : FP.Core.val64 (FP.dmul a a) = FP.Core.roundRatio FP.Core.b64 false (c * c) 1 (q + q) := by
    rw [FP.Core.val64_dmul, hv]
    show FP.Core.round FP.Core.b64 (.fin (s != s) (c * c) (q + q)) = _
    rw [show (s != s) = false by cases s <;> rfl]
    rfl
  refine po_of ?_ ?_
  · rw [e]; exact FP.Core.roundRatio_ne_nan _ _ _ _ _
  · rw [e]; exact FP.Core.sgn_roundRatio _ _ _ _ _
theorem po_add {a b : UInt64} (ha : FP.Core.DFin a) (hb : FP.Core.DFin b) (pa : po_ a) (pb : po_ b) : po_ (FP.dadd a b) := by
  have sa := po_sgn ha.ne_nan pa
  have sb := po_sgn hb.ne_nan pb
  obtain ⟨s, c, q, hv⟩ := ha
  obtain ⟨t, d, r, hw⟩ := hb
  rw [hv] at sa
  rw [hw] at sb
  have es : s = false := sa
  have et : t = false := sb
  subst es
  subst et
  have hn : ¬ FP.Core.sumUnits false c q false d r (min q r) < 0 := by
    unfold FP.Core.sumUnits FP.Core.signed
    simp only [Bool.false_eq_true, if_false]
    omega
  have e : FP.Core.val64 (FP.dadd a b) = FP.Core.roundRatio FP.Core.b64 false (FP.Core.sumUnits false c q false d r (min q r)).natAbs 1 (min q r) := by
    rw [FP.Core.val64_dadd, hv, hw]
    show FP.Core.round FP.Core.b64 (.fin (FP.Core.sumSign false false (FP.Core.sumUnits false c q false d r (min q r))) _ _) = _
    rw [show FP.Core.sumSign false false (FP.Core.sumUnits false c q false d r (min q r)) = false by
      unfold FP.Core.sumSign
      split
      · rfl
      · exact decide_eq_false hn]
    rfl
  refine po_of ?_ ?_
  · rw [e]; exact FP.Core.roundRatio_ne_nan _ _ _ _ _
  · rw [e]; exact FP.Core.sgn_roundRatio _ _ _ _ _
theorem po_zero {a : UInt64} (h : FP.Core.DFin a) (pa : po_ a) : FP.dadd a 0 = a := by
  refine FP.Core.dadd_zero h.ne_nan (fun q => ?_)
  rw [q] at pa
  exact absurd pa (by unfold po_; decide)
-- a positive normal number, halved and doubled: one less, one more in its exponent
theorem fn_val {a : UInt64} {E T : Nat} (h : a.toNat = E * 2 ^ 52 + T) (hT : T < 2 ^ 52) (h1 : 1 ≤ E) (h2 : E < 2047) : FP.Core.val64 a = .fin false (2 ^ 52 + T) (-1074 + ((E : Int) - 1)) := by
  have he : FP.Core.b64.exps = 2048 := by decide
  have ht := FP.Core.tails_b64
  have h3 : a.toNat = FP.Core.assemble FP.Core.b64 false E T := by
    unfold FP.Core.assemble
    rw [ht, h]
    simp
  unfold FP.Core.val64
  rw [h3, FP.Core.decode_assemble _ _ _ _ (by omega) (by omega), if_neg (by omega), if_neg (by omega), ht, FP.Core.qmin_b64]
theorem fn_ex {N : Nat} (h : N < 2 ^ 64) : ∃ b : UInt64, b.toNat = N := ⟨UInt64.ofNat N, by rw [UInt64.toNat_ofNat']; exact Nat.mod_eq_of_lt h⟩
theorem fn_two : FP.Core.val64 0x4000000000000000 = .fin false (2 ^ 52) (-51) := by decide +kernel
theorem fn_half {a : UInt64} (h1 : 2 * 2 ^ 52 ≤ a.toNat) (h2 : a.toNat < 2047 * 2 ^ 52) : (FP.ddiv a 0x4000000000000000).toNat = a.toNat - 2 ^ 52 := by
  obtain ⟨E, T, hE, hT⟩ : ∃ E T, a.toNat = E * 2 ^ 52 + T ∧ T < 2 ^ 52 := ⟨a.toNat / 2 ^ 52, a.toNat % 2 ^ 52, by omega, by omega⟩
  have v1 := fn_val hE hT (by omega) (by omega)
  obtain ⟨b, hb⟩ := fn_ex (N := (E - 1) * 2 ^ 52 + T) (by omega)
  have v2 := fn_val hb hT (by omega) (by omega)
  have hf := FP.Core.val64_fits b
  rw [v2] at hf
  have e : FP.ddiv a 0x4000000000000000 = b := by
    refine (FP.Core.val64_inj (by rw [v2]; exact FP.Core.Datum.noConfusion) ?_).symm
    refine v2.trans ?_
    refine Eq.trans ?_ (FP.Core.val64_ddiv a 0x4000000000000000).symm
    rw [v1, fn_two]
    show _ = if (2 ^ 52 : Nat) = 0 then (if (2 ^ 52 + T) = 0 then FP.Core.Datum.nan else FP.Core.Datum.inf (false != false)) else FP.Core.roundRatio FP.Core.b64 (false != false) (2 ^ 52 + T) (2 ^ 52) (-1074 + ((E : Int) - 1) - (-51))
    rw [if_neg (by decide)]
    refine (FP.Core.roundRatio_exact FP.Core.good_b64 (by decide) hf ?_).symm
    rw [show (-1074 + ((E : Int) - 1) - (-51) - (-1074 + (((E - 1 : Nat) : Int) - 1))).toNat = 52 by omega, show (-1074 + (((E - 1 : Nat) : Int) - 1) - (-1074 + ((E : Int) - 1) - (-51))).toNat = 0 by omega]
    simp
  rw [e, hb, hE]
  omega
theorem fn_dbl {a : UInt64} (h1 : 2 ^ 52 ≤ a.toNat) (h2 : a.toNat < 2046 * 2 ^ 52) : (FP.dmul a 0x4000000000000000).toNat = a.toNat + 2 ^ 52 := by
  obtain ⟨E, T, hE, hT⟩ : ∃ E T, a.toNat = E * 2 ^ 52 + T ∧ T < 2 ^ 52 := ⟨a.toNat / 2 ^ 52, a.toNat % 2 ^ 52, by omega, by omega⟩
  have v1 := fn_val hE hT (by omega) (by omega)
  obtain ⟨b, hb⟩ := fn_ex (N := (E + 1) * 2 ^ 52 + T) (by omega)
  have v2 := fn_val hb hT (by omega) (by omega)
  have hf := FP.Core.val64_fits b
  rw [v2] at hf
  have e : FP.dmul a 0x4000000000000000 = b := by
    refine (FP.Core.val64_inj (by rw [v2]; exact FP.Core.Datum.noConfusion) ?_).symm
    refine v2.trans ?_
    refine Eq.trans ?_ (FP.Core.val64_dmul a 0x4000000000000000).symm
    rw [v1, fn_two]
    show _ = FP.Core.roundRatio FP.Core.b64 (false != false) ((2 ^ 52 + T) * 2 ^ 52) 1 (-1074 + ((E : Int) - 1) + (-51))
    refine (FP.Core.roundRatio_exact FP.Core.good_b64 (by decide) hf ?_).symm
    rw [show (-1074 + ((E : Int) - 1) + (-51) - (-1074 + (((E + 1 : Nat) : Int) - 1))).toNat = 0 by omega, show (-1074 + (((E + 1 : Nat) : Int) - 1) - (-1074 + ((E : Int) - 1) + (-51))).toNat = 52 by omega]
    simp
  rw [e, hb, hE]
  omega
-- order of numbers with a clear sign: by bits
theorem fo_lt {a b : UInt64} (ha : FP.Core.val64 a ≠ .nan) (hb : FP.Core.val64 b ≠ .nan) (pa : po_ a) (pb : po_ b) : FP.dcmp a b = some .lt ↔ a.toNat < b.toNat := (FP.Core.mono_bits ha hb pa pb).1
theorem fo_eq {a b : UInt64} (ha : FP.Core.val64 a ≠ .nan) (hb : FP.Core.val64 b ≠ .nan) (pa : po_ a) (pb : po_ b) : FP.dcmp a b = some .eq ↔ a.toNat = b.toNat := (FP.Core.mono_bits ha hb pa pb).2.1
theorem fo_gt {a b : UInt64} (ha : FP.Core.val64 a ≠ .nan) (hb : FP.Core.val64 b ≠ .nan) (pa : po_ a) (pb : po_ b) : FP.dcmp a b = some .gt ↔ b.toNat < a.toNat := (FP.Core.mono_bits ha hb pa pb).2.2
-- what dcmpl, dcmpg and a branch say
theorem fc_lt_l (o : Option Ordering) : Op.cmpValue o .l < 0 ↔ o = some .lt ∨ o = none := by rcases o with _ | (_ | _ | _) <;> decide
theorem fc_le_l (o : Option Ordering) : Op.cmpValue o .l ≤ 0 ↔ o ≠ some .gt := by rcases o with _ | (_ | _ | _) <;> decide
theorem fc_eq_l (o : Option Ordering) : Op.cmpValue o .l = 0 ↔ o = some .eq := by rcases o with _ | (_ | _ | _) <;> decide
theorem fc_gt_l (o : Option Ordering) : 0 < Op.cmpValue o .l ↔ o = some .gt := by rcases o with _ | (_ | _ | _) <;> decide
theorem fc_ge_l (o : Option Ordering) : 0 ≤ Op.cmpValue o .l ↔ o = some .gt ∨ o = some .eq := by rcases o with _ | (_ | _ | _) <;> decide
theorem fc_lt_g (o : Option Ordering) : Op.cmpValue o .g < 0 ↔ o = some .lt := by rcases o with _ | (_ | _ | _) <;> decide
theorem fc_le_g (o : Option Ordering) : Op.cmpValue o .g ≤ 0 ↔ o = some .lt ∨ o = some .eq := by rcases o with _ | (_ | _ | _) <;> decide
theorem fc_eq_g (o : Option Ordering) : Op.cmpValue o .g = 0 ↔ o = some .eq := by rcases o with _ | (_ | _ | _) <;> decide
theorem fc_gt_g (o : Option Ordering) : 0 < Op.cmpValue o .g ↔ o = some .gt ∨ o = none := by rcases o with _ | (_ | _ | _) <;> decide
theorem fc_ge_g (o : Option Ordering) : 0 ≤ Op.cmpValue o .g ↔ o ≠ some .lt := by rcases o with _ | (_ | _ | _) <;> decide
end
section
-- what the document calls A, C, S, P, LN, LEVEL, LOUD, FAR, D, WARP: as functions on bits
def hd_1 : UInt64 := 4607182418800017408
def hd_2 : UInt64 := 4611686018427387904
def hd_h : UInt64 := 4602678819172646912
def hd_ep : UInt64 := 4457293557087583675
def hd_15 : UInt64 := 4609434218613702656
def hd_75 : UInt64 := 4604930618986332160
def hd_l : UInt64 := 4604418534313441775
def hd_A (n : Nat) : UInt64 := FP.dmul (FP.i2d (if 17 ≤ n then nI n - 32 else nI n)) 4596242258042563864
def hd_sr (o : Nat) (y : UInt64) : Nat → UInt64
  | 0 => hd_1
  | k + 1 => FP.dsub hd_1 (FP.ddiv (FP.dmul y (hd_sr o y k)) (FP.i2d (nI ((24 - 2 * k + o) * (24 - 2 * k + o - 1)))))
def hd_C (n : Nat) : UInt64 := hd_sr 0 (FP.dmul (hd_A n) (hd_A n)) 12
def hd_S (n : Nat) : UInt64 := FP.dmul (hd_A n) (hd_sr 1 (FP.dmul (hd_A n) (hd_A n)) 12)
def hd_W (n : Nat) : UInt64 := FP.dsub hd_h (FP.dmul hd_h (hd_C n))
def hd_v (sa : Nat → UInt64) (f i : Nat) : UInt64 := FP.dmul (sa (16 * f + i)) (hd_W i)
def hd_re (sa : Nat → UInt64) (f k : Nat) : Nat → UInt64
  | 0 => 0
  | i + 1 => FP.dadd (hd_re sa f k i) (FP.dmul (hd_v sa f i) (hd_C (k * i % 32)))
def hd_im (sa : Nat → UInt64) (f k : Nat) : Nat → UInt64
  | 0 => 0
  | i + 1 => FP.dsub (hd_im sa f k i) (FP.dmul (hd_v sa f i) (hd_S (k * i % 32)))
def hd_P (sa : Nat → UInt64) (f k : Nat) : UInt64 := FP.dadd (FP.dmul (hd_re sa f k 32) (hd_re sa f k 32)) (FP.dmul (hd_im sa f k 32) (hd_im sa f k 32))
def hd_bl (b : Nat) : Nat := if b = 0 then 1 else if b = 1 then 3 else if b = 2 then 5 else 9
def hd_bn (b : Nat) : Nat := if b = 0 then 2 else if b = 1 then 2 else if b = 2 then 4 else 8
def hd_bs (sa : Nat → UInt64) (f lo : Nat) : Nat → UInt64
  | 0 => 0
  | m + 1 => FP.dadd (hd_bs sa f lo m) (hd_P sa f (lo + m))
def hd_su (sa : Nat → UInt64) (f b : Nat) : UInt64 := hd_bs sa f (hd_bl b) (hd_bn b)
def hd_lo (sa : Nat → UInt64) (f : Nat) : Nat → UInt64
  | 0 => 0
  | b + 1 => FP.dadd (hd_lo sa f b) (hd_su sa f b)
-- LN: halved as long as it is 1.5 or more, doubled as long as it is below 0.75 (the fuel is never used up), then the series
def hd_l1 : Nat → UInt64 → Int32 → UInt64 × Int32
  | 0, x, k => (x, k)
  | n + 1, x, k => if FP.dcmp x hd_15 = some .gt ∨ FP.dcmp x hd_15 = some .eq then hd_l1 n (FP.ddiv x hd_2) (k + 1) else (x, k)
def hd_l2 : Nat → UInt64 → Int32 → UInt64 × Int32
  | 0, x, k => (x, k)
  | n + 1, x, k => if FP.dcmp x hd_75 = some .lt then hd_l2 n (FP.dmul x hd_2) (k - 1) else (x, k)
def hd_l3 (y : UInt64) : Nat → UInt64
  | 0 => 0
  | k + 1 => FP.dadd (FP.dmul (hd_l3 y k) y) (FP.ddiv hd_1 (FP.i2d (nI (19 - 2 * k))))
def hd_z (x : UInt64) : UInt64 := FP.ddiv (FP.dsub x hd_1) (FP.dadd x hd_1)
def hd_le (x : UInt64) (k : Int32) : UInt64 := FP.dadd (FP.dmul (FP.dmul hd_2 (hd_z x)) (hd_l3 (FP.dmul (hd_z x) (hd_z x)) 10)) (FP.dmul (FP.i2d k) hd_l)
def hd_x2 (x : UInt64) : UInt64 × Int32 := hd_l2 2000 (hd_l1 2000 x 0).1 (hd_l1 2000 x 0).2
def hd_ln (x : UInt64) : UInt64 := hd_le (hd_x2 x).1 (hd_x2 x).2
def hd_fl (s : UInt64) : UInt64 := if FP.dcmp s hd_ep = some .gt then s else hd_ep
def hd_lev (sa : Nat → UInt64) (f b : Nat) : UInt64 := hd_ln (hd_fl (hd_su sa f b))
-- bounds
theorem hd_C_b : ∀ n, n < 32 → (hd_C n).toNat % 2 ^ 63 < 1024 * 2 ^ 52 := by decide +kernel
theorem hd_S_b : ∀ n, n < 32 → (hd_S n).toNat % 2 ^ 63 < 1024 * 2 ^ 52 := by decide +kernel
theorem hd_W_b : ∀ n, n < 32 → (hd_W n).toNat % 2 ^ 63 < 1024 * 2 ^ 52 := by decide +kernel
theorem hd_v_b {sa : Nat → UInt64} {f : Nat} (h : ∀ i, i < 32 → fb_ 1057 (sa (16 * f + i))) {i : Nat} (hi : i < 32) : fb_ 1059 (hd_v sa f i) := fb_mono (fb_mul (h i hi) (hd_W_b i hi) (by decide) (by decide)) (by omega)
theorem hd_vc_b {sa : Nat → UInt64} {f : Nat} (h : ∀ i, i < 32 → fb_ 1057 (sa (16 * f + i))) {i j : Nat} (hi : i < 32) (hj : j < 32) : fb_ 1061 (FP.dmul (hd_v sa f i) (hd_C j)) := fb_mono (fb_mul (hd_v_b h hi) (hd_C_b j hj) (by decide) (by decide)) (by omega)
theorem hd_vs_b {sa : Nat → UInt64} {f : Nat} (h : ∀ i, i < 32 → fb_ 1057 (sa (16 * f + i))) {i j : Nat} (hi : i < 32) (hj : j < 32) : fb_ 1061 (FP.dmul (hd_v sa f i) (hd_S j)) := fb_mono (fb_mul (hd_v_b h hi) (hd_S_b j hj) (by decide) (by decide)) (by omega)
theorem hd_re_b {sa : Nat → UInt64} {f : Nat} (h : ∀ i, i < 32 → fb_ 1057 (sa (16 * f + i))) (k : Nat) : ∀ n, n ≤ 32 → fb_ (1061 + 2 * n) (hd_re sa f k n)
  | 0, _ => by unfold fb_ hd_re; decide
  | n + 1, hn => fb_mono (fb_add (hd_re_b h k n (by omega)) (fb_mono (hd_vc_b h (by omega) (Nat.mod_lt _ (by decide))) (by omega)) (by omega)) (by omega)
theorem hd_im_b {sa : Nat → UInt64} {f : Nat} (h : ∀ i, i < 32 → fb_ 1057 (sa (16 * f + i))) (k : Nat) : ∀ n, n ≤ 32 → fb_ (1061 + 2 * n) (hd_im sa f k n)
  | 0, _ => by unfold fb_ hd_im; decide
  | n + 1, hn => fb_mono (fb_sub (hd_im_b h k n (by omega)) (fb_mono (hd_vs_b h (by omega) (Nat.mod_lt _ (by decide))) (by omega)) (by omega)) (by omega)
theorem hd_re2_b {sa : Nat → UInt64} {f : Nat} (h : ∀ i, i < 32 → fb_ 1057 (sa (16 * f + i))) (k : Nat) : fb_ 1228 (FP.dmul (hd_re sa f k 32) (hd_re sa f k 32)) := fb_mono (fb_mul (hd_re_b h k 32 (by decide)) (hd_re_b h k 32 (by decide)) (by decide) (by decide)) (by omega)
theorem hd_im2_b {sa : Nat → UInt64} {f : Nat} (h : ∀ i, i < 32 → fb_ 1057 (sa (16 * f + i))) (k : Nat) : fb_ 1228 (FP.dmul (hd_im sa f k 32) (hd_im sa f k 32)) := fb_mono (fb_mul (hd_im_b h k 32 (by decide)) (hd_im_b h k 32 (by decide)) (by decide) (by decide)) (by omega)
theorem hd_P_b {sa : Nat → UInt64} {f : Nat} (h : ∀ i, i < 32 → fb_ 1057 (sa (16 * f + i))) (k : Nat) : fb_ 1230 (hd_P sa f k) := fb_mono (fb_add (hd_re2_b h k) (hd_im2_b h k) (by decide)) (by omega)
theorem hd_P_p {sa : Nat → UInt64} {f : Nat} (h : ∀ i, i < 32 → fb_ 1057 (sa (16 * f + i))) (k : Nat) : po_ (hd_P sa f k) := po_add (fb_fin (hd_re2_b h k) (by decide)) (fb_fin (hd_im2_b h k) (by decide)) (po_sq (fb_fin (hd_re_b h k 32 (by decide)) (by decide))) (po_sq (fb_fin (hd_im_b h k 32 (by decide)) (by decide)))
theorem hd_bs_b {sa : Nat → UInt64} {f : Nat} (h : ∀ i, i < 32 → fb_ 1057 (sa (16 * f + i))) (lo : Nat) : ∀ m, m ≤ 8 → fb_ (1230 + 2 * m) (hd_bs sa f lo m)
  | 0, _ => by unfold fb_ hd_bs; decide
  | m + 1, hm => fb_mono (fb_add (hd_bs_b h lo m (by omega)) (fb_mono (hd_P_b h (lo + m)) (by omega)) (by omega)) (by omega)
theorem hd_bs_p {sa : Nat → UInt64} {f : Nat} (h : ∀ i, i < 32 → fb_ 1057 (sa (16 * f + i))) (lo : Nat) : ∀ m, m ≤ 8 → po_ (hd_bs sa f lo m)
  | 0, _ => by unfold po_ hd_bs; decide
  | m + 1, hm => po_add (fb_fin (hd_bs_b h lo m (by omega)) (by omega)) (fb_fin (hd_P_b h (lo + m)) (by decide)) (hd_bs_p h lo m (by omega)) (hd_P_p h (lo + m))
theorem hd_bn_8 (b : Nat) : hd_bn b ≤ 8 := by unfold hd_bn; split <;> (try split) <;> (try split) <;> omega
theorem hd_su_b {sa : Nat → UInt64} {f : Nat} (h : ∀ i, i < 32 → fb_ 1057 (sa (16 * f + i))) (b : Nat) : fb_ 1246 (hd_su sa f b) := fb_mono (hd_bs_b h (hd_bl b) (hd_bn b) (hd_bn_8 b)) (by have := hd_bn_8 b; omega)
theorem hd_su_p {sa : Nat → UInt64} {f : Nat} (h : ∀ i, i < 32 → fb_ 1057 (sa (16 * f + i))) (b : Nat) : po_ (hd_su sa f b) := hd_bs_p h (hd_bl b) (hd_bn b) (hd_bn_8 b)
theorem hd_lo_b {sa : Nat → UInt64} {f : Nat} (h : ∀ i, i < 32 → fb_ 1057 (sa (16 * f + i))) : ∀ b, b ≤ 4 → fb_ (1246 + 2 * b) (hd_lo sa f b)
  | 0, _ => by unfold fb_ hd_lo; decide
  | b + 1, hb => fb_mono (fb_add (hd_lo_b h b (by omega)) (fb_mono (hd_su_b h b) (by omega)) (by omega)) (by omega)
-- LN: what goes in lies between 0.0000000001 and 2 ^ 223; what is left lies between 0.75 and 1.5
def hd_in (x : UInt64) : Prop := 989 * 2 ^ 52 ≤ x.toNat ∧ x.toNat < 1246 * 2 ^ 52
theorem hd_in_p {x : UInt64} (h : hd_in x) : po_ x := by unfold hd_in at h; unfold po_; omega
theorem hd_in_b {x : UInt64} (h : hd_in x) : fb_ 1246 x := by unfold hd_in at h; unfold fb_; omega
theorem hd_fl_in {s : UInt64} (h : fb_ 1246 s) (p : po_ s) : hd_in (hd_fl s) := by
  have e : hd_ep.toNat = 4457293557087583675 := by decide
  unfold hd_fl
  by_cases c : FP.dcmp s hd_ep = some .gt
  · rw [if_pos c]
    rw [fo_gt (fb_nn h (by decide)) (by decide +kernel) p (by unfold po_; decide), e] at c
    unfold hd_in
    unfold fb_ at h
    unfold po_ at p
    omega
  · rw [if_neg c]
    unfold hd_in
    rw [e]
    omega
theorem hd_15_n : hd_15.toNat = 4609434218613702656 := by decide
theorem hd_75_n : hd_75.toNat = 4604930618986332160 := by decide
theorem hd_c15 {x : UInt64} (h : hd_in x) : (FP.dcmp x hd_15 = some .gt ∨ FP.dcmp x hd_15 = some .eq) ↔ 4609434218613702656 ≤ x.toNat := by
  have n1 := fb_nn (hd_in_b h) (by decide)
  have n2 : FP.Core.val64 hd_15 ≠ .nan := by decide +kernel
  have p2 : po_ hd_15 := by unfold po_; decide
  rw [fo_gt n1 n2 (hd_in_p h) p2, fo_eq n1 n2 (hd_in_p h) p2, hd_15_n]
  omega
theorem hd_c75 {x : UInt64} (h : hd_in x) : FP.dcmp x hd_75 = some .lt ↔ x.toNat < 4604930618986332160 := by
  rw [fo_lt (fb_nn (hd_in_b h) (by decide)) (by decide +kernel) (hd_in_p h) (by unfold po_; decide), hd_75_n]
theorem hd_l1_in : ∀ (n : Nat) (x : UInt64) (k : Int32), hd_in x → x.toNat < 4609434218613702656 + n * 2 ^ 52 → hd_in (hd_l1 n x k).1 ∧ (hd_l1 n x k).1.toNat < 4609434218613702656
  | 0, x, k, h, hn => ⟨h, by show x.toNat < _; omega⟩
  | n + 1, x, k, h, hn => by
    unfold hd_l1
    by_cases c : FP.dcmp x hd_15 = some .gt ∨ FP.dcmp x hd_15 = some .eq
    · rw [if_pos c]
      have c' := (hd_c15 h).mp c
      have e : (FP.ddiv x hd_2).toNat = x.toNat - 2 ^ 52 := fn_half (by omega) (by unfold hd_in at h; omega)
      exact hd_l1_in n _ _ (by unfold hd_in at h ⊢; rw [e]; omega) (by rw [e]; omega)
    · rw [if_neg c]
      exact ⟨h, by have := mt (hd_c15 h).mpr c; show x.toNat < _; omega⟩
theorem hd_l2_in : ∀ (n : Nat) (x : UInt64) (k : Int32), hd_in x → x.toNat < 4609434218613702656 → 4604930618986332160 ≤ x.toNat + n * 2 ^ 52 → 4604930618986332160 ≤ (hd_l2 n x k).1.toNat ∧ (hd_l2 n x k).1.toNat < 4609434218613702656
  | 0, x, k, h, h1, hn => ⟨by show _ ≤ x.toNat; omega, h1⟩
  | n + 1, x, k, h, h1, hn => by
    unfold hd_l2
    by_cases c : FP.dcmp x hd_75 = some .lt
    · rw [if_pos c]
      have c' := (hd_c75 h).mp c
      have e : (FP.dmul x hd_2).toNat = x.toNat + 2 ^ 52 := fn_dbl (by unfold hd_in at h; omega) (by unfold hd_in at h; omega)
      exact hd_l2_in n _ _ (by unfold hd_in at h ⊢; rw [e]; omega) (by rw [e]; omega) (by rw [e]; omega)
    · rw [if_neg c]
      exact ⟨by have := mt (hd_c75 h).mpr c; show _ ≤ x.toNat; omega, h1⟩
theorem hd_x2_in {x : UInt64} (h : hd_in x) : 4604930618986332160 ≤ (hd_x2 x).1.toNat ∧ (hd_x2 x).1.toNat < 4609434218613702656 := by
  obtain ⟨a, b⟩ := hd_l1_in 2000 x 0 h (by unfold hd_in at h; omega)
  exact hd_l2_in 2000 _ _ a b (by unfold hd_in at a; omega)
-- the series of LN
def hd_ok (x : UInt64) : Prop := 4604930618986332160 ≤ x.toNat ∧ x.toNat < 4609434218613702656
theorem hd_ok_b {x : UInt64} (h : hd_ok x) : fb_ 1024 x := by unfold hd_ok at h; unfold fb_; omega
theorem hd_ok_p {x : UInt64} (h : hd_ok x) : po_ x := by unfold hd_ok at h; unfold po_; omega
theorem hd_1_b : fb_ 1024 hd_1 := by unfold fb_; decide
theorem hd_1_p : po_ hd_1 := by unfold po_; decide
theorem hd_m1_b {x : UInt64} (h : hd_ok x) : fb_ 1026 (FP.dsub x hd_1) := fb_mono (fb_sub (hd_ok_b h) hd_1_b (by decide)) (by omega)
theorem hd_p1_b {x : UInt64} (h : hd_ok x) : fb_ 1026 (FP.dadd x hd_1) := fb_mono (fb_add (hd_ok_b h) hd_1_b (by decide)) (by omega)
theorem hd_p1_p {x : UInt64} (h : hd_ok x) : po_ (FP.dadd x hd_1) := po_add (fb_fin (hd_ok_b h) (by decide)) (fb_fin hd_1_b (by decide)) (hd_ok_p h) hd_1_p
theorem hd_p1_g {x : UInt64} (h : hd_ok x) : 1023 * 2 ^ 52 ≤ (FP.dadd x hd_1).toNat % 2 ^ 63 := by
  have nx := fb_nn (hd_ok_b h) (by decide)
  have n1 := fb_nn hd_1_b (by decide)
  have hs := FP.Core.sum_ge FP.Core.good_b64 (fb_fin (hd_ok_b h) (by decide)) (fb_fin hd_1_b (by decide)) (FP.Core.val64_fits x) (FP.Core.val64_fits hd_1) (FP.Core.val64_fits hd_1) n1 (by have := FP.Core.zval_nonneg nx (hd_ok_p h); omega)
  rw [← FP.Core.val64_dadd] at hs
  have np := fb_nn (hd_p1_b h) (by decide)
  have hc := FP.Core.dcmp_ge.mpr ⟨np, n1, hs⟩
  have pp := hd_p1_p h
  have hc2 : hd_1.toNat ≤ (FP.dadd x hd_1).toNat := by
    rcases hc with g | g
    · exact Nat.le_of_lt ((fo_gt np n1 pp hd_1_p).mp g)
    · exact Nat.le_of_eq ((fo_eq np n1 pp hd_1_p).mp g).symm
  have e : hd_1.toNat = 4607182418800017408 := by decide
  rw [e] at hc2
  unfold po_ at pp
  omega
theorem hd_z_b {x : UInt64} (h : hd_ok x) : fb_ 1027 (hd_z x) := fb_mono (fb_div (hd_m1_b h) (hd_p1_g h) (fb_mono (hd_p1_b h) (by decide)) (by decide) (by decide)) (by omega)
theorem hd_y_b {x : UInt64} (h : hd_ok x) : fb_ 1032 (FP.dmul (hd_z x) (hd_z x)) := fb_mono (fb_mul (hd_z_b h) (hd_z_b h) (by decide) (by decide)) (by omega)
theorem hd_j_g : ∀ k, k < 10 → 1023 * 2 ^ 52 ≤ (FP.i2d (nI (19 - 2 * k))).toNat % 2 ^ 63 := by decide +kernel
theorem hd_j_b {k : Nat} (hk : k < 10) : fb_ 1025 (FP.ddiv hd_1 (FP.i2d (nI (19 - 2 * k)))) := fb_mono (fb_div hd_1_b (hd_j_g k hk) (fb_mono (fb_i2d _) (by decide)) (by decide) (by decide)) (by omega)
theorem hd_l3_b {y : UInt64} (h : fb_ 1032 y) : ∀ k, k ≤ 10 → fb_ (1025 + 12 * k) (hd_l3 y k)
  | 0, _ => by unfold fb_ hd_l3; decide
  | k + 1, hk => fb_mono (fb_add (K := 1035 + 12 * k) (fb_mono (fb_mul (hd_l3_b h k (by omega)) h (by omega) (by decide)) (by omega)) (fb_mono (hd_j_b (by omega)) (by omega)) (by omega)) (by omega)
theorem hd_l3y_b {y : UInt64} (h : fb_ 1032 y) {k : Nat} (hk : k ≤ 10) : fb_ 1155 (FP.dmul (hd_l3 y k) y) := fb_mono (fb_mul (hd_l3_b h k hk) h (by omega) (by decide)) (by omega)
theorem hd_2z_b {x : UInt64} (h : hd_ok x) : fb_ 1030 (FP.dmul hd_2 (hd_z x)) := fb_mono (fb_mul (K := 1025) (by unfold fb_; decide) (hd_z_b h) (by decide) (by decide)) (by omega)
theorem hd_2zs_b {x : UInt64} (h : hd_ok x) : fb_ 1153 (FP.dmul (FP.dmul hd_2 (hd_z x)) (hd_l3 (FP.dmul (hd_z x) (hd_z x)) 10)) := fb_mono (fb_mul (hd_2z_b h) (hd_l3_b (hd_y_b h) 10 (by decide)) (by decide) (by decide)) (by omega)
theorem hd_kl_b (k : Int32) : fb_ 1057 (FP.dmul (FP.i2d k) hd_l) := fb_mono (fb_mul (L := 1023) (fb_i2d k) (by unfold fb_; decide) (by decide) (by decide)) (by omega)
theorem hd_le_b {x : UInt64} (h : hd_ok x) (k : Int32) : fb_ 1155 (hd_le x k) := fb_mono (fb_add (hd_2zs_b h) (fb_mono (hd_kl_b k) (by decide)) (by decide)) (by omega)
theorem hd_ln_b {x : UInt64} (h : hd_in x) : fb_ 1155 (hd_ln x) := hd_le_b (hd_x2_in h) _
theorem hd_lev_b {sa : Nat → UInt64} {f : Nat} (h : ∀ i, i < 32 → fb_ 1057 (sa (16 * f + i))) (b : Nat) : fb_ 1155 (hd_lev sa f b) := hd_ln_b (hd_fl_in (hd_su_b h b) (hd_su_p h b))
-- FAR of two rows of four, D and WARP
def hd_far (a b : Nat → UInt64) : Nat → UInt64
  | 0 => 0
  | k + 1 => FP.dadd (hd_far a b k) (FP.dmul (FP.dsub (a k) (b k)) (FP.dsub (a k) (b k)))
theorem hd_df_b {x y : UInt64} (hx : fb_ 1155 x) (hy : fb_ 1155 y) : fb_ 1157 (FP.dsub x y) := fb_mono (fb_sub hx hy (by decide)) (by omega)
theorem hd_dd_b {x y : UInt64} (hx : fb_ 1155 x) (hy : fb_ 1155 y) : fb_ 1292 (FP.dmul (FP.dsub x y) (FP.dsub x y)) := fb_mono (fb_mul (hd_df_b hx hy) (hd_df_b hx hy) (by decide) (by decide)) (by omega)
theorem hd_far_b {a b : Nat → UInt64} (ha : ∀ k, k < 4 → fb_ 1155 (a k)) (hb : ∀ k, k < 4 → fb_ 1155 (b k)) : ∀ n, n ≤ 4 → fb_ (1292 + 2 * n) (hd_far a b n)
  | 0, _ => by unfold fb_ hd_far; decide
  | n + 1, hn => fb_mono (fb_add (hd_far_b ha hb n (by omega)) (fb_mono (hd_dd_b (ha n (by omega)) (hb n (by omega))) (by omega)) (by omega)) (by omega)
theorem hd_far_p {a b : Nat → UInt64} (ha : ∀ k, k < 4 → fb_ 1155 (a k)) (hb : ∀ k, k < 4 → fb_ 1155 (b k)) : ∀ n, n ≤ 4 → po_ (hd_far a b n)
  | 0, _ => by unfold po_ hd_far; decide
  | n + 1, hn => po_add (fb_fin (hd_far_b ha hb n (by omega)) (by omega)) (fb_fin (hd_dd_b (ha n (by omega)) (hb n (by omega))) (by decide)) (hd_far_p ha hb n (by omega)) (po_sq (fb_fin (hd_df_b (ha n (by omega)) (hb n (by omega))) (by decide)))
end
section
-- short rows over the kit's: the top of the stack by another name, arrays by a number as index
section RW
variable {p : Program} {l : Launch} {e : Env} {R : Room} {s : State} {m : MethodId} {args : Array Value} {below : List Frame} {meth : Method} {c : Code} {H : Heap} {locs : List Loc} {cells slots : Nat} {Q : State → Prop}
variable {cc : ByteArray} {pc : Nat} {ls : Array Slot} {rest : List Value} {D : va_G} {cl : List vw_C} {A : Nat → Prop} {a : Nat} {tys : List (ClassId × FieldType)} {ws : va_W} {H0 : Heap}
theorem rw_i {x y : Int32} (h : x = y) (k : W p l e R s m args below meth c H locs cells slots Q (F0 m pc ls (.int y :: rest))) : W p l e R s m args below meth c H locs cells slots Q (F0 m pc ls (.int x :: rest)) := h ▸ k
theorem rw_l {x y : Int64} (h : x = y) (k : W p l e R s m args below meth c H locs cells slots Q (F0 m pc ls (.long y :: rest))) : W p l e R s m args below meth c H locs cells slots Q (F0 m pc ls (.long x :: rest)) := h ▸ k
theorem rw_d {x y : UInt64} (h : x = y) (k : W p l e R s m args below meth c H locs cells slots Q (F0 m pc ls (.double y :: rest))) : W p l e R s m args below meth c H locs cells slots Q (F0 m pc ls (.double x :: rest)) := h ▸ k
theorem rw_ald_i (hexec : p.tables.exec = Jvm.exec) (hb : c.code = cc) (hK : va_K D cl tys s) (hP : va_P D cl ws H) (q0 t0 : Nat) {cA : ClassId} {n : Nat} {f : Nat → Int32} (ha : ws[q0]? = some (a, .inl (cA, n, .inl f))) (ht : tys[t0]? = some (cA, .int)) {k : Nat} (hk : k < n) (hn : n < 2 ^ 31) (hdg : decode cc pc = .ok (.iaload, 1))
    (kk : W p l e R s m args below meth c H locs cells slots Q (F0 m (pc + 1) ls (.int (f k) :: rest))) : W p l e R s m args below meth c H locs cells slots Q (F0 m pc ls (.int (nI k) :: .ref a :: rest)) := by
  refine va_iald hexec hb hK hP q0 t0 ha ht (vp_in_nI hk hn) hdg ?_
  rw [nI_clamp (by omega)]
  exact kk
theorem rw_ald_d (hexec : p.tables.exec = Jvm.exec) (hb : c.code = cc) (hK : va_K D cl tys s) (hP : va_P D cl ws H) (q0 t0 : Nat) {cA : ClassId} {n : Nat} {f : Nat → UInt64} (ha : ws[q0]? = some (a, .inl (cA, n, .inr (.inr (.inr (.inl f)))))) (ht : tys[t0]? = some (cA, .double)) {k : Nat} (hk : k < n) (hn : n < 2 ^ 31) (hdg : decode cc pc = .ok (.daload, 1))
    (kk : W p l e R s m args below meth c H locs cells slots Q (F0 m (pc + 1) ls (.double (f k) :: rest))) : W p l e R s m args below meth c H locs cells slots Q (F0 m pc ls (.int (nI k) :: .ref a :: rest)) := by
  refine va_dald hexec hb hK hP q0 t0 ha ht (vp_in_nI hk hn) hdg ?_
  rw [nI_clamp (by omega)]
  exact kk
theorem rw_ald_q (hexec : p.tables.exec = Jvm.exec) (hb : c.code = cc) (hK : va_K D cl tys s) (hP : va_P D cl ws H) (q0 t0 : Nat) {cA : ClassId} {C : String} {n : Nat} {f : Nat → Option Nat} (ha : ws[q0]? = some (a, .inl (cA, n, .inr (.inr (.inr (.inr f)))))) (ht : tys[t0]? = some (cA, .object C)) {k x : Nat} (hx : f k = some x) (hk : k < n) (hn : n < 2 ^ 31) (hdg : decode cc pc = .ok (.aaload, 1))
    (kk : W p l e R s m args below meth c H locs cells slots Q (F0 m (pc + 1) ls (.ref x :: rest))) : W p l e R s m args below meth c H locs cells slots Q (F0 m pc ls (.int (nI k) :: .ref a :: rest)) := by
  refine va_aldq hexec hb hK hP q0 t0 ha ht (vp_in_nI hk hn) hdg ?_
  rw [nI_clamp (by omega), hx]
  exact kk
theorem rw_ast_i (hexec : p.tables.exec = Jvm.exec) (hb : c.code = cc) (hK : va_K D cl tys s) (hP : va_P D cl ws H) (hD : va_D A ws) (hS : va_S A H0 H locs) (q0 t0 : Nat) {cA : ClassId} {n : Nat} {f : Nat → Int32} (ha : ws[q0]? = some (a, .inl (cA, n, .inl f))) (ht : tys[t0]? = some (cA, .int)) {k : Nat} {x : Int32} (hk : k < n) (hn : n < 2 ^ 31) (hdg : decode cc pc = .ok (.iastore, 1))
    (kk : ∀ (H1 : Heap) (locs1 : List Loc), va_P D cl (ws.set q0 (a, .inl (cA, n, .inl (upd f k x)))) H1 → va_D A (ws.set q0 (a, .inl (cA, n, .inl (upd f k x)))) → va_S A H0 H1 locs1 → W p l e R s m args below meth c H1 locs1 cells slots Q (F0 m (pc + 1) ls rest)) : W p l e R s m args below meth c H locs cells slots Q (F0 m pc ls (.int x :: .int (nI k) :: .ref a :: rest)) := by
  refine va_iast hexec hb hK hP hD hS q0 t0 ha ht (vp_in_nI hk hn) hdg ?_
  rw [nI_clamp (by omega)]
  exact kk
theorem rw_ast_d (hexec : p.tables.exec = Jvm.exec) (hb : c.code = cc) (hK : va_K D cl tys s) (hP : va_P D cl ws H) (hD : va_D A ws) (hS : va_S A H0 H locs) (q0 t0 : Nat) {cA : ClassId} {n : Nat} {f : Nat → UInt64} (ha : ws[q0]? = some (a, .inl (cA, n, .inr (.inr (.inr (.inl f)))))) (ht : tys[t0]? = some (cA, .double)) {k : Nat} {x : UInt64} (hk : k < n) (hn : n < 2 ^ 31) (hdg : decode cc pc = .ok (.dastore, 1))
    (kk : ∀ (H1 : Heap) (locs1 : List Loc), va_P D cl (ws.set q0 (a, .inl (cA, n, .inr (.inr (.inr (.inl (vf_upd f k x))))))) H1 → va_D A (ws.set q0 (a, .inl (cA, n, .inr (.inr (.inr (.inl (vf_upd f k x))))))) → va_S A H0 H1 locs1 → W p l e R s m args below meth c H1 locs1 cells slots Q (F0 m (pc + 1) ls rest)) : W p l e R s m args below meth c H locs cells slots Q (F0 m pc ls (.double x :: .int (nI k) :: .ref a :: rest)) := by
  refine va_dast hexec hb hK hP hD hS q0 t0 ha ht (vp_in_nI hk hn) hdg ?_
  rw [nI_clamp (by omega)]
  exact kk
theorem rw_ast_q (hexec : p.tables.exec = Jvm.exec) (hb : c.code = cc) (hK : va_K D cl tys s) (hP : va_P D cl ws H) (hD : va_D A ws) (hS : va_S A H0 H locs) (q0 t0 qk ci : Nat) {cA : ClassId} {r : vw_C} {n v : Nat} {vs : List Value} {f : Nat → Option Nat} (ha : ws[q0]? = some (a, .inl (cA, n, .inr (.inr (.inr (.inr f)))))) (ht : tys[t0]? = some (cA, .object r.1)) (hv : ws[qk]? = some (v, .inr (ci, vs))) (hc : cl[ci]? = some r) {k : Nat} (hk : k < n) (hn : n < 2 ^ 31) (hdg : decode cc pc = .ok (.aastore, 1))
    (kk : ∀ (H1 : Heap) (locs1 : List Loc), va_P D cl (ws.set q0 (a, .inl (cA, n, .inr (.inr (.inr (.inr (va_up f k (some v)))))))) H1 → va_D A (ws.set q0 (a, .inl (cA, n, .inr (.inr (.inr (.inr (va_up f k (some v)))))))) → va_S A H0 H1 locs1 → W p l e R s m args below meth c H1 locs1 cells slots Q (F0 m (pc + 1) ls rest)) : W p l e R s m args below meth c H locs cells slots Q (F0 m pc ls (.ref v :: .int (nI k) :: .ref a :: rest)) := by
  refine va_astq hexec hb hK hP hD hS q0 t0 qk ci ha ht hv hc (vp_in_nI hk hn) hdg ?_
  rw [nI_clamp (by omega)]
  exact kk
end RW
end
section
-- methods that return or throw: their contract, a throw that leaves a method, a call of such a method, the catch in the caller
/-- a method's end: as Qc says, or an exception of a class E as XC says; in both the room and the places that were written -/
def ex_Q (Qc : Array Value → State → Outcome → State → Prop) (XC : String → State → State → Prop) (mc ms : Nat) (free : Addr → Prop) : Array Value → State → Outcome → State → Prop := fun a st o t =>
  (Qc a st o t ∧ ∃ L, FrameEnd st o t L mc ms ∧ ∀ q ∈ L, free q.base) ∨
  (∃ (q : Addr) (E : String) (ce : Cell) (L : List Loc), o = .threw q ∧ XC E st t ∧ t.heap[q]? = some ce ∧ ce.vm = .none ∧ st.vm.findClass E = some ce.cls ∧ st.WarmedH t.vm ∧ st.sameButNew ({ t with vm := st.vm } : State) L mc ms ∧ ∀ z ∈ L, free z.base)
def ex_Met (l : Launch) (y : MethodName) (ws : List Cond) (rm : Room) (Pc : Array Value → State → Prop) (Qc : Array Value → State → Outcome → State → Prop) (XC : String → State → State → Prop) (mc ms : Nat) (free : Addr → Prop) : Prop :=
  MetFree l y (headSpec ws rm) Pc (fun _ _ _ _ _ => True) (ex_Q Qc XC mc ms free)
def ex_MQ (below : List Frame) (Qc : Array Value → State → Outcome → State → Prop) (XC : String → State → State → Prop) (a : Array Value) (s : State) (mc ms : Nat) (free : Addr → Prop) : State → Prop := fun t =>
  ∃ o, t.status = .running ∧ Ended t below o ∧ ex_Q Qc XC mc ms free a s o t
theorem ex_met {l : Launch} {y : MethodName} {ws ws' : List Cond} {rm : Room} {Pc : Array Value → State → Prop} {Qc : Array Value → State → Outcome → State → Prop} {XC : String → State → State → Prop} {mc ms : Nat} {free : Addr → Prop} {cc : ByteArray} {maxL : Nat} {ret : Option FieldType}
    (hy : plainName y.cls = true) (hw : ws = Cond.code y cc maxL ret :: ws')
    (body : ∀ p e s m args below meth c s₁, BodyLoose p l y (headSpec ws rm) cc maxL ret e s m args below meth c s₁ → c.maxLocals = maxL → c.exceptionTable.toList = [] → Pc args s →
      W p l e (headSpec ws rm).room s m args below meth c s.heap [] 0 0 (ex_MQ below Qc XC args s mc ms free) (entryFrame m args maxL)) : ex_Met l y ws rm Pc Qc XC mc ms free := by
  refine MetFree.of_bodyS (code := cc) (maxLocals := maxL) (ret := ret) hy ?_ ?_
  · intro args s m h hn
    obtain ⟨meth, c, h1, h2, h3, h4, h5, h6, -, -⟩ := Cond.code_spec hn (atoms_spec (ws := ws) h _ (by rw [hw]; exact List.mem_cons_self))
    exact ⟨meth, c, h1, h2, h3, h4, h5, h6⟩
  · intro p e s m args below meth c s₁ B hml hP _
    have X := Stand.of_body B
    have hh0 : s₁.heap = s.heap := by rw [B.state]; rfl
    have htab : c.exceptionTable.toList = [] := by
      obtain ⟨meth', c', g1, g2, -, -, -, -, g7, -⟩ := Cond.code_spec B.named (atoms_spec (ws := ws) B.pre _ (by rw [hw]; exact List.mem_cons_self))
      cases Option.some.inj (g1.symm.trans B.method)
      cases Option.some.inj (g2.symm.trans X.code)
      simpa using g7
    obtain ⟨t, a1, o, b1, b2, b3⟩ := body p e s m args below meth c s₁ B hml htab hP s₁ hh0 X
    exact ⟨t, o, a1, b1, b2, b3⟩
section EX
variable {p : Program} {l : Launch} {e : Env} {R : Room} {s : State} {m : MethodId} {args : Array Value} {below : List Frame} {meth : Method} {c : Code} {H : Heap} {locs : List Loc} {cells slots : Nat} {Q : State → Prop}
variable {Qc : Array Value → State → Outcome → State → Prop} {XC : String → State → State → Prop} {mc ms : Nat} {free : Addr → Prop}
theorem ex_ret {g : JFrame} (k : W p l e R s m args below meth c H locs cells slots (MQ below Qc args s mc ms free) g) : W p l e R s m args below meth c H locs cells slots (ex_MQ below Qc XC args s mc ms free) g := by
  intro T hT X
  obtain ⟨t, a1, o, b1, b2, b3⟩ := k T hT X
  exact ⟨t, a1, o, b1, b2, Or.inl b3⟩
end EX
end
section
section EY
variable {p : Program} {l : Launch} {e : Env} {R : Room} {s : State} {m : MethodId} {args : Array Value} {below : List Frame} {meth : Method} {c : Code} {T : State} {H : Heap} {locs : List Loc} {cells slots : Nat} {Q : State → Prop}
variable {Qc : Array Value → State → Outcome → State → Prop} {XC : String → State → State → Prop} {mc ms : Nat} {free : Addr → Prop}
/-- the state of a walk, taken as if its method began there: all that was written before is part of the start -/
def ex_at (s T : State) (m : MethodId) (args : Array Value) (below : List Frame) : State := (T.setVm s.vm).setFrames (.invoking m args :: below)
theorem ex_at_heap : (ex_at s T m args below).heap = T.heap := rfl
theorem ex_at_vm : (ex_at s T m args below).vm = s.vm := rfl
theorem ex_here (X : Stand p l e R s m args below meth c T locs cells slots) {R' : Room} (hf : R'.frames ≤ R.frames) (hl : R'.locals ≤ R.locals) (hc : cells + R'.cells ≤ R.cells) (hs : slots + R'.slots ≤ R.slots) :
    Stand p l e R' (ex_at s T m args below) m args below meth c T [] 0 0 := by
  obtain ⟨g₀, hg₀⟩ := X.frames_eq
  have hg₁ : (T.setVm s.vm).frames = .java g₀ :: below := hg₀
  have hcur : (T.setVm s.vm).cur < (T.setVm s.vm).threads.size := State.cur_lt_of_frames hg₁
  have hF : (ex_at s T m args below).frames = .invoking m args :: below := State.frames_setFrames _ hcur
  have hroom : (ex_at s T m args below).hasRoom e.platform R' = true := by
    have h := X.room
    have hu : (ex_at s T m args below).localsInUse = s.localsInUse := by
      rw [State.localsInUse_invoking hF (meth := meth) (c := c) X.method X.code, State.localsInUse_invoking X.frames X.method X.code]
    have h1 := X.heapSize
    have h2 := X.used
    have h3 : e.platform.stackLimits (ex_at s T m args below).me = e.platform.stackLimits s.me := by
      unfold ex_at
      rw [State.stackLimits_setFrames]
      exact X.limits
    have h4 : (ex_at s T m args below).me.stackBytes = s.me.stackBytes := by
      unfold ex_at
      rw [State.stackBytes_setFrames]
      exact X.bytes
    have h5 : (ex_at s T m args below).heap.size = T.heap.size := rfl
    have h6 : (ex_at s T m args below).slotsUsed = T.slotsUsed := rfl
    have h7 : (ex_at s T m args below).slotsTrue = true := X.book
    simp only [State.hasRoom, Bool.and_eq_true, decide_eq_true_eq] at h ⊢
    obtain ⟨⟨⟨⟨a1, a2, a3, a4, a5, a6⟩, a7⟩, a8⟩, a9⟩ := h
    rw [X.frames, List.length_cons] at a2 a3
    simp only [hF, hu, h3, h4, h5, h6, List.length_cons]
    exact ⟨⟨⟨⟨by omega, by omega, by omega, by omega, by omega, a6⟩, by omega⟩, by omega⟩, h7⟩
  have hsame : (ex_at s T m args below).sameButNew (T.setVm (ex_at s T m args below).vm) [] 0 0 := by
    refine ⟨?_, Nat.le_refl _, Nat.le_refl _, ?_, ?_, fun a c9 h9 => ⟨c9, h9, rfl, rfl, fun _ _ => rfl⟩⟩
    · obtain ⟨t, ht, -⟩ := State.frames_cons hg₁
      show T.setVm s.vm = { (ex_at s T m args below).setFrames (T.setVm s.vm).frames with heap := T.heap, slotsUsed := T.slotsUsed }
      unfold ex_at
      rw [State.setFrames_setFrames, State.setFrames_self ht]
      rfl
    · have hd : T.heap.toList.drop T.heap.size = [] := List.drop_eq_nil_of_le (Nat.le_of_eq Array.length_toList)
      show T.slotsUsed = T.slotsUsed + ((T.heap.toList.drop T.heap.size).map (·.slots.size)).sum
      rw [hd]
      rfl
    · have hd : T.heap.toList.drop T.heap.size = [] := List.drop_eq_nil_of_le (Nat.le_of_eq Array.length_toList)
      show ((T.heap.toList.drop T.heap.size).map (·.slots.size)).sum ≤ 0
      rw [hd]
      exact Nat.le_refl _
  exact ⟨X.admits, X.cas, X.clock, hF, hroom, X.hears, X.method, X.code, X.here, X.tail, X.warmed, by unfold ex_at; rw [State.stackLimits_setFrames]; rfl, by unfold ex_at; rw [State.stackBytes_setFrames]; rfl, hsame⟩
/-- 'throw new E("text")' where nothing here catches it -/
theorem ex_throw {cc : ByteArray} {pc : Nat} {ls : Array Slot} {rest : List Value} (hexec : p.tables.exec = Jvm.exec) (hb : c.code = cc) (hl : l.stackTraces = false) {own cls text : String} {names : List String} {ik is ic sa : Nat}
    (hown : s.vm.findClass own = some m.cls) (hcls : Bundle.fit cls = true) (hnames : ∀ n ∈ names, Bundle.fit n = true)
    (hw : ∀ T : State, T.heap = H → s.WarmedH T.vm → ∀ w ∈ Cond.classLink own ik cls :: Cond.initialized cls :: Cond.stringRef own is text :: Bundle.ownAtoms own ic cls names, w.before args (ex_at s T m args below) = true)
    (hstr : ∀ T : State, T.heap = H → s.WarmedH T.vm → (Term.string own is).eval args (ex_at s T m args below) none [] (ex_at s T m args below) = some (.ref sa)) (hsize : ls.size = c.maxLocals) (htab : c.exceptionTable.toList = [])
    (d0 : decode cc pc = .ok (.new ik, 3)) (d3 : decode cc (pc + 3) = .ok (.dup, 1)) (d4 : decode cc (pc + 4) = .ok (.ldc is, 2)) (d6 : decode cc (pc + 6) = .ok (.invokespecial ic, 3)) (d9 : decode cc (pc + 9) = .ok (.athrow, 1))
    (hfr : names.length + 3 < R.frames) (hlo : (rest.map fun v => v.category).sum + (13 * (names.length + 1) + 43) ≤ R.locals) (hce : cells + 1 ≤ R.cells) (hsl : slots + 6 ≤ R.slots) (hlocks : meth.locks = false)
    (hx : ∀ t : State, H.size ≤ t.heap.size → (∀ q : Nat, q < H.size → t.heap[q]? = H[q]?) → XC cls s t)
    (hf : ∀ z ∈ locs, free z.base) (hc : cells + 1 ≤ mc) (hs : slots + 6 ≤ ms) :
    W p l e R s m args below meth c H locs cells slots (ex_MQ below Qc XC args s mc ms free) (F0 m pc ls rest) := by
  intro T hT X
  have htr : e.platform.stackTraces = false := (show e.platform.stackTraces = l.stackTraces by rw [X.admits.platform]).trans hl
  have Y := ex_here X (R' := { frames := R.frames, locals := R.locals, cells := 1, slots := 6 }) (Nat.le_refl _) (Nat.le_refl _) hce hsl
  have ws := hw T hT X.warmed
  have hev := hstr T hT X.warmed
  generalize hZ : ex_at s T m args below = Z at Y ws hev
  have zvm : Z.vm = s.vm := by rw [← hZ]; rfl
  have zhp : Z.heap = T.heap := by rw [← hZ]; rfl
  have hownZ : Z.vm.findClass own = some m.cls := by rw [zvm]; exact hown
  have w0 := ws _ List.mem_cons_self
  have w1 := ws _ (List.mem_cons_of_mem _ List.mem_cons_self)
  have w2 := ws _ (List.mem_cons_of_mem _ (List.mem_cons_of_mem _ List.mem_cons_self))
  have w3 : ∀ w ∈ Bundle.ownAtoms own ic cls names, w.before args Z = true := fun w h => ws w (List.mem_cons_of_mem _ (List.mem_cons_of_mem _ (List.mem_cons_of_mem _ h)))
  have wi : (Cond.instantiable cls 6).before args Z = true := w3 _ (by simp [Bundle.ownAtoms])
  obtain ⟨vm₁, cX, kX, hfX, hkX, -, -, X₁, st1⟩ := Y.newCold hexec hownZ w0 wi w1 (g := F0 m pc ls rest) rfl (by rw [hb]; exact d0) (Nat.le_refl _) (Nat.le_refl _)
  generalize hT1 : (T.setVm vm₁).pushCell { cls := cX, slots := kX.instanceTypes.map defaultValue, vm := .none } = T1 at X₁ st1
  have hnew : T1.heap[T.heap.size]? = some (freshCell cX kX) := by rw [← hT1]; exact State.heap_pushCell_size _ _
  have d3' : decode c.code (pc + 3) = .ok (.dup, 1) := by rw [hb]; exact d3
  obtain ⟨U, hsteps, hrun, hend, hW, hsame, ce, hce9, hO⟩ := X₁.ctorThrowS hexec htr (own := own) (cls := cls) (names := names) (ic := ic) hownZ hcls hnames w3 (fun x hx => nomatch hx) hfX hkX hnew (by rw [zhp]; exact Nat.le_refl _) (msg := .ref sa) rfl
    (g := { method := m, pc := pc + 6, locals := ls, stack := .ref sa :: .ref T.heap.size :: .ref T.heap.size :: rest, locked := none }) rfl hsize rfl rfl (rest := rest) rfl
    (by rw [hb]; exact d6) (by rw [hb]; exact d9) (by rw [htab]; exact fun x hx => nomatch hx) hfr (by
      have hcat : (Value.ref T.heap.size).category = 1 := rfl
      simp only [List.map_cons, List.sum_cons, hcat, JFrame.monitorRoom]
      simp
      omega) hlocks
  have hkeep : T.heap.size ≤ U.heap.size ∧ ∀ q : Nat, q < T.heap.size → U.heap[q]? = T.heap[q]? := by
    obtain ⟨-, k2, -, -, -, k6⟩ := hsame
    rw [zhp] at k2 k6
    refine ⟨k2, fun q hq => ?_⟩
    obtain ⟨c9, e1, e2, e3, e4⟩ := k6 q _ (Array.getElem?_eq_getElem hq)
    have hsl9 : c9.slots = (T.heap[q]).slots := Array.ext_getElem? fun i => e4 i (fun hm => nomatch hm)
    have h9 : c9 = T.heap[q] := by
      rw [hsl9] at e2
      exact e2
    have e5 : U.heap[q]? = some c9 := e1
    rw [e5, h9, Array.getElem?_eq_getElem hq]
  have hWs : s.WarmedH U.vm := by
    have h9 := hW
    rw [← hZ] at h9
    exact h9
  have hcl : s.vm.findClass cls = some ce.cls := by
    have h9 := hO.cls
    rw [zvm] at h9
    exact h9
  have hall : s.sameButNew ({ U with vm := s.vm } : State) locs mc ms := by
    subst hZ
    obtain ⟨e1, e2⟩ := hsame
    unfold ex_at at e1
    rw [State.setFrames_setFrames] at e1
    have h2 : (T.setVm s.vm).sameButNew ({ U with vm := s.vm } : State) [] (0 + 1) (0 + 6) := ⟨e1, e2⟩
    have h3 := X.same.trans h2
    rw [List.append_nil] at h3
    exact h3.mono hc hs
  refine ⟨U, ?_, .threw T.heap.size, hrun, hend, Or.inr ⟨T.heap.size, cls, ce, locs, rfl, hx U (by rw [← hT]; exact hkeep.1) (fun q hq => by rw [← hT] at hq ⊢; exact hkeep.2 q hq), hce9, hO.vm, hcl, hWs, hall, hf⟩⟩
  refine st1 _ ?_
  show Steps p.tables e below (T1.setTop { method := m, pc := pc + 3, locals := ls, stack := .ref T.heap.size :: rest, locked := none }) _
  jvm_step X₁.here [X₁.here.top, hexec, d3', Value.category]
  exact X₁.ldcString hexec (own := own) (text := text) (index := is) (a := sa) hownZ w2 hev
    (g := { method := m, pc := pc + 4, locals := ls, stack := .ref T.heap.size :: .ref T.heap.size :: rest, locked := none }) rfl (by rw [hb]; exact d4) _ hsteps
end EY
end
section
section EZ
variable {p : Program} {l : Launch} {e : Env} {R : Room} {s : State} {m : MethodId} {args : Array Value} {below : List Frame} {meth : Method} {c : Code} {T : State} {H : Heap} {locs : List Loc} {cells slots : Nat} {Q : State → Prop}
variable {Qc : Array Value → State → Outcome → State → Prop} {XC : String → State → State → Prop} {mc ms : Nat} {free : Addr → Prop}
/-- the method's frame g, an exception q thrown over it -/
def ex_W (p : Program) (l : Launch) (e : Env) (R : Room) (s : State) (m : MethodId) (args : Array Value) (below : List Frame) (meth : Method) (c : Code) (H : Heap) (locs : List Loc) (cells slots : Nat) (Q : State → Prop) (g : JFrame) (q : Addr) : Prop :=
  ∀ T : State, T.heap = H → Stand p l e R s m args below meth c T locs cells slots → ∃ t, Steps p.tables e below ((T.setTop g).pushFrame (.throwing q)) t ∧ Q t
/-- a virtual call of a method that returns or throws: two roads on -/
theorem ex_callV {y : MethodName} {bytes cc : ByteArray} {maxL nL n index : Nat} {ret : Option FieldType} {ws : List Cond} {rm : Room} {Pc : Array Value → State → Prop} {Ts : List Cond} {own C : String} {b : Addr} {As rest : List Value} {pc : Nat} {ls : Array Slot} {st0 : List Value}
    (S : CallFix p m c cc nL s args Ts own) (hM : ex_Met l y ws rm Pc Qc XC mc ms free) (cw : CallW R s args own C index y bytes maxL ret ws rm mc ms n) (hp : PreV s H C b Pc As)
    (hn : As.length = n) (hsize : ls.size = nL) (hstack : st0 = As.reverse ++ .ref b :: rest) (hW : (rest.map fun v => v.category).sum ≤ 8) (hdg : decode cc pc = .ok (.invokevirtual index, 3)) (hf : cells + mc ≤ R.cells ∧ slots + ms ≤ R.slots)
    (kr : ∀ (v : Option Value) (st t : State) (L : List Loc), st.heap = H → s.vm.Alike t.vm → (∀ q ∈ L, free q.base) → Qc (Value.ref b :: As).toArray st (.returned v) t → W p l e R s m args below meth c t.heap (locs ++ L) (cells + mc) (slots + ms) Q (F0 m (pc + 3) ls (v.toList ++ rest)))
    (kx : ∀ (E : String) (ce : Cell) (q : Addr) (st t : State) (L : List Loc), st.heap = H → s.vm.Alike t.vm → (∀ q ∈ L, free q.base) → XC E st t → t.heap[q]? = some ce → ce.vm = .none → s.vm.findClass E = some ce.cls → ex_W p l e R s m args below meth c t.heap (locs ++ L) (cells + mc) (slots + ms) Q (F0 m pc ls rest) q) :
    W p l e R s m args below meth c H locs cells slots Q (F0 m pc ls st0) := by
  obtain ⟨⟨hrc, hrs, hfr, hlo, hws, hcw, hcode, hini, hy, hlen, hl⟩, hin, hse⟩ := cw
  obtain ⟨hx, hb, hml, ho, -⟩ := S
  obtain ⟨hbl, ⟨cellB, hcB, hoB, hclB⟩, hPc⟩ := hp
  intro T hT X
  obtain ⟨mk, methM, hnamed, hmethM, hstM, habM⟩ := Cond.instanceMethod_spec hin
  obtain ⟨methM', cM, hmethM', -, -, -, -, -, -, hsigM⟩ := Cond.code_spec hnamed hcode
  cases hmethM.symm.trans hmethM'
  obtain ⟨c2, r2, m2, q1, q2, q3, q4, kP, hkP, hkPi⟩ := Cond.selects_spec hse
  cases hclB.symm.trans q1
  cases (State.methodFound?_of_named hnamed hy).symm.trans q2
  cases hnamed.symm.trans q3
  have hselP : selectMethod e.platform s.vm cellB.cls mk = .method mk := by rw [Launch.admits_selectMethod X.admits]; exact q4
  obtain ⟨vm₁, X₁, hstep₁⟩ := X.invokevirtual hx ho hl hnamed hmethM hstM hkP hkPi hy (a := b) (cell := cellB) (by rw [hT]; exact hcB)
    (fun z h => by rw [h] at hoB; cases hoB) hselP hmethM habM hkP hkPi (g := F0 m pc ls st0) rfl (argsL := As) (rest := rest) (hn.trans (hlen _ hsigM)) hstack (by rw [hb]; exact hdg)
  have hg9 : ({ F0 m pc ls st0 with stack := rest } : JFrame) = F0 m pc ls rest := rfl
  rw [hg9] at hstep₁
  have hdg' : decode c.code (F0 m pc ls rest).pc = .ok (.invokevirtual index, 3) := by rw [hb]; exact hdg
  have hsz : (F0 m pc ls rest).locals.size = c.maxLocals := hsize.trans hml.symm
  have hn₁ : (T.setVm vm₁).methodNamed? y = some mk := X₁.named hnamed
  have hcode₁ : (Cond.code y bytes maxL ret).before (Value.ref b :: As).toArray (T.setVm vm₁) = true := hws _ hcw _ _ X₁.warmed
  have hini₁ : (Cond.initialized y.cls).before (Value.ref b :: As).toArray (T.setVm vm₁) = true := word_at X₁.warmed (Or.inl (by first | rfl | simp [Cond.onTables, Cond.keeps, Cond.steady])) hini
  obtain ⟨methY, cY, hmY, hcY, -, hlY, -⟩ := Cond.code_spec hn₁ hcode₁
  obtain ⟨kY, hkY, -⟩ := className_of_methodNamed hn₁
  have hinitY : kY.init = .initialized := Cond.initialized_spec (findClass_of_methodNamed hn₁) hkY hini₁
  have hroom : ((T.setVm vm₁).calling (F0 m pc ls rest) mk (Value.ref b :: As).toArray).hasRoom e.platform (headSpec ws rm).room = true :=
    X₁.room_calling (g := F0 m pc ls rest) (R' := (headSpec ws rm).room) hsz hmY hcY hfr (by
      rw [hlY]
      show 2 * 0 + (rest.map fun v => v.category).sum + (maxL + 11) + rm.locals ≤ R.locals
      omega) (by rw [show (headSpec ws rm).room.cells = mc from hrc]; exact hf.1) (by rw [show (headSpec ws rm).room.slots = ms from hrs]; exact hf.2)
  have happ : (headSpec ws rm).appliesLoose y e.platform ((T.setVm vm₁).calling (F0 m pc ls rest) mk (Value.ref b :: As).toArray) = true :=
    Spec.appliesLoose_calling (g := F0 m pc ls rest) X₁.here hdg' hn₁ hkY hinitY hroom (atoms_intro fun w hw => hws w hw _ _ X₁.warmed)
  have hfr₁ : ((T.setVm vm₁).setTop (F0 m pc ls rest)).frames = .java (F0 m pc ls rest) :: below := by rw [State.frames_setTop' _ X₁.here.top, X₁.tail]
  have hP₁ : Pc (Value.ref b :: As).toArray ((T.setVm vm₁).calling (F0 m pc ls rest) mk (Value.ref b :: As).toArray) := hbl _ _ _ _ (hPc (T.setVm vm₁) hT X₁.warmed)
  obtain ⟨o, t, hsteps, -, hend, hq⟩ := Steps.callFree hM p X.admits X.cas X.clock (acts := []) (mid := [.java (F0 m pc ls rest)]) (below := below) hfr₁ happ hP₁ trivial
  rw [hfr₁] at hend
  have hst0 : ((T.setVm vm₁).calling (F0 m pc ls rest) mk (Value.ref b :: As).toArray).heap = H := hT
  have hq' : ex_Q Qc XC mc ms free (Value.ref b :: As).toArray ((T.setVm vm₁).calling (F0 m pc ls rest) mk (Value.ref b :: As).toArray) o t := hq
  rcases hq' with ⟨hqc, L, hfe, hL⟩ | ⟨q, E, ce, L, rfl, hxc, hce, hcv, hcl, hW₂, hsm, hL⟩
  · obtain ⟨⟨v, rfl⟩, hW₂, hsm⟩ := hfe
    obtain ⟨T', X', hw', hs', ht⟩ := X₁.outOf (g := F0 m pc ls rest) rfl hdg' hend hW₂ hsm
    have hth : t.heap = T'.heap := by rw [ht]; rfl
    have htv : t.vm = T'.vm := by rw [ht]; rfl
    obtain ⟨t2, a1, b1⟩ := kr v _ t L hst0 (by rw [htv]; exact X'.warmed.alike) hL hqc T' hth.symm X'
    refine ⟨t2, hstep₁ _ fun acts => ?_, b1⟩
    rw [doInvoke_state]
    refine hsteps.trans ?_
    rw [ht]
    exact a1
  · obtain ⟨T', X', hw', hs', ht⟩ := X₁.outOfThrown (g := F0 m pc ls rest) rfl hend hW₂ hsm
    have hth : t.heap = T'.heap := by rw [ht]; exact Stand.throwing_heap _ _ _
    have htv : t.vm = T'.vm := by rw [ht]; exact Stand.throwing_vm _ _ _
    have hcl9 : s.vm.findClass E = some ce.cls := by
      have h9 : (T.setVm vm₁).vm.findClass E = some ce.cls := hcl
      rw [X₁.warmed.alike.findClass] at h9
      exact h9
    obtain ⟨t2, a1, b1⟩ := kx E ce q _ t L hst0 (by rw [htv]; exact X'.warmed.alike) hL hxc hce hcv hcl9 T' hth.symm X'
    refine ⟨t2, hstep₁ _ fun acts => ?_, b1⟩
    rw [doInvoke_state]
    refine hsteps.trans ?_
    rw [ht]
    exact a1
end EZ
end
section
-- the search of a handler, entries of the method's own table in their order, each linked when it is asked
def ex_F (e : Env) (s : State) (f : JFrame) (a : Addr) (h : Handler) (vm' : Vm) : Prop :=
  ∀ (Q : Handler → Pre) (E : CtlPost) (d : Bool) (acts : List Action), Sem.wp (findHandler f a) Q E e d acts s ↔ Q h d acts (s.setVm vm')
theorem ex_go_ask {e : Env} {s : State} {f : JFrame} {a : Addr} {x : ExceptionTableEntry} {t : List ExceptionTableEntry} {c : ClassId} {cell : Cell} (hx : covers x f.pc = true) (h0 : x.catchType ≠ 0)
    (hl : s.vm.ClassLinks e.platform f.method.cls x.catchType c) (hcell : s.heap[a]? = some cell) (hobj : ∀ k, cell.vm ≠ .statics k)
    (hk : ∃ k, s.vm.classes[cell.cls]? = some k) (hc : ∃ k, s.vm.classes[c]? = some k) (Q : Handler → Pre) (E : CtlPost) (d : Bool) (acts : List Action) :
    Sem.wp (findHandler.go f a (x :: t)) Q E e d acts s ↔
      if s.vm.assignable cell.cls c = true then Q (.found x.handlerPc) d acts (s.setVm (s.vm.noted f.method.cls x.catchType (.cls c))) else Sem.wp (findHandler.go f a t) Q E e d acts (s.setVm (s.vm.noted f.method.cls x.catchType (.cls c))) := by
  simp only [covers] at hx
  obtain ⟨ha, ht⟩ := (resolveClass_links e.toSetting hl).op (op := VmOp.resolveClass f.method.cls x.catchType) rfl
  have hal : s.vm.Alike (s.vm.noted f.method.cls x.catchType (.cls c)) := (Vm.Alike.refl s.vm).noted _ _ _
  obtain ⟨k1, hk1⟩ := hk
  obtain ⟨k2, hk2⟩ := hc
  obtain ⟨k1', hk1', -⟩ := hal.2.2 _ _ hk1
  obtain ⟨k2', hk2', -⟩ := hal.2.2 _ _ hk2
  cases hfit : s.vm.assignable cell.cls c
  · have hf9 : (s.vm.noted f.method.cls x.catchType (.cls c)).assignable cell.cls c = false := by rw [hal.assignable]; exact hfit
    simp [findHandler.go, hx, h0, ha, ht, hcell, hobj, hk1', hk2', hf9, VmOp.dirties, VmOp.acts]
  · have hf9 : (s.vm.noted f.method.cls x.catchType (.cls c)).assignable cell.cls c = true := by rw [hal.assignable]; exact hfit
    simp [findHandler.go, hx, h0, ha, ht, hcell, hobj, hk1', hk2', hf9, VmOp.dirties, VmOp.acts]
/-- the first entry whose class takes an E is the one of handler h; all cover the place -/
def ex_hit (own : String) (args : Array Value) (s : State) (E : String) (pc h : Nat) : List (Nat × Nat × Nat × Nat) → Prop
  | [] => False
  | y :: ys => y.1 ≤ pc ∧ pc < y.2.1 ∧ y.2.2.2 ≠ 0 ∧ ∃ name : String, (Cond.classLink own y.2.2.2 name).before args s = true ∧ (((Cond.castable E name).before args s = true ∧ y.2.2.1 = h) ∨ (va_Nc E name s ∧ ex_hit own args s E pc h ys))
theorem ex_go {e : Env} {s₀ : State} {f : JFrame} {a : Addr} {cell : Cell} {args : Array Value} {own E : String} {h : Nat} (hpl : e.platform.magicAccessors = ({} : Platform).magicAccessors) (hobj : ∀ k, cell.vm ≠ .statics k) (hcl : s₀.vm.findClass E = some cell.cls) (hown : s₀.vm.findClass own = some f.method.cls) :
    ∀ (tab : List ExceptionTableEntry) (S : State), s₀.WarmedH S.vm → S.heap[a]? = some cell → ex_hit own args s₀ E f.pc h (tab.map fun x => (x.startPc, x.endPc, x.handlerPc, x.catchType)) →
      ∃ vm', s₀.WarmedH vm' ∧ ∀ (Q : Handler → Pre) (E : CtlPost) (d : Bool) (acts : List Action), Sem.wp (findHandler.go f a tab) Q E e d acts S ↔ Q (.found h) d acts (S.setVm vm') := by
  obtain ⟨k0, hk0, -⟩ := Vm.findClass_spec hcl
  intro tab
  induction tab with
  | nil => intro S _ _ hh; exact absurd hh (fun z => z)
  | cons x t ih =>
    intro S hW hcell hh
    obtain ⟨c1, c2, c3, name, hlink, hor⟩ := hh
    have hcov : covers x f.pc = true := by
      have h1 : x.startPc ≤ f.pc := c1
      have h2 : f.pc < x.endPc := c2
      simp [covers, h1, h2]
    have h0 : x.catchType ≠ 0 := c3
    obtain ⟨cN, hcN, hlk⟩ := Cond.classLink_spec hown hlink e.platform hpl
    obtain ⟨dk, _, _, kt, hd, _, _, _, _, hkt, _, hopen⟩ := hlk.here
    obtain ⟨k0', hk0', -⟩ := hW.alike.2.2 _ _ hk0
    obtain ⟨kt', hkt', -⟩ := hW.alike.2.2 _ _ hkt
    have hWn : s₀.WarmedH (S.vm.noted f.method.cls x.catchType (.cls cN)) := hW.noted hd hopen (State.rightAt_cls hlk)
    have hask := fun (Q : Handler → Pre) (E : CtlPost) (d : Bool) (acts : List Action) => ex_go_ask (t := t) hcov h0 (hW.classLinks hlk) hcell hobj ⟨k0', hk0'⟩ ⟨kt', hkt'⟩ Q E d acts
    rcases hor with ⟨hcast, hh⟩ | ⟨hno, hrest⟩
    · obtain ⟨e1, e2, f1, f2, hasg⟩ := Cond.castable_spec hcast
      cases Option.some.inj (f1.symm.trans hcl)
      cases Option.some.inj (f2.symm.trans hcN)
      have hfit : S.vm.assignable cell.cls cN = true := by rw [hW.alike.assignable]; exact hasg
      have hh' : x.handlerPc = h := hh
      exact ⟨_, hWn, fun Q E d acts => by rw [hask Q E d acts, if_pos hfit, hh']⟩
    · obtain ⟨e1, e2, f1, f2, hasg⟩ := hno
      cases Option.some.inj (f1.symm.trans hcl)
      cases Option.some.inj (f2.symm.trans hcN)
      have hfit : ¬ S.vm.assignable cell.cls cN = true := by rw [hW.alike.assignable, hasg]; decide
      obtain ⟨vm', hW', hq⟩ := ih (S.setVm (S.vm.noted f.method.cls x.catchType (.cls cN))) hWn hcell hrest
      exact ⟨vm', hW', fun Q E d acts => by rw [hask Q E d acts, if_neg hfit]; exact hq Q E d acts⟩
theorem ex_stepTo {e : Env} {s : State} {a : Addr} {f : JFrame} {r : List Frame} {pc : Nat} {vm' : Vm} (hfind : ex_F e s f a (.found pc) vm') :
    (stepThrowing e s a (.java f :: r)).Is ((s.setVm vm').setFrames (.java { f with pc := pc, stack := [.ref a] } :: r)) [] := by
  simp only [stepThrowing, searchFrame, vmDo]
  generalize hr : Sem.go _ e false [] s = res
  obtain ⟨as, rfl, ha⟩ := Sem.eq_ok_of hr (a := Handler.found pc) (s' := s.setVm vm') (acts' := []) (by simp [hfind _ _ _ _])
  exact ⟨rfl, ha⟩
section EC
variable {p : Program} {l : Launch} {e : Env} {R : Room} {s : State} {m : MethodId} {args : Array Value} {below : List Frame} {meth : Method} {c : Code} {H : Heap} {locs : List Loc} {cells slots : Nat} {Q : State → Prop}
/-- an exception that a call here has thrown is caught here -/
theorem ex_catch {own E : String} {ce : Cell} {q : Addr} {pc h : Nat} {ls : Array Slot} {rest : List Value} {hs : List (Nat × Nat × Nat × Nat)} (hown : s.vm.findClass own = some m.cls) (htab : c.exceptionTable.toList.map (fun x => (x.startPc, x.endPc, x.handlerPc, x.catchType)) = hs) (hhit : ex_hit own args s E pc h hs)
    (hcell : H[q]? = some ce) (hv : ce.vm = .none) (hcl : s.vm.findClass E = some ce.cls)
    (kk : W p l e R s m args below meth c H locs cells slots Q (F0 m h ls [.ref q])) : ex_W p l e R s m args below meth c H locs cells slots Q (F0 m pc ls rest) q := by
  intro T hT X
  have hpl : e.platform.magicAccessors = ({} : Platform).magicAccessors := by rw [X.admits.platform]
  have hh0 : ((T.setTop (F0 m pc ls rest)).pushFrame (.throwing q)).heap = T.heap := Stand.throwing_heap _ _ _
  have hv0 : ((T.setTop (F0 m pc ls rest)).pushFrame (.throwing q)).vm = T.vm := Stand.throwing_vm _ _ _
  obtain ⟨vm', hW', hq⟩ := ex_go (e := e) (s₀ := s) (f := F0 m pc ls rest) (a := q) (cell := ce) (args := args) (own := own) (E := E) (h := h) hpl (fun k z => by rw [hv] at z; cases z) hcl hown c.exceptionTable.toList
    ((T.setTop (F0 m pc ls rest)).pushFrame (.throwing q)) (by rw [hv0]; exact X.warmed) (by rw [hh0, hT]; exact hcell) (by rw [htab]; exact hhit)
  have hfind : ex_F e ((T.setTop (F0 m pc ls rest)).pushFrame (.throwing q)) (F0 m pc ls rest) q (.found h) vm' := by
    intro Q9 E9 d9 acts9
    rw [_root_.Jvm.W.findHandler_eq (meth := meth) (code := c) (by rw [hv0]; exact X.method') X.code]
    exact hq Q9 E9 d9 acts9
  obtain ⟨t, a1, b1⟩ := kk (T.setVm vm') hT (X.noted hW')
  refine ⟨t, ?_, b1⟩
  obtain ⟨hgo, hw⟩ := (show At T (F0 m pc ls rest).method c below from X.here).throwing q
  refine Steps.head hgo hw ?_
  rw [stepThread_throwing (frames_entered X.here.top _), (ex_stepTo (s := (T.setTop (F0 m pc ls rest)).pushFrame (.throwing q)) hfind).1]
  obtain ⟨g₀, hg₀⟩ := X.frames_eq
  have hr' : (T.setVm vm').frames = .java g₀ :: below := hg₀
  rw [State.setTop_of_frames _ hr'] at a1
  rw [hg₀, List.tail_cons, State.pushFrame, State.setTop_of_frames _ hg₀]
  have e1 : ∀ (u : State) (F G : List Frame), ((u.setFrames F).setVm vm').setFrames G = (u.setVm vm').setFrames G := fun u F G => by
    have h1 : (u.setFrames F).setVm vm' = (u.setVm vm').setFrames F := rfl
    rw [h1, State.setFrames_setFrames]
  rw [e1, e1]
  exact a1
end EC
end
