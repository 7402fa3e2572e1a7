section
-- numbers: doubles by their bits; fb_ K a: the magnitude of a is below 2 ^ (K - 1023), so a is finite where K ≤ 2047
def fb_ (K : Nat) (a : UInt64) : Prop := a.toNat % 2 ^ 63 < K * 2 ^ 52
theorem fb_mono {K L : Nat} {a : UInt64} (h : fb_ K a) (hl : K ≤ L) : fb_ L a := Nat.lt_of_lt_of_le h (Nat.mul_le_mul_right _ hl)
theorem fb_n {K : Nat} {a : UInt64} (h : fb_ K a) (hK : K ≤ 2047) : vf_n64 a := by
  unfold vf_n64
  unfold fb_ at h
  rw [UInt64.le_iff_toNat_le, FP.Core.mask_toNat]
  have e : (0x7ff0000000000000 : UInt64).toNat = 9218868437227405312 := by decide
  rw [e]
  omega
theorem fb_fin {K : Nat} {a : UInt64} (h : fb_ K a) (hK : K ≤ 2047) : FP.Core.DFin a := FP.Core.fin_of_lt h hK
theorem fb_nn {K : Nat} {a : UInt64} (h : fb_ K a) (hK : K ≤ 2047) : FP.Core.val64 a ≠ .nan := (fb_fin h hK).ne_nan
theorem fb_add {K : Nat} {a b : UInt64} (ha : fb_ K a) (hb : fb_ K b) (hK : K ≤ 2047) : fb_ (K + 2) (FP.dadd a b) := FP.Core.dadd_mag ha hb hK
theorem fb_sub {K : Nat} {a b : UInt64} (ha : fb_ K a) (hb : fb_ K b) (hK : K ≤ 2047) : fb_ (K + 2) (FP.dsub a b) := FP.Core.dsub_mag ha hb hK
theorem fb_mul {K L : Nat} {a b : UInt64} (ha : fb_ K a) (hb : fb_ L b) (hK : K ≤ 2047) (hL : L ≤ 2047) : fb_ (K + L - 1025 + 3) (FP.dmul a b) := FP.Core.dmul_mag ha hb hK hL
theorem fb_div {K L : Nat} {a b : UInt64} (ha : fb_ K a) (hb : L * 2 ^ 52 ≤ b.toNat % 2 ^ 63) (hb2 : fb_ 2047 b) (hK : K ≤ 2047) (hL : 1 ≤ L) : fb_ (K + 1021 - L + 3) (FP.ddiv a b) := FP.Core.ddiv_mag ha hb hb2 hK hL
theorem fb_i2d (x : Int32) : fb_ 1056 (FP.i2d x) := FP.Core.i2d_mag x
-- the sign bit is clear
def po_ (a : UInt64) : Prop := a.toNat < 2 ^ 63
theorem po_of {a : UInt64} (h : FP.Core.val64 a ≠ .nan) (hs : FP.Core.sgn (FP.Core.val64 a) = false) : po_ a := by
  rw [FP.Core.sgn_bits h] at hs
  have := of_decide_eq_false hs
  unfold po_
  omega
theorem po_sgn {a : UInt64} (h : FP.Core.val64 a ≠ .nan) (hs : po_ a) : FP.Core.sgn (FP.Core.val64 a) = false := by
  rw [FP.Core.sgn_bits h]
  unfold po_ at hs
  exact decide_eq_false (by omega)
theorem po_sq {a : UInt64} (h : FP.Core.DFin a) : po_ (FP.dmul a a) := by
  obtain ⟨s, c, q, hv⟩ := h
  have e : FP.Core.val64 (FP.dmul a a) = FP.Core.roundRatio FP.Core.b64 false (c * c) 1 (q + q) := by
    rw [FP.Core.val64_dmul, hv]
    show FP.Core.round FP.Core.b64 (.fin (s != s) (c * c) (q + q)) = _
    rw [show (s != s) = false by cases s <;> rfl]
    rfl
  refine po_of ?_ ?_
  · rw [e]; exact FP.Core.roundRatio_ne_nan _ _ _ _ _
  · rw [e]; exact FP.Core.sgn_roundRatio _ _ _ _ _
theorem po_add {a b : UInt64} (ha : FP.Core.DFin a) (hb : FP.Core.DFin b) (pa : po_ a) (pb : po_ b) : po_ (FP.dadd a b) := by
  have sa := po_sgn ha.ne_nan pa
  have sb := po_sgn hb.ne_nan pb
  obtain ⟨s, c, q, hv⟩ := ha
  obtain ⟨t, d, r, hw⟩ := hb
  rw [hv] at sa
  rw [hw] at sb
  have es : s = false := sa
  have et : t = false := sb
  subst es
  subst et
  have hn : ¬ FP.Core.sumUnits false c q false d r (min q r) < 0 := by
    unfold FP.Core.sumUnits FP.Core.signed
    simp only [Bool.false_eq_true, if_false]
    omega
  have e : FP.Core.val64 (FP.dadd a b) = FP.Core.roundRatio FP.Core.b64 false (FP.Core.sumUnits false c q false d r (min q r)).natAbs 1 (min q r) := by
    rw [FP.Core.val64_dadd, hv, hw]
    show FP.Core.round FP.Core.b64 (.fin (FP.Core.sumSign false false (FP.Core.sumUnits false c q false d r (min q r))) _ _) = _
    rw [show FP.Core.sumSign false false (FP.Core.sumUnits false c q false d r (min q r)) = false by
      unfold FP.Core.sumSign
      split
      · rfl
      · exact decide_eq_false hn]
    rfl
  refine po_of ?_ ?_
  · rw [e]; exact FP.Core.roundRatio_ne_nan _ _ _ _ _
  · rw [e]; exact FP.Core.sgn_roundRatio _ _ _ _ _
theorem po_zero {a : UInt64} (h : FP.Core.DFin a) (pa : po_ a) : FP.dadd a 0 = a := by
  refine FP.Core.dadd_zero h.ne_nan (fun q => ?_)
  rw [q] at pa
  exact absurd pa (by unfold po_; decide)
-- a positive normal number, halved and doubled: one less, one more in its exponent
theorem fn_val {a : UInt64} {E T : Nat} (h : a.toNat = E * 2 ^ 52 + T) (hT : T < 2 ^ 52) (h1 : 1 ≤ E) (h2 : E < 2047) : FP.Core.val64 a = .fin false (2 ^ 52 + T) (-1074 + ((E : Int) - 1)) := by
  have he : FP.Core.b64.exps = 2048 := by decide
  have ht := FP.Core.tails_b64
  have h3 : a.toNat = FP.Core.assemble FP.Core.b64 false E T := by
    unfold FP.Core.assemble
    rw [ht, h]
    simp
  unfold FP.Core.val64
  rw [h3, FP.Core.decode_assemble _ _ _ _ (by omega) (by omega), if_neg (by omega), if_neg (by omega), ht, FP.Core.qmin_b64]
theorem fn_ex {N : Nat} (h : N < 2 ^ 64) : ∃ b : UInt64, b.toNat = N := ⟨UInt64.ofNat N, by rw [UInt64.toNat_ofNat']; exact Nat.mod_eq_of_lt h⟩
theorem fn_two : FP.Core.val64 0x4000000000000000 = .fin false (2 ^ 52) (-51) := by decide +kernel
theorem fn_half {a : UInt64} (h1 : 2 * 2 ^ 52 ≤ a.toNat) (h2 : a.toNat < 2047 * 2 ^ 52) : (FP.ddiv a 0x4000000000000000).toNat = a.toNat - 2 ^ 52 := by
  obtain ⟨E, T, hE, hT⟩ : ∃ E T, a.toNat = E * 2 ^ 52 + T ∧ T < 2 ^ 52 := ⟨a.toNat / 2 ^ 52, a.toNat % 2 ^ 52, by omega, by omega⟩
  have v1 := fn_val hE hT (by omega) (by omega)
  obtain ⟨b, hb⟩ := fn_ex (N := (E - 1) * 2 ^ 52 + T) (by omega)
  have v2 := fn_val hb hT (by omega) (by omega)
  have hf := FP.Core.val64_fits b
  rw [v2] at hf
  have e : FP.ddiv a 0x4000000000000000 = b := by
    refine (FP.Core.val64_inj (by rw [v2]; exact FP.Core.Datum.noConfusion) ?_).symm
    refine v2.trans ?_
    refine Eq.trans ?_ (FP.Core.val64_ddiv a 0x4000000000000000).symm
    rw [v1, fn_two]
    show _ = if (2 ^ 52 : Nat) = 0 then (if (2 ^ 52 + T) = 0 then FP.Core.Datum.nan else FP.Core.Datum.inf (false != false)) else FP.Core.roundRatio FP.Core.b64 (false != false) (2 ^ 52 + T) (2 ^ 52) (-1074 + ((E : Int) - 1) - (-51))
    rw [if_neg (by decide)]
    refine (FP.Core.roundRatio_exact FP.Core.good_b64 (by decide) hf ?_).symm
    rw [show (-1074 + ((E : Int) - 1) - (-51) - (-1074 + (((E - 1 : Nat) : Int) - 1))).toNat = 52 by omega, show (-1074 + (((E - 1 : Nat) : Int) - 1) - (-1074 + ((E : Int) - 1) - (-51))).toNat = 0 by omega]
    simp
  rw [e, hb, hE]
  omega
theorem fn_dbl {a : UInt64} (h1 : 2 ^ 52 ≤ a.toNat) (h2 : a.toNat < 2046 * 2 ^ 52) : (FP.dmul a 0x4000000000000000).toNat = a.toNat + 2 ^ 52 := by
  obtain ⟨E, T, hE, hT⟩ : ∃ E T, a.toNat = E * 2 ^ 52 + T ∧ T < 2 ^ 52 := ⟨a.toNat / 2 ^ 52, a.toNat % 2 ^ 52, by omega, by omega⟩
  have v1 := fn_val hE hT (by omega) (by omega)
  obtain ⟨b, hb⟩ := fn_ex (N := (E + 1) * 2 ^ 52 + T) (by omega)
  have v2 := fn_val hb hT (by omega) (by omega)
  have hf := FP.Core.val64_fits b
  rw [v2] at hf
  have e : FP.dmul a 0x4000000000000000 = b := by
    refine (FP.Core.val64_inj (by rw [v2]; exact FP.Core.Datum.noConfusion) ?_).symm
    refine v2.trans ?_
    refine Eq.trans ?_ (FP.Core.val64_dmul a 0x4000000000000000).symm
    rw [v1, fn_two]
    show _ = FP.Core.roundRatio FP.Core.b64 (false != false) ((2 ^ 52 + T) * 2 ^ 52) 1 (-1074 + ((E : Int) - 1) + (-51))
    refine (FP.Core.roundRatio_exact FP.Core.good_b64 (by decide) hf ?_).symm
    rw [show (-1074 + ((E : Int) - 1) + (-51) - (-1074 + (((E + 1 : Nat) : Int) - 1))).toNat = 0 by omega, show (-1074 + (((E + 1 : Nat) : Int) - 1) - (-1074 + ((E : Int) - 1) + (-51))).toNat = 52 by omega]
    simp
  rw [e, hb, hE]
  omega
-- order of numbers with a clear sign: by bits
theorem fo_lt {a b : UInt64} (ha : FP.Core.val64 a ≠ .nan) (hb : FP.Core.val64 b ≠ .nan) (pa : po_ a) (pb : po_ b) : FP.dcmp a b = some .lt ↔ a.toNat < b.toNat := (FP.Core.mono_bits ha hb pa pb).1
theorem fo_eq {a b : UInt64} (ha : FP.Core.val64 a ≠ .nan) (hb : FP.Core.val64 b ≠ .nan) (pa : po_ a) (pb : po_ b) : FP.dcmp a b = some .eq ↔ a.toNat = b.toNat := (FP.Core.mono_bits ha hb pa pb).2.1
theorem fo_gt {a b : UInt64} (ha : FP.Core.val64 a ≠ .nan) (hb : FP.Core.val64 b ≠ .nan) (pa : po_ a) (pb : po_ b) : FP.dcmp a b = some .gt ↔ b.toNat < a.toNat := (FP.Core.mono_bits ha hb pa pb).2.2
-- what dcmpl, dcmpg and a branch say
theorem fc_lt_l (o : Option Ordering) : Op.cmpValue o .l < 0 ↔ o = some .lt ∨ o = none := by rcases o with _ | (_ | _ | _) <;> decide
theorem fc_le_l (o : Option Ordering) : Op.cmpValue o .l ≤ 0 ↔ o ≠ some .gt := by rcases o with _ | (_ | _ | _) <;> decide
theorem fc_eq_l (o : Option Ordering) : Op.cmpValue o .l = 0 ↔ o = some .eq := by rcases o with _ | (_ | _ | _) <;> decide
theorem fc_gt_l (o : Option Ordering) : 0 < Op.cmpValue o .l ↔ o = some .gt := by rcases o with _ | (_ | _ | _) <;> decide
theorem fc_ge_l (o : Option Ordering) : 0 ≤ Op.cmpValue o .l ↔ o = some .gt ∨ o = some .eq := by rcases o with _ | (_ | _ | _) <;> decide
theorem fc_lt_g (o : Option Ordering) : Op.cmpValue o .g < 0 ↔ o = some .lt := by rcases o with _ | (_ | _ | _) <;> decide
theorem fc_le_g (o : Option Ordering) : Op.cmpValue o .g ≤ 0 ↔ o = some .lt ∨ o = some .eq := by rcases o with _ | (_ | _ | _) <;> decide
theorem fc_eq_g (o : Option Ordering) : Op.cmpValue o .g = 0 ↔ o = some .eq := by rcases o with _ | (_ | _ | _) <;> decide
theorem fc_gt_g (o : Option Ordering) : 0 < Op.cmpValue o .g ↔ o = some .gt ∨ o = none := by rcases o with _ | (_ | _ | _) <;> decide
theorem fc_ge_g (o : Option Ordering) : 0 ≤ Op.cmpValue o .g ↔ o ≠ some .lt := by rcases o with _ | (_ | _ | _) <;> decide
end
section
-- what the document calls A, C, S, P, LN, LEVEL, LOUD, FAR, D, WARP: as functions on bits
def hd_1 : UInt64 := 4607182418800017408
def hd_2 : UInt64 := 4611686018427387904
def hd_h : UInt64 := 4602678819172646912
def hd_ep : UInt64 := 4457293557087583675
def hd_15 : UInt64 := 4609434218613702656
def hd_75 : UInt64 := 4604930618986332160
def hd_l : UInt64 := 4604418534313441775
def hd_A (n : Nat) : UInt64 := FP.dmul (FP.i2d (if 17 ≤ n then nI n - 32 else nI n)) 4596242258042563864
def hd_sr (o : Nat) (y : UInt64) : Nat → UInt64
  | 0 => hd_1
  | k + 1 => FP.dsub hd_1 (FP.ddiv (FP.dmul y (hd_sr o y k)) (FP.i2d (nI ((24 - 2 * k + o) * (24 - 2 * k + o - 1)))))
def hd_C (n : Nat) : UInt64 := hd_sr 0 (FP.dmul (hd_A n) (hd_A n)) 12
def hd_S (n : Nat) : UInt64 := FP.dmul (hd_A n) (hd_sr 1 (FP.dmul (hd_A n) (hd_A n)) 12)
def hd_W (n : Nat) : UInt64 := FP.dsub hd_h (FP.dmul hd_h (hd_C n))
def hd_v (sa : Nat → UInt64) (f i : Nat) : UInt64 := FP.dmul (sa (16 * f + i)) (hd_W i)
def hd_re (sa : Nat → UInt64) (f k : Nat) : Nat → UInt64
  | 0 => 0
  | i + 1 => FP.dadd (hd_re sa f k i) (FP.dmul (hd_v sa f i) (hd_C (k * i % 32)))
def hd_im (sa : Nat → UInt64) (f k : Nat) : Nat → UInt64
  | 0 => 0
  | i + 1 => FP.dsub (hd_im sa f k i) (FP.dmul (hd_v sa f i) (hd_S (k * i % 32)))
def hd_P (sa : Nat → UInt64) (f k : Nat) : UInt64 := FP.dadd (FP.dmul (hd_re sa f k 32) (hd_re sa f k 32)) (FP.dmul (hd_im sa f k 32) (hd_im sa f k 32))
def hd_bl (b : Nat) : Nat := if b = 0 then 1 else if b = 1 then 3 else if b = 2 then 5 else 9
def hd_bn (b : Nat) : Nat := if b = 0 then 2 else if b = 1 then 2 else if b = 2 then 4 else 8
def hd_bs (sa : Nat → UInt64) (f lo : Nat) : Nat → UInt64
  | 0 => 0
  | m + 1 => FP.dadd (hd_bs sa f lo m) (hd_P sa f (lo + m))
def hd_su (sa : Nat → UInt64) (f b : Nat) : UInt64 := hd_bs sa f (hd_bl b) (hd_bn b)
def hd_lo (sa : Nat → UInt64) (f : Nat) : Nat → UInt64
  | 0 => 0
  | b + 1 => FP.dadd (hd_lo sa f b) (hd_su sa f b)
-- LN: halved as long as it is 1.5 or more, doubled as long as it is below 0.75 (the fuel is never used up), then the series
def hd_l1 : Nat → UInt64 → Int32 → UInt64 × Int32
  | 0, x, k => (x, k)
  | n + 1, x, k => if FP.dcmp x hd_15 = some .gt ∨ FP.dcmp x hd_15 = some .eq then hd_l1 n (FP.ddiv x hd_2) (k + 1) else (x, k)
def hd_l2 : Nat → UInt64 → Int32 → UInt64 × Int32
  | 0, x, k => (x, k)
  | n + 1, x, k => if FP.dcmp x hd_75 = some .lt then hd_l2 n (FP.dmul x hd_2) (k - 1) else (x, k)
def hd_l3 (y : UInt64) : Nat → UInt64
  | 0 => 0
  | k + 1 => FP.dadd (FP.dmul (hd_l3 y k) y) (FP.ddiv hd_1 (FP.i2d (nI (19 - 2 * k))))
def hd_z (x : UInt64) : UInt64 := FP.ddiv (FP.dsub x hd_1) (FP.dadd x hd_1)
def hd_le (x : UInt64) (k : Int32) : UInt64 := FP.dadd (FP.dmul (FP.dmul hd_2 (hd_z x)) (hd_l3 (FP.dmul (hd_z x) (hd_z x)) 10)) (FP.dmul (FP.i2d k) hd_l)
def hd_x2 (x : UInt64) : UInt64 × Int32 := hd_l2 2000 (hd_l1 2000 x 0).1 (hd_l1 2000 x 0).2
def hd_ln (x : UInt64) : UInt64 := hd_le (hd_x2 x).1 (hd_x2 x).2
def hd_fl (s : UInt64) : UInt64 := if FP.dcmp s hd_ep = some .gt then s else hd_ep
def hd_lev (sa : Nat → UInt64) (f b : Nat) : UInt64 := hd_ln (hd_fl (hd_su sa f b))
-- bounds
theorem hd_C_b : ∀ n, n < 32 → (hd_C n).toNat % 2 ^ 63 < 1024 * 2 ^ 52 := by decide +kernel
theorem hd_S_b : ∀ n, n < 32 → (hd_S n).toNat % 2 ^ 63 < 1024 * 2 ^ 52 := by decide +kernel
theorem hd_W_b : ∀ n, n < 32 → (hd_W n).toNat % 2 ^ 63 < 1024 * 2 ^ 52 := by decide +kernel
theorem hd_v_b {sa : Nat → UInt64} {f : Nat} (h : ∀ i, i < 32 → fb_ 1057 (sa (16 * f + i))) {i : Nat} (hi : i < 32) : fb_ 1059 (hd_v sa f i) := fb_mono (fb_mul (h i hi) (hd_W_b i hi) (by decide) (by decide)) (by omega)
theorem hd_vc_b {sa : Nat → UInt64} {f : Nat} (h : ∀ i, i < 32 → fb_ 1057 (sa (16 * f + i))) {i j : Nat} (hi : i < 32) (hj : j < 32) : fb_ 1061 (FP.dmul (hd_v sa f i) (hd_C j)) := fb_mono (fb_mul (hd_v_b h hi) (hd_C_b j hj) (by decide) (by decide)) (by omega)
theorem hd_vs_b {sa : Nat → UInt64} {f : Nat} (h : ∀ i, i < 32 → fb_ 1057 (sa (16 * f + i))) {i j : Nat} (hi : i < 32) (hj : j < 32) : fb_ 1061 (FP.dmul (hd_v sa f i) (hd_S j)) := fb_mono (fb_mul (hd_v_b h hi) (hd_S_b j hj) (by decide) (by decide)) (by omega)
theorem hd_re_b {sa : Nat → UInt64} {f : Nat} (h : ∀ i, i < 32 → fb_ 1057 (sa (16 * f + i))) (k : Nat) : ∀ n, n ≤ 32 → fb_ (1061 + 2 * n) (hd_re sa f k n)
  | 0, _ => by unfold fb_ hd_re; decide
  | n + 1, hn => fb_mono (fb_add (hd_re_b h k n (by omega)) (fb_mono (hd_vc_b h (by omega) (Nat.mod_lt _ (by decide))) (by omega)) (by omega)) (by omega)
theorem hd_im_b {sa : Nat → UInt64} {f : Nat} (h : ∀ i, i < 32 → fb_ 1057 (sa (16 * f + i))) (k : Nat) : ∀ n, n ≤ 32 → fb_ (1061 + 2 * n) (hd_im sa f k n)
  | 0, _ => by unfold fb_ hd_im; decide
  | n + 1, hn => fb_mono (fb_sub (hd_im_b h k n (by omega)) (fb_mono (hd_vs_b h (by omega) (Nat.mod_lt _ (by decide))) (by omega)) (by omega)) (by omega)
theorem hd_re2_b {sa : Nat → UInt64} {f : Nat} (h : ∀ i, i < 32 → fb_ 1057 (sa (16 * f + i))) (k : Nat) : fb_ 1228 (FP.dmul (hd_re sa f k 32) (hd_re sa f k 32)) := fb_mono (fb_mul (hd_re_b h k 32 (by decide)) (hd_re_b h k 32 (by decide)) (by decide) (by decide)) (by omega)
theorem hd_im2_b {sa : Nat → UInt64} {f : Nat} (h : ∀ i, i < 32 → fb_ 1057 (sa (16 * f + i))) (k : Nat) : fb_ 1228 (FP.dmul (hd_im sa f k 32) (hd_im sa f k 32)) := fb_mono (fb_mul (hd_im_b h k 32 (by decide)) (hd_im_b h k 32 (by decide)) (by decide) (by decide)) (by omega)
theorem hd_P_b {sa : Nat → UInt64} {f : Nat} (h : ∀ i, i < 32 → fb_ 1057 (sa (16 * f + i))) (k : Nat) : fb_ 1230 (hd_P sa f k) := fb_mono (fb_add (hd_re2_b h k) (hd_im2_b h k) (by decide)) (by omega)
theorem hd_P_p {sa : Nat → UInt64} {f : Nat} (h : ∀ i, i < 32 → fb_ 1057 (sa (16 * f + i))) (k : Nat) : po_ (hd_P sa f k) := po_add (fb_fin (hd_re2_b h k) (by decide)) (fb_fin (hd_im2_b h k) (by decide)) (po_sq (fb_fin (hd_re_b h k 32 (by decide)) (by decide))) (po_sq (fb_fin (hd_im_b h k 32 (by decide)) (by decide)))
theorem hd_bs_b {sa : Nat → UInt64} {f : Nat} (h : ∀ i, i < 32 → fb_ 1057 (sa (16 * f + i))) (lo : Nat) : ∀ m, m ≤ 8 → fb_ (1230 + 2 * m) (hd_bs sa f lo m)
  | 0, _ => by unfold fb_ hd_bs; decide
  | m + 1, hm => fb_mono (fb_add (hd_bs_b h lo m (by omega)) (fb_mono (hd_P_b h (lo + m)) (by omega)) (by omega)) (by omega)
theorem hd_bs_p {sa : Nat → UInt64} {f : Nat} (h : ∀ i, i < 32 → fb_ 1057 (sa (16 * f + i))) (lo : Nat) : ∀ m, m ≤ 8 → po_ (hd_bs sa f lo m)
  | 0, _ => by unfold po_ hd_bs; decide
  | m + 1, hm => po_add (fb_fin (hd_bs_b h lo m (by omega)) (by omega)) (fb_fin (hd_P_b h (lo + m)) (by decide)) (hd_bs_p h lo m (by omega)) (hd_P_p h (lo + m))
theorem hd_bn_8 (b : Nat) : hd_bn b ≤ 8 := by unfold hd_bn; split <;> (try split) <;> (try split) <;> omega
theorem hd_su_b {sa : Nat → UInt64} {f : Nat} (h : ∀ i, i < 32 → fb_ 1057 (sa (16 * f + i))) (b : Nat) : fb_ 1246 (hd_su sa f b) := fb_mono (hd_bs_b h (hd_bl b) (hd_bn b) (hd_bn_8 b)) (by have := hd_bn_8 b; omega)
theorem hd_su_p {sa : Nat → UInt64} {f : Nat} (h : ∀ i, i < 32 → fb_ 1057 (sa (16 * f + i))) (b : Nat) : po_ (hd_su sa f b) := hd_bs_p h (hd_bl b) (hd_bn b) (hd_bn_8 b)
theorem hd_lo_b {sa : Nat → UInt64} {f : Nat} (h : ∀ i, i < 32 → fb_ 1057 (sa (16 * f + i))) : ∀ b, b ≤ 4 → fb_ (1246 + 2 * b) (hd_lo sa f b)
  | 0, _ => by unfold fb_ hd_lo; decide
  | b + 1, hb => fb_mono (fb_add (hd_lo_b h b (by omega)) (fb_mono (hd_su_b h b) (by omega)) (by omega)) (by omega)
-- LN: what goes in lies between 0.0000000001 and 2 ^ 223; what is left lies between 0.75 and 1.5
def hd_in (x : UInt64) : Prop := 989 * 2 ^ 52 ≤ x.toNat ∧ x.toNat < 1246 * 2 ^ 52
theorem hd_in_p {x : UInt64} (h : hd_in x) : po_ x := by unfold hd_in at h; unfold po_; omega
theorem hd_in_b {x : UInt64} (h : hd_in x) : fb_ 1246 x := by unfold hd_in at h; unfold fb_; omega
theorem hd_fl_in {s : UInt64} (h : fb_ 1246 s) (p : po_ s) : hd_in (hd_fl s) := by
  have e : hd_ep.toNat = 4457293557087583675 := by decide
  unfold hd_fl
  by_cases c : FP.dcmp s hd_ep = some .gt
  · rw [if_pos c]
    rw [fo_gt (fb_nn h (by decide)) (by decide +kernel) p (by unfold po_; decide), e] at c
    unfold hd_in
    unfold fb_ at h
    unfold po_ at p
    omega
  · rw [if_neg c]
    unfold hd_in
    rw [e]
    omega
theorem hd_15_n : hd_15.toNat = 4609434218613702656 := by decide
theorem hd_75_n : hd_75.toNat = 4604930618986332160 := by decide
theorem hd_c15 {x : UInt64} (h : hd_in x) : (FP.dcmp x hd_15 = some .gt ∨ FP.dcmp x hd_15 = some .eq) ↔ 4609434218613702656 ≤ x.toNat := by
  have n1 := fb_nn (hd_in_b h) (by decide)
  have n2 : FP.Core.val64 hd_15 ≠ .nan := by decide +kernel
  have p2 : po_ hd_15 := by unfold po_; decide
  rw [fo_gt n1 n2 (hd_in_p h) p2, fo_eq n1 n2 (hd_in_p h) p2, hd_15_n]
  omega
theorem hd_c75 {x : UInt64} (h : hd_in x) : FP.dcmp x hd_75 = some .lt ↔ x.toNat < 4604930618986332160 := by
  rw [fo_lt (fb_nn (hd_in_b h) (by decide)) (by decide +kernel) (hd_in_p h) (by unfold po_; decide), hd_75_n]
theorem hd_l1_in : ∀ (n : Nat) (x : UInt64) (k : Int32), hd_in x → x.toNat < 4609434218613702656 + n * 2 ^ 52 → hd_in (hd_l1 n x k).1 ∧ (hd_l1 n x k).1.toNat < 4609434218613702656
  | 0, x, k, h, hn => ⟨h, by show x.toNat < _; omega⟩
  | n + 1, x, k, h, hn => by
    unfold hd_l1
    by_cases c : FP.dcmp x hd_15 = some .gt ∨ FP.dcmp x hd_15 = some .eq
    · rw [if_pos c]
      have c' := (hd_c15 h).mp c
      have e : (FP.ddiv x hd_2).toNat = x.toNat - 2 ^ 52 := fn_half (by omega) (by unfold hd_in at h; omega)
      exact hd_l1_in n _ _ (by unfold hd_in at h ⊢; rw [e]; omega) (by rw [e]; omega)
    · rw [if_neg c]
      exact ⟨h, by have := mt (hd_c15 h).mpr c; show x.toNat < _; omega⟩
theorem hd_l2_in : ∀ (n : Nat) (x : UInt64) (k : Int32), hd_in x → x.toNat < 4609434218613702656 → 4604930618986332160 ≤ x.toNat + n * 2 ^ 52 → 4604930618986332160 ≤ (hd_l2 n x k).1.toNat ∧ (hd_l2 n x k).1.toNat < 4609434218613702656
  | 0, x, k, h, h1, hn => ⟨by show _ ≤ x.toNat; omega, h1⟩
  | n + 1, x, k, h, h1, hn => by
    unfold hd_l2
    by_cases c : FP.dcmp x hd_75 = some .lt
    · rw [if_pos c]
      have c' := (hd_c75 h).mp c
      have e : (FP.dmul x hd_2).toNat = x.toNat + 2 ^ 52 := fn_dbl (by unfold hd_in at h; omega) (by unfold hd_in at h; omega)
      exact hd_l2_in n _ _ (by unfold hd_in at h ⊢; rw [e]; omega) (by rw [e]; omega) (by rw [e]; omega)
    · rw [if_neg c]
      exact ⟨by have := mt (hd_c75 h).mpr c; show _ ≤ x.toNat; omega, h1⟩
theorem hd_x2_in {x : UInt64} (h : hd_in x) : 4604930618986332160 ≤ (hd_x2 x).1.toNat ∧ (hd_x2 x).1.toNat < 4609434218613702656 := by
  obtain ⟨a, b⟩ := hd_l1_in 2000 x 0 h (by unfold hd_in at h; omega)
  exact hd_l2_in 2000 _ _ a b (by unfold hd_in at a; omega)
-- the series of LN
def hd_ok (x : UInt64) : Prop := 4604930618986332160 ≤ x.toNat ∧ x.toNat < 4609434218613702656
theorem hd_ok_b {x : UInt64} (h : hd_ok x) : fb_ 1024 x := by unfold hd_ok at h; unfold fb_; omega
theorem hd_ok_p {x : UInt64} (h : hd_ok x) : po_ x := by unfold hd_ok at h; unfold po_; omega
theorem hd_1_b : fb_ 1024 hd_1 := by unfold fb_; decide
theorem hd_1_p : po_ hd_1 := by unfold po_; decide
theorem hd_m1_b {x : UInt64} (h : hd_ok x) : fb_ 1026 (FP.dsub x hd_1) := fb_mono (fb_sub (hd_ok_b h) hd_1_b (by decide)) (by omega)
theorem hd_p1_b {x : UInt64} (h : hd_ok x) : fb_ 1026 (FP.dadd x hd_1) := fb_mono (fb_add (hd_ok_b h) hd_1_b (by decide)) (by omega)
theorem hd_p1_p {x : UInt64} (h : hd_ok x) : po_ (FP.dadd x hd_1) := po_add (fb_fin (hd_ok_b h) (by decide)) (fb_fin hd_1_b (by decide)) (hd_ok_p h) hd_1_p
theorem hd_p1_g {x : UInt64} (h : hd_ok x) : 1023 * 2 ^ 52 ≤ (FP.dadd x hd_1).toNat % 2 ^ 63 := by
  have nx := fb_nn (hd_ok_b h) (by decide)
  have n1 := fb_nn hd_1_b (by decide)
  have hs := FP.Core.sum_ge FP.Core.good_b64 (fb_fin (hd_ok_b h) (by decide)) (fb_fin hd_1_b (by decide)) (FP.Core.val64_fits x) (FP.Core.val64_fits hd_1) (FP.Core.val64_fits hd_1) n1 (by have := FP.Core.zval_nonneg nx (hd_ok_p h); omega)
  rw [← FP.Core.val64_dadd] at hs
  have np := fb_nn (hd_p1_b h) (by decide)
  have hc := FP.Core.dcmp_ge.mpr ⟨np, n1, hs⟩
  have pp := hd_p1_p h
  have hc2 : hd_1.toNat ≤ (FP.dadd x hd_1).toNat := by
    rcases hc with g | g
    · exact Nat.le_of_lt ((fo_gt np n1 pp hd_1_p).mp g)
    · exact Nat.le_of_eq ((fo_eq np n1 pp hd_1_p).mp g).symm
  have e : hd_1.toNat = 4607182418800017408 := by decide
  rw [e] at hc2
  unfold po_ at pp
  omega
theorem hd_z_b {x : UInt64} (h : hd_ok x) : fb_ 1027 (hd_z x) := fb_mono (fb_div (hd_m1_b h) (hd_p1_g h) (fb_mono (hd_p1_b h) (by decide)) (by decide) (by decide)) (by omega)
theorem hd_y_b {x : UInt64} (h : hd_ok x) : fb_ 1032 (FP.dmul (hd_z x) (hd_z x)) := fb_mono (fb_mul (hd_z_b h) (hd_z_b h) (by decide) (by decide)) (by omega)
theorem hd_j_g : ∀ k, k < 10 → 1023 * 2 ^ 52 ≤ (FP.i2d (nI (19 - 2 * k))).toNat % 2 ^ 63 := by decide +kernel
theorem hd_j_b {k : Nat} (hk : k < 10) : fb_ 1025 (FP.ddiv hd_1 (FP.i2d (nI (19 - 2 * k)))) := fb_mono (fb_div hd_1_b (hd_j_g k hk) (fb_mono (fb_i2d _) (by decide)) (by decide) (by decide)) (by omega)
theorem hd_l3_b {y : UInt64} (h : fb_ 1032 y) : ∀ k, k ≤ 10 → fb_ (1025 + 12 * k) (hd_l3 y k)
  | 0, _ => by unfold fb_ hd_l3; decide
  | k + 1, hk => fb_mono (fb_add (K := 1035 + 12 * k) (fb_mono (fb_mul (hd_l3_b h k (by omega)) h (by omega) (by decide)) (by omega)) (fb_mono (hd_j_b (by omega)) (by omega)) (by omega)) (by omega)
theorem hd_l3y_b {y : UInt64} (h : fb_ 1032 y) {k : Nat} (hk : k ≤ 10) : fb_ 1155 (FP.dmul (hd_l3 y k) y) := fb_mono (fb_mul (hd_l3_b h k hk) h (by omega) (by decide)) (by omega)
theorem hd_2z_b {x : UInt64} (h : hd_ok x) : fb_ 1030 (FP.dmul hd_2 (hd_z x)) := fb_mono (fb_mul (K := 1025) (by unfold fb_; decide) (hd_z_b h) (by decide) (by decide)) (by omega)
theorem hd_2zs_b {x : UInt64} (h : hd_ok x) : fb_ 1153 (FP.dmul (FP.dmul hd_2 (hd_z x)) (hd_l3 (FP.dmul (hd_z x) (hd_z x)) 10)) := fb_mono (fb_mul (hd_2z_b h) (hd_l3_b (hd_y_b h) 10 (by decide)) (by decide) (by decide)) (by omega)
theorem hd_kl_b (k : Int32) : fb_ 1057 (FP.dmul (FP.i2d k) hd_l) := fb_mono (fb_mul (L := 1023) (fb_i2d k) (by unfold fb_; decide) (by decide) (by decide)) (by omega)
theorem hd_le_b {x : UInt64} (h : hd_ok x) (k : Int32) : fb_ 1155 (hd_le x k) := fb_mono (fb_add (hd_2zs_b h) (fb_mono (hd_kl_b k) (by decide)) (by decide)) (by omega)
theorem hd_ln_b {x : UInt64} (h : hd_in x) : fb_ 1155 (hd_ln x) := hd_le_b (hd_x2_in h) _
theorem hd_lev_b {sa : Nat → UInt64} {f : Nat} (h : ∀ i, i < 32 → fb_ 1057 (sa (16 * f + i))) (b : Nat) : fb_ 1155 (hd_lev sa f b) := hd_ln_b (hd_fl_in (hd_su_b h b) (hd_su_p h b))
-- FAR of two rows of four, D and WARP
def hd_far (a b : Nat → UInt64) : Nat → UInt64
  | 0 => 0
  | k + 1 => FP.dadd (hd_far a b k) (FP.dmul (FP.dsub (a k) (b k)) (FP.dsub (a k) (b k)))
theorem hd_df_b {x y : UInt64} (hx : fb_ 1155 x) (hy : fb_ 1155 y) : fb_ 1157 (FP.dsub x y) := fb_mono (fb_sub hx hy (by decide)) (by omega)
theorem hd_dd_b {x y : UInt64} (hx : fb_ 1155 x) (hy : fb_ 1155 y) : fb_ 1292 (FP.dmul (FP.dsub x y) (FP.dsub x y)) := fb_mono (fb_mul (hd_df_b hx hy) (hd_df_b hx hy) (by decide) (by decide)) (by omega)
theorem hd_far_b {a b : Nat → UInt64} (ha : ∀ k, k < 4 → fb_ 1155 (a k)) (hb : ∀ k, k < 4 → fb_ 1155 (b k)) : ∀ n, n ≤ 4 → fb_ (1292 + 2 * n) (hd_far a b n)
  | 0, _ => by unfold fb_ hd_far; decide
  | n + 1, hn => fb_mono (fb_add (hd_far_b ha hb n (by omega)) (fb_mono (hd_dd_b (ha n (by omega)) (hb n (by omega))) (by omega)) (by omega)) (by omega)
theorem hd_far_p {a b : Nat → UInt64} (ha : ∀ k, k < 4 → fb_ 1155 (a k)) (hb : ∀ k, k < 4 → fb_ 1155 (b k)) : ∀ n, n ≤ 4 → po_ (hd_far a b n)
  | 0, _ => by unfold po_ hd_far; decide
  | n + 1, hn => po_add (fb_fin (hd_far_b ha hb n (by omega)) (by omega)) (fb_fin (hd_dd_b (ha n (by omega)) (hb n (by omega))) (by decide)) (hd_far_p ha hb n (by omega)) (po_sq (fb_fin (hd_df_b (ha n (by omega)) (hb n (by omega))) (by decide)))
end
section
-- short rows over the kit's: the top of the stack by another name, arrays by a number as index
section RW
variable {p : Program} {l : Launch} {e : Env} {R : Room} {s : State} {m : MethodId} {args : Array Value} {below : List Frame} {meth : Method} {c : Code} {H : Heap} {locs : List Loc} {cells slots : Nat} {Q : State → Prop}
variable {cc : ByteArray} {pc : Nat} {ls : Array Slot} {rest : List Value} {D : va_G} {cl : List vw_C} {A : Nat → Prop} {a : Nat} {tys : List (ClassId × FieldType)} {ws : va_W} {H0 : Heap}
theorem rw_i {x y : Int32} (h : x = y) (k : W p l e R s m args below meth c H locs cells slots Q (F0 m pc ls (.int y :: rest))) : W p l e R s m args below meth c H locs cells slots Q (F0 m pc ls (.int x :: rest)) := h ▸ k
theorem rw_l {x y : Int64} (h : x = y) (k : W p l e R s m args below meth c H locs cells slots Q (F0 m pc ls (.long y :: rest))) : W p l e R s m args below meth c H locs cells slots Q (F0 m pc ls (.long x :: rest)) := h ▸ k
theorem rw_d {x y : UInt64} (h : x = y) (k : W p l e R s m args below meth c H locs cells slots Q (F0 m pc ls (.double y :: rest))) : W p l e R s m args below meth c H locs cells slots Q (F0 m pc ls (.double x :: rest)) := h ▸ k
theorem rw_ald_i (hexec : p.tables.exec = Jvm.exec) (hb : c.code = cc) (hK : va_K D cl tys s) (hP : va_P D cl ws H) (q0 t0 : Nat) {cA : ClassId} {n : Nat} {f : Nat → Int32} (ha : ws[q0]? = some (a, .inl (cA, n, .inl f))) (ht : tys[t0]? = some (cA, .int)) {k : Nat} (hk : k < n) (hn : n < 2 ^ 31) (hdg : decode cc pc = .ok (.iaload, 1))
    (kk : W p l e R s m args below meth c H locs cells slots Q (F0 m (pc + 1) ls (.int (f k) :: rest))) : W p l e R s m args below meth c H locs cells slots Q (F0 m pc ls (.int (nI k) :: .ref a :: rest)) := by
  refine va_iald hexec hb hK hP q0 t0 ha ht (vp_in_nI hk hn) hdg ?_
  rw [nI_clamp (by omega)]
  exact kk
theorem rw_ald_d (hexec : p.tables.exec = Jvm.exec) (hb : c.code = cc) (hK : va_K D cl tys s) (hP : va_P D cl ws H) (q0 t0 : Nat) {cA : ClassId} {n : Nat} {f : Nat → UInt64} (ha : ws[q0]? = some (a, .inl (cA, n, .inr (.inr (.inr (.inl f)))))) (ht : tys[t0]? = some (cA, .double)) {k : Nat} (hk : k < n) (hn : n < 2 ^ 31) (hdg : decode cc pc = .ok (.daload, 1))
    (kk : W p l e R s m args below meth c H locs cells slots Q (F0 m (pc + 1) ls (.double (f k) :: rest))) : W p l e R s m args below meth c H locs cells slots Q (F0 m pc ls (.int (nI k) :: .ref a :: rest)) := by
  refine va_dald hexec hb hK hP q0 t0 ha ht (vp_in_nI hk hn) hdg ?_
  rw [nI_clamp (by omega)]
  exact kk
theorem rw_ald_q (hexec : p.tables.exec = Jvm.exec) (hb : c.code = cc) (hK : va_K D cl tys s) (hP : va_P D cl ws H) (q0 t0 : Nat) {cA : ClassId} {C : String} {n : Nat} {f : Nat → Option Nat} (ha : ws[q0]? = some (a, .inl (cA, n, .inr (.inr (.inr (.inr f)))))) (ht : tys[t0]? = some (cA, .object C)) {k x : Nat} (hx : f k = some x) (hk : k < n) (hn : n < 2 ^ 31) (hdg : decode cc pc = .ok (.aaload, 1))
    (kk : W p l e R s m args below meth c H locs cells slots Q (F0 m (pc + 1) ls (.ref x :: rest))) : W p l e R s m args below meth c H locs cells slots Q (F0 m pc ls (.int (nI k) :: .ref a :: rest)) := by
  refine va_aldq hexec hb hK hP q0 t0 ha ht (vp_in_nI hk hn) hdg ?_
  rw [nI_clamp (by omega), hx]
  exact kk
theorem rw_ast_i (hexec : p.tables.exec = Jvm.exec) (hb : c.code = cc) (hK : va_K D cl tys s) (hP : va_P D cl ws H) (hD : va_D A ws) (hS : va_S A H0 H locs) (q0 t0 : Nat) {cA : ClassId} {n : Nat} {f : Nat → Int32} (ha : ws[q0]? = some (a, .inl (cA, n, .inl f))) (ht : tys[t0]? = some (cA, .int)) {k : Nat} {x : Int32} (hk : k < n) (hn : n < 2 ^ 31) (hdg : decode cc pc = .ok (.iastore, 1))
    (kk : ∀ (H1 : Heap) (locs1 : List Loc), va_P D cl (ws.set q0 (a, .inl (cA, n, .inl (upd f k x)))) H1 → va_D A (ws.set q0 (a, .inl (cA, n, .inl (upd f k x)))) → va_S A H0 H1 locs1 → W p l e R s m args below meth c H1 locs1 cells slots Q (F0 m (pc + 1) ls rest)) : W p l e R s m args below meth c H locs cells slots Q (F0 m pc ls (.int x :: .int (nI k) :: .ref a :: rest)) := by
  refine va_iast hexec hb hK hP hD hS q0 t0 ha ht (vp_in_nI hk hn) hdg ?_
  rw [nI_clamp (by omega)]
  exact kk
theorem rw_ast_d (hexec : p.tables.exec = Jvm.exec) (hb : c.code = cc) (hK : va_K D cl tys s) (hP : va_P D cl ws H) (hD : va_D A ws) (hS : va_S A H0 H locs) (q0 t0 : Nat) {cA : ClassId} {n : Nat} {f : Nat → UInt64} (ha : ws[q0]? = some (a, .inl (cA, n, .inr (.inr (.inr (.inl f)))))) (ht : tys[t0]? = some (cA, .double)) {k : Nat} {x : UInt64} (hk : k < n) (hn : n < 2 ^ 31) (hdg : decode cc pc = .ok (.dastore, 1))
    (kk : ∀ (H1 : Heap) (locs1 : List Loc), va_P D cl (ws.set q0 (a, .inl (cA, n, .inr (.inr (.inr (.inl (vf_upd f k x))))))) H1 → va_D A (ws.set q0 (a, .inl (cA, n, .inr (.inr (.inr (.inl (vf_upd f k x))))))) → va_S A H0 H1 locs1 → W p l e R s m args below meth c H1 locs1 cells slots Q (F0 m (pc + 1) ls rest)) : W p l e R s m args below meth c H locs cells slots Q (F0 m pc ls (.double x :: .int (nI k) :: .ref a :: rest)) := by
  refine va_dast hexec hb hK hP hD hS q0 t0 ha ht (vp_in_nI hk hn) hdg ?_
  rw [nI_clamp (by omega)]
  exact kk
theorem rw_ast_q (hexec : p.tables.exec = Jvm.exec) (hb : c.code = cc) (hK : va_K D cl tys s) (hP : va_P D cl ws H) (hD : va_D A ws) (hS : va_S A H0 H locs) (q0 t0 qk ci : Nat) {cA : ClassId} {r : vw_C} {n v : Nat} {vs : List Value} {f : Nat → Option Nat} (ha : ws[q0]? = some (a, .inl (cA, n, .inr (.inr (.inr (.inr f)))))) (ht : tys[t0]? = some (cA, .object r.1)) (hv : ws[qk]? = some (v, .inr (ci, vs))) (hc : cl[ci]? = some r) {k : Nat} (hk : k < n) (hn : n < 2 ^ 31) (hdg : decode cc pc = .ok (.aastore, 1))
    (kk : ∀ (H1 : Heap) (locs1 : List Loc), va_P D cl (ws.set q0 (a, .inl (cA, n, .inr (.inr (.inr (.inr (va_up f k (some v)))))))) H1 → va_D A (ws.set q0 (a, .inl (cA, n, .inr (.inr (.inr (.inr (va_up f k (some v)))))))) → va_S A H0 H1 locs1 → W p l e R s m args below meth c H1 locs1 cells slots Q (F0 m (pc + 1) ls rest)) : W p l e R s m args below meth c H locs cells slots Q (F0 m pc ls (.ref v :: .int (nI k) :: .ref a :: rest)) := by
  refine va_astq hexec hb hK hP hD hS q0 t0 qk ci ha ht hv hc (vp_in_nI hk hn) hdg ?_
  rw [nI_clamp (by omega)]
  exact kk
end RW
end
section
-- methods that return or throw: their contract, a throw that leaves a method, a call of such a method, the catch in the caller
/-- a method's end: as Qc says, or an exception of a class E as XC says; in both the room and the places that were written -/
def ex_Q (Qc : Array Value → State → Outcome → State → Prop) (XC : String → State → State → Prop) (mc ms : Nat) (free : Addr → Prop) : Array Value → State → Outcome → State → Prop := fun a st o t =>
  (Qc a st o t ∧ ∃ L, FrameEnd st o t L mc ms ∧ ∀ q ∈ L, free q.base) ∨
  (∃ (q : Addr) (E : String) (ce : Cell) (L : List Loc), o = .threw q ∧ XC E st t ∧ t.heap[q]? = some ce ∧ ce.vm = .none ∧ st.vm.findClass E = some ce.cls ∧ st.WarmedH t.vm ∧ st.sameButNew ({ t with vm := st.vm } : State) L mc ms ∧ ∀ z ∈ L, free z.base)
def ex_Met (l : Launch) (y : MethodName) (ws : List Cond) (rm : Room) (Pc : Array Value → State → Prop) (Qc : Array Value → State → Outcome → State → Prop) (XC : String → State → State → Prop) (mc ms : Nat) (free : Addr → Prop) : Prop :=
  MetFree l y (headSpec ws rm) Pc (fun _ _ _ _ _ => True) (ex_Q Qc XC mc ms free)
def ex_MQ (below : List Frame) (Qc : Array Value → State → Outcome → State → Prop) (XC : String → State → State → Prop) (a : Array Value) (s : State) (mc ms : Nat) (free : Addr → Prop) : State → Prop := fun t =>
  ∃ o, t.status = .running ∧ Ended t below o ∧ ex_Q Qc XC mc ms free a s o t
theorem ex_met {l : Launch} {y : MethodName} {ws ws' : List Cond} {rm : Room} {Pc : Array Value → State → Prop} {Qc : Array Value → State → Outcome → State → Prop} {XC : String → State → State → Prop} {mc ms : Nat} {free : Addr → Prop} {cc : ByteArray} {maxL : Nat} {ret : Option FieldType}
    (hy : plainName y.cls = true) (hw : ws = Cond.code y cc maxL ret :: ws')
    (body : ∀ p e s m args below meth c s₁, BodyLoose p l y (headSpec ws rm) cc maxL ret e s m args below meth c s₁ → c.maxLocals = maxL → c.exceptionTable.toList = [] → Pc args s →
      W p l e (headSpec ws rm).room s m args below meth c s.heap [] 0 0 (ex_MQ below Qc XC args s mc ms free) (entryFrame m args maxL)) : ex_Met l y ws rm Pc Qc XC mc ms free := by
  refine MetFree.of_bodyS (code := cc) (maxLocals := maxL) (ret := ret) hy ?_ ?_
  · intro args s m h hn
    obtain ⟨meth, c, h1, h2, h3, h4, h5, h6, -, -⟩ := Cond.code_spec hn (atoms_spec (ws := ws) h _ (by rw [hw]; exact List.mem_cons_self))
    exact ⟨meth, c, h1, h2, h3, h4, h5, h6⟩
  · intro p e s m args below meth c s₁ B hml hP _
    have X := Stand.of_body B
    have hh0 : s₁.heap = s.heap := by rw [B.state]; rfl
    have htab : c.exceptionTable.toList = [] := by
      obtain ⟨meth', c', g1, g2, -, -, -, -, g7, -⟩ := Cond.code_spec B.named (atoms_spec (ws := ws) B.pre _ (by rw [hw]; exact List.mem_cons_self))
      cases Option.some.inj (g1.symm.trans B.method)
      cases Option.some.inj (g2.symm.trans X.code)
      simpa using g7
    obtain ⟨t, a1, o, b1, b2, b3⟩ := body p e s m args below meth c s₁ B hml htab hP s₁ hh0 X
    exact ⟨t, o, a1, b1, b2, b3⟩
section EX
variable {p : Program} {l : Launch} {e : Env} {R : Room} {s : State} {m : MethodId} {args : Array Value} {below : List Frame} {meth : Method} {c : Code} {H : Heap} {locs : List Loc} {cells slots : Nat} {Q : State → Prop}
variable {Qc : Array Value → State → Outcome → State → Prop} {XC : String → State → State → Prop} {mc ms : Nat} {free : Addr → Prop}
theorem ex_ret {g : JFrame} (k : W p l e R s m args below meth c H locs cells slots (MQ below Qc args s mc ms free) g) : W p l e R s m args below meth c H locs cells slots (ex_MQ below Qc XC args s mc ms free) g := by
  intro T hT X
  obtain ⟨t, a1, o, b1, b2, b3⟩ := k T hT X
  exact ⟨t, a1, o, b1, b2, Or.inl b3⟩
end EX
end
section
section EY
variable {p : Program} {l : Launch} {e : Env} {R : Room} {s : State} {m : MethodId} {args : Array Value} {below : List Frame} {meth : Method} {c : Code} {T : State} {H : Heap} {locs : List Loc} {cells slots : Nat} {Q : State → Prop}
variable {Qc : Array Value → State → Outcome → State → Prop} {XC : String → State → State → Prop} {mc ms : Nat} {free : Addr → Prop}
/-- the state of a walk, taken as if its method began there: all that was written before is part of the start -/
def ex_at (s T : State) (m : MethodId) (args : Array Value) (below : List Frame) : State := (T.setVm s.vm).setFrames (.invoking m args :: below)
theorem ex_at_heap : (ex_at s T m args below).heap = T.heap := rfl
theorem ex_at_vm : (ex_at s T m args below).vm = s.vm := rfl
theorem ex_here (X : Stand p l e R s m args below meth c T locs cells slots) {R' : Room} (hf : R'.frames ≤ R.frames) (hl : R'.locals ≤ R.locals) (hc : cells + R'.cells ≤ R.cells) (hs : slots + R'.slots ≤ R.slots) :
    Stand p l e R' (ex_at s T m args below) m args below meth c T [] 0 0 := by
  obtain ⟨g₀, hg₀⟩ := X.frames_eq
  have hg₁ : (T.setVm s.vm).frames = .java g₀ :: below := hg₀
  have hcur : (T.setVm s.vm).cur < (T.setVm s.vm).threads.size := State.cur_lt_of_frames hg₁
  have hF : (ex_at s T m args below).frames = .invoking m args :: below := State.frames_setFrames _ hcur
  have hroom : (ex_at s T m args below).hasRoom e.platform R' = true := by
    have h := X.room
    have hu : (ex_at s T m args below).localsInUse = s.localsInUse := by
      rw [State.localsInUse_invoking hF (meth := meth) (c := c) X.method X.code, State.localsInUse_invoking X.frames X.method X.code]
    have h1 := X.heapSize
    have h2 := X.used
    have h3 : e.platform.stackLimits (ex_at s T m args below).me = e.platform.stackLimits s.me := by
      unfold ex_at
      rw [State.stackLimits_setFrames]
      exact X.limits
    have h4 : (ex_at s T m args below).me.stackBytes = s.me.stackBytes := by
      unfold ex_at
      rw [State.stackBytes_setFrames]
      exact X.bytes
    have h5 : (ex_at s T m args below).heap.size = T.heap.size := rfl
    have h6 : (ex_at s T m args below).slotsUsed = T.slotsUsed := rfl
    have h7 : (ex_at s T m args below).slotsTrue = true := X.book
    simp only [State.hasRoom, Bool.and_eq_true, decide_eq_true_eq] at h ⊢
    obtain ⟨⟨⟨⟨a1, a2, a3, a4, a5, a6⟩, a7⟩, a8⟩, a9⟩ := h
    rw [X.frames, List.length_cons] at a2 a3
    simp only [hF, hu, h3, h4, h5, h6, List.length_cons]
    exact ⟨⟨⟨⟨by omega, by omega, by omega, by omega, by omega, a6⟩, by omega⟩, by omega⟩, h7⟩
  have hsame : (ex_at s T m args below).sameButNew (T.setVm (ex_at s T m args below).vm) [] 0 0 := by
    refine ⟨?_, Nat.le_refl _, Nat.le_refl _, ?_, ?_, fun a c9 h9 => ⟨c9, h9, rfl, rfl, fun _ _ => rfl⟩⟩
    · obtain ⟨t, ht, -⟩ := State.frames_cons hg₁
      show T.setVm s.vm = { (ex_at s T m args below).setFrames (T.setVm s.vm).frames with heap := T.heap, slotsUsed := T.slotsUsed }
      unfold ex_at
      rw [State.setFrames_setFrames, State.setFrames_self ht]
      rfl
    · have hd : T.heap.toList.drop T.heap.size = [] := List.drop_eq_nil_of_le (Nat.le_of_eq Array.length_toList)
      show T.slotsUsed = T.slotsUsed + ((T.heap.toList.drop T.heap.size).map (·.slots.size)).sum
      rw [hd]
      rfl
    · have hd : T.heap.toList.drop T.heap.size = [] := List.drop_eq_nil_of_le (Nat.le_of_eq Array.length_toList)
      show ((T.heap.toList.drop T.heap.size).map (·.slots.size)).sum ≤ 0
      rw [hd]
      exact Nat.le_refl _
  exact ⟨X.admits, X.cas, X.clock, hF, hroom, X.hears, X.method, X.code, X.here, X.tail, X.warmed, by unfold ex_at; rw [State.stackLimits_setFrames]; rfl, by unfold ex_at; rw [State.stackBytes_setFrames]; rfl, hsame⟩
/-- 'throw new E("text")' where nothing here catches it -/
theorem ex_throw {cc : ByteArray} {pc : Nat} {ls : Array Slot} {rest : List Value} (hexec : p.tables.exec = Jvm.exec) (hb : c.code = cc) (hl : l.stackTraces = false) {own cls text : String} {names : List String} {ik is ic sa : Nat}
    (hown : s.vm.findClass own = some m.cls) (hcls : Bundle.fit cls = true) (hnames : ∀ n ∈ names, Bundle.fit n = true)
    (hw : ∀ T : State, T.heap = H → s.WarmedH T.vm → ∀ w ∈ Cond.classLink own ik cls :: Cond.initialized cls :: Cond.stringRef own is text :: Bundle.ownAtoms own ic cls names, w.before args (ex_at s T m args below) = true)
    (hstr : ∀ T : State, T.heap = H → s.WarmedH T.vm → (Term.string own is).eval args (ex_at s T m args below) none [] (ex_at s T m args below) = some (.ref sa)) (hsize : ls.size = c.maxLocals) (htab : c.exceptionTable.toList = [])
    (d0 : decode cc pc = .ok (.new ik, 3)) (d3 : decode cc (pc + 3) = .ok (.dup, 1)) (d4 : decode cc (pc + 4) = .ok (.ldc is, 2)) (d6 : decode cc (pc + 6) = .ok (.invokespecial ic, 3)) (d9 : decode cc (pc + 9) = .ok (.athrow, 1))
    (hfr : names.length + 3 < R.frames) (hlo : (rest.map fun v => v.category).sum + (13 * (names.length + 1) + 43) ≤ R.locals) (hce : cells + 1 ≤ R.cells) (hsl : slots + 6 ≤ R.slots) (hlocks : meth.locks = false)
    (hx : ∀ t : State, H.size ≤ t.heap.size → (∀ q : Nat, q < H.size → t.heap[q]? = H[q]?) → XC cls s t)
    (hf : ∀ z ∈ locs, free z.base) (hc : cells + 1 ≤ mc) (hs : slots + 6 ≤ ms) :
    W p l e R s m args below meth c H locs cells slots (ex_MQ below Qc XC args s mc ms free) (F0 m pc ls rest) := by
  intro T hT X
  have htr : e.platform.stackTraces = false := (show e.platform.stackTraces = l.stackTraces by rw [X.admits.platform]).trans hl
  have Y := ex_here X (R' := { frames := R.frames, locals := R.locals, cells := 1, slots := 6 }) (Nat.le_refl _) (Nat.le_refl _) hce hsl
  have ws := hw T hT X.warmed
  have hev := hstr T hT X.warmed
  generalize hZ : ex_at s T m args below = Z at Y ws hev
  have zvm : Z.vm = s.vm := by rw [← hZ]; rfl
  have zhp : Z.heap = T.heap := by rw [← hZ]; rfl
  have hownZ : Z.vm.findClass own = some m.cls := by rw [zvm]; exact hown
  have w0 := ws _ List.mem_cons_self
  have w1 := ws _ (List.mem_cons_of_mem _ List.mem_cons_self)
  have w2 := ws _ (List.mem_cons_of_mem _ (List.mem_cons_of_mem _ List.mem_cons_self))
  have w3 : ∀ w ∈ Bundle.ownAtoms own ic cls names, w.before args Z = true := fun w h => ws w (List.mem_cons_of_mem _ (List.mem_cons_of_mem _ (List.mem_cons_of_mem _ h)))
  have wi : (Cond.instantiable cls 6).before args Z = true := w3 _ (by simp [Bundle.ownAtoms])
  obtain ⟨vm₁, cX, kX, hfX, hkX, -, -, X₁, st1⟩ := Y.newCold hexec hownZ w0 wi w1 (g := F0 m pc ls rest) rfl (by rw [hb]; exact d0) (Nat.le_refl _) (Nat.le_refl _)
  generalize hT1 : (T.setVm vm₁).pushCell { cls := cX, slots := kX.instanceTypes.map defaultValue, vm := .none } = T1 at X₁ st1
  have hnew : T1.heap[T.heap.size]? = some (freshCell cX kX) := by rw [← hT1]; exact State.heap_pushCell_size _ _
  have d3' : decode c.code (pc + 3) = .ok (.dup, 1) := by rw [hb]; exact d3
  obtain ⟨U, hsteps, hrun, hend, hW, hsame, ce, hce9, hO⟩ := X₁.ctorThrowS hexec htr (own := own) (cls := cls) (names := names) (ic := ic) hownZ hcls hnames w3 (fun x hx => nomatch hx) hfX hkX hnew (by rw [zhp]; exact Nat.le_refl _) (msg := .ref sa) rfl
    (g := { method := m, pc := pc + 6, locals := ls, stack := .ref sa :: .ref T.heap.size :: .ref T.heap.size :: rest, locked := none }) rfl hsize rfl rfl (rest := rest) rfl
    (by rw [hb]; exact d6) (by rw [hb]; exact d9) (by rw [htab]; exact fun x hx => nomatch hx) hfr (by
      have hcat : (Value.ref T.heap.size).category = 1 := rfl
      simp only [List.map_cons, List.sum_cons, hcat, JFrame.monitorRoom]
      simp
      omega) hlocks
  have hkeep : T.heap.size ≤ U.heap.size ∧ ∀ q : Nat, q < T.heap.size → U.heap[q]? = T.heap[q]? := by
    obtain ⟨-, k2, -, -, -, k6⟩ := hsame
    rw [zhp] at k2 k6
    refine ⟨k2, fun q hq => ?_⟩
    obtain ⟨c9, e1, e2, e3, e4⟩ := k6 q _ (Array.getElem?_eq_getElem hq)
    have hsl9 : c9.slots = (T.heap[q]).slots := Array.ext_getElem? fun i => e4 i (fun hm => nomatch hm)
    have h9 : c9 = T.heap[q] := by
      rw [hsl9] at e2
      exact e2
    have e5 : U.heap[q]? = some c9 := e1
    rw [e5, h9, Array.getElem?_eq_getElem hq]
  have hWs : s.WarmedH U.vm := by
    have h9 := hW
    rw [← hZ] at h9
    exact h9
  have hcl : s.vm.findClass cls = some ce.cls := by
    have h9 := hO.cls
    rw [zvm] at h9
    exact h9
  have hall : s.sameButNew ({ U with vm := s.vm } : State) locs mc ms := by
    subst hZ
    obtain ⟨e1, e2⟩ := hsame
    unfold ex_at at e1
    rw [State.setFrames_setFrames] at e1
    have h2 : (T.setVm s.vm).sameButNew ({ U with vm := s.vm } : State) [] (0 + 1) (0 + 6) := ⟨e1, e2⟩
    have h3 := X.same.trans h2
    rw [List.append_nil] at h3
    exact h3.mono hc hs
  refine ⟨U, ?_, .threw T.heap.size, hrun, hend, Or.inr ⟨T.heap.size, cls, ce, locs, rfl, hx U (by rw [← hT]; exact hkeep.1) (fun q hq => by rw [← hT] at hq ⊢; exact hkeep.2 q hq), hce9, hO.vm, hcl, hWs, hall, hf⟩⟩
  refine st1 _ ?_
  show Steps p.tables e below (T1.setTop { method := m, pc := pc + 3, locals := ls, stack := .ref T.heap.size :: rest, locked := none }) _
  jvm_step X₁.here [X₁.here.top, hexec, d3', Value.category]
  exact X₁.ldcString hexec (own := own) (text := text) (index := is) (a := sa) hownZ w2 hev
    (g := { method := m, pc := pc + 4, locals := ls, stack := .ref T.heap.size :: .ref T.heap.size :: rest, locked := none }) rfl (by rw [hb]; exact d4) _ hsteps
end EY
end
section
section EZ
variable {p : Program} {l : Launch} {e : Env} {R : Room} {s : State} {m : MethodId} {args : Array Value} {below : List Frame} {meth : Method} {c : Code} {T : State} {H : Heap} {locs : List Loc} {cells slots : Nat} {Q : State → Prop}
variable {Qc : Array Value → State → Outcome → State → Prop} {XC : String → State → State → Prop} {mc ms : Nat} {free : Addr → Prop}
/-- the method's frame g, an exception q thrown over it -/
def ex_W (p : Program) (l : Launch) (e : Env) (R : Room) (s : State) (m : MethodId) (args : Array Value) (below : List Frame) (meth : Method) (c : Code) (H : Heap) (locs : List Loc) (cells slots : Nat) (Q : State → Prop) (g : JFrame) (q : Addr) : Prop :=
  ∀ T : State, T.heap = H → Stand p l e R s m args below meth c T locs cells slots → ∃ t, Steps p.tables e below ((T.setTop g).pushFrame (.throwing q)) t ∧ Q t
/-- a virtual call of a method that returns or throws: two roads on -/
theorem ex_callV {y : MethodName} {bytes cc : ByteArray} {maxL nL n index : Nat} {ret : Option FieldType} {ws : List Cond} {rm : Room} {Pc : Array Value → State → Prop} {Ts : List Cond} {own C : String} {b : Addr} {As rest : List Value} {pc : Nat} {ls : Array Slot} {st0 : List Value}
    (S : CallFix p m c cc nL s args Ts own) (hM : ex_Met l y ws rm Pc Qc XC mc ms free) (cw : CallW R s args own C index y bytes maxL ret ws rm mc ms n) (hp : PreV s H C b Pc As)
    (hn : As.length = n) (hsize : ls.size = nL) (hstack : st0 = As.reverse ++ .ref b :: rest) (hW : (rest.map fun v => v.category).sum ≤ 8) (hdg : decode cc pc = .ok (.invokevirtual index, 3)) (hf : cells + mc ≤ R.cells ∧ slots + ms ≤ R.slots)
    (kr : ∀ (v : Option Value) (st t : State) (L : List Loc), st.heap = H → s.vm.Alike t.vm → (∀ q ∈ L, free q.base) → Qc (Value.ref b :: As).toArray st (.returned v) t → W p l e R s m args below meth c t.heap (locs ++ L) (cells + mc) (slots + ms) Q (F0 m (pc + 3) ls (v.toList ++ rest)))
    (kx : ∀ (E : String) (ce : Cell) (q : Addr) (st t : State) (L : List Loc), st.heap = H → s.vm.Alike t.vm → (∀ q ∈ L, free q.base) → XC E st t → t.heap[q]? = some ce → ce.vm = .none → s.vm.findClass E = some ce.cls → ex_W p l e R s m args below meth c t.heap (locs ++ L) (cells + mc) (slots + ms) Q (F0 m pc ls rest) q) :
    W p l e R s m args below meth c H locs cells slots Q (F0 m pc ls st0) := by
  obtain ⟨⟨hrc, hrs, hfr, hlo, hws, hcw, hcode, hini, hy, hlen, hl⟩, hin, hse⟩ := cw
  obtain ⟨hx, hb, hml, ho, -⟩ := S
  obtain ⟨hbl, ⟨cellB, hcB, hoB, hclB⟩, hPc⟩ := hp
  intro T hT X
  obtain ⟨mk, methM, hnamed, hmethM, hstM, habM⟩ := Cond.instanceMethod_spec hin
  obtain ⟨methM', cM, hmethM', -, -, -, -, -, -, hsigM⟩ := Cond.code_spec hnamed hcode
  cases hmethM.symm.trans hmethM'
  obtain ⟨c2, r2, m2, q1, q2, q3, q4, kP, hkP, hkPi⟩ := Cond.selects_spec hse
  cases hclB.symm.trans q1
  cases (State.methodFound?_of_named hnamed hy).symm.trans q2
  cases hnamed.symm.trans q3
  have hselP : selectMethod e.platform s.vm cellB.cls mk = .method mk := by rw [Launch.admits_selectMethod X.admits]; exact q4
  obtain ⟨vm₁, X₁, hstep₁⟩ := X.invokevirtual hx ho hl hnamed hmethM hstM hkP hkPi hy (a := b) (cell := cellB) (by rw [hT]; exact hcB)
    (fun z h => by rw [h] at hoB; cases hoB) hselP hmethM habM hkP hkPi (g := F0 m pc ls st0) rfl (argsL := As) (rest := rest) (hn.trans (hlen _ hsigM)) hstack (by rw [hb]; exact hdg)
  have hg9 : ({ F0 m pc ls st0 with stack := rest } : JFrame) = F0 m pc ls rest := rfl
  rw [hg9] at hstep₁
  have hdg' : decode c.code (F0 m pc ls rest).pc = .ok (.invokevirtual index, 3) := by rw [hb]; exact hdg
  have hsz : (F0 m pc ls rest).locals.size = c.maxLocals := hsize.trans hml.symm
  have hn₁ : (T.setVm vm₁).methodNamed? y = some mk := X₁.named hnamed
  have hcode₁ : (Cond.code y bytes maxL ret).before (Value.ref b :: As).toArray (T.setVm vm₁) = true := hws _ hcw _ _ X₁.warmed
  have hini₁ : (Cond.initialized y.cls).before (Value.ref b :: As).toArray (T.setVm vm₁) = true := word_at X₁.warmed (Or.inl (by first | rfl | simp [Cond.onTables, Cond.keeps, Cond.steady])) hini
  obtain ⟨methY, cY, hmY, hcY, -, hlY, -⟩ := Cond.code_spec hn₁ hcode₁
  obtain ⟨kY, hkY, -⟩ := className_of_methodNamed hn₁
  have hinitY : kY.init = .initialized := Cond.initialized_spec (findClass_of_methodNamed hn₁) hkY hini₁
  have hroom : ((T.setVm vm₁).calling (F0 m pc ls rest) mk (Value.ref b :: As).toArray).hasRoom e.platform (headSpec ws rm).room = true :=
    X₁.room_calling (g := F0 m pc ls rest) (R' := (headSpec ws rm).room) hsz hmY hcY hfr (by
      rw [hlY]
      show 2 * 0 + (rest.map fun v => v.category).sum + (maxL + 11) + rm.locals ≤ R.locals
      omega) (by rw [show (headSpec ws rm).room.cells = mc from hrc]; exact hf.1) (by rw [show (headSpec ws rm).room.slots = ms from hrs]; exact hf.2)
  have happ : (headSpec ws rm).appliesLoose y e.platform ((T.setVm vm₁).calling (F0 m pc ls rest) mk (Value.ref b :: As).toArray) = true :=
    Spec.appliesLoose_calling (g := F0 m pc ls rest) X₁.here hdg' hn₁ hkY hinitY hroom (atoms_intro fun w hw => hws w hw _ _ X₁.warmed)
  have hfr₁ : ((T.setVm vm₁).setTop (F0 m pc ls rest)).frames = .java (F0 m pc ls rest) :: below := by rw [State.frames_setTop' _ X₁.here.top, X₁.tail]
  have hP₁ : Pc (Value.ref b :: As).toArray ((T.setVm vm₁).calling (F0 m pc ls rest) mk (Value.ref b :: As).toArray) := hbl _ _ _ _ (hPc (T.setVm vm₁) hT X₁.warmed)
  obtain ⟨o, t, hsteps, -, hend, hq⟩ := Steps.callFree hM p X.admits X.cas X.clock (acts := []) (mid := [.java (F0 m pc ls rest)]) (below := below) hfr₁ happ hP₁ trivial
  rw [hfr₁] at hend
  have hst0 : ((T.setVm vm₁).calling (F0 m pc ls rest) mk (Value.ref b :: As).toArray).heap = H := hT
  have hq' : ex_Q Qc XC mc ms free (Value.ref b :: As).toArray ((T.setVm vm₁).calling (F0 m pc ls rest) mk (Value.ref b :: As).toArray) o t := hq
  rcases hq' with ⟨hqc, L, hfe, hL⟩ | ⟨q, E, ce, L, rfl, hxc, hce, hcv, hcl, hW₂, hsm, hL⟩
  · obtain ⟨⟨v, rfl⟩, hW₂, hsm⟩ := hfe
    obtain ⟨T', X', hw', hs', ht⟩ := X₁.outOf (g := F0 m pc ls rest) rfl hdg' hend hW₂ hsm
    have hth : t.heap = T'.heap := by rw [ht]; rfl
    have htv : t.vm = T'.vm := by rw [ht]; rfl
    obtain ⟨t2, a1, b1⟩ := kr v _ t L hst0 (by rw [htv]; exact X'.warmed.alike) hL hqc T' hth.symm X'
    refine ⟨t2, hstep₁ _ fun acts => ?_, b1⟩
    rw [doInvoke_state]
    refine hsteps.trans ?_
    rw [ht]
    exact a1
  · obtain ⟨T', X', hw', hs', ht⟩ := X₁.outOfThrown (g := F0 m pc ls rest) rfl hend hW₂ hsm
    have hth : t.heap = T'.heap := by rw [ht]; exact Stand.throwing_heap _ _ _
    have htv : t.vm = T'.vm := by rw [ht]; exact Stand.throwing_vm _ _ _
    have hcl9 : s.vm.findClass E = some ce.cls := by
      have h9 : (T.setVm vm₁).vm.findClass E = some ce.cls := hcl
      rw [X₁.warmed.alike.findClass] at h9
      exact h9
    obtain ⟨t2, a1, b1⟩ := kx E ce q _ t L hst0 (by rw [htv]; exact X'.warmed.alike) hL hxc hce hcv hcl9 T' hth.symm X'
    refine ⟨t2, hstep₁ _ fun acts => ?_, b1⟩
    rw [doInvoke_state]
    refine hsteps.trans ?_
    rw [ht]
    exact a1
end EZ
end
section
-- the search of a handler, entries of the method's own table in their order, each linked when it is asked
def ex_F (e : Env) (s : State) (f : JFrame) (a : Addr) (h : Handler) (vm' : Vm) : Prop :=
  ∀ (Q : Handler → Pre) (E : CtlPost) (d : Bool) (acts : List Action), Sem.wp (findHandler f a) Q E e d acts s ↔ Q h d acts (s.setVm vm')
theorem ex_go_ask {e : Env} {s : State} {f : JFrame} {a : Addr} {x : ExceptionTableEntry} {t : List ExceptionTableEntry} {c : ClassId} {cell : Cell} (hx : covers x f.pc = true) (h0 : x.catchType ≠ 0)
    (hl : s.vm.ClassLinks e.platform f.method.cls x.catchType c) (hcell : s.heap[a]? = some cell) (hobj : ∀ k, cell.vm ≠ .statics k)
    (hk : ∃ k, s.vm.classes[cell.cls]? = some k) (hc : ∃ k, s.vm.classes[c]? = some k) (Q : Handler → Pre) (E : CtlPost) (d : Bool) (acts : List Action) :
    Sem.wp (findHandler.go f a (x :: t)) Q E e d acts s ↔
      if s.vm.assignable cell.cls c = true then Q (.found x.handlerPc) d acts (s.setVm (s.vm.noted f.method.cls x.catchType (.cls c))) else Sem.wp (findHandler.go f a t) Q E e d acts (s.setVm (s.vm.noted f.method.cls x.catchType (.cls c))) := by
  simp only [covers] at hx
  obtain ⟨ha, ht⟩ := (resolveClass_links e.toSetting hl).op (op := VmOp.resolveClass f.method.cls x.catchType) rfl
  have hal : s.vm.Alike (s.vm.noted f.method.cls x.catchType (.cls c)) := (Vm.Alike.refl s.vm).noted _ _ _
  obtain ⟨k1, hk1⟩ := hk
  obtain ⟨k2, hk2⟩ := hc
  obtain ⟨k1', hk1', -⟩ := hal.2.2 _ _ hk1
  obtain ⟨k2', hk2', -⟩ := hal.2.2 _ _ hk2
  cases hfit : s.vm.assignable cell.cls c
  · have hf9 : (s.vm.noted f.method.cls x.catchType (.cls c)).assignable cell.cls c = false := by rw [hal.assignable]; exact hfit
    simp [findHandler.go, hx, h0, ha, ht, hcell, hobj, hk1', hk2', hf9, VmOp.dirties, VmOp.acts]
  · have hf9 : (s.vm.noted f.method.cls x.catchType (.cls c)).assignable cell.cls c = true := by rw [hal.assignable]; exact hfit
    simp [findHandler.go, hx, h0, ha, ht, hcell, hobj, hk1', hk2', hf9, VmOp.dirties, VmOp.acts]
/-- the first entry whose class takes an E is the one of handler h; all cover the place -/
def ex_hit (own : String) (args : Array Value) (s : State) (E : String) (pc h : Nat) : List (Nat × Nat × Nat × Nat) → Prop
  | [] => False
  | y :: ys => y.1 ≤ pc ∧ pc < y.2.1 ∧ y.2.2.2 ≠ 0 ∧ ∃ name : String, (Cond.classLink own y.2.2.2 name).before args s = true ∧ (((Cond.castable E name).before args s = true ∧ y.2.2.1 = h) ∨ (va_Nc E name s ∧ ex_hit own args s E pc h ys))
theorem ex_go {e : Env} {s₀ : State} {f : JFrame} {a : Addr} {cell : Cell} {args : Array Value} {own E : String} {h : Nat} (hpl : e.platform.magicAccessors = ({} : Platform).magicAccessors) (hobj : ∀ k, cell.vm ≠ .statics k) (hcl : s₀.vm.findClass E = some cell.cls) (hown : s₀.vm.findClass own = some f.method.cls) :
    ∀ (tab : List ExceptionTableEntry) (S : State), s₀.WarmedH S.vm → S.heap[a]? = some cell → ex_hit own args s₀ E f.pc h (tab.map fun x => (x.startPc, x.endPc, x.handlerPc, x.catchType)) →
      ∃ vm', s₀.WarmedH vm' ∧ ∀ (Q : Handler → Pre) (E : CtlPost) (d : Bool) (acts : List Action), Sem.wp (findHandler.go f a tab) Q E e d acts S ↔ Q (.found h) d acts (S.setVm vm') := by
  obtain ⟨k0, hk0, -⟩ := Vm.findClass_spec hcl
  intro tab
  induction tab with
  | nil => intro S _ _ hh; exact absurd hh (fun z => z)
  | cons x t ih =>
    intro S hW hcell hh
    obtain ⟨c1, c2, c3, name, hlink, hor⟩ := hh
    have hcov : covers x f.pc = true := by
      have h1 : x.startPc ≤ f.pc := c1
      have h2 : f.pc < x.endPc := c2
      simp [covers, h1, h2]
    have h0 : x.catchType ≠ 0 := c3
    obtain ⟨cN, hcN, hlk⟩ := Cond.classLink_spec hown hlink e.platform hpl
    obtain ⟨dk, _, _, kt, hd, _, _, _, _, hkt, _, hopen⟩ := hlk.here
    obtain ⟨k0', hk0', -⟩ := hW.alike.2.2 _ _ hk0
    obtain ⟨kt', hkt', -⟩ := hW.alike.2.2 _ _ hkt
    have hWn : s₀.WarmedH (S.vm.noted f.method.cls x.catchType (.cls cN)) := hW.noted hd hopen (State.rightAt_cls hlk)
    have hask := fun (Q : Handler → Pre) (E : CtlPost) (d : Bool) (acts : List Action) => ex_go_ask (t := t) hcov h0 (hW.classLinks hlk) hcell hobj ⟨k0', hk0'⟩ ⟨kt', hkt'⟩ Q E d acts
    rcases hor with ⟨hcast, hh⟩ | ⟨hno, hrest⟩
    · obtain ⟨e1, e2, f1, f2, hasg⟩ := Cond.castable_spec hcast
      cases Option.some.inj (f1.symm.trans hcl)
      cases Option.some.inj (f2.symm.trans hcN)
      have hfit : S.vm.assignable cell.cls cN = true := by rw [hW.alike.assignable]; exact hasg
      have hh' : x.handlerPc = h := hh
      exact ⟨_, hWn, fun Q E d acts => by rw [hask Q E d acts, if_pos hfit, hh']⟩
    · obtain ⟨e1, e2, f1, f2, hasg⟩ := hno
      cases Option.some.inj (f1.symm.trans hcl)
      cases Option.some.inj (f2.symm.trans hcN)
      have hfit : ¬ S.vm.assignable cell.cls cN = true := by rw [hW.alike.assignable, hasg]; decide
      obtain ⟨vm', hW', hq⟩ := ih (S.setVm (S.vm.noted f.method.cls x.catchType (.cls cN))) hWn hcell hrest
      exact ⟨vm', hW', fun Q E d acts => by rw [hask Q E d acts, if_neg hfit]; exact hq Q E d acts⟩
theorem ex_stepTo {e : Env} {s : State} {a : Addr} {f : JFrame} {r : List Frame} {pc : Nat} {vm' : Vm} (hfind : ex_F e s f a (.found pc) vm') :
    (stepThrowing e s a (.java f :: r)).Is ((s.setVm vm').setFrames (.java { f with pc := pc, stack := [.ref a] } :: r)) [] := by
  simp only [stepThrowing, searchFrame, vmDo]
  generalize hr : Sem.go _ e false [] s = res
  obtain ⟨as, rfl, ha⟩ := Sem.eq_ok_of hr (a := Handler.found pc) (s' := s.setVm vm') (acts' := []) (by simp [hfind _ _ _ _])
  exact ⟨rfl, ha⟩
section EC
variable {p : Program} {l : Launch} {e : Env} {R : Room} {s : State} {m : MethodId} {args : Array Value} {below : List Frame} {meth : Method} {c : Code} {H : Heap} {locs : List Loc} {cells slots : Nat} {Q : State → Prop}
/-- an exception that a call here has thrown is caught here -/
theorem ex_catch {own E : String} {ce : Cell} {q : Addr} {pc h : Nat} {ls : Array Slot} {rest : List Value} {hs : List (Nat × Nat × Nat × Nat)} (hown : s.vm.findClass own = some m.cls) (htab : c.exceptionTable.toList.map (fun x => (x.startPc, x.endPc, x.handlerPc, x.catchType)) = hs) (hhit : ex_hit own args s E pc h hs)
    (hcell : H[q]? = some ce) (hv : ce.vm = .none) (hcl : s.vm.findClass E = some ce.cls)
    (kk : W p l e R s m args below meth c H locs cells slots Q (F0 m h ls [.ref q])) : ex_W p l e R s m args below meth c H locs cells slots Q (F0 m pc ls rest) q := by
  intro T hT X
  have hpl : e.platform.magicAccessors = ({} : Platform).magicAccessors := by rw [X.admits.platform]
  have hh0 : ((T.setTop (F0 m pc ls rest)).pushFrame (.throwing q)).heap = T.heap := Stand.throwing_heap _ _ _
  have hv0 : ((T.setTop (F0 m pc ls rest)).pushFrame (.throwing q)).vm = T.vm := Stand.throwing_vm _ _ _
  obtain ⟨vm', hW', hq⟩ := ex_go (e := e) (s₀ := s) (f := F0 m pc ls rest) (a := q) (cell := ce) (args := args) (own := own) (E := E) (h := h) hpl (fun k z => by rw [hv] at z; cases z) hcl hown c.exceptionTable.toList
    ((T.setTop (F0 m pc ls rest)).pushFrame (.throwing q)) (by rw [hv0]; exact X.warmed) (by rw [hh0, hT]; exact hcell) (by rw [htab]; exact hhit)
  have hfind : ex_F e ((T.setTop (F0 m pc ls rest)).pushFrame (.throwing q)) (F0 m pc ls rest) q (.found h) vm' := by
    intro Q9 E9 d9 acts9
    rw [_root_.Jvm.W.findHandler_eq (meth := meth) (code := c) (by rw [hv0]; exact X.method') X.code]
    exact hq Q9 E9 d9 acts9
  obtain ⟨t, a1, b1⟩ := kk (T.setVm vm') hT (X.noted hW')
  refine ⟨t, ?_, b1⟩
  obtain ⟨hgo, hw⟩ := (show At T (F0 m pc ls rest).method c below from X.here).throwing q
  refine Steps.head hgo hw ?_
  rw [stepThread_throwing (frames_entered X.here.top _), (ex_stepTo (s := (T.setTop (F0 m pc ls rest)).pushFrame (.throwing q)) hfind).1]
  obtain ⟨g₀, hg₀⟩ := X.frames_eq
  have hr' : (T.setVm vm').frames = .java g₀ :: below := hg₀
  rw [State.setTop_of_frames _ hr'] at a1
  rw [hg₀, List.tail_cons, State.pushFrame, State.setTop_of_frames _ hg₀]
  have e1 : ∀ (u : State) (F G : List Frame), ((u.setFrames F).setVm vm').setFrames G = (u.setVm vm').setFrames G := fun u F G => by
    have h1 : (u.setFrames F).setVm vm' = (u.setVm vm').setFrames F := rfl
    rw [h1, State.setFrames_setFrames]
  rw [e1, e1]
  exact a1
end EC
end
section
-- ===== PART A: goes FIRST, ahead of the names: the tables' words, and 'selects' of the private methods out of them =====
/-- a private method of a class that the tables say can be made, by its rows of tables_1 -/
def lw_okq (q : MethodName × Nat) : Prop := (q.1.cls ≠ "java/lang/invoke/MethodHandle" ∧ q.1.cls ≠ "java/lang/invoke/VarHandle") ∧ Cond.instantiable q.1.cls q.2 ∈ tables_1 ∧ Cond.privateMethod q.1 ∈ tables_1 ∧ Cond.instanceMethod q.1 ∈ tables_1
theorem lw_p0 : lw_okq (⟨"HearingDesk$Word", "begin", "(I)V"⟩, 5) := ⟨⟨by decide +kernel, by decide +kernel⟩, List.mem_of_getElem? (i := 151) (by decide +kernel), List.mem_of_getElem? (i := 157) (by decide +kernel), List.mem_of_getElem? (i := 158) (by decide +kernel)⟩
theorem lw_p1 : lw_okq (⟨"java/lang/Throwable", "fillInStackTrace", "(I)Ljava/lang/Throwable;"⟩, 6) := ⟨⟨by decide +kernel, by decide +kernel⟩, List.mem_of_getElem? (i := 288) (by decide +kernel), List.mem_of_getElem? (i := 286) (by decide +kernel), List.mem_of_getElem? (i := 287) (by decide +kernel)⟩
theorem lw_p2 : lw_okq (⟨"HearingDesk$SoundFile", "firstWrongOfHead", "()I"⟩, 2) := ⟨⟨by decide +kernel, by decide +kernel⟩, List.mem_of_getElem? (i := 28) (by decide +kernel), List.mem_of_getElem? (i := 349) (by decide +kernel), List.mem_of_getElem? (i := 350) (by decide +kernel)⟩
theorem lw_p3 : lw_okq (⟨"HearingDesk$SoundFile", "spells", "(IIIII)Z"⟩, 2) := ⟨⟨by decide +kernel, by decide +kernel⟩, List.mem_of_getElem? (i := 28) (by decide +kernel), List.mem_of_getElem? (i := 353) (by decide +kernel), List.mem_of_getElem? (i := 354) (by decide +kernel)⟩
theorem lw_p4 : lw_okq (⟨"HearingDesk$SoundFile", "four", "(I)J"⟩, 2) := ⟨⟨by decide +kernel, by decide +kernel⟩, List.mem_of_getElem? (i := 28) (by decide +kernel), List.mem_of_getElem? (i := 357) (by decide +kernel), List.mem_of_getElem? (i := 358) (by decide +kernel)⟩
theorem lw_p5 : lw_okq (⟨"HearingDesk$SoundFile", "two", "(I)I"⟩, 2) := ⟨⟨by decide +kernel, by decide +kernel⟩, List.mem_of_getElem? (i := 28) (by decide +kernel), List.mem_of_getElem? (i := 361) (by decide +kernel), List.mem_of_getElem? (i := 362) (by decide +kernel)⟩
theorem lw_p6 : lw_okq (⟨"HearingDesk$SoundFile", "firstWrongOfForm", "()I"⟩, 2) := ⟨⟨by decide +kernel, by decide +kernel⟩, List.mem_of_getElem? (i := 28) (by decide +kernel), List.mem_of_getElem? (i := 367) (by decide +kernel), List.mem_of_getElem? (i := 368) (by decide +kernel)⟩
theorem lw_p7 : lw_okq (⟨"HearingDesk$SoundFile", "channels", "()I"⟩, 2) := ⟨⟨by decide +kernel, by decide +kernel⟩, List.mem_of_getElem? (i := 28) (by decide +kernel), List.mem_of_getElem? (i := 371) (by decide +kernel), List.mem_of_getElem? (i := 372) (by decide +kernel)⟩
theorem lw_p8 : lw_okq (⟨"HearingDesk$SoundFile", "width", "()I"⟩, 2) := ⟨⟨by decide +kernel, by decide +kernel⟩, List.mem_of_getElem? (i := 28) (by decide +kernel), List.mem_of_getElem? (i := 381) (by decide +kernel), List.mem_of_getElem? (i := 382) (by decide +kernel)⟩
theorem lw_p9 : lw_okq (⟨"HearingDesk$SoundFile", "bits", "()I"⟩, 2) := ⟨⟨by decide +kernel, by decide +kernel⟩, List.mem_of_getElem? (i := 28) (by decide +kernel), List.mem_of_getElem? (i := 385) (by decide +kernel), List.mem_of_getElem? (i := 386) (by decide +kernel)⟩
theorem lw_p10 : lw_okq (⟨"HearingDesk$SoundFile", "channelAt", "(I)D"⟩, 2) := ⟨⟨by decide +kernel, by decide +kernel⟩, List.mem_of_getElem? (i := 28) (by decide +kernel), List.mem_of_getElem? (i := 403) (by decide +kernel), List.mem_of_getElem? (i := 404) (by decide +kernel)⟩
theorem lw_p11 : lw_okq (⟨"HearingDesk$Sound", "judgeBand", "(III)V"⟩, 7) := ⟨⟨by decide +kernel, by decide +kernel⟩, List.mem_of_getElem? (i := 69) (by decide +kernel), List.mem_of_getElem? (i := 476) (by decide +kernel), List.mem_of_getElem? (i := 477) (by decide +kernel)⟩
theorem lw_p12 : lw_okq (⟨"HearingDesk$PatternBook", "leastBefore", "(II)D"⟩, 3) := ⟨⟨by decide +kernel, by decide +kernel⟩, List.mem_of_getElem? (i := 101) (by decide +kernel), List.mem_of_getElem? (i := 555) (by decide +kernel), List.mem_of_getElem? (i := 556) (by decide +kernel)⟩
theorem lw_p13 : lw_okq (⟨"HearingDesk$Word", "reach", "(I)V"⟩, 5) := ⟨⟨by decide +kernel, by decide +kernel⟩, List.mem_of_getElem? (i := 151) (by decide +kernel), List.mem_of_getElem? (i := 596) (by decide +kernel), List.mem_of_getElem? (i := 597) (by decide +kernel)⟩
theorem lw_p14 : lw_okq (⟨"HearingDesk", "milliseconds", "(I)I"⟩, 10) := ⟨⟨by decide +kernel, by decide +kernel⟩, List.mem_of_getElem? (i := 20) (by decide +kernel), List.mem_of_getElem? (i := 613) (by decide +kernel), List.mem_of_getElem? (i := 614) (by decide +kernel)⟩
theorem lw_p15 : lw_okq (⟨"HearingDesk", "loudFrames", "()I"⟩, 10) := ⟨⟨by decide +kernel, by decide +kernel⟩, List.mem_of_getElem? (i := 20) (by decide +kernel), List.mem_of_getElem? (i := 633) (by decide +kernel), List.mem_of_getElem? (i := 634) (by decide +kernel)⟩
def lw_privs_1 : List (MethodName × Nat) := [(⟨"HearingDesk$Word", "begin", "(I)V"⟩, 5), (⟨"java/lang/Throwable", "fillInStackTrace", "(I)Ljava/lang/Throwable;"⟩, 6), (⟨"HearingDesk$SoundFile", "firstWrongOfHead", "()I"⟩, 2), (⟨"HearingDesk$SoundFile", "spells", "(IIIII)Z"⟩, 2), (⟨"HearingDesk$SoundFile", "four", "(I)J"⟩, 2), (⟨"HearingDesk$SoundFile", "two", "(I)I"⟩, 2), (⟨"HearingDesk$SoundFile", "firstWrongOfForm", "()I"⟩, 2), (⟨"HearingDesk$SoundFile", "channels", "()I"⟩, 2), (⟨"HearingDesk$SoundFile", "width", "()I"⟩, 2), (⟨"HearingDesk$SoundFile", "bits", "()I"⟩, 2), (⟨"HearingDesk$SoundFile", "channelAt", "(I)D"⟩, 2), (⟨"HearingDesk$Sound", "judgeBand", "(III)V"⟩, 7), (⟨"HearingDesk$PatternBook", "leastBefore", "(II)D"⟩, 3), (⟨"HearingDesk$Word", "reach", "(I)V"⟩, 5), (⟨"HearingDesk", "milliseconds", "(I)I"⟩, 10), (⟨"HearingDesk", "loudFrames", "()I"⟩, 10)]
theorem lw_r1 : ∀ q ∈ lw_privs_1, lw_okq q := List.forall_mem_cons.mpr ⟨lw_p0, List.forall_mem_cons.mpr ⟨lw_p1, List.forall_mem_cons.mpr ⟨lw_p2, List.forall_mem_cons.mpr ⟨lw_p3, List.forall_mem_cons.mpr ⟨lw_p4, List.forall_mem_cons.mpr ⟨lw_p5, List.forall_mem_cons.mpr ⟨lw_p6, List.forall_mem_cons.mpr ⟨lw_p7, List.forall_mem_cons.mpr ⟨lw_p8, List.forall_mem_cons.mpr ⟨lw_p9, List.forall_mem_cons.mpr ⟨lw_p10, List.forall_mem_cons.mpr ⟨lw_p11, List.forall_mem_cons.mpr ⟨lw_p12, List.forall_mem_cons.mpr ⟨lw_p13, List.forall_mem_cons.mpr ⟨lw_p14, List.forall_mem_cons.mpr ⟨lw_p15, fun _ h => absurd h List.not_mem_nil⟩⟩⟩⟩⟩⟩⟩⟩⟩⟩⟩⟩⟩⟩⟩⟩
theorem lw_p16 : lw_okq (⟨"HearingDeskModel", "fails", "(ZI)Z"⟩, 27) := ⟨⟨by decide +kernel, by decide +kernel⟩, List.mem_of_getElem? (i := 639) (by decide +kernel), List.mem_of_getElem? (i := 742) (by decide +kernel), List.mem_of_getElem? (i := 743) (by decide +kernel)⟩
theorem lw_p17 : lw_okq (⟨"HearingDeskModel", "wrong", "()I"⟩, 27) := ⟨⟨by decide +kernel, by decide +kernel⟩, List.mem_of_getElem? (i := 639) (by decide +kernel), List.mem_of_getElem? (i := 751) (by decide +kernel), List.mem_of_getElem? (i := 752) (by decide +kernel)⟩
theorem lw_p18 : lw_okq (⟨"HearingDeskModel", "number", "(II)J"⟩, 27) := ⟨⟨by decide +kernel, by decide +kernel⟩, List.mem_of_getElem? (i := 639) (by decide +kernel), List.mem_of_getElem? (i := 755) (by decide +kernel), List.mem_of_getElem? (i := 756) (by decide +kernel)⟩
theorem lw_p19 : lw_okq (⟨"HearingDeskModel", "spells", "(IIIII)Z"⟩, 27) := ⟨⟨by decide +kernel, by decide +kernel⟩, List.mem_of_getElem? (i := 639) (by decide +kernel), List.mem_of_getElem? (i := 759) (by decide +kernel), List.mem_of_getElem? (i := 760) (by decide +kernel)⟩
theorem lw_p20 : lw_okq (⟨"HearingDeskModel", "heard", "(II)D"⟩, 27) := ⟨⟨by decide +kernel, by decide +kernel⟩, List.mem_of_getElem? (i := 639) (by decide +kernel), List.mem_of_getElem? (i := 767) (by decide +kernel), List.mem_of_getElem? (i := 768) (by decide +kernel)⟩
theorem lw_p21 : lw_okq (⟨"HearingDeskModel", "frames", "()I"⟩, 27) := ⟨⟨by decide +kernel, by decide +kernel⟩, List.mem_of_getElem? (i := 639) (by decide +kernel), List.mem_of_getElem? (i := 795) (by decide +kernel), List.mem_of_getElem? (i := 796) (by decide +kernel)⟩
theorem lw_p22 : lw_okq (⟨"HearingDeskModel", "powerOf", "(II)D"⟩, 27) := ⟨⟨by decide +kernel, by decide +kernel⟩, List.mem_of_getElem? (i := 639) (by decide +kernel), List.mem_of_getElem? (i := 799) (by decide +kernel), List.mem_of_getElem? (i := 800) (by decide +kernel)⟩
theorem lw_p23 : lw_okq (⟨"HearingDeskModel", "levelOf", "(II)D"⟩, 27) := ⟨⟨by decide +kernel, by decide +kernel⟩, List.mem_of_getElem? (i := 639) (by decide +kernel), List.mem_of_getElem? (i := 809) (by decide +kernel), List.mem_of_getElem? (i := 810) (by decide +kernel)⟩
theorem lw_p24 : lw_okq (⟨"HearingDeskModel", "bandOf", "(II)D"⟩, 27) := ⟨⟨by decide +kernel, by decide +kernel⟩, List.mem_of_getElem? (i := 639) (by decide +kernel), List.mem_of_getElem? (i := 813) (by decide +kernel), List.mem_of_getElem? (i := 814) (by decide +kernel)⟩
theorem lw_p25 : lw_okq (⟨"HearingDeskModel", "takes", "([DI)V"⟩, 27) := ⟨⟨by decide +kernel, by decide +kernel⟩, List.mem_of_getElem? (i := 639) (by decide +kernel), List.mem_of_getElem? (i := 843) (by decide +kernel), List.mem_of_getElem? (i := 844) (by decide +kernel)⟩
theorem lw_p26 : lw_okq (⟨"HearingDeskModel", "warps", "()D"⟩, 27) := ⟨⟨by decide +kernel, by decide +kernel⟩, List.mem_of_getElem? (i := 639) (by decide +kernel), List.mem_of_getElem? (i := 847) (by decide +kernel), List.mem_of_getElem? (i := 848) (by decide +kernel)⟩
theorem lw_p27 : lw_okq (⟨"HearingDeskModel", "isLoud", "(I)Z"⟩, 27) := ⟨⟨by decide +kernel, by decide +kernel⟩, List.mem_of_getElem? (i := 639) (by decide +kernel), List.mem_of_getElem? (i := 855) (by decide +kernel), List.mem_of_getElem? (i := 856) (by decide +kernel)⟩
theorem lw_p28 : lw_okq (⟨"HearingDeskModel", "writes", "(II)V"⟩, 27) := ⟨⟨by decide +kernel, by decide +kernel⟩, List.mem_of_getElem? (i := 639) (by decide +kernel), List.mem_of_getElem? (i := 859) (by decide +kernel), List.mem_of_getElem? (i := 860) (by decide +kernel)⟩
def lw_privs_2 : List (MethodName × Nat) := [(⟨"HearingDeskModel", "fails", "(ZI)Z"⟩, 27), (⟨"HearingDeskModel", "wrong", "()I"⟩, 27), (⟨"HearingDeskModel", "number", "(II)J"⟩, 27), (⟨"HearingDeskModel", "spells", "(IIIII)Z"⟩, 27), (⟨"HearingDeskModel", "heard", "(II)D"⟩, 27), (⟨"HearingDeskModel", "frames", "()I"⟩, 27), (⟨"HearingDeskModel", "powerOf", "(II)D"⟩, 27), (⟨"HearingDeskModel", "levelOf", "(II)D"⟩, 27), (⟨"HearingDeskModel", "bandOf", "(II)D"⟩, 27), (⟨"HearingDeskModel", "takes", "([DI)V"⟩, 27), (⟨"HearingDeskModel", "warps", "()D"⟩, 27), (⟨"HearingDeskModel", "isLoud", "(I)Z"⟩, 27), (⟨"HearingDeskModel", "writes", "(II)V"⟩, 27)]
theorem lw_r2 : ∀ q ∈ lw_privs_2, lw_okq q := List.forall_mem_cons.mpr ⟨lw_p16, List.forall_mem_cons.mpr ⟨lw_p17, List.forall_mem_cons.mpr ⟨lw_p18, List.forall_mem_cons.mpr ⟨lw_p19, List.forall_mem_cons.mpr ⟨lw_p20, List.forall_mem_cons.mpr ⟨lw_p21, List.forall_mem_cons.mpr ⟨lw_p22, List.forall_mem_cons.mpr ⟨lw_p23, List.forall_mem_cons.mpr ⟨lw_p24, List.forall_mem_cons.mpr ⟨lw_p25, List.forall_mem_cons.mpr ⟨lw_p26, List.forall_mem_cons.mpr ⟨lw_p27, List.forall_mem_cons.mpr ⟨lw_p28, fun _ h => absurd h List.not_mem_nil⟩⟩⟩⟩⟩⟩⟩⟩⟩⟩⟩⟩⟩
def lw_privs : List (MethodName × Nat) := lw_privs_1 ++ (lw_privs_2)
def lw_tbl : List Cond := k2_sels lw_privs ++ tables_1
theorem lw_privs_ok : ∀ q ∈ lw_privs, lw_okq q := by
  show ∀ q ∈ lw_privs_1 ++ (lw_privs_2), lw_okq q
  exact List.forall_mem_append.mpr ⟨lw_r1, lw_r2⟩
end
section
-- the words that all methods here share: those of the tables that stand as long as the tables are only read
def W0 : List Cond := lw_tbl.filter goodWord
theorem W0_ok : ∀ w ∈ W0, w ∈ lw_tbl := fun w h => (List.mem_filter.mp h).1
theorem W0_good {w : Cond} (h : w ∈ W0) : (w.onTables && w.keeps) = true ∨ ∃ ty, w = .arrayClass ty := good_of_word (List.mem_filter.mp h).2
theorem tw_0 : (Jvm.Cond.initialized "HearingDeskLaw") ∈ W0 := List.mem_filter.mpr ⟨List.mem_append_right _ (List.mem_of_getElem? (i := 0) (by decide +kernel)), rfl⟩
theorem tw_1 : (Jvm.Cond.initialized "HearingDesk") ∈ W0 := List.mem_filter.mpr ⟨List.mem_append_right _ (List.mem_of_getElem? (i := 1) (by decide +kernel)), rfl⟩
theorem tw_2 : (Jvm.Cond.initialized "HearingDesk$SoundFile") ∈ W0 := List.mem_filter.mpr ⟨List.mem_append_right _ (List.mem_of_getElem? (i := 2) (by decide +kernel)), rfl⟩
theorem tw_3 : (Jvm.Cond.initialized "HearingDesk$Circle") ∈ W0 := List.mem_filter.mpr ⟨List.mem_append_right _ (List.mem_of_getElem? (i := 3) (by decide +kernel)), rfl⟩
theorem tw_4 : (Jvm.Cond.initialized "HearingDesk$Sound") ∈ W0 := List.mem_filter.mpr ⟨List.mem_append_right _ (List.mem_of_getElem? (i := 4) (by decide +kernel)), rfl⟩
theorem tw_5 : (Jvm.Cond.initialized "HearingDesk$PatternBook") ∈ W0 := List.mem_filter.mpr ⟨List.mem_append_right _ (List.mem_of_getElem? (i := 5) (by decide +kernel)), rfl⟩
theorem tw_6 : (Jvm.Cond.initialized "HearingDesk$Pattern") ∈ W0 := List.mem_filter.mpr ⟨List.mem_append_right _ (List.mem_of_getElem? (i := 6) (by decide +kernel)), rfl⟩
theorem tw_7 : (Jvm.Cond.initialized "HearingDesk$WordList") ∈ W0 := List.mem_filter.mpr ⟨List.mem_append_right _ (List.mem_of_getElem? (i := 7) (by decide +kernel)), rfl⟩
theorem tw_8 : (Jvm.Cond.initialized "HearingDesk$Word") ∈ W0 := List.mem_filter.mpr ⟨List.mem_append_right _ (List.mem_of_getElem? (i := 8) (by decide +kernel)), rfl⟩
theorem tw_9 : (Jvm.Cond.initialized "HearingDeskModel") ∈ W0 := List.mem_filter.mpr ⟨List.mem_append_right _ (List.mem_of_getElem? (i := 9) (by decide +kernel)), rfl⟩
theorem tw_15 : (Jvm.Cond.initialized "HearingDesk$Numbers") ∈ W0 := List.mem_filter.mpr ⟨List.mem_append_right _ (List.mem_of_getElem? (i := 15) (by decide +kernel)), rfl⟩
theorem tw_19 : (Jvm.Cond.classLink "HearingDeskLaw" (8 : Nat) "HearingDesk") ∈ W0 := List.mem_filter.mpr ⟨List.mem_append_right _ (List.mem_of_getElem? (i := 19) (by decide +kernel)), rfl⟩
theorem tw_20 : (Jvm.Cond.instantiable "HearingDesk" (10 : Nat)) ∈ W0 := List.mem_filter.mpr ⟨List.mem_append_right _ (List.mem_of_getElem? (i := 20) (by decide +kernel)), rfl⟩
theorem tw_21 : (Jvm.Cond.methodLink "HearingDeskLaw" (68 : Nat) ({ cls := "HearingDesk", name := "<init>", desc := "()V" } : Jvm.MethodName)) ∈ W0 := List.mem_filter.mpr ⟨List.mem_append_right _ (List.mem_of_getElem? (i := 21) (by decide +kernel)), rfl⟩
theorem tw_22 : (Jvm.Cond.instanceMethod ({ cls := "HearingDesk", name := "<init>", desc := "()V" } : Jvm.MethodName)) ∈ W0 := List.mem_filter.mpr ⟨List.mem_append_right _ (List.mem_of_getElem? (i := 22) (by decide +kernel)), rfl⟩
theorem tw_23 : (Jvm.Cond.code ({ cls := "HearingDesk", name := "<init>", desc := "()V" } : Jvm.MethodName) prog_1_method_1_code (1 : Nat) (Option.none : Option Jvm.ClassFile.FieldType)) ∈ W0 := List.mem_filter.mpr ⟨List.mem_append_right _ (List.mem_of_getElem? (i := 23) (by decide +kernel)), rfl⟩
theorem tw_24 : (Jvm.Cond.methodLink "HearingDesk" (3 : Nat) ({ cls := "java/lang/Object", name := "<init>", desc := "()V" } : Jvm.MethodName)) ∈ W0 := List.mem_filter.mpr ⟨List.mem_append_right _ (List.mem_of_getElem? (i := 24) (by decide +kernel)), rfl⟩
theorem tw_27 : (Jvm.Cond.classLink "HearingDesk" (9 : Nat) "HearingDesk$SoundFile") ∈ W0 := List.mem_filter.mpr ⟨List.mem_append_right _ (List.mem_of_getElem? (i := 27) (by decide +kernel)), rfl⟩
theorem tw_28 : (Jvm.Cond.instantiable "HearingDesk$SoundFile" (2 : Nat)) ∈ W0 := List.mem_filter.mpr ⟨List.mem_append_right _ (List.mem_of_getElem? (i := 28) (by decide +kernel)), rfl⟩
theorem tw_29 : (Jvm.Cond.methodLink "HearingDesk" (11 : Nat) ({ cls := "HearingDesk$SoundFile", name := "<init>", desc := "()V" } : Jvm.MethodName)) ∈ W0 := List.mem_filter.mpr ⟨List.mem_append_right _ (List.mem_of_getElem? (i := 29) (by decide +kernel)), rfl⟩
theorem tw_30 : (Jvm.Cond.instanceMethod ({ cls := "HearingDesk$SoundFile", name := "<init>", desc := "()V" } : Jvm.MethodName)) ∈ W0 := List.mem_filter.mpr ⟨List.mem_append_right _ (List.mem_of_getElem? (i := 30) (by decide +kernel)), rfl⟩
theorem tw_31 : (Jvm.Cond.code ({ cls := "HearingDesk$SoundFile", name := "<init>", desc := "()V" } : Jvm.MethodName) prog_7_method_1_code (1 : Nat) (Option.none : Option Jvm.ClassFile.FieldType)) ∈ W0 := List.mem_filter.mpr ⟨List.mem_append_right _ (List.mem_of_getElem? (i := 31) (by decide +kernel)), rfl⟩
theorem tw_32 : (Jvm.Cond.methodLink "HearingDesk$SoundFile" (3 : Nat) ({ cls := "java/lang/Object", name := "<init>", desc := "()V" } : Jvm.MethodName)) ∈ W0 := List.mem_filter.mpr ⟨List.mem_append_right _ (List.mem_of_getElem? (i := 32) (by decide +kernel)), rfl⟩
theorem tw_33 : (Jvm.Cond.fieldLink "HearingDesk$SoundFile" (9 : Nat) "HearingDesk$SoundFile" "octets" "[I") ∈ W0 := List.mem_filter.mpr ⟨List.mem_append_right _ (List.mem_of_getElem? (i := 33) (by decide +kernel)), rfl⟩
theorem tw_34 : (Jvm.Cond.fieldLink "HearingDesk$SoundFile" (15 : Nat) "HearingDesk$SoundFile" "size" "I") ∈ W0 := List.mem_filter.mpr ⟨List.mem_append_right _ (List.mem_of_getElem? (i := 34) (by decide +kernel)), rfl⟩
theorem tw_36 : (Jvm.Cond.laysFinal "HearingDesk$SoundFile" "HearingDesk$SoundFile" "octets" "[I") ∈ W0 := List.mem_filter.mpr ⟨List.mem_append_right _ (List.mem_of_getElem? (i := 36) (by decide +kernel)), rfl⟩
theorem tw_38 : (Jvm.Cond.lays "HearingDesk$SoundFile" "HearingDesk$SoundFile" "size" "I") ∈ W0 := List.mem_filter.mpr ⟨List.mem_append_right _ (List.mem_of_getElem? (i := 38) (by decide +kernel)), rfl⟩
theorem tw_41 : (Jvm.Cond.arrayClass Jvm.ClassFile.FieldType.int) ∈ W0 := List.mem_filter.mpr ⟨List.mem_append_right _ (List.mem_of_getElem? (i := 41) (by decide +kernel)), rfl⟩
theorem tw_42 : (Jvm.Cond.classLink "HearingDesk" (16 : Nat) "HearingDesk$Circle") ∈ W0 := List.mem_filter.mpr ⟨List.mem_append_right _ (List.mem_of_getElem? (i := 42) (by decide +kernel)), rfl⟩
theorem tw_43 : (Jvm.Cond.instantiable "HearingDesk$Circle" (3 : Nat)) ∈ W0 := List.mem_filter.mpr ⟨List.mem_append_right _ (List.mem_of_getElem? (i := 43) (by decide +kernel)), rfl⟩
theorem tw_44 : (Jvm.Cond.methodLink "HearingDesk" (18 : Nat) ({ cls := "HearingDesk$Circle", name := "<init>", desc := "()V" } : Jvm.MethodName)) ∈ W0 := List.mem_filter.mpr ⟨List.mem_append_right _ (List.mem_of_getElem? (i := 44) (by decide +kernel)), rfl⟩
theorem tw_45 : (Jvm.Cond.instanceMethod ({ cls := "HearingDesk$Circle", name := "<init>", desc := "()V" } : Jvm.MethodName)) ∈ W0 := List.mem_filter.mpr ⟨List.mem_append_right _ (List.mem_of_getElem? (i := 45) (by decide +kernel)), rfl⟩
theorem tw_46 : (Jvm.Cond.code ({ cls := "HearingDesk$Circle", name := "<init>", desc := "()V" } : Jvm.MethodName) prog_2_method_1_code (4 : Nat) (Option.none : Option Jvm.ClassFile.FieldType)) ∈ W0 := List.mem_filter.mpr ⟨List.mem_append_right _ (List.mem_of_getElem? (i := 46) (by decide +kernel)), rfl⟩
theorem tw_47 : (Jvm.Cond.methodLink "HearingDesk$Circle" (3 : Nat) ({ cls := "java/lang/Object", name := "<init>", desc := "()V" } : Jvm.MethodName)) ∈ W0 := List.mem_filter.mpr ⟨List.mem_append_right _ (List.mem_of_getElem? (i := 47) (by decide +kernel)), rfl⟩
theorem tw_48 : (Jvm.Cond.constantDouble "HearingDesk$Circle" (21 : Nat) (4596242258042563864 : UInt64)) ∈ W0 := List.mem_filter.mpr ⟨List.mem_append_right _ (List.mem_of_getElem? (i := 48) (by decide +kernel)), rfl⟩
theorem tw_49 : (Jvm.Cond.methodLink "HearingDesk$Circle" (23 : Nat) ({ cls := "HearingDesk$Circle", name := "series", desc := "(DI)D" } : Jvm.MethodName)) ∈ W0 := List.mem_filter.mpr ⟨List.mem_append_right _ (List.mem_of_getElem? (i := 49) (by decide +kernel)), rfl⟩
theorem tw_50 : (Jvm.Cond.static ({ cls := "HearingDesk$Circle", name := "series", desc := "(DI)D" } : Jvm.MethodName)) ∈ W0 := List.mem_filter.mpr ⟨List.mem_append_right _ (List.mem_of_getElem? (i := 50) (by decide +kernel)), rfl⟩
theorem tw_51 : (Jvm.Cond.code ({ cls := "HearingDesk$Circle", name := "series", desc := "(DI)D" } : Jvm.MethodName) prog_2_method_2_code (6 : Nat) (Option.some Jvm.ClassFile.FieldType.double)) ∈ W0 := List.mem_filter.mpr ⟨List.mem_append_right _ (List.mem_of_getElem? (i := 51) (by decide +kernel)), rfl⟩
theorem tw_52 : (Jvm.Cond.constantDouble "HearingDesk$Circle" (27 : Nat) (4602678819172646912 : UInt64)) ∈ W0 := List.mem_filter.mpr ⟨List.mem_append_right _ (List.mem_of_getElem? (i := 52) (by decide +kernel)), rfl⟩
theorem tw_53 : (Jvm.Cond.fieldLink "HearingDesk$Circle" (9 : Nat) "HearingDesk$Circle" "cosines" "[D") ∈ W0 := List.mem_filter.mpr ⟨List.mem_append_right _ (List.mem_of_getElem? (i := 53) (by decide +kernel)), rfl⟩
theorem tw_56 : (Jvm.Cond.fieldLink "HearingDesk$Circle" (15 : Nat) "HearingDesk$Circle" "sines" "[D") ∈ W0 := List.mem_filter.mpr ⟨List.mem_append_right _ (List.mem_of_getElem? (i := 56) (by decide +kernel)), rfl⟩
theorem tw_58 : (Jvm.Cond.fieldLink "HearingDesk$Circle" (18 : Nat) "HearingDesk$Circle" "window" "[D") ∈ W0 := List.mem_filter.mpr ⟨List.mem_append_right _ (List.mem_of_getElem? (i := 58) (by decide +kernel)), rfl⟩
theorem tw_60 : (Jvm.Cond.laysFinal "HearingDesk$Circle" "HearingDesk$Circle" "cosines" "[D") ∈ W0 := List.mem_filter.mpr ⟨List.mem_append_right _ (List.mem_of_getElem? (i := 60) (by decide +kernel)), rfl⟩
theorem tw_62 : (Jvm.Cond.laysFinal "HearingDesk$Circle" "HearingDesk$Circle" "sines" "[D") ∈ W0 := List.mem_filter.mpr ⟨List.mem_append_right _ (List.mem_of_getElem? (i := 62) (by decide +kernel)), rfl⟩
theorem tw_64 : (Jvm.Cond.laysFinal "HearingDesk$Circle" "HearingDesk$Circle" "window" "[D") ∈ W0 := List.mem_filter.mpr ⟨List.mem_append_right _ (List.mem_of_getElem? (i := 64) (by decide +kernel)), rfl⟩
theorem tw_67 : (Jvm.Cond.arrayClass Jvm.ClassFile.FieldType.double) ∈ W0 := List.mem_filter.mpr ⟨List.mem_append_right _ (List.mem_of_getElem? (i := 67) (by decide +kernel)), rfl⟩
theorem tw_68 : (Jvm.Cond.classLink "HearingDesk" (23 : Nat) "HearingDesk$Sound") ∈ W0 := List.mem_filter.mpr ⟨List.mem_append_right _ (List.mem_of_getElem? (i := 68) (by decide +kernel)), rfl⟩
theorem tw_69 : (Jvm.Cond.instantiable "HearingDesk$Sound" (7 : Nat)) ∈ W0 := List.mem_filter.mpr ⟨List.mem_append_right _ (List.mem_of_getElem? (i := 69) (by decide +kernel)), rfl⟩
theorem tw_70 : (Jvm.Cond.methodLink "HearingDesk" (25 : Nat) ({ cls := "HearingDesk$Sound", name := "<init>", desc := "(LHearingDesk$Circle;)V" } : Jvm.MethodName)) ∈ W0 := List.mem_filter.mpr ⟨List.mem_append_right _ (List.mem_of_getElem? (i := 70) (by decide +kernel)), rfl⟩
theorem tw_71 : (Jvm.Cond.instanceMethod ({ cls := "HearingDesk$Sound", name := "<init>", desc := "(LHearingDesk$Circle;)V" } : Jvm.MethodName)) ∈ W0 := List.mem_filter.mpr ⟨List.mem_append_right _ (List.mem_of_getElem? (i := 71) (by decide +kernel)), rfl⟩
theorem tw_72 : (Jvm.Cond.code ({ cls := "HearingDesk$Sound", name := "<init>", desc := "(LHearingDesk$Circle;)V" } : Jvm.MethodName) prog_6_method_1_code (2 : Nat) (Option.none : Option Jvm.ClassFile.FieldType)) ∈ W0 := List.mem_filter.mpr ⟨List.mem_append_right _ (List.mem_of_getElem? (i := 72) (by decide +kernel)), rfl⟩
theorem tw_73 : (Jvm.Cond.methodLink "HearingDesk$Sound" (3 : Nat) ({ cls := "java/lang/Object", name := "<init>", desc := "()V" } : Jvm.MethodName)) ∈ W0 := List.mem_filter.mpr ⟨List.mem_append_right _ (List.mem_of_getElem? (i := 73) (by decide +kernel)), rfl⟩
theorem tw_74 : (Jvm.Cond.fieldLink "HearingDesk$Sound" (9 : Nat) "HearingDesk$Sound" "circle" "LHearingDesk$Circle;") ∈ W0 := List.mem_filter.mpr ⟨List.mem_append_right _ (List.mem_of_getElem? (i := 74) (by decide +kernel)), rfl⟩
theorem tw_75 : (Jvm.Cond.fieldLink "HearingDesk$Sound" (15 : Nat) "HearingDesk$Sound" "samples" "[D") ∈ W0 := List.mem_filter.mpr ⟨List.mem_append_right _ (List.mem_of_getElem? (i := 75) (by decide +kernel)), rfl⟩
theorem tw_77 : (Jvm.Cond.fieldLink "HearingDesk$Sound" (19 : Nat) "HearingDesk$Sound" "weighed" "[D") ∈ W0 := List.mem_filter.mpr ⟨List.mem_append_right _ (List.mem_of_getElem? (i := 77) (by decide +kernel)), rfl⟩
theorem tw_78 : (Jvm.Cond.fieldLink "HearingDesk$Sound" (22 : Nat) "HearingDesk$Sound" "sums" "[D") ∈ W0 := List.mem_filter.mpr ⟨List.mem_append_right _ (List.mem_of_getElem? (i := 78) (by decide +kernel)), rfl⟩
theorem tw_79 : (Jvm.Cond.fieldLink "HearingDesk$Sound" (25 : Nat) "HearingDesk$Sound" "levels" "[D") ∈ W0 := List.mem_filter.mpr ⟨List.mem_append_right _ (List.mem_of_getElem? (i := 79) (by decide +kernel)), rfl⟩
theorem tw_82 : (Jvm.Cond.fieldLink "HearingDesk$Sound" (28 : Nat) "HearingDesk$Sound" "size" "I") ∈ W0 := List.mem_filter.mpr ⟨List.mem_append_right _ (List.mem_of_getElem? (i := 82) (by decide +kernel)), rfl⟩
theorem tw_84 : (Jvm.Cond.fieldLink "HearingDesk$Sound" (32 : Nat) "HearingDesk$Sound" "judged" "I") ∈ W0 := List.mem_filter.mpr ⟨List.mem_append_right _ (List.mem_of_getElem? (i := 84) (by decide +kernel)), rfl⟩
theorem tw_85 : (Jvm.Cond.laysFinal "HearingDesk$Sound" "HearingDesk$Sound" "circle" "LHearingDesk$Circle;") ∈ W0 := List.mem_filter.mpr ⟨List.mem_append_right _ (List.mem_of_getElem? (i := 85) (by decide +kernel)), rfl⟩
theorem tw_87 : (Jvm.Cond.laysFinal "HearingDesk$Sound" "HearingDesk$Sound" "samples" "[D") ∈ W0 := List.mem_filter.mpr ⟨List.mem_append_right _ (List.mem_of_getElem? (i := 87) (by decide +kernel)), rfl⟩
theorem tw_89 : (Jvm.Cond.laysFinal "HearingDesk$Sound" "HearingDesk$Sound" "weighed" "[D") ∈ W0 := List.mem_filter.mpr ⟨List.mem_append_right _ (List.mem_of_getElem? (i := 89) (by decide +kernel)), rfl⟩
theorem tw_91 : (Jvm.Cond.laysFinal "HearingDesk$Sound" "HearingDesk$Sound" "sums" "[D") ∈ W0 := List.mem_filter.mpr ⟨List.mem_append_right _ (List.mem_of_getElem? (i := 91) (by decide +kernel)), rfl⟩
theorem tw_93 : (Jvm.Cond.laysFinal "HearingDesk$Sound" "HearingDesk$Sound" "levels" "[D") ∈ W0 := List.mem_filter.mpr ⟨List.mem_append_right _ (List.mem_of_getElem? (i := 93) (by decide +kernel)), rfl⟩
theorem tw_95 : (Jvm.Cond.lays "HearingDesk$Sound" "HearingDesk$Sound" "size" "I") ∈ W0 := List.mem_filter.mpr ⟨List.mem_append_right _ (List.mem_of_getElem? (i := 95) (by decide +kernel)), rfl⟩
theorem tw_97 : (Jvm.Cond.lays "HearingDesk$Sound" "HearingDesk$Sound" "judged" "I") ∈ W0 := List.mem_filter.mpr ⟨List.mem_append_right _ (List.mem_of_getElem? (i := 97) (by decide +kernel)), rfl⟩
theorem tw_100 : (Jvm.Cond.classLink "HearingDesk" (32 : Nat) "HearingDesk$PatternBook") ∈ W0 := List.mem_filter.mpr ⟨List.mem_append_right _ (List.mem_of_getElem? (i := 100) (by decide +kernel)), rfl⟩
theorem tw_101 : (Jvm.Cond.instantiable "HearingDesk$PatternBook" (3 : Nat)) ∈ W0 := List.mem_filter.mpr ⟨List.mem_append_right _ (List.mem_of_getElem? (i := 101) (by decide +kernel)), rfl⟩
theorem tw_102 : (Jvm.Cond.methodLink "HearingDesk" (34 : Nat) ({ cls := "HearingDesk$PatternBook", name := "<init>", desc := "()V" } : Jvm.MethodName)) ∈ W0 := List.mem_filter.mpr ⟨List.mem_append_right _ (List.mem_of_getElem? (i := 102) (by decide +kernel)), rfl⟩
theorem tw_103 : (Jvm.Cond.instanceMethod ({ cls := "HearingDesk$PatternBook", name := "<init>", desc := "()V" } : Jvm.MethodName)) ∈ W0 := List.mem_filter.mpr ⟨List.mem_append_right _ (List.mem_of_getElem? (i := 103) (by decide +kernel)), rfl⟩
theorem tw_104 : (Jvm.Cond.code ({ cls := "HearingDesk$PatternBook", name := "<init>", desc := "()V" } : Jvm.MethodName) prog_5_method_1_code (2 : Nat) (Option.none : Option Jvm.ClassFile.FieldType)) ∈ W0 := List.mem_filter.mpr ⟨List.mem_append_right _ (List.mem_of_getElem? (i := 104) (by decide +kernel)), rfl⟩
theorem tw_105 : (Jvm.Cond.methodLink "HearingDesk$PatternBook" (3 : Nat) ({ cls := "java/lang/Object", name := "<init>", desc := "()V" } : Jvm.MethodName)) ∈ W0 := List.mem_filter.mpr ⟨List.mem_append_right _ (List.mem_of_getElem? (i := 105) (by decide +kernel)), rfl⟩
theorem tw_106 : (Jvm.Cond.classLink "HearingDesk$PatternBook" (9 : Nat) "HearingDesk$Pattern") ∈ W0 := List.mem_filter.mpr ⟨List.mem_append_right _ (List.mem_of_getElem? (i := 106) (by decide +kernel)), rfl⟩
theorem tw_108 : (Jvm.Cond.instantiable "HearingDesk$Pattern" (3 : Nat)) ∈ W0 := List.mem_filter.mpr ⟨List.mem_append_right _ (List.mem_of_getElem? (i := 108) (by decide +kernel)), rfl⟩
theorem tw_109 : (Jvm.Cond.methodLink "HearingDesk$PatternBook" (17 : Nat) ({ cls := "HearingDesk$Pattern", name := "<init>", desc := "()V" } : Jvm.MethodName)) ∈ W0 := List.mem_filter.mpr ⟨List.mem_append_right _ (List.mem_of_getElem? (i := 109) (by decide +kernel)), rfl⟩
theorem tw_110 : (Jvm.Cond.instanceMethod ({ cls := "HearingDesk$Pattern", name := "<init>", desc := "()V" } : Jvm.MethodName)) ∈ W0 := List.mem_filter.mpr ⟨List.mem_append_right _ (List.mem_of_getElem? (i := 110) (by decide +kernel)), rfl⟩
theorem tw_111 : (Jvm.Cond.code ({ cls := "HearingDesk$Pattern", name := "<init>", desc := "()V" } : Jvm.MethodName) prog_4_method_1_code (1 : Nat) (Option.none : Option Jvm.ClassFile.FieldType)) ∈ W0 := List.mem_filter.mpr ⟨List.mem_append_right _ (List.mem_of_getElem? (i := 111) (by decide +kernel)), rfl⟩
theorem tw_112 : (Jvm.Cond.methodLink "HearingDesk$Pattern" (3 : Nat) ({ cls := "java/lang/Object", name := "<init>", desc := "()V" } : Jvm.MethodName)) ∈ W0 := List.mem_filter.mpr ⟨List.mem_append_right _ (List.mem_of_getElem? (i := 112) (by decide +kernel)), rfl⟩
theorem tw_113 : (Jvm.Cond.fieldLink "HearingDesk$Pattern" (9 : Nat) "HearingDesk$Pattern" "levels" "[D") ∈ W0 := List.mem_filter.mpr ⟨List.mem_append_right _ (List.mem_of_getElem? (i := 113) (by decide +kernel)), rfl⟩
theorem tw_116 : (Jvm.Cond.fieldLink "HearingDesk$Pattern" (15 : Nat) "HearingDesk$Pattern" "letter" "I") ∈ W0 := List.mem_filter.mpr ⟨List.mem_append_right _ (List.mem_of_getElem? (i := 116) (by decide +kernel)), rfl⟩
theorem tw_119 : (Jvm.Cond.fieldLink "HearingDesk$Pattern" (19 : Nat) "HearingDesk$Pattern" "rows" "I") ∈ W0 := List.mem_filter.mpr ⟨List.mem_append_right _ (List.mem_of_getElem? (i := 119) (by decide +kernel)), rfl⟩
theorem tw_122 : (Jvm.Cond.laysFinal "HearingDesk$Pattern" "HearingDesk$Pattern" "levels" "[D") ∈ W0 := List.mem_filter.mpr ⟨List.mem_append_right _ (List.mem_of_getElem? (i := 122) (by decide +kernel)), rfl⟩
theorem tw_124 : (Jvm.Cond.lays "HearingDesk$Pattern" "HearingDesk$Pattern" "letter" "I") ∈ W0 := List.mem_filter.mpr ⟨List.mem_append_right _ (List.mem_of_getElem? (i := 124) (by decide +kernel)), rfl⟩
theorem tw_126 : (Jvm.Cond.lays "HearingDesk$Pattern" "HearingDesk$Pattern" "rows" "I") ∈ W0 := List.mem_filter.mpr ⟨List.mem_append_right _ (List.mem_of_getElem? (i := 126) (by decide +kernel)), rfl⟩
theorem tw_129 : (Jvm.Cond.fieldLink "HearingDesk$PatternBook" (11 : Nat) "HearingDesk$PatternBook" "patterns" "[LHearingDesk$Pattern;") ∈ W0 := List.mem_filter.mpr ⟨List.mem_append_right _ (List.mem_of_getElem? (i := 129) (by decide +kernel)), rfl⟩
theorem tw_132 : (Jvm.Cond.fieldLink "HearingDesk$PatternBook" (18 : Nat) "HearingDesk$PatternBook" "paths" "[D") ∈ W0 := List.mem_filter.mpr ⟨List.mem_append_right _ (List.mem_of_getElem? (i := 132) (by decide +kernel)), rfl⟩
theorem tw_133 : (Jvm.Cond.fieldLink "HearingDesk$PatternBook" (22 : Nat) "HearingDesk$PatternBook" "size" "I") ∈ W0 := List.mem_filter.mpr ⟨List.mem_append_right _ (List.mem_of_getElem? (i := 133) (by decide +kernel)), rfl⟩
theorem tw_136 : (Jvm.Cond.laysFinal "HearingDesk$PatternBook" "HearingDesk$PatternBook" "patterns" "[LHearingDesk$Pattern;") ∈ W0 := List.mem_filter.mpr ⟨List.mem_append_right _ (List.mem_of_getElem? (i := 136) (by decide +kernel)), rfl⟩
theorem tw_138 : (Jvm.Cond.laysFinal "HearingDesk$PatternBook" "HearingDesk$PatternBook" "paths" "[D") ∈ W0 := List.mem_filter.mpr ⟨List.mem_append_right _ (List.mem_of_getElem? (i := 138) (by decide +kernel)), rfl⟩
theorem tw_140 : (Jvm.Cond.lays "HearingDesk$PatternBook" "HearingDesk$PatternBook" "size" "I") ∈ W0 := List.mem_filter.mpr ⟨List.mem_append_right _ (List.mem_of_getElem? (i := 140) (by decide +kernel)), rfl⟩
theorem tw_143 : (Jvm.Cond.classLink "HearingDesk" (39 : Nat) "HearingDesk$WordList") ∈ W0 := List.mem_filter.mpr ⟨List.mem_append_right _ (List.mem_of_getElem? (i := 143) (by decide +kernel)), rfl⟩
theorem tw_144 : (Jvm.Cond.instantiable "HearingDesk$WordList" (2 : Nat)) ∈ W0 := List.mem_filter.mpr ⟨List.mem_append_right _ (List.mem_of_getElem? (i := 144) (by decide +kernel)), rfl⟩
theorem tw_145 : (Jvm.Cond.methodLink "HearingDesk" (41 : Nat) ({ cls := "HearingDesk$WordList", name := "<init>", desc := "()V" } : Jvm.MethodName)) ∈ W0 := List.mem_filter.mpr ⟨List.mem_append_right _ (List.mem_of_getElem? (i := 145) (by decide +kernel)), rfl⟩
theorem tw_146 : (Jvm.Cond.instanceMethod ({ cls := "HearingDesk$WordList", name := "<init>", desc := "()V" } : Jvm.MethodName)) ∈ W0 := List.mem_filter.mpr ⟨List.mem_append_right _ (List.mem_of_getElem? (i := 146) (by decide +kernel)), rfl⟩
theorem tw_147 : (Jvm.Cond.code ({ cls := "HearingDesk$WordList", name := "<init>", desc := "()V" } : Jvm.MethodName) prog_9_method_1_code (2 : Nat) (Option.none : Option Jvm.ClassFile.FieldType)) ∈ W0 := List.mem_filter.mpr ⟨List.mem_append_right _ (List.mem_of_getElem? (i := 147) (by decide +kernel)), rfl⟩
theorem tw_148 : (Jvm.Cond.methodLink "HearingDesk$WordList" (3 : Nat) ({ cls := "java/lang/Object", name := "<init>", desc := "()V" } : Jvm.MethodName)) ∈ W0 := List.mem_filter.mpr ⟨List.mem_append_right _ (List.mem_of_getElem? (i := 148) (by decide +kernel)), rfl⟩
theorem tw_149 : (Jvm.Cond.classLink "HearingDesk$WordList" (9 : Nat) "HearingDesk$Word") ∈ W0 := List.mem_filter.mpr ⟨List.mem_append_right _ (List.mem_of_getElem? (i := 149) (by decide +kernel)), rfl⟩
theorem tw_151 : (Jvm.Cond.instantiable "HearingDesk$Word" (5 : Nat)) ∈ W0 := List.mem_filter.mpr ⟨List.mem_append_right _ (List.mem_of_getElem? (i := 151) (by decide +kernel)), rfl⟩
theorem tw_152 : (Jvm.Cond.methodLink "HearingDesk$WordList" (17 : Nat) ({ cls := "HearingDesk$Word", name := "<init>", desc := "()V" } : Jvm.MethodName)) ∈ W0 := List.mem_filter.mpr ⟨List.mem_append_right _ (List.mem_of_getElem? (i := 152) (by decide +kernel)), rfl⟩
theorem tw_153 : (Jvm.Cond.instanceMethod ({ cls := "HearingDesk$Word", name := "<init>", desc := "()V" } : Jvm.MethodName)) ∈ W0 := List.mem_filter.mpr ⟨List.mem_append_right _ (List.mem_of_getElem? (i := 153) (by decide +kernel)), rfl⟩
theorem tw_154 : (Jvm.Cond.code ({ cls := "HearingDesk$Word", name := "<init>", desc := "()V" } : Jvm.MethodName) prog_8_method_1_code (1 : Nat) (Option.none : Option Jvm.ClassFile.FieldType)) ∈ W0 := List.mem_filter.mpr ⟨List.mem_append_right _ (List.mem_of_getElem? (i := 154) (by decide +kernel)), rfl⟩
theorem tw_155 : (Jvm.Cond.methodLink "HearingDesk$Word" (3 : Nat) ({ cls := "java/lang/Object", name := "<init>", desc := "()V" } : Jvm.MethodName)) ∈ W0 := List.mem_filter.mpr ⟨List.mem_append_right _ (List.mem_of_getElem? (i := 155) (by decide +kernel)), rfl⟩
theorem tw_156 : (Jvm.Cond.methodLink "HearingDesk$Word" (9 : Nat) ({ cls := "HearingDesk$Word", name := "begin", desc := "(I)V" } : Jvm.MethodName)) ∈ W0 := List.mem_filter.mpr ⟨List.mem_append_right _ (List.mem_of_getElem? (i := 156) (by decide +kernel)), rfl⟩
theorem tw_158 : (Jvm.Cond.instanceMethod ({ cls := "HearingDesk$Word", name := "begin", desc := "(I)V" } : Jvm.MethodName)) ∈ W0 := List.mem_filter.mpr ⟨List.mem_append_right _ (List.mem_of_getElem? (i := 158) (by decide +kernel)), rfl⟩
theorem tw_159 : (Jvm.Cond.code ({ cls := "HearingDesk$Word", name := "begin", desc := "(I)V" } : Jvm.MethodName) prog_8_method_2_code (2 : Nat) (Option.none : Option Jvm.ClassFile.FieldType)) ∈ W0 := List.mem_filter.mpr ⟨List.mem_append_right _ (List.mem_of_getElem? (i := 159) (by decide +kernel)), rfl⟩
theorem tw_160 : (Jvm.Cond.fieldLink "HearingDesk$Word" (15 : Nat) "HearingDesk$Word" "first" "I") ∈ W0 := List.mem_filter.mpr ⟨List.mem_append_right _ (List.mem_of_getElem? (i := 160) (by decide +kernel)), rfl⟩
theorem tw_162 : (Jvm.Cond.fieldLink "HearingDesk$Word" (19 : Nat) "HearingDesk$Word" "frames" "I") ∈ W0 := List.mem_filter.mpr ⟨List.mem_append_right _ (List.mem_of_getElem? (i := 162) (by decide +kernel)), rfl⟩
theorem tw_164 : (Jvm.Cond.fieldLink "HearingDesk$Word" (22 : Nat) "HearingDesk$Word" "nearest" "I") ∈ W0 := List.mem_filter.mpr ⟨List.mem_append_right _ (List.mem_of_getElem? (i := 164) (by decide +kernel)), rfl⟩
theorem tw_166 : (Jvm.Cond.fieldLink "HearingDesk$Word" (25 : Nat) "HearingDesk$Word" "letter" "I") ∈ W0 := List.mem_filter.mpr ⟨List.mem_append_right _ (List.mem_of_getElem? (i := 166) (by decide +kernel)), rfl⟩
theorem tw_168 : (Jvm.Cond.fieldLink "HearingDesk$Word" (28 : Nat) "HearingDesk$Word" "leastWarp" "D") ∈ W0 := List.mem_filter.mpr ⟨List.mem_append_right _ (List.mem_of_getElem? (i := 168) (by decide +kernel)), rfl⟩
theorem tw_170 : (Jvm.Cond.lays "HearingDesk$Word" "HearingDesk$Word" "first" "I") ∈ W0 := List.mem_filter.mpr ⟨List.mem_append_right _ (List.mem_of_getElem? (i := 170) (by decide +kernel)), rfl⟩
theorem tw_172 : (Jvm.Cond.lays "HearingDesk$Word" "HearingDesk$Word" "frames" "I") ∈ W0 := List.mem_filter.mpr ⟨List.mem_append_right _ (List.mem_of_getElem? (i := 172) (by decide +kernel)), rfl⟩
theorem tw_174 : (Jvm.Cond.lays "HearingDesk$Word" "HearingDesk$Word" "nearest" "I") ∈ W0 := List.mem_filter.mpr ⟨List.mem_append_right _ (List.mem_of_getElem? (i := 174) (by decide +kernel)), rfl⟩
theorem tw_176 : (Jvm.Cond.lays "HearingDesk$Word" "HearingDesk$Word" "letter" "I") ∈ W0 := List.mem_filter.mpr ⟨List.mem_append_right _ (List.mem_of_getElem? (i := 176) (by decide +kernel)), rfl⟩
theorem tw_178 : (Jvm.Cond.lays "HearingDesk$Word" "HearingDesk$Word" "leastWarp" "D") ∈ W0 := List.mem_filter.mpr ⟨List.mem_append_right _ (List.mem_of_getElem? (i := 178) (by decide +kernel)), rfl⟩
theorem tw_181 : (Jvm.Cond.fieldLink "HearingDesk$WordList" (11 : Nat) "HearingDesk$WordList" "row" "[LHearingDesk$Word;") ∈ W0 := List.mem_filter.mpr ⟨List.mem_append_right _ (List.mem_of_getElem? (i := 181) (by decide +kernel)), rfl⟩
theorem tw_183 : (Jvm.Cond.fieldLink "HearingDesk$WordList" (18 : Nat) "HearingDesk$WordList" "size" "I") ∈ W0 := List.mem_filter.mpr ⟨List.mem_append_right _ (List.mem_of_getElem? (i := 183) (by decide +kernel)), rfl⟩
theorem tw_185 : (Jvm.Cond.laysFinal "HearingDesk$WordList" "HearingDesk$WordList" "row" "[LHearingDesk$Word;") ∈ W0 := List.mem_filter.mpr ⟨List.mem_append_right _ (List.mem_of_getElem? (i := 185) (by decide +kernel)), rfl⟩
theorem tw_187 : (Jvm.Cond.lays "HearingDesk$WordList" "HearingDesk$WordList" "size" "I") ∈ W0 := List.mem_filter.mpr ⟨List.mem_append_right _ (List.mem_of_getElem? (i := 187) (by decide +kernel)), rfl⟩
theorem tw_190 : (Jvm.Cond.constantDouble "HearingDesk" (53 : Nat) (4576918229304087675 : UInt64)) ∈ W0 := List.mem_filter.mpr ⟨List.mem_append_right _ (List.mem_of_getElem? (i := 190) (by decide +kernel)), rfl⟩
theorem tw_191 : (Jvm.Cond.constantDouble "HearingDesk" (62 : Nat) (4616189618054758400 : UInt64)) ∈ W0 := List.mem_filter.mpr ⟨List.mem_append_right _ (List.mem_of_getElem? (i := 191) (by decide +kernel)), rfl⟩
theorem tw_192 : (Jvm.Cond.fieldLink "HearingDesk" (12 : Nat) "HearingDesk" "file" "LHearingDesk$SoundFile;") ∈ W0 := List.mem_filter.mpr ⟨List.mem_append_right _ (List.mem_of_getElem? (i := 192) (by decide +kernel)), rfl⟩
theorem tw_193 : (Jvm.Cond.fieldLink "HearingDesk" (19 : Nat) "HearingDesk" "circle" "LHearingDesk$Circle;") ∈ W0 := List.mem_filter.mpr ⟨List.mem_append_right _ (List.mem_of_getElem? (i := 193) (by decide +kernel)), rfl⟩
theorem tw_194 : (Jvm.Cond.fieldLink "HearingDesk" (28 : Nat) "HearingDesk" "sound" "LHearingDesk$Sound;") ∈ W0 := List.mem_filter.mpr ⟨List.mem_append_right _ (List.mem_of_getElem? (i := 194) (by decide +kernel)), rfl⟩
theorem tw_195 : (Jvm.Cond.fieldLink "HearingDesk" (35 : Nat) "HearingDesk" "book" "LHearingDesk$PatternBook;") ∈ W0 := List.mem_filter.mpr ⟨List.mem_append_right _ (List.mem_of_getElem? (i := 195) (by decide +kernel)), rfl⟩
theorem tw_196 : (Jvm.Cond.fieldLink "HearingDesk" (42 : Nat) "HearingDesk" "words" "LHearingDesk$WordList;") ∈ W0 := List.mem_filter.mpr ⟨List.mem_append_right _ (List.mem_of_getElem? (i := 196) (by decide +kernel)), rfl⟩
theorem tw_197 : (Jvm.Cond.fieldLink "HearingDesk" (46 : Nat) "HearingDesk" "rate" "I") ∈ W0 := List.mem_filter.mpr ⟨List.mem_append_right _ (List.mem_of_getElem? (i := 197) (by decide +kernel)), rfl⟩
theorem tw_198 : (Jvm.Cond.fieldLink "HearingDesk" (50 : Nat) "HearingDesk" "wrongPlace" "I") ∈ W0 := List.mem_filter.mpr ⟨List.mem_append_right _ (List.mem_of_getElem? (i := 198) (by decide +kernel)), rfl⟩
theorem tw_199 : (Jvm.Cond.fieldLink "HearingDesk" (55 : Nat) "HearingDesk" "threshold" "D") ∈ W0 := List.mem_filter.mpr ⟨List.mem_append_right _ (List.mem_of_getElem? (i := 199) (by decide +kernel)), rfl⟩
theorem tw_200 : (Jvm.Cond.fieldLink "HearingDesk" (59 : Nat) "HearingDesk" "gap" "I") ∈ W0 := List.mem_filter.mpr ⟨List.mem_append_right _ (List.mem_of_getElem? (i := 200) (by decide +kernel)), rfl⟩
theorem tw_201 : (Jvm.Cond.fieldLink "HearingDesk" (64 : Nat) "HearingDesk" "limit" "D") ∈ W0 := List.mem_filter.mpr ⟨List.mem_append_right _ (List.mem_of_getElem? (i := 201) (by decide +kernel)), rfl⟩
theorem tw_202 : (Jvm.Cond.laysFinal "HearingDesk" "HearingDesk" "file" "LHearingDesk$SoundFile;") ∈ W0 := List.mem_filter.mpr ⟨List.mem_append_right _ (List.mem_of_getElem? (i := 202) (by decide +kernel)), rfl⟩
theorem tw_204 : (Jvm.Cond.laysFinal "HearingDesk" "HearingDesk" "circle" "LHearingDesk$Circle;") ∈ W0 := List.mem_filter.mpr ⟨List.mem_append_right _ (List.mem_of_getElem? (i := 204) (by decide +kernel)), rfl⟩
theorem tw_206 : (Jvm.Cond.laysFinal "HearingDesk" "HearingDesk" "sound" "LHearingDesk$Sound;") ∈ W0 := List.mem_filter.mpr ⟨List.mem_append_right _ (List.mem_of_getElem? (i := 206) (by decide +kernel)), rfl⟩
theorem tw_208 : (Jvm.Cond.laysFinal "HearingDesk" "HearingDesk" "book" "LHearingDesk$PatternBook;") ∈ W0 := List.mem_filter.mpr ⟨List.mem_append_right _ (List.mem_of_getElem? (i := 208) (by decide +kernel)), rfl⟩
theorem tw_210 : (Jvm.Cond.laysFinal "HearingDesk" "HearingDesk" "words" "LHearingDesk$WordList;") ∈ W0 := List.mem_filter.mpr ⟨List.mem_append_right _ (List.mem_of_getElem? (i := 210) (by decide +kernel)), rfl⟩
theorem tw_212 : (Jvm.Cond.lays "HearingDesk" "HearingDesk" "rate" "I") ∈ W0 := List.mem_filter.mpr ⟨List.mem_append_right _ (List.mem_of_getElem? (i := 212) (by decide +kernel)), rfl⟩
theorem tw_214 : (Jvm.Cond.lays "HearingDesk" "HearingDesk" "wrongPlace" "I") ∈ W0 := List.mem_filter.mpr ⟨List.mem_append_right _ (List.mem_of_getElem? (i := 214) (by decide +kernel)), rfl⟩
theorem tw_216 : (Jvm.Cond.lays "HearingDesk" "HearingDesk" "threshold" "D") ∈ W0 := List.mem_filter.mpr ⟨List.mem_append_right _ (List.mem_of_getElem? (i := 216) (by decide +kernel)), rfl⟩
theorem tw_218 : (Jvm.Cond.lays "HearingDesk" "HearingDesk" "gap" "I") ∈ W0 := List.mem_filter.mpr ⟨List.mem_append_right _ (List.mem_of_getElem? (i := 218) (by decide +kernel)), rfl⟩
theorem tw_220 : (Jvm.Cond.lays "HearingDesk" "HearingDesk" "limit" "D") ∈ W0 := List.mem_filter.mpr ⟨List.mem_append_right _ (List.mem_of_getElem? (i := 220) (by decide +kernel)), rfl⟩
theorem tw_223 : (Jvm.Cond.methodLink "HearingDeskLaw" (87 : Nat) ({ cls := "HearingDesk", name := "place", desc := "()I" } : Jvm.MethodName)) ∈ W0 := List.mem_filter.mpr ⟨List.mem_append_right _ (List.mem_of_getElem? (i := 223) (by decide +kernel)), rfl⟩
theorem tw_224 : (Jvm.Cond.instanceMethod ({ cls := "HearingDesk", name := "place", desc := "()I" } : Jvm.MethodName)) ∈ W0 := List.mem_filter.mpr ⟨List.mem_append_right _ (List.mem_of_getElem? (i := 224) (by decide +kernel)), rfl⟩
theorem tw_225 : (Jvm.Cond.selects "HearingDesk" ({ cls := "HearingDesk", name := "place", desc := "()I" } : Jvm.MethodName) ({ cls := "HearingDesk", name := "place", desc := "()I" } : Jvm.MethodName)) ∈ W0 := List.mem_filter.mpr ⟨List.mem_append_right _ (List.mem_of_getElem? (i := 225) (by decide +kernel)), rfl⟩
theorem tw_226 : (Jvm.Cond.code ({ cls := "HearingDesk", name := "place", desc := "()I" } : Jvm.MethodName) prog_1_method_4_code (1 : Nat) (Option.some Jvm.ClassFile.FieldType.int)) ∈ W0 := List.mem_filter.mpr ⟨List.mem_append_right _ (List.mem_of_getElem? (i := 226) (by decide +kernel)), rfl⟩
theorem tw_227 : (Jvm.Cond.methodLink "HearingDeskLaw" (97 : Nat) ({ cls := "HearingDesk", name := "clear", desc := "()I" } : Jvm.MethodName)) ∈ W0 := List.mem_filter.mpr ⟨List.mem_append_right _ (List.mem_of_getElem? (i := 227) (by decide +kernel)), rfl⟩
theorem tw_228 : (Jvm.Cond.instanceMethod ({ cls := "HearingDesk", name := "clear", desc := "()I" } : Jvm.MethodName)) ∈ W0 := List.mem_filter.mpr ⟨List.mem_append_right _ (List.mem_of_getElem? (i := 228) (by decide +kernel)), rfl⟩
theorem tw_229 : (Jvm.Cond.selects "HearingDesk" ({ cls := "HearingDesk", name := "clear", desc := "()I" } : Jvm.MethodName) ({ cls := "HearingDesk", name := "clear", desc := "()I" } : Jvm.MethodName)) ∈ W0 := List.mem_filter.mpr ⟨List.mem_append_right _ (List.mem_of_getElem? (i := 229) (by decide +kernel)), rfl⟩
theorem tw_230 : (Jvm.Cond.code ({ cls := "HearingDesk", name := "clear", desc := "()I" } : Jvm.MethodName) prog_1_method_6_code (2 : Nat) (Option.some Jvm.ClassFile.FieldType.int)) ∈ W0 := List.mem_filter.mpr ⟨List.mem_append_right _ (List.mem_of_getElem? (i := 230) (by decide +kernel)), rfl⟩
theorem tw_231 : (Jvm.Cond.methodLink "HearingDesk" (100 : Nat) ({ cls := "HearingDesk$Sound", name := "empty", desc := "()V" } : Jvm.MethodName)) ∈ W0 := List.mem_filter.mpr ⟨List.mem_append_right _ (List.mem_of_getElem? (i := 231) (by decide +kernel)), rfl⟩
theorem tw_232 : (Jvm.Cond.instanceMethod ({ cls := "HearingDesk$Sound", name := "empty", desc := "()V" } : Jvm.MethodName)) ∈ W0 := List.mem_filter.mpr ⟨List.mem_append_right _ (List.mem_of_getElem? (i := 232) (by decide +kernel)), rfl⟩
theorem tw_233 : (Jvm.Cond.selects "HearingDesk$Sound" ({ cls := "HearingDesk$Sound", name := "empty", desc := "()V" } : Jvm.MethodName) ({ cls := "HearingDesk$Sound", name := "empty", desc := "()V" } : Jvm.MethodName)) ∈ W0 := List.mem_filter.mpr ⟨List.mem_append_right _ (List.mem_of_getElem? (i := 233) (by decide +kernel)), rfl⟩
theorem tw_234 : (Jvm.Cond.code ({ cls := "HearingDesk$Sound", name := "empty", desc := "()V" } : Jvm.MethodName) prog_6_method_3_code (1 : Nat) (Option.none : Option Jvm.ClassFile.FieldType)) ∈ W0 := List.mem_filter.mpr ⟨List.mem_append_right _ (List.mem_of_getElem? (i := 234) (by decide +kernel)), rfl⟩
theorem tw_235 : (Jvm.Cond.methodLink "HearingDesk" (112 : Nat) ({ cls := "HearingDesk$WordList", name := "empty", desc := "()V" } : Jvm.MethodName)) ∈ W0 := List.mem_filter.mpr ⟨List.mem_append_right _ (List.mem_of_getElem? (i := 235) (by decide +kernel)), rfl⟩
theorem tw_236 : (Jvm.Cond.instanceMethod ({ cls := "HearingDesk$WordList", name := "empty", desc := "()V" } : Jvm.MethodName)) ∈ W0 := List.mem_filter.mpr ⟨List.mem_append_right _ (List.mem_of_getElem? (i := 236) (by decide +kernel)), rfl⟩
theorem tw_237 : (Jvm.Cond.selects "HearingDesk$WordList" ({ cls := "HearingDesk$WordList", name := "empty", desc := "()V" } : Jvm.MethodName) ({ cls := "HearingDesk$WordList", name := "empty", desc := "()V" } : Jvm.MethodName)) ∈ W0 := List.mem_filter.mpr ⟨List.mem_append_right _ (List.mem_of_getElem? (i := 237) (by decide +kernel)), rfl⟩
theorem tw_238 : (Jvm.Cond.code ({ cls := "HearingDesk$WordList", name := "empty", desc := "()V" } : Jvm.MethodName) prog_9_method_2_code (1 : Nat) (Option.none : Option Jvm.ClassFile.FieldType)) ∈ W0 := List.mem_filter.mpr ⟨List.mem_append_right _ (List.mem_of_getElem? (i := 238) (by decide +kernel)), rfl⟩
theorem tw_239 : (Jvm.Cond.methodLink "HearingDeskLaw" (74 : Nat) ({ cls := "HearingDeskLaw", name := "octets", desc := "(LHearingDesk;IJ[J)I" } : Jvm.MethodName)) ∈ W0 := List.mem_filter.mpr ⟨List.mem_append_right _ (List.mem_of_getElem? (i := 239) (by decide +kernel)), rfl⟩
theorem tw_240 : (Jvm.Cond.static ({ cls := "HearingDeskLaw", name := "octets", desc := "(LHearingDesk;IJ[J)I" } : Jvm.MethodName)) ∈ W0 := List.mem_filter.mpr ⟨List.mem_append_right _ (List.mem_of_getElem? (i := 240) (by decide +kernel)), rfl⟩
theorem tw_241 : (Jvm.Cond.codeWith ({ cls := "HearingDeskLaw", name := "octets", desc := "(LHearingDesk;IJ[J)I" } : Jvm.MethodName) method_3_code (6 : Nat) (Option.some Jvm.ClassFile.FieldType.int) [((0 : Nat), (11 : Nat), (14 : Nat), (13 : Nat)), ((0 : Nat), (11 : Nat), (18 : Nat), (15 : Nat))]) ∈ W0 := List.mem_filter.mpr ⟨List.mem_append_right _ (List.mem_of_getElem? (i := 241) (by decide +kernel)), rfl⟩
theorem tw_242 : (Jvm.Cond.classLink "HearingDeskLaw" (13 : Nat) "java/lang/IllegalArgumentException") ∈ W0 := List.mem_filter.mpr ⟨List.mem_append_right _ (List.mem_of_getElem? (i := 242) (by decide +kernel)), rfl⟩
theorem tw_243 : (Jvm.Cond.classLink "HearingDeskLaw" (15 : Nat) "java/lang/IndexOutOfBoundsException") ∈ W0 := List.mem_filter.mpr ⟨List.mem_append_right _ (List.mem_of_getElem? (i := 243) (by decide +kernel)), rfl⟩
theorem tw_244 : (Jvm.Cond.methodLink "HearingDeskLaw" (7 : Nat) ({ cls := "HearingDesk", name := "octets", desc := "(IJ)I" } : Jvm.MethodName)) ∈ W0 := List.mem_filter.mpr ⟨List.mem_append_right _ (List.mem_of_getElem? (i := 244) (by decide +kernel)), rfl⟩
theorem tw_245 : (Jvm.Cond.instanceMethod ({ cls := "HearingDesk", name := "octets", desc := "(IJ)I" } : Jvm.MethodName)) ∈ W0 := List.mem_filter.mpr ⟨List.mem_append_right _ (List.mem_of_getElem? (i := 245) (by decide +kernel)), rfl⟩
theorem tw_246 : (Jvm.Cond.selects "HearingDesk" ({ cls := "HearingDesk", name := "octets", desc := "(IJ)I" } : Jvm.MethodName) ({ cls := "HearingDesk", name := "octets", desc := "(IJ)I" } : Jvm.MethodName)) ∈ W0 := List.mem_filter.mpr ⟨List.mem_append_right _ (List.mem_of_getElem? (i := 246) (by decide +kernel)), rfl⟩
theorem tw_247 : (Jvm.Cond.code ({ cls := "HearingDesk", name := "octets", desc := "(IJ)I" } : Jvm.MethodName) prog_1_method_2_code (5 : Nat) (Option.some Jvm.ClassFile.FieldType.int)) ∈ W0 := List.mem_filter.mpr ⟨List.mem_append_right _ (List.mem_of_getElem? (i := 247) (by decide +kernel)), rfl⟩
theorem tw_248 : (Jvm.Cond.classLink "HearingDesk" (67 : Nat) "java/lang/IllegalArgumentException") ∈ W0 := List.mem_filter.mpr ⟨List.mem_append_right _ (List.mem_of_getElem? (i := 248) (by decide +kernel)), rfl⟩
theorem tw_289 : (Jvm.Cond.native ({ cls := "java/lang/Throwable", name := "fillInStackTrace", desc := "(I)Ljava/lang/Throwable;" } : Jvm.MethodName)) ∈ W0 := List.mem_filter.mpr ⟨List.mem_append_right _ (List.mem_of_getElem? (i := 289) (by decide +kernel)), rfl⟩
theorem tw_291 : (Jvm.Cond.methodLink "HearingDesk" (71 : Nat) ({ cls := "java/lang/IllegalArgumentException", name := "<init>", desc := "(Ljava/lang/String;)V" } : Jvm.MethodName)) ∈ W0 := List.mem_filter.mpr ⟨List.mem_append_right _ (List.mem_of_getElem? (i := 291) (by decide +kernel)), rfl⟩
theorem tw_316 : (Jvm.Cond.arrayClass Jvm.ClassFile.FieldType.byte) ∈ W0 := List.mem_filter.mpr ⟨List.mem_append_right _ (List.mem_of_getElem? (i := 316) (by decide +kernel)), rfl⟩
theorem tw_317 : (Jvm.Cond.classLink "HearingDesk" (77 : Nat) "java/lang/IndexOutOfBoundsException") ∈ W0 := List.mem_filter.mpr ⟨List.mem_append_right _ (List.mem_of_getElem? (i := 317) (by decide +kernel)), rfl⟩
theorem tw_327 : (Jvm.Cond.methodLink "HearingDesk" (81 : Nat) ({ cls := "java/lang/IndexOutOfBoundsException", name := "<init>", desc := "(Ljava/lang/String;)V" } : Jvm.MethodName)) ∈ W0 := List.mem_filter.mpr ⟨List.mem_append_right _ (List.mem_of_getElem? (i := 327) (by decide +kernel)), rfl⟩
theorem tw_333 : (Jvm.Cond.methodLink "HearingDesk" (82 : Nat) ({ cls := "HearingDesk$SoundFile", name := "append", desc := "(I)V" } : Jvm.MethodName)) ∈ W0 := List.mem_filter.mpr ⟨List.mem_append_right _ (List.mem_of_getElem? (i := 333) (by decide +kernel)), rfl⟩
theorem tw_334 : (Jvm.Cond.instanceMethod ({ cls := "HearingDesk$SoundFile", name := "append", desc := "(I)V" } : Jvm.MethodName)) ∈ W0 := List.mem_filter.mpr ⟨List.mem_append_right _ (List.mem_of_getElem? (i := 334) (by decide +kernel)), rfl⟩
theorem tw_335 : (Jvm.Cond.selects "HearingDesk$SoundFile" ({ cls := "HearingDesk$SoundFile", name := "append", desc := "(I)V" } : Jvm.MethodName) ({ cls := "HearingDesk$SoundFile", name := "append", desc := "(I)V" } : Jvm.MethodName)) ∈ W0 := List.mem_filter.mpr ⟨List.mem_append_right _ (List.mem_of_getElem? (i := 335) (by decide +kernel)), rfl⟩
theorem tw_336 : (Jvm.Cond.code ({ cls := "HearingDesk$SoundFile", name := "append", desc := "(I)V" } : Jvm.MethodName) prog_7_method_2_code (2 : Nat) (Option.none : Option Jvm.ClassFile.FieldType)) ∈ W0 := List.mem_filter.mpr ⟨List.mem_append_right _ (List.mem_of_getElem? (i := 336) (by decide +kernel)), rfl⟩
theorem tw_337 : (Jvm.Cond.methodLink "HearingDeskLaw" (83 : Nat) ({ cls := "HearingDeskLaw", name := "read", desc := "(LHearingDesk;[J)I" } : Jvm.MethodName)) ∈ W0 := List.mem_filter.mpr ⟨List.mem_append_right _ (List.mem_of_getElem? (i := 337) (by decide +kernel)), rfl⟩
theorem tw_338 : (Jvm.Cond.static ({ cls := "HearingDeskLaw", name := "read", desc := "(LHearingDesk;[J)I" } : Jvm.MethodName)) ∈ W0 := List.mem_filter.mpr ⟨List.mem_append_right _ (List.mem_of_getElem? (i := 338) (by decide +kernel)), rfl⟩
theorem tw_339 : (Jvm.Cond.codeWith ({ cls := "HearingDeskLaw", name := "read", desc := "(LHearingDesk;[J)I" } : Jvm.MethodName) method_4_code (3 : Nat) (Option.some Jvm.ClassFile.FieldType.int) [((0 : Nat), (8 : Nat), (11 : Nat), (13 : Nat)), ((0 : Nat), (8 : Nat), (14 : Nat), (15 : Nat))]) ∈ W0 := List.mem_filter.mpr ⟨List.mem_append_right _ (List.mem_of_getElem? (i := 339) (by decide +kernel)), rfl⟩
theorem tw_340 : (Jvm.Cond.methodLink "HearingDeskLaw" (17 : Nat) ({ cls := "HearingDesk", name := "read", desc := "()I" } : Jvm.MethodName)) ∈ W0 := List.mem_filter.mpr ⟨List.mem_append_right _ (List.mem_of_getElem? (i := 340) (by decide +kernel)), rfl⟩
theorem tw_341 : (Jvm.Cond.instanceMethod ({ cls := "HearingDesk", name := "read", desc := "()I" } : Jvm.MethodName)) ∈ W0 := List.mem_filter.mpr ⟨List.mem_append_right _ (List.mem_of_getElem? (i := 341) (by decide +kernel)), rfl⟩
theorem tw_342 : (Jvm.Cond.selects "HearingDesk" ({ cls := "HearingDesk", name := "read", desc := "()I" } : Jvm.MethodName) ({ cls := "HearingDesk", name := "read", desc := "()I" } : Jvm.MethodName)) ∈ W0 := List.mem_filter.mpr ⟨List.mem_append_right _ (List.mem_of_getElem? (i := 342) (by decide +kernel)), rfl⟩
theorem tw_343 : (Jvm.Cond.code ({ cls := "HearingDesk", name := "read", desc := "()I" } : Jvm.MethodName) prog_1_method_3_code (3 : Nat) (Option.some Jvm.ClassFile.FieldType.int)) ∈ W0 := List.mem_filter.mpr ⟨List.mem_append_right _ (List.mem_of_getElem? (i := 343) (by decide +kernel)), rfl⟩
theorem tw_344 : (Jvm.Cond.methodLink "HearingDesk" (86 : Nat) ({ cls := "HearingDesk$SoundFile", name := "firstWrong", desc := "()I" } : Jvm.MethodName)) ∈ W0 := List.mem_filter.mpr ⟨List.mem_append_right _ (List.mem_of_getElem? (i := 344) (by decide +kernel)), rfl⟩
theorem tw_345 : (Jvm.Cond.instanceMethod ({ cls := "HearingDesk$SoundFile", name := "firstWrong", desc := "()I" } : Jvm.MethodName)) ∈ W0 := List.mem_filter.mpr ⟨List.mem_append_right _ (List.mem_of_getElem? (i := 345) (by decide +kernel)), rfl⟩
theorem tw_346 : (Jvm.Cond.selects "HearingDesk$SoundFile" ({ cls := "HearingDesk$SoundFile", name := "firstWrong", desc := "()I" } : Jvm.MethodName) ({ cls := "HearingDesk$SoundFile", name := "firstWrong", desc := "()I" } : Jvm.MethodName)) ∈ W0 := List.mem_filter.mpr ⟨List.mem_append_right _ (List.mem_of_getElem? (i := 346) (by decide +kernel)), rfl⟩
theorem tw_347 : (Jvm.Cond.code ({ cls := "HearingDesk$SoundFile", name := "firstWrong", desc := "()I" } : Jvm.MethodName) prog_7_method_4_code (2 : Nat) (Option.some Jvm.ClassFile.FieldType.int)) ∈ W0 := List.mem_filter.mpr ⟨List.mem_append_right _ (List.mem_of_getElem? (i := 347) (by decide +kernel)), rfl⟩
theorem tw_348 : (Jvm.Cond.methodLink "HearingDesk$SoundFile" (19 : Nat) ({ cls := "HearingDesk$SoundFile", name := "firstWrongOfHead", desc := "()I" } : Jvm.MethodName)) ∈ W0 := List.mem_filter.mpr ⟨List.mem_append_right _ (List.mem_of_getElem? (i := 348) (by decide +kernel)), rfl⟩
theorem tw_350 : (Jvm.Cond.instanceMethod ({ cls := "HearingDesk$SoundFile", name := "firstWrongOfHead", desc := "()I" } : Jvm.MethodName)) ∈ W0 := List.mem_filter.mpr ⟨List.mem_append_right _ (List.mem_of_getElem? (i := 350) (by decide +kernel)), rfl⟩
theorem tw_351 : (Jvm.Cond.code ({ cls := "HearingDesk$SoundFile", name := "firstWrongOfHead", desc := "()I" } : Jvm.MethodName) prog_7_method_5_code (1 : Nat) (Option.some Jvm.ClassFile.FieldType.int)) ∈ W0 := List.mem_filter.mpr ⟨List.mem_append_right _ (List.mem_of_getElem? (i := 351) (by decide +kernel)), rfl⟩
theorem tw_352 : (Jvm.Cond.methodLink "HearingDesk$SoundFile" (26 : Nat) ({ cls := "HearingDesk$SoundFile", name := "spells", desc := "(IIIII)Z" } : Jvm.MethodName)) ∈ W0 := List.mem_filter.mpr ⟨List.mem_append_right _ (List.mem_of_getElem? (i := 352) (by decide +kernel)), rfl⟩
theorem tw_354 : (Jvm.Cond.instanceMethod ({ cls := "HearingDesk$SoundFile", name := "spells", desc := "(IIIII)Z" } : Jvm.MethodName)) ∈ W0 := List.mem_filter.mpr ⟨List.mem_append_right _ (List.mem_of_getElem? (i := 354) (by decide +kernel)), rfl⟩
theorem tw_355 : (Jvm.Cond.code ({ cls := "HearingDesk$SoundFile", name := "spells", desc := "(IIIII)Z" } : Jvm.MethodName) prog_7_method_7_code (6 : Nat) (Option.some Jvm.ClassFile.FieldType.boolean)) ∈ W0 := List.mem_filter.mpr ⟨List.mem_append_right _ (List.mem_of_getElem? (i := 355) (by decide +kernel)), rfl⟩
theorem tw_356 : (Jvm.Cond.methodLink "HearingDesk$SoundFile" (30 : Nat) ({ cls := "HearingDesk$SoundFile", name := "four", desc := "(I)J" } : Jvm.MethodName)) ∈ W0 := List.mem_filter.mpr ⟨List.mem_append_right _ (List.mem_of_getElem? (i := 356) (by decide +kernel)), rfl⟩
theorem tw_358 : (Jvm.Cond.instanceMethod ({ cls := "HearingDesk$SoundFile", name := "four", desc := "(I)J" } : Jvm.MethodName)) ∈ W0 := List.mem_filter.mpr ⟨List.mem_append_right _ (List.mem_of_getElem? (i := 358) (by decide +kernel)), rfl⟩
theorem tw_359 : (Jvm.Cond.code ({ cls := "HearingDesk$SoundFile", name := "four", desc := "(I)J" } : Jvm.MethodName) prog_7_method_9_code (2 : Nat) (Option.some Jvm.ClassFile.FieldType.long)) ∈ W0 := List.mem_filter.mpr ⟨List.mem_append_right _ (List.mem_of_getElem? (i := 359) (by decide +kernel)), rfl⟩
theorem tw_360 : (Jvm.Cond.methodLink "HearingDesk$SoundFile" (36 : Nat) ({ cls := "HearingDesk$SoundFile", name := "two", desc := "(I)I" } : Jvm.MethodName)) ∈ W0 := List.mem_filter.mpr ⟨List.mem_append_right _ (List.mem_of_getElem? (i := 360) (by decide +kernel)), rfl⟩
theorem tw_362 : (Jvm.Cond.instanceMethod ({ cls := "HearingDesk$SoundFile", name := "two", desc := "(I)I" } : Jvm.MethodName)) ∈ W0 := List.mem_filter.mpr ⟨List.mem_append_right _ (List.mem_of_getElem? (i := 362) (by decide +kernel)), rfl⟩
theorem tw_363 : (Jvm.Cond.code ({ cls := "HearingDesk$SoundFile", name := "two", desc := "(I)I" } : Jvm.MethodName) prog_7_method_8_code (2 : Nat) (Option.some Jvm.ClassFile.FieldType.int)) ∈ W0 := List.mem_filter.mpr ⟨List.mem_append_right _ (List.mem_of_getElem? (i := 363) (by decide +kernel)), rfl⟩
theorem tw_364 : (Jvm.Cond.constantLong "HearingDesk$SoundFile" (57 : Nat) (65536 : Int64)) ∈ W0 := List.mem_filter.mpr ⟨List.mem_append_right _ (List.mem_of_getElem? (i := 364) (by decide +kernel)), rfl⟩
theorem tw_365 : (Jvm.Cond.constantLong "HearingDesk$SoundFile" (34 : Nat) (16 : Int64)) ∈ W0 := List.mem_filter.mpr ⟨List.mem_append_right _ (List.mem_of_getElem? (i := 365) (by decide +kernel)), rfl⟩
theorem tw_366 : (Jvm.Cond.methodLink "HearingDesk$SoundFile" (23 : Nat) ({ cls := "HearingDesk$SoundFile", name := "firstWrongOfForm", desc := "()I" } : Jvm.MethodName)) ∈ W0 := List.mem_filter.mpr ⟨List.mem_append_right _ (List.mem_of_getElem? (i := 366) (by decide +kernel)), rfl⟩
theorem tw_368 : (Jvm.Cond.instanceMethod ({ cls := "HearingDesk$SoundFile", name := "firstWrongOfForm", desc := "()I" } : Jvm.MethodName)) ∈ W0 := List.mem_filter.mpr ⟨List.mem_append_right _ (List.mem_of_getElem? (i := 368) (by decide +kernel)), rfl⟩
theorem tw_369 : (Jvm.Cond.code ({ cls := "HearingDesk$SoundFile", name := "firstWrongOfForm", desc := "()I" } : Jvm.MethodName) prog_7_method_6_code (1 : Nat) (Option.some Jvm.ClassFile.FieldType.int)) ∈ W0 := List.mem_filter.mpr ⟨List.mem_append_right _ (List.mem_of_getElem? (i := 369) (by decide +kernel)), rfl⟩
theorem tw_370 : (Jvm.Cond.methodLink "HearingDesk$SoundFile" (40 : Nat) ({ cls := "HearingDesk$SoundFile", name := "channels", desc := "()I" } : Jvm.MethodName)) ∈ W0 := List.mem_filter.mpr ⟨List.mem_append_right _ (List.mem_of_getElem? (i := 370) (by decide +kernel)), rfl⟩
theorem tw_372 : (Jvm.Cond.instanceMethod ({ cls := "HearingDesk$SoundFile", name := "channels", desc := "()I" } : Jvm.MethodName)) ∈ W0 := List.mem_filter.mpr ⟨List.mem_append_right _ (List.mem_of_getElem? (i := 372) (by decide +kernel)), rfl⟩
theorem tw_373 : (Jvm.Cond.code ({ cls := "HearingDesk$SoundFile", name := "channels", desc := "()I" } : Jvm.MethodName) prog_7_method_10_code (1 : Nat) (Option.some Jvm.ClassFile.FieldType.int)) ∈ W0 := List.mem_filter.mpr ⟨List.mem_append_right _ (List.mem_of_getElem? (i := 373) (by decide +kernel)), rfl⟩
theorem tw_374 : (Jvm.Cond.methodLink "HearingDesk$SoundFile" (43 : Nat) ({ cls := "HearingDesk$SoundFile", name := "rateSaid", desc := "()J" } : Jvm.MethodName)) ∈ W0 := List.mem_filter.mpr ⟨List.mem_append_right _ (List.mem_of_getElem? (i := 374) (by decide +kernel)), rfl⟩
theorem tw_375 : (Jvm.Cond.instanceMethod ({ cls := "HearingDesk$SoundFile", name := "rateSaid", desc := "()J" } : Jvm.MethodName)) ∈ W0 := List.mem_filter.mpr ⟨List.mem_append_right _ (List.mem_of_getElem? (i := 375) (by decide +kernel)), rfl⟩
theorem tw_376 : (Jvm.Cond.selects "HearingDesk$SoundFile" ({ cls := "HearingDesk$SoundFile", name := "rateSaid", desc := "()J" } : Jvm.MethodName) ({ cls := "HearingDesk$SoundFile", name := "rateSaid", desc := "()J" } : Jvm.MethodName)) ∈ W0 := List.mem_filter.mpr ⟨List.mem_append_right _ (List.mem_of_getElem? (i := 376) (by decide +kernel)), rfl⟩
theorem tw_377 : (Jvm.Cond.code ({ cls := "HearingDesk$SoundFile", name := "rateSaid", desc := "()J" } : Jvm.MethodName) prog_7_method_11_code (1 : Nat) (Option.some Jvm.ClassFile.FieldType.long)) ∈ W0 := List.mem_filter.mpr ⟨List.mem_append_right _ (List.mem_of_getElem? (i := 377) (by decide +kernel)), rfl⟩
theorem tw_378 : (Jvm.Cond.constantLong "HearingDesk$SoundFile" (47 : Nat) (1000 : Int64)) ∈ W0 := List.mem_filter.mpr ⟨List.mem_append_right _ (List.mem_of_getElem? (i := 378) (by decide +kernel)), rfl⟩
theorem tw_379 : (Jvm.Cond.constantLong "HearingDesk$SoundFile" (49 : Nat) (48000 : Int64)) ∈ W0 := List.mem_filter.mpr ⟨List.mem_append_right _ (List.mem_of_getElem? (i := 379) (by decide +kernel)), rfl⟩
theorem tw_380 : (Jvm.Cond.methodLink "HearingDesk$SoundFile" (51 : Nat) ({ cls := "HearingDesk$SoundFile", name := "width", desc := "()I" } : Jvm.MethodName)) ∈ W0 := List.mem_filter.mpr ⟨List.mem_append_right _ (List.mem_of_getElem? (i := 380) (by decide +kernel)), rfl⟩
theorem tw_382 : (Jvm.Cond.instanceMethod ({ cls := "HearingDesk$SoundFile", name := "width", desc := "()I" } : Jvm.MethodName)) ∈ W0 := List.mem_filter.mpr ⟨List.mem_append_right _ (List.mem_of_getElem? (i := 382) (by decide +kernel)), rfl⟩
theorem tw_383 : (Jvm.Cond.code ({ cls := "HearingDesk$SoundFile", name := "width", desc := "()I" } : Jvm.MethodName) prog_7_method_12_code (1 : Nat) (Option.some Jvm.ClassFile.FieldType.int)) ∈ W0 := List.mem_filter.mpr ⟨List.mem_append_right _ (List.mem_of_getElem? (i := 383) (by decide +kernel)), rfl⟩
theorem tw_384 : (Jvm.Cond.methodLink "HearingDesk$SoundFile" (54 : Nat) ({ cls := "HearingDesk$SoundFile", name := "bits", desc := "()I" } : Jvm.MethodName)) ∈ W0 := List.mem_filter.mpr ⟨List.mem_append_right _ (List.mem_of_getElem? (i := 384) (by decide +kernel)), rfl⟩
theorem tw_386 : (Jvm.Cond.instanceMethod ({ cls := "HearingDesk$SoundFile", name := "bits", desc := "()I" } : Jvm.MethodName)) ∈ W0 := List.mem_filter.mpr ⟨List.mem_append_right _ (List.mem_of_getElem? (i := 386) (by decide +kernel)), rfl⟩
theorem tw_387 : (Jvm.Cond.code ({ cls := "HearingDesk$SoundFile", name := "bits", desc := "()I" } : Jvm.MethodName) prog_7_method_13_code (1 : Nat) (Option.some Jvm.ClassFile.FieldType.int)) ∈ W0 := List.mem_filter.mpr ⟨List.mem_append_right _ (List.mem_of_getElem? (i := 387) (by decide +kernel)), rfl⟩
theorem tw_388 : (Jvm.Cond.methodLink "HearingDesk" (90 : Nat) ({ cls := "HearingDesk$SoundFile", name := "empty", desc := "()V" } : Jvm.MethodName)) ∈ W0 := List.mem_filter.mpr ⟨List.mem_append_right _ (List.mem_of_getElem? (i := 388) (by decide +kernel)), rfl⟩
theorem tw_389 : (Jvm.Cond.instanceMethod ({ cls := "HearingDesk$SoundFile", name := "empty", desc := "()V" } : Jvm.MethodName)) ∈ W0 := List.mem_filter.mpr ⟨List.mem_append_right _ (List.mem_of_getElem? (i := 389) (by decide +kernel)), rfl⟩
theorem tw_390 : (Jvm.Cond.selects "HearingDesk$SoundFile" ({ cls := "HearingDesk$SoundFile", name := "empty", desc := "()V" } : Jvm.MethodName) ({ cls := "HearingDesk$SoundFile", name := "empty", desc := "()V" } : Jvm.MethodName)) ∈ W0 := List.mem_filter.mpr ⟨List.mem_append_right _ (List.mem_of_getElem? (i := 390) (by decide +kernel)), rfl⟩
theorem tw_391 : (Jvm.Cond.code ({ cls := "HearingDesk$SoundFile", name := "empty", desc := "()V" } : Jvm.MethodName) prog_7_method_3_code (1 : Nat) (Option.none : Option Jvm.ClassFile.FieldType)) ∈ W0 := List.mem_filter.mpr ⟨List.mem_append_right _ (List.mem_of_getElem? (i := 391) (by decide +kernel)), rfl⟩
theorem tw_393 : (Jvm.Cond.methodLink "HearingDesk" (95 : Nat) ({ cls := "HearingDesk$SoundFile", name := "sampleCount", desc := "()I" } : Jvm.MethodName)) ∈ W0 := List.mem_filter.mpr ⟨List.mem_append_right _ (List.mem_of_getElem? (i := 393) (by decide +kernel)), rfl⟩
theorem tw_394 : (Jvm.Cond.instanceMethod ({ cls := "HearingDesk$SoundFile", name := "sampleCount", desc := "()I" } : Jvm.MethodName)) ∈ W0 := List.mem_filter.mpr ⟨List.mem_append_right _ (List.mem_of_getElem? (i := 394) (by decide +kernel)), rfl⟩
theorem tw_395 : (Jvm.Cond.selects "HearingDesk$SoundFile" ({ cls := "HearingDesk$SoundFile", name := "sampleCount", desc := "()I" } : Jvm.MethodName) ({ cls := "HearingDesk$SoundFile", name := "sampleCount", desc := "()I" } : Jvm.MethodName)) ∈ W0 := List.mem_filter.mpr ⟨List.mem_append_right _ (List.mem_of_getElem? (i := 395) (by decide +kernel)), rfl⟩
theorem tw_396 : (Jvm.Cond.code ({ cls := "HearingDesk$SoundFile", name := "sampleCount", desc := "()I" } : Jvm.MethodName) prog_7_method_14_code (1 : Nat) (Option.some Jvm.ClassFile.FieldType.int)) ∈ W0 := List.mem_filter.mpr ⟨List.mem_append_right _ (List.mem_of_getElem? (i := 396) (by decide +kernel)), rfl⟩
theorem tw_398 : (Jvm.Cond.methodLink "HearingDesk" (101 : Nat) ({ cls := "HearingDesk$SoundFile", name := "sampleAt", desc := "(I)D" } : Jvm.MethodName)) ∈ W0 := List.mem_filter.mpr ⟨List.mem_append_right _ (List.mem_of_getElem? (i := 398) (by decide +kernel)), rfl⟩
theorem tw_399 : (Jvm.Cond.instanceMethod ({ cls := "HearingDesk$SoundFile", name := "sampleAt", desc := "(I)D" } : Jvm.MethodName)) ∈ W0 := List.mem_filter.mpr ⟨List.mem_append_right _ (List.mem_of_getElem? (i := 399) (by decide +kernel)), rfl⟩
theorem tw_400 : (Jvm.Cond.selects "HearingDesk$SoundFile" ({ cls := "HearingDesk$SoundFile", name := "sampleAt", desc := "(I)D" } : Jvm.MethodName) ({ cls := "HearingDesk$SoundFile", name := "sampleAt", desc := "(I)D" } : Jvm.MethodName)) ∈ W0 := List.mem_filter.mpr ⟨List.mem_append_right _ (List.mem_of_getElem? (i := 400) (by decide +kernel)), rfl⟩
theorem tw_401 : (Jvm.Cond.code ({ cls := "HearingDesk$SoundFile", name := "sampleAt", desc := "(I)D" } : Jvm.MethodName) prog_7_method_15_code (3 : Nat) (Option.some Jvm.ClassFile.FieldType.double)) ∈ W0 := List.mem_filter.mpr ⟨List.mem_append_right _ (List.mem_of_getElem? (i := 401) (by decide +kernel)), rfl⟩
theorem tw_402 : (Jvm.Cond.methodLink "HearingDesk$SoundFile" (59 : Nat) ({ cls := "HearingDesk$SoundFile", name := "channelAt", desc := "(I)D" } : Jvm.MethodName)) ∈ W0 := List.mem_filter.mpr ⟨List.mem_append_right _ (List.mem_of_getElem? (i := 402) (by decide +kernel)), rfl⟩
theorem tw_404 : (Jvm.Cond.instanceMethod ({ cls := "HearingDesk$SoundFile", name := "channelAt", desc := "(I)D" } : Jvm.MethodName)) ∈ W0 := List.mem_filter.mpr ⟨List.mem_append_right _ (List.mem_of_getElem? (i := 404) (by decide +kernel)), rfl⟩
theorem tw_405 : (Jvm.Cond.code ({ cls := "HearingDesk$SoundFile", name := "channelAt", desc := "(I)D" } : Jvm.MethodName) prog_7_method_16_code (3 : Nat) (Option.some Jvm.ClassFile.FieldType.double)) ∈ W0 := List.mem_filter.mpr ⟨List.mem_append_right _ (List.mem_of_getElem? (i := 405) (by decide +kernel)), rfl⟩
theorem tw_406 : (Jvm.Cond.constantDouble "HearingDesk$SoundFile" (65 : Nat) (4674736413210574848 : UInt64)) ∈ W0 := List.mem_filter.mpr ⟨List.mem_append_right _ (List.mem_of_getElem? (i := 406) (by decide +kernel)), rfl⟩
theorem tw_407 : (Jvm.Cond.constant "HearingDesk$SoundFile" (67 : Nat) (32768 : Int32)) ∈ W0 := List.mem_filter.mpr ⟨List.mem_append_right _ (List.mem_of_getElem? (i := 407) (by decide +kernel)), rfl⟩
theorem tw_408 : (Jvm.Cond.constant "HearingDesk$SoundFile" (68 : Nat) (65536 : Int32)) ∈ W0 := List.mem_filter.mpr ⟨List.mem_append_right _ (List.mem_of_getElem? (i := 408) (by decide +kernel)), rfl⟩
theorem tw_409 : (Jvm.Cond.constantDouble "HearingDesk$SoundFile" (63 : Nat) (4611686018427387904 : UInt64)) ∈ W0 := List.mem_filter.mpr ⟨List.mem_append_right _ (List.mem_of_getElem? (i := 409) (by decide +kernel)), rfl⟩
theorem tw_410 : (Jvm.Cond.methodLink "HearingDesk" (105 : Nat) ({ cls := "HearingDesk$Sound", name := "append", desc := "(D)V" } : Jvm.MethodName)) ∈ W0 := List.mem_filter.mpr ⟨List.mem_append_right _ (List.mem_of_getElem? (i := 410) (by decide +kernel)), rfl⟩
theorem tw_411 : (Jvm.Cond.instanceMethod ({ cls := "HearingDesk$Sound", name := "append", desc := "(D)V" } : Jvm.MethodName)) ∈ W0 := List.mem_filter.mpr ⟨List.mem_append_right _ (List.mem_of_getElem? (i := 411) (by decide +kernel)), rfl⟩
theorem tw_412 : (Jvm.Cond.selects "HearingDesk$Sound" ({ cls := "HearingDesk$Sound", name := "append", desc := "(D)V" } : Jvm.MethodName) ({ cls := "HearingDesk$Sound", name := "append", desc := "(D)V" } : Jvm.MethodName)) ∈ W0 := List.mem_filter.mpr ⟨List.mem_append_right _ (List.mem_of_getElem? (i := 412) (by decide +kernel)), rfl⟩
theorem tw_413 : (Jvm.Cond.code ({ cls := "HearingDesk$Sound", name := "append", desc := "(D)V" } : Jvm.MethodName) prog_6_method_2_code (3 : Nat) (Option.none : Option Jvm.ClassFile.FieldType)) ∈ W0 := List.mem_filter.mpr ⟨List.mem_append_right _ (List.mem_of_getElem? (i := 413) (by decide +kernel)), rfl⟩
theorem tw_414 : (Jvm.Cond.methodLink "HearingDesk" (108 : Nat) ({ cls := "HearingDesk$SoundFile", name := "rateSaid", desc := "()J" } : Jvm.MethodName)) ∈ W0 := List.mem_filter.mpr ⟨List.mem_append_right _ (List.mem_of_getElem? (i := 414) (by decide +kernel)), rfl⟩
theorem tw_415 : (Jvm.Cond.methodLink "HearingDeskLaw" (93 : Nat) ({ cls := "HearingDeskLaw", name := "wave", desc := "(LHearingDesk;IID[J)I" } : Jvm.MethodName)) ∈ W0 := List.mem_filter.mpr ⟨List.mem_append_right _ (List.mem_of_getElem? (i := 415) (by decide +kernel)), rfl⟩
theorem tw_416 : (Jvm.Cond.static ({ cls := "HearingDeskLaw", name := "wave", desc := "(LHearingDesk;IID[J)I" } : Jvm.MethodName)) ∈ W0 := List.mem_filter.mpr ⟨List.mem_append_right _ (List.mem_of_getElem? (i := 416) (by decide +kernel)), rfl⟩
theorem tw_417 : (Jvm.Cond.codeWith ({ cls := "HearingDeskLaw", name := "wave", desc := "(LHearingDesk;IID[J)I" } : Jvm.MethodName) method_5_code (7 : Nat) (Option.some Jvm.ClassFile.FieldType.int) [((0 : Nat), (12 : Nat), (15 : Nat), (13 : Nat)), ((0 : Nat), (12 : Nat), (19 : Nat), (15 : Nat))]) ∈ W0 := List.mem_filter.mpr ⟨List.mem_append_right _ (List.mem_of_getElem? (i := 417) (by decide +kernel)), rfl⟩
theorem tw_418 : (Jvm.Cond.methodLink "HearingDeskLaw" (21 : Nat) ({ cls := "HearingDesk", name := "wave", desc := "(IID)I" } : Jvm.MethodName)) ∈ W0 := List.mem_filter.mpr ⟨List.mem_append_right _ (List.mem_of_getElem? (i := 418) (by decide +kernel)), rfl⟩
theorem tw_419 : (Jvm.Cond.instanceMethod ({ cls := "HearingDesk", name := "wave", desc := "(IID)I" } : Jvm.MethodName)) ∈ W0 := List.mem_filter.mpr ⟨List.mem_append_right _ (List.mem_of_getElem? (i := 419) (by decide +kernel)), rfl⟩
theorem tw_420 : (Jvm.Cond.selects "HearingDesk" ({ cls := "HearingDesk", name := "wave", desc := "(IID)I" } : Jvm.MethodName) ({ cls := "HearingDesk", name := "wave", desc := "(IID)I" } : Jvm.MethodName)) ∈ W0 := List.mem_filter.mpr ⟨List.mem_append_right _ (List.mem_of_getElem? (i := 420) (by decide +kernel)), rfl⟩
theorem tw_421 : (Jvm.Cond.code ({ cls := "HearingDesk", name := "wave", desc := "(IID)I" } : Jvm.MethodName) prog_1_method_5_code (6 : Nat) (Option.some Jvm.ClassFile.FieldType.int)) ∈ W0 := List.mem_filter.mpr ⟨List.mem_append_right _ (List.mem_of_getElem? (i := 421) (by decide +kernel)), rfl⟩
theorem tw_423 : (Jvm.Cond.methodLink "HearingDesk" (120 : Nat) ({ cls := "HearingDesk$Numbers", name := "swing", desc := "(DD)D" } : Jvm.MethodName)) ∈ W0 := List.mem_filter.mpr ⟨List.mem_append_right _ (List.mem_of_getElem? (i := 423) (by decide +kernel)), rfl⟩
theorem tw_424 : (Jvm.Cond.static ({ cls := "HearingDesk$Numbers", name := "swing", desc := "(DD)D" } : Jvm.MethodName)) ∈ W0 := List.mem_filter.mpr ⟨List.mem_append_right _ (List.mem_of_getElem? (i := 424) (by decide +kernel)), rfl⟩
theorem tw_425 : (Jvm.Cond.code ({ cls := "HearingDesk$Numbers", name := "swing", desc := "(DD)D" } : Jvm.MethodName) prog_3_method_3_code (4 : Nat) (Option.some Jvm.ClassFile.FieldType.double)) ∈ W0 := List.mem_filter.mpr ⟨List.mem_append_right _ (List.mem_of_getElem? (i := 425) (by decide +kernel)), rfl⟩
theorem tw_426 : (Jvm.Cond.methodLink "HearingDesk$Numbers" (11 : Nat) ({ cls := "HearingDesk$Numbers", name := "finite", desc := "(D)D" } : Jvm.MethodName)) ∈ W0 := List.mem_filter.mpr ⟨List.mem_append_right _ (List.mem_of_getElem? (i := 426) (by decide +kernel)), rfl⟩
theorem tw_427 : (Jvm.Cond.static ({ cls := "HearingDesk$Numbers", name := "finite", desc := "(D)D" } : Jvm.MethodName)) ∈ W0 := List.mem_filter.mpr ⟨List.mem_append_right _ (List.mem_of_getElem? (i := 427) (by decide +kernel)), rfl⟩
theorem tw_428 : (Jvm.Cond.code ({ cls := "HearingDesk$Numbers", name := "finite", desc := "(D)D" } : Jvm.MethodName) prog_3_method_2_code (2 : Nat) (Option.some Jvm.ClassFile.FieldType.double)) ∈ W0 := List.mem_filter.mpr ⟨List.mem_append_right _ (List.mem_of_getElem? (i := 428) (by decide +kernel)), rfl⟩
theorem tw_429 : (Jvm.Cond.constantDouble "HearingDesk$Numbers" (7 : Nat) (9218868437227405311 : UInt64)) ∈ W0 := List.mem_filter.mpr ⟨List.mem_append_right _ (List.mem_of_getElem? (i := 429) (by decide +kernel)), rfl⟩
theorem tw_430 : (Jvm.Cond.constantDouble "HearingDesk$Numbers" (9 : Nat) (18442240474082181119 : UInt64)) ∈ W0 := List.mem_filter.mpr ⟨List.mem_append_right _ (List.mem_of_getElem? (i := 430) (by decide +kernel)), rfl⟩
theorem tw_431 : (Jvm.Cond.methodLink "HearingDeskLaw" (101 : Nat) ({ cls := "HearingDeskLaw", name := "sample", desc := "(LHearingDesk;I[D)I" } : Jvm.MethodName)) ∈ W0 := List.mem_filter.mpr ⟨List.mem_append_right _ (List.mem_of_getElem? (i := 431) (by decide +kernel)), rfl⟩
theorem tw_432 : (Jvm.Cond.static ({ cls := "HearingDeskLaw", name := "sample", desc := "(LHearingDesk;I[D)I" } : Jvm.MethodName)) ∈ W0 := List.mem_filter.mpr ⟨List.mem_append_right _ (List.mem_of_getElem? (i := 432) (by decide +kernel)), rfl⟩
theorem tw_433 : (Jvm.Cond.codeWith ({ cls := "HearingDeskLaw", name := "sample", desc := "(LHearingDesk;I[D)I" } : Jvm.MethodName) method_6_code (4 : Nat) (Option.some Jvm.ClassFile.FieldType.int) [((0 : Nat), (8 : Nat), (11 : Nat), (15 : Nat))]) ∈ W0 := List.mem_filter.mpr ⟨List.mem_append_right _ (List.mem_of_getElem? (i := 433) (by decide +kernel)), rfl⟩
theorem tw_434 : (Jvm.Cond.methodLink "HearingDeskLaw" (25 : Nat) ({ cls := "HearingDesk", name := "sample", desc := "(I)D" } : Jvm.MethodName)) ∈ W0 := List.mem_filter.mpr ⟨List.mem_append_right _ (List.mem_of_getElem? (i := 434) (by decide +kernel)), rfl⟩
theorem tw_435 : (Jvm.Cond.instanceMethod ({ cls := "HearingDesk", name := "sample", desc := "(I)D" } : Jvm.MethodName)) ∈ W0 := List.mem_filter.mpr ⟨List.mem_append_right _ (List.mem_of_getElem? (i := 435) (by decide +kernel)), rfl⟩
theorem tw_436 : (Jvm.Cond.selects "HearingDesk" ({ cls := "HearingDesk", name := "sample", desc := "(I)D" } : Jvm.MethodName) ({ cls := "HearingDesk", name := "sample", desc := "(I)D" } : Jvm.MethodName)) ∈ W0 := List.mem_filter.mpr ⟨List.mem_append_right _ (List.mem_of_getElem? (i := 436) (by decide +kernel)), rfl⟩
theorem tw_437 : (Jvm.Cond.code ({ cls := "HearingDesk", name := "sample", desc := "(I)D" } : Jvm.MethodName) prog_1_method_7_code (2 : Nat) (Option.some Jvm.ClassFile.FieldType.double)) ∈ W0 := List.mem_filter.mpr ⟨List.mem_append_right _ (List.mem_of_getElem? (i := 437) (by decide +kernel)), rfl⟩
theorem tw_439 : (Jvm.Cond.methodLink "HearingDeskLaw" (105 : Nat) ({ cls := "HearingDeskLaw", name := "power", desc := "(LHearingDesk;II[D)I" } : Jvm.MethodName)) ∈ W0 := List.mem_filter.mpr ⟨List.mem_append_right _ (List.mem_of_getElem? (i := 439) (by decide +kernel)), rfl⟩
theorem tw_440 : (Jvm.Cond.static ({ cls := "HearingDeskLaw", name := "power", desc := "(LHearingDesk;II[D)I" } : Jvm.MethodName)) ∈ W0 := List.mem_filter.mpr ⟨List.mem_append_right _ (List.mem_of_getElem? (i := 440) (by decide +kernel)), rfl⟩
theorem tw_441 : (Jvm.Cond.codeWith ({ cls := "HearingDeskLaw", name := "power", desc := "(LHearingDesk;II[D)I" } : Jvm.MethodName) method_7_code (5 : Nat) (Option.some Jvm.ClassFile.FieldType.int) [((0 : Nat), (9 : Nat), (12 : Nat), (15 : Nat)), ((0 : Nat), (9 : Nat), (16 : Nat), (13 : Nat))]) ∈ W0 := List.mem_filter.mpr ⟨List.mem_append_right _ (List.mem_of_getElem? (i := 441) (by decide +kernel)), rfl⟩
theorem tw_442 : (Jvm.Cond.methodLink "HearingDeskLaw" (29 : Nat) ({ cls := "HearingDesk", name := "power", desc := "(II)D" } : Jvm.MethodName)) ∈ W0 := List.mem_filter.mpr ⟨List.mem_append_right _ (List.mem_of_getElem? (i := 442) (by decide +kernel)), rfl⟩
theorem tw_443 : (Jvm.Cond.instanceMethod ({ cls := "HearingDesk", name := "power", desc := "(II)D" } : Jvm.MethodName)) ∈ W0 := List.mem_filter.mpr ⟨List.mem_append_right _ (List.mem_of_getElem? (i := 443) (by decide +kernel)), rfl⟩
theorem tw_444 : (Jvm.Cond.selects "HearingDesk" ({ cls := "HearingDesk", name := "power", desc := "(II)D" } : Jvm.MethodName) ({ cls := "HearingDesk", name := "power", desc := "(II)D" } : Jvm.MethodName)) ∈ W0 := List.mem_filter.mpr ⟨List.mem_append_right _ (List.mem_of_getElem? (i := 444) (by decide +kernel)), rfl⟩
theorem tw_445 : (Jvm.Cond.code ({ cls := "HearingDesk", name := "power", desc := "(II)D" } : Jvm.MethodName) prog_1_method_8_code (3 : Nat) (Option.some Jvm.ClassFile.FieldType.double)) ∈ W0 := List.mem_filter.mpr ⟨List.mem_append_right _ (List.mem_of_getElem? (i := 445) (by decide +kernel)), rfl⟩
theorem tw_446 : (Jvm.Cond.methodLink "HearingDesk" (131 : Nat) ({ cls := "HearingDesk$Sound", name := "frames", desc := "()I" } : Jvm.MethodName)) ∈ W0 := List.mem_filter.mpr ⟨List.mem_append_right _ (List.mem_of_getElem? (i := 446) (by decide +kernel)), rfl⟩
theorem tw_447 : (Jvm.Cond.instanceMethod ({ cls := "HearingDesk$Sound", name := "frames", desc := "()I" } : Jvm.MethodName)) ∈ W0 := List.mem_filter.mpr ⟨List.mem_append_right _ (List.mem_of_getElem? (i := 447) (by decide +kernel)), rfl⟩
theorem tw_448 : (Jvm.Cond.selects "HearingDesk$Sound" ({ cls := "HearingDesk$Sound", name := "frames", desc := "()I" } : Jvm.MethodName) ({ cls := "HearingDesk$Sound", name := "frames", desc := "()I" } : Jvm.MethodName)) ∈ W0 := List.mem_filter.mpr ⟨List.mem_append_right _ (List.mem_of_getElem? (i := 448) (by decide +kernel)), rfl⟩
theorem tw_449 : (Jvm.Cond.code ({ cls := "HearingDesk$Sound", name := "frames", desc := "()I" } : Jvm.MethodName) prog_6_method_4_code (1 : Nat) (Option.some Jvm.ClassFile.FieldType.int)) ∈ W0 := List.mem_filter.mpr ⟨List.mem_append_right _ (List.mem_of_getElem? (i := 449) (by decide +kernel)), rfl⟩
theorem tw_452 : (Jvm.Cond.methodLink "HearingDesk" (138 : Nat) ({ cls := "HearingDesk$Sound", name := "weigh", desc := "(I)V" } : Jvm.MethodName)) ∈ W0 := List.mem_filter.mpr ⟨List.mem_append_right _ (List.mem_of_getElem? (i := 452) (by decide +kernel)), rfl⟩
theorem tw_453 : (Jvm.Cond.instanceMethod ({ cls := "HearingDesk$Sound", name := "weigh", desc := "(I)V" } : Jvm.MethodName)) ∈ W0 := List.mem_filter.mpr ⟨List.mem_append_right _ (List.mem_of_getElem? (i := 453) (by decide +kernel)), rfl⟩
theorem tw_454 : (Jvm.Cond.selects "HearingDesk$Sound" ({ cls := "HearingDesk$Sound", name := "weigh", desc := "(I)V" } : Jvm.MethodName) ({ cls := "HearingDesk$Sound", name := "weigh", desc := "(I)V" } : Jvm.MethodName)) ∈ W0 := List.mem_filter.mpr ⟨List.mem_append_right _ (List.mem_of_getElem? (i := 454) (by decide +kernel)), rfl⟩
theorem tw_455 : (Jvm.Cond.code ({ cls := "HearingDesk$Sound", name := "weigh", desc := "(I)V" } : Jvm.MethodName) prog_6_method_5_code (3 : Nat) (Option.none : Option Jvm.ClassFile.FieldType)) ∈ W0 := List.mem_filter.mpr ⟨List.mem_append_right _ (List.mem_of_getElem? (i := 455) (by decide +kernel)), rfl⟩
theorem tw_456 : (Jvm.Cond.methodLink "HearingDesk$Sound" (35 : Nat) ({ cls := "HearingDesk$Numbers", name := "finite", desc := "(D)D" } : Jvm.MethodName)) ∈ W0 := List.mem_filter.mpr ⟨List.mem_append_right _ (List.mem_of_getElem? (i := 456) (by decide +kernel)), rfl⟩
theorem tw_457 : (Jvm.Cond.methodLink "HearingDesk" (141 : Nat) ({ cls := "HearingDesk$Sound", name := "strength", desc := "(I)D" } : Jvm.MethodName)) ∈ W0 := List.mem_filter.mpr ⟨List.mem_append_right _ (List.mem_of_getElem? (i := 457) (by decide +kernel)), rfl⟩
theorem tw_458 : (Jvm.Cond.instanceMethod ({ cls := "HearingDesk$Sound", name := "strength", desc := "(I)D" } : Jvm.MethodName)) ∈ W0 := List.mem_filter.mpr ⟨List.mem_append_right _ (List.mem_of_getElem? (i := 458) (by decide +kernel)), rfl⟩
theorem tw_459 : (Jvm.Cond.selects "HearingDesk$Sound" ({ cls := "HearingDesk$Sound", name := "strength", desc := "(I)D" } : Jvm.MethodName) ({ cls := "HearingDesk$Sound", name := "strength", desc := "(I)D" } : Jvm.MethodName)) ∈ W0 := List.mem_filter.mpr ⟨List.mem_append_right _ (List.mem_of_getElem? (i := 459) (by decide +kernel)), rfl⟩
theorem tw_460 : (Jvm.Cond.code ({ cls := "HearingDesk$Sound", name := "strength", desc := "(I)D" } : Jvm.MethodName) prog_6_method_6_code (8 : Nat) (Option.some Jvm.ClassFile.FieldType.double)) ∈ W0 := List.mem_filter.mpr ⟨List.mem_append_right _ (List.mem_of_getElem? (i := 460) (by decide +kernel)), rfl⟩
theorem tw_461 : (Jvm.Cond.methodLink "HearingDeskLaw" (109 : Nat) ({ cls := "HearingDeskLaw", name := "level", desc := "(LHearingDesk;II[D)I" } : Jvm.MethodName)) ∈ W0 := List.mem_filter.mpr ⟨List.mem_append_right _ (List.mem_of_getElem? (i := 461) (by decide +kernel)), rfl⟩
theorem tw_462 : (Jvm.Cond.static ({ cls := "HearingDeskLaw", name := "level", desc := "(LHearingDesk;II[D)I" } : Jvm.MethodName)) ∈ W0 := List.mem_filter.mpr ⟨List.mem_append_right _ (List.mem_of_getElem? (i := 462) (by decide +kernel)), rfl⟩
theorem tw_463 : (Jvm.Cond.codeWith ({ cls := "HearingDeskLaw", name := "level", desc := "(LHearingDesk;II[D)I" } : Jvm.MethodName) method_8_code (5 : Nat) (Option.some Jvm.ClassFile.FieldType.int) [((0 : Nat), (9 : Nat), (12 : Nat), (15 : Nat)), ((0 : Nat), (9 : Nat), (16 : Nat), (13 : Nat))]) ∈ W0 := List.mem_filter.mpr ⟨List.mem_append_right _ (List.mem_of_getElem? (i := 463) (by decide +kernel)), rfl⟩
theorem tw_464 : (Jvm.Cond.methodLink "HearingDeskLaw" (33 : Nat) ({ cls := "HearingDesk", name := "level", desc := "(II)D" } : Jvm.MethodName)) ∈ W0 := List.mem_filter.mpr ⟨List.mem_append_right _ (List.mem_of_getElem? (i := 464) (by decide +kernel)), rfl⟩
theorem tw_465 : (Jvm.Cond.instanceMethod ({ cls := "HearingDesk", name := "level", desc := "(II)D" } : Jvm.MethodName)) ∈ W0 := List.mem_filter.mpr ⟨List.mem_append_right _ (List.mem_of_getElem? (i := 465) (by decide +kernel)), rfl⟩
theorem tw_466 : (Jvm.Cond.selects "HearingDesk" ({ cls := "HearingDesk", name := "level", desc := "(II)D" } : Jvm.MethodName) ({ cls := "HearingDesk", name := "level", desc := "(II)D" } : Jvm.MethodName)) ∈ W0 := List.mem_filter.mpr ⟨List.mem_append_right _ (List.mem_of_getElem? (i := 466) (by decide +kernel)), rfl⟩
theorem tw_467 : (Jvm.Cond.code ({ cls := "HearingDesk", name := "level", desc := "(II)D" } : Jvm.MethodName) prog_1_method_9_code (3 : Nat) (Option.some Jvm.ClassFile.FieldType.double)) ∈ W0 := List.mem_filter.mpr ⟨List.mem_append_right _ (List.mem_of_getElem? (i := 467) (by decide +kernel)), rfl⟩
theorem tw_469 : (Jvm.Cond.methodLink "HearingDesk" (146 : Nat) ({ cls := "HearingDesk$Sound", name := "judge", desc := "()V" } : Jvm.MethodName)) ∈ W0 := List.mem_filter.mpr ⟨List.mem_append_right _ (List.mem_of_getElem? (i := 469) (by decide +kernel)), rfl⟩
theorem tw_470 : (Jvm.Cond.instanceMethod ({ cls := "HearingDesk$Sound", name := "judge", desc := "()V" } : Jvm.MethodName)) ∈ W0 := List.mem_filter.mpr ⟨List.mem_append_right _ (List.mem_of_getElem? (i := 470) (by decide +kernel)), rfl⟩
theorem tw_471 : (Jvm.Cond.selects "HearingDesk$Sound" ({ cls := "HearingDesk$Sound", name := "judge", desc := "()V" } : Jvm.MethodName) ({ cls := "HearingDesk$Sound", name := "judge", desc := "()V" } : Jvm.MethodName)) ∈ W0 := List.mem_filter.mpr ⟨List.mem_append_right _ (List.mem_of_getElem? (i := 471) (by decide +kernel)), rfl⟩
theorem tw_472 : (Jvm.Cond.code ({ cls := "HearingDesk$Sound", name := "judge", desc := "()V" } : Jvm.MethodName) prog_6_method_7_code (3 : Nat) (Option.none : Option Jvm.ClassFile.FieldType)) ∈ W0 := List.mem_filter.mpr ⟨List.mem_append_right _ (List.mem_of_getElem? (i := 472) (by decide +kernel)), rfl⟩
theorem tw_473 : (Jvm.Cond.methodLink "HearingDesk$Sound" (52 : Nat) ({ cls := "HearingDesk$Sound", name := "frames", desc := "()I" } : Jvm.MethodName)) ∈ W0 := List.mem_filter.mpr ⟨List.mem_append_right _ (List.mem_of_getElem? (i := 473) (by decide +kernel)), rfl⟩
theorem tw_474 : (Jvm.Cond.methodLink "HearingDesk$Sound" (56 : Nat) ({ cls := "HearingDesk$Sound", name := "weigh", desc := "(I)V" } : Jvm.MethodName)) ∈ W0 := List.mem_filter.mpr ⟨List.mem_append_right _ (List.mem_of_getElem? (i := 474) (by decide +kernel)), rfl⟩
theorem tw_475 : (Jvm.Cond.methodLink "HearingDesk$Sound" (60 : Nat) ({ cls := "HearingDesk$Sound", name := "judgeBand", desc := "(III)V" } : Jvm.MethodName)) ∈ W0 := List.mem_filter.mpr ⟨List.mem_append_right _ (List.mem_of_getElem? (i := 475) (by decide +kernel)), rfl⟩
theorem tw_477 : (Jvm.Cond.instanceMethod ({ cls := "HearingDesk$Sound", name := "judgeBand", desc := "(III)V" } : Jvm.MethodName)) ∈ W0 := List.mem_filter.mpr ⟨List.mem_append_right _ (List.mem_of_getElem? (i := 477) (by decide +kernel)), rfl⟩
theorem tw_478 : (Jvm.Cond.code ({ cls := "HearingDesk$Sound", name := "judgeBand", desc := "(III)V" } : Jvm.MethodName) prog_6_method_8_code (7 : Nat) (Option.none : Option Jvm.ClassFile.FieldType)) ∈ W0 := List.mem_filter.mpr ⟨List.mem_append_right _ (List.mem_of_getElem? (i := 478) (by decide +kernel)), rfl⟩
theorem tw_479 : (Jvm.Cond.methodLink "HearingDesk$Sound" (64 : Nat) ({ cls := "HearingDesk$Sound", name := "strength", desc := "(I)D" } : Jvm.MethodName)) ∈ W0 := List.mem_filter.mpr ⟨List.mem_append_right _ (List.mem_of_getElem? (i := 479) (by decide +kernel)), rfl⟩
theorem tw_480 : (Jvm.Cond.constantDouble "HearingDesk$Sound" (68 : Nat) (4457293557087583675 : UInt64)) ∈ W0 := List.mem_filter.mpr ⟨List.mem_append_right _ (List.mem_of_getElem? (i := 480) (by decide +kernel)), rfl⟩
theorem tw_481 : (Jvm.Cond.methodLink "HearingDesk$Sound" (70 : Nat) ({ cls := "HearingDesk$Numbers", name := "logarithm", desc := "(D)D" } : Jvm.MethodName)) ∈ W0 := List.mem_filter.mpr ⟨List.mem_append_right _ (List.mem_of_getElem? (i := 481) (by decide +kernel)), rfl⟩
theorem tw_482 : (Jvm.Cond.static ({ cls := "HearingDesk$Numbers", name := "logarithm", desc := "(D)D" } : Jvm.MethodName)) ∈ W0 := List.mem_filter.mpr ⟨List.mem_append_right _ (List.mem_of_getElem? (i := 482) (by decide +kernel)), rfl⟩
theorem tw_483 : (Jvm.Cond.code ({ cls := "HearingDesk$Numbers", name := "logarithm", desc := "(D)D" } : Jvm.MethodName) prog_3_method_4_code (12 : Nat) (Option.some Jvm.ClassFile.FieldType.double)) ∈ W0 := List.mem_filter.mpr ⟨List.mem_append_right _ (List.mem_of_getElem? (i := 483) (by decide +kernel)), rfl⟩
theorem tw_484 : (Jvm.Cond.constantDouble "HearingDesk$Numbers" (17 : Nat) (4609434218613702656 : UInt64)) ∈ W0 := List.mem_filter.mpr ⟨List.mem_append_right _ (List.mem_of_getElem? (i := 484) (by decide +kernel)), rfl⟩
theorem tw_485 : (Jvm.Cond.constantDouble "HearingDesk$Numbers" (19 : Nat) (4611686018427387904 : UInt64)) ∈ W0 := List.mem_filter.mpr ⟨List.mem_append_right _ (List.mem_of_getElem? (i := 485) (by decide +kernel)), rfl⟩
theorem tw_486 : (Jvm.Cond.constantDouble "HearingDesk$Numbers" (21 : Nat) (4604930618986332160 : UInt64)) ∈ W0 := List.mem_filter.mpr ⟨List.mem_append_right _ (List.mem_of_getElem? (i := 486) (by decide +kernel)), rfl⟩
theorem tw_487 : (Jvm.Cond.constantDouble "HearingDesk$Numbers" (23 : Nat) (4604418534313441775 : UInt64)) ∈ W0 := List.mem_filter.mpr ⟨List.mem_append_right _ (List.mem_of_getElem? (i := 487) (by decide +kernel)), rfl⟩
theorem tw_488 : (Jvm.Cond.methodLink "HearingDeskLaw" (112 : Nat) ({ cls := "HearingDeskLaw", name := "ways", desc := "(LHearingDesk;DID)I" } : Jvm.MethodName)) ∈ W0 := List.mem_filter.mpr ⟨List.mem_append_right _ (List.mem_of_getElem? (i := 488) (by decide +kernel)), rfl⟩
theorem tw_489 : (Jvm.Cond.static ({ cls := "HearingDeskLaw", name := "ways", desc := "(LHearingDesk;DID)I" } : Jvm.MethodName)) ∈ W0 := List.mem_filter.mpr ⟨List.mem_append_right _ (List.mem_of_getElem? (i := 489) (by decide +kernel)), rfl⟩
theorem tw_490 : (Jvm.Cond.codeWith ({ cls := "HearingDeskLaw", name := "ways", desc := "(LHearingDesk;DID)I" } : Jvm.MethodName) method_9_code (7 : Nat) (Option.some Jvm.ClassFile.FieldType.int) [((0 : Nat), (8 : Nat), (11 : Nat), (13 : Nat))]) ∈ W0 := List.mem_filter.mpr ⟨List.mem_append_right _ (List.mem_of_getElem? (i := 490) (by decide +kernel)), rfl⟩
theorem tw_491 : (Jvm.Cond.methodLink "HearingDeskLaw" (36 : Nat) ({ cls := "HearingDesk", name := "ways", desc := "(DID)V" } : Jvm.MethodName)) ∈ W0 := List.mem_filter.mpr ⟨List.mem_append_right _ (List.mem_of_getElem? (i := 491) (by decide +kernel)), rfl⟩
theorem tw_492 : (Jvm.Cond.instanceMethod ({ cls := "HearingDesk", name := "ways", desc := "(DID)V" } : Jvm.MethodName)) ∈ W0 := List.mem_filter.mpr ⟨List.mem_append_right _ (List.mem_of_getElem? (i := 492) (by decide +kernel)), rfl⟩
theorem tw_493 : (Jvm.Cond.selects "HearingDesk" ({ cls := "HearingDesk", name := "ways", desc := "(DID)V" } : Jvm.MethodName) ({ cls := "HearingDesk", name := "ways", desc := "(DID)V" } : Jvm.MethodName)) ∈ W0 := List.mem_filter.mpr ⟨List.mem_append_right _ (List.mem_of_getElem? (i := 493) (by decide +kernel)), rfl⟩
theorem tw_494 : (Jvm.Cond.code ({ cls := "HearingDesk", name := "ways", desc := "(DID)V" } : Jvm.MethodName) prog_1_method_10_code (6 : Nat) (Option.none : Option Jvm.ClassFile.FieldType)) ∈ W0 := List.mem_filter.mpr ⟨List.mem_append_right _ (List.mem_of_getElem? (i := 494) (by decide +kernel)), rfl⟩
theorem tw_496 : (Jvm.Cond.methodLink "HearingDeskLaw" (116 : Nat) ({ cls := "HearingDeskLaw", name := "learn", desc := "(LHearingDesk;III[J)I" } : Jvm.MethodName)) ∈ W0 := List.mem_filter.mpr ⟨List.mem_append_right _ (List.mem_of_getElem? (i := 496) (by decide +kernel)), rfl⟩
theorem tw_497 : (Jvm.Cond.static ({ cls := "HearingDeskLaw", name := "learn", desc := "(LHearingDesk;III[J)I" } : Jvm.MethodName)) ∈ W0 := List.mem_filter.mpr ⟨List.mem_append_right _ (List.mem_of_getElem? (i := 497) (by decide +kernel)), rfl⟩
theorem tw_498 : (Jvm.Cond.codeWith ({ cls := "HearingDeskLaw", name := "learn", desc := "(LHearingDesk;III[J)I" } : Jvm.MethodName) method_10_code (6 : Nat) (Option.some Jvm.ClassFile.FieldType.int) [((0 : Nat), (12 : Nat), (15 : Nat), (13 : Nat)), ((0 : Nat), (12 : Nat), (19 : Nat), (15 : Nat))]) ∈ W0 := List.mem_filter.mpr ⟨List.mem_append_right _ (List.mem_of_getElem? (i := 498) (by decide +kernel)), rfl⟩
theorem tw_499 : (Jvm.Cond.methodLink "HearingDeskLaw" (40 : Nat) ({ cls := "HearingDesk", name := "learn", desc := "(III)I" } : Jvm.MethodName)) ∈ W0 := List.mem_filter.mpr ⟨List.mem_append_right _ (List.mem_of_getElem? (i := 499) (by decide +kernel)), rfl⟩
theorem tw_500 : (Jvm.Cond.instanceMethod ({ cls := "HearingDesk", name := "learn", desc := "(III)I" } : Jvm.MethodName)) ∈ W0 := List.mem_filter.mpr ⟨List.mem_append_right _ (List.mem_of_getElem? (i := 500) (by decide +kernel)), rfl⟩
theorem tw_501 : (Jvm.Cond.selects "HearingDesk" ({ cls := "HearingDesk", name := "learn", desc := "(III)I" } : Jvm.MethodName) ({ cls := "HearingDesk", name := "learn", desc := "(III)I" } : Jvm.MethodName)) ∈ W0 := List.mem_filter.mpr ⟨List.mem_append_right _ (List.mem_of_getElem? (i := 501) (by decide +kernel)), rfl⟩
theorem tw_502 : (Jvm.Cond.code ({ cls := "HearingDesk", name := "learn", desc := "(III)I" } : Jvm.MethodName) prog_1_method_11_code (4 : Nat) (Option.some Jvm.ClassFile.FieldType.int)) ∈ W0 := List.mem_filter.mpr ⟨List.mem_append_right _ (List.mem_of_getElem? (i := 502) (by decide +kernel)), rfl⟩
theorem tw_505 : (Jvm.Cond.methodLink "HearingDesk" (159 : Nat) ({ cls := "HearingDesk$PatternBook", name := "append", desc := "(I[DII)V" } : Jvm.MethodName)) ∈ W0 := List.mem_filter.mpr ⟨List.mem_append_right _ (List.mem_of_getElem? (i := 505) (by decide +kernel)), rfl⟩
theorem tw_506 : (Jvm.Cond.instanceMethod ({ cls := "HearingDesk$PatternBook", name := "append", desc := "(I[DII)V" } : Jvm.MethodName)) ∈ W0 := List.mem_filter.mpr ⟨List.mem_append_right _ (List.mem_of_getElem? (i := 506) (by decide +kernel)), rfl⟩
theorem tw_507 : (Jvm.Cond.selects "HearingDesk$PatternBook" ({ cls := "HearingDesk$PatternBook", name := "append", desc := "(I[DII)V" } : Jvm.MethodName) ({ cls := "HearingDesk$PatternBook", name := "append", desc := "(I[DII)V" } : Jvm.MethodName)) ∈ W0 := List.mem_filter.mpr ⟨List.mem_append_right _ (List.mem_of_getElem? (i := 507) (by decide +kernel)), rfl⟩
theorem tw_508 : (Jvm.Cond.code ({ cls := "HearingDesk$PatternBook", name := "append", desc := "(I[DII)V" } : Jvm.MethodName) prog_5_method_2_code (6 : Nat) (Option.none : Option Jvm.ClassFile.FieldType)) ∈ W0 := List.mem_filter.mpr ⟨List.mem_append_right _ (List.mem_of_getElem? (i := 508) (by decide +kernel)), rfl⟩
theorem tw_509 : (Jvm.Cond.methodLink "HearingDesk$PatternBook" (35 : Nat) ({ cls := "java/lang/System", name := "arraycopy", desc := "(Ljava/lang/Object;ILjava/lang/Object;II)V" } : Jvm.MethodName)) ∈ W0 := List.mem_filter.mpr ⟨List.mem_append_right _ (List.mem_of_getElem? (i := 509) (by decide +kernel)), rfl⟩
theorem tw_510 : (Jvm.Cond.static ({ cls := "java/lang/System", name := "arraycopy", desc := "(Ljava/lang/Object;ILjava/lang/Object;II)V" } : Jvm.MethodName)) ∈ W0 := List.mem_filter.mpr ⟨List.mem_append_right _ (List.mem_of_getElem? (i := 510) (by decide +kernel)), rfl⟩
theorem tw_511 : (Jvm.Cond.native ({ cls := "java/lang/System", name := "arraycopy", desc := "(Ljava/lang/Object;ILjava/lang/Object;II)V" } : Jvm.MethodName)) ∈ W0 := List.mem_filter.mpr ⟨List.mem_append_right _ (List.mem_of_getElem? (i := 511) (by decide +kernel)), rfl⟩
theorem tw_512 : (Jvm.Cond.methodLink "HearingDeskLaw" (120 : Nat) ({ cls := "HearingDeskLaw", name := "forget", desc := "(LHearingDesk;I[J)I" } : Jvm.MethodName)) ∈ W0 := List.mem_filter.mpr ⟨List.mem_append_right _ (List.mem_of_getElem? (i := 512) (by decide +kernel)), rfl⟩
theorem tw_513 : (Jvm.Cond.static ({ cls := "HearingDeskLaw", name := "forget", desc := "(LHearingDesk;I[J)I" } : Jvm.MethodName)) ∈ W0 := List.mem_filter.mpr ⟨List.mem_append_right _ (List.mem_of_getElem? (i := 513) (by decide +kernel)), rfl⟩
theorem tw_514 : (Jvm.Cond.codeWith ({ cls := "HearingDeskLaw", name := "forget", desc := "(LHearingDesk;I[J)I" } : Jvm.MethodName) method_11_code (4 : Nat) (Option.some Jvm.ClassFile.FieldType.int) [((0 : Nat), (9 : Nat), (12 : Nat), (48 : Nat))]) ∈ W0 := List.mem_filter.mpr ⟨List.mem_append_right _ (List.mem_of_getElem? (i := 514) (by decide +kernel)), rfl⟩
theorem tw_515 : (Jvm.Cond.classLink "HearingDeskLaw" (48 : Nat) "java/util/NoSuchElementException") ∈ W0 := List.mem_filter.mpr ⟨List.mem_append_right _ (List.mem_of_getElem? (i := 515) (by decide +kernel)), rfl⟩
theorem tw_516 : (Jvm.Cond.methodLink "HearingDeskLaw" (44 : Nat) ({ cls := "HearingDesk", name := "forget", desc := "(I)I" } : Jvm.MethodName)) ∈ W0 := List.mem_filter.mpr ⟨List.mem_append_right _ (List.mem_of_getElem? (i := 516) (by decide +kernel)), rfl⟩
theorem tw_517 : (Jvm.Cond.instanceMethod ({ cls := "HearingDesk", name := "forget", desc := "(I)I" } : Jvm.MethodName)) ∈ W0 := List.mem_filter.mpr ⟨List.mem_append_right _ (List.mem_of_getElem? (i := 517) (by decide +kernel)), rfl⟩
theorem tw_518 : (Jvm.Cond.selects "HearingDesk" ({ cls := "HearingDesk", name := "forget", desc := "(I)I" } : Jvm.MethodName) ({ cls := "HearingDesk", name := "forget", desc := "(I)I" } : Jvm.MethodName)) ∈ W0 := List.mem_filter.mpr ⟨List.mem_append_right _ (List.mem_of_getElem? (i := 518) (by decide +kernel)), rfl⟩
theorem tw_519 : (Jvm.Cond.code ({ cls := "HearingDesk", name := "forget", desc := "(I)I" } : Jvm.MethodName) prog_1_method_12_code (2 : Nat) (Option.some Jvm.ClassFile.FieldType.int)) ∈ W0 := List.mem_filter.mpr ⟨List.mem_append_right _ (List.mem_of_getElem? (i := 519) (by decide +kernel)), rfl⟩
theorem tw_520 : (Jvm.Cond.classLink "HearingDesk" (162 : Nat) "java/util/NoSuchElementException") ∈ W0 := List.mem_filter.mpr ⟨List.mem_append_right _ (List.mem_of_getElem? (i := 520) (by decide +kernel)), rfl⟩
theorem tw_530 : (Jvm.Cond.methodLink "HearingDesk" (166 : Nat) ({ cls := "java/util/NoSuchElementException", name := "<init>", desc := "(Ljava/lang/String;)V" } : Jvm.MethodName)) ∈ W0 := List.mem_filter.mpr ⟨List.mem_append_right _ (List.mem_of_getElem? (i := 530) (by decide +kernel)), rfl⟩
theorem tw_536 : (Jvm.Cond.methodLink "HearingDesk" (167 : Nat) ({ cls := "HearingDesk$PatternBook", name := "takeOut", desc := "(I)I" } : Jvm.MethodName)) ∈ W0 := List.mem_filter.mpr ⟨List.mem_append_right _ (List.mem_of_getElem? (i := 536) (by decide +kernel)), rfl⟩
theorem tw_537 : (Jvm.Cond.instanceMethod ({ cls := "HearingDesk$PatternBook", name := "takeOut", desc := "(I)I" } : Jvm.MethodName)) ∈ W0 := List.mem_filter.mpr ⟨List.mem_append_right _ (List.mem_of_getElem? (i := 537) (by decide +kernel)), rfl⟩
theorem tw_538 : (Jvm.Cond.selects "HearingDesk$PatternBook" ({ cls := "HearingDesk$PatternBook", name := "takeOut", desc := "(I)I" } : Jvm.MethodName) ({ cls := "HearingDesk$PatternBook", name := "takeOut", desc := "(I)I" } : Jvm.MethodName)) ∈ W0 := List.mem_filter.mpr ⟨List.mem_append_right _ (List.mem_of_getElem? (i := 538) (by decide +kernel)), rfl⟩
theorem tw_539 : (Jvm.Cond.code ({ cls := "HearingDesk$PatternBook", name := "takeOut", desc := "(I)I" } : Jvm.MethodName) prog_5_method_3_code (4 : Nat) (Option.some Jvm.ClassFile.FieldType.int)) ∈ W0 := List.mem_filter.mpr ⟨List.mem_append_right _ (List.mem_of_getElem? (i := 539) (by decide +kernel)), rfl⟩
theorem tw_540 : (Jvm.Cond.methodLink "HearingDeskLaw" (124 : Nat) ({ cls := "HearingDeskLaw", name := "warp", desc := "(LHearingDesk;II[D)I" } : Jvm.MethodName)) ∈ W0 := List.mem_filter.mpr ⟨List.mem_append_right _ (List.mem_of_getElem? (i := 540) (by decide +kernel)), rfl⟩
theorem tw_541 : (Jvm.Cond.static ({ cls := "HearingDeskLaw", name := "warp", desc := "(LHearingDesk;II[D)I" } : Jvm.MethodName)) ∈ W0 := List.mem_filter.mpr ⟨List.mem_append_right _ (List.mem_of_getElem? (i := 541) (by decide +kernel)), rfl⟩
theorem tw_542 : (Jvm.Cond.codeWith ({ cls := "HearingDeskLaw", name := "warp", desc := "(LHearingDesk;II[D)I" } : Jvm.MethodName) method_12_code (5 : Nat) (Option.some Jvm.ClassFile.FieldType.int) [((0 : Nat), (9 : Nat), (12 : Nat), (48 : Nat))]) ∈ W0 := List.mem_filter.mpr ⟨List.mem_append_right _ (List.mem_of_getElem? (i := 542) (by decide +kernel)), rfl⟩
theorem tw_543 : (Jvm.Cond.methodLink "HearingDeskLaw" (50 : Nat) ({ cls := "HearingDesk", name := "warp", desc := "(II)D" } : Jvm.MethodName)) ∈ W0 := List.mem_filter.mpr ⟨List.mem_append_right _ (List.mem_of_getElem? (i := 543) (by decide +kernel)), rfl⟩
theorem tw_544 : (Jvm.Cond.instanceMethod ({ cls := "HearingDesk", name := "warp", desc := "(II)D" } : Jvm.MethodName)) ∈ W0 := List.mem_filter.mpr ⟨List.mem_append_right _ (List.mem_of_getElem? (i := 544) (by decide +kernel)), rfl⟩
theorem tw_545 : (Jvm.Cond.selects "HearingDesk" ({ cls := "HearingDesk", name := "warp", desc := "(II)D" } : Jvm.MethodName) ({ cls := "HearingDesk", name := "warp", desc := "(II)D" } : Jvm.MethodName)) ∈ W0 := List.mem_filter.mpr ⟨List.mem_append_right _ (List.mem_of_getElem? (i := 545) (by decide +kernel)), rfl⟩
theorem tw_546 : (Jvm.Cond.code ({ cls := "HearingDesk", name := "warp", desc := "(II)D" } : Jvm.MethodName) prog_1_method_13_code (3 : Nat) (Option.some Jvm.ClassFile.FieldType.double)) ∈ W0 := List.mem_filter.mpr ⟨List.mem_append_right _ (List.mem_of_getElem? (i := 546) (by decide +kernel)), rfl⟩
theorem tw_547 : (Jvm.Cond.methodLink "HearingDesk" (181 : Nat) ({ cls := "HearingDesk$PatternBook", name := "distance", desc := "([DIILHearingDesk$Pattern;)D" } : Jvm.MethodName)) ∈ W0 := List.mem_filter.mpr ⟨List.mem_append_right _ (List.mem_of_getElem? (i := 547) (by decide +kernel)), rfl⟩
theorem tw_548 : (Jvm.Cond.instanceMethod ({ cls := "HearingDesk$PatternBook", name := "distance", desc := "([DIILHearingDesk$Pattern;)D" } : Jvm.MethodName)) ∈ W0 := List.mem_filter.mpr ⟨List.mem_append_right _ (List.mem_of_getElem? (i := 548) (by decide +kernel)), rfl⟩
theorem tw_549 : (Jvm.Cond.selects "HearingDesk$PatternBook" ({ cls := "HearingDesk$PatternBook", name := "distance", desc := "([DIILHearingDesk$Pattern;)D" } : Jvm.MethodName) ({ cls := "HearingDesk$PatternBook", name := "distance", desc := "([DIILHearingDesk$Pattern;)D" } : Jvm.MethodName)) ∈ W0 := List.mem_filter.mpr ⟨List.mem_append_right _ (List.mem_of_getElem? (i := 549) (by decide +kernel)), rfl⟩
theorem tw_550 : (Jvm.Cond.code ({ cls := "HearingDesk$PatternBook", name := "distance", desc := "([DIILHearingDesk$Pattern;)D" } : Jvm.MethodName) prog_5_method_4_code (8 : Nat) (Option.some Jvm.ClassFile.FieldType.double)) ∈ W0 := List.mem_filter.mpr ⟨List.mem_append_right _ (List.mem_of_getElem? (i := 550) (by decide +kernel)), rfl⟩
theorem tw_551 : (Jvm.Cond.methodLink "HearingDesk$PatternBook" (41 : Nat) ({ cls := "HearingDesk$PatternBook", name := "far", desc := "([DI[DI)D" } : Jvm.MethodName)) ∈ W0 := List.mem_filter.mpr ⟨List.mem_append_right _ (List.mem_of_getElem? (i := 551) (by decide +kernel)), rfl⟩
theorem tw_552 : (Jvm.Cond.static ({ cls := "HearingDesk$PatternBook", name := "far", desc := "([DI[DI)D" } : Jvm.MethodName)) ∈ W0 := List.mem_filter.mpr ⟨List.mem_append_right _ (List.mem_of_getElem? (i := 552) (by decide +kernel)), rfl⟩
theorem tw_553 : (Jvm.Cond.code ({ cls := "HearingDesk$PatternBook", name := "far", desc := "([DI[DI)D" } : Jvm.MethodName) prog_5_method_5_code (9 : Nat) (Option.some Jvm.ClassFile.FieldType.double)) ∈ W0 := List.mem_filter.mpr ⟨List.mem_append_right _ (List.mem_of_getElem? (i := 553) (by decide +kernel)), rfl⟩
theorem tw_554 : (Jvm.Cond.methodLink "HearingDesk$PatternBook" (45 : Nat) ({ cls := "HearingDesk$PatternBook", name := "leastBefore", desc := "(II)D" } : Jvm.MethodName)) ∈ W0 := List.mem_filter.mpr ⟨List.mem_append_right _ (List.mem_of_getElem? (i := 554) (by decide +kernel)), rfl⟩
theorem tw_556 : (Jvm.Cond.instanceMethod ({ cls := "HearingDesk$PatternBook", name := "leastBefore", desc := "(II)D" } : Jvm.MethodName)) ∈ W0 := List.mem_filter.mpr ⟨List.mem_append_right _ (List.mem_of_getElem? (i := 556) (by decide +kernel)), rfl⟩
theorem tw_557 : (Jvm.Cond.code ({ cls := "HearingDesk$PatternBook", name := "leastBefore", desc := "(II)D" } : Jvm.MethodName) prog_5_method_6_code (6 : Nat) (Option.some Jvm.ClassFile.FieldType.double)) ∈ W0 := List.mem_filter.mpr ⟨List.mem_append_right _ (List.mem_of_getElem? (i := 557) (by decide +kernel)), rfl⟩
theorem tw_558 : (Jvm.Cond.methodLink "HearingDesk$PatternBook" (49 : Nat) ({ cls := "HearingDesk$PatternBook", name := "lesser", desc := "(DD)D" } : Jvm.MethodName)) ∈ W0 := List.mem_filter.mpr ⟨List.mem_append_right _ (List.mem_of_getElem? (i := 558) (by decide +kernel)), rfl⟩
theorem tw_559 : (Jvm.Cond.static ({ cls := "HearingDesk$PatternBook", name := "lesser", desc := "(DD)D" } : Jvm.MethodName)) ∈ W0 := List.mem_filter.mpr ⟨List.mem_append_right _ (List.mem_of_getElem? (i := 559) (by decide +kernel)), rfl⟩
theorem tw_560 : (Jvm.Cond.code ({ cls := "HearingDesk$PatternBook", name := "lesser", desc := "(DD)D" } : Jvm.MethodName) prog_5_method_7_code (4 : Nat) (Option.some Jvm.ClassFile.FieldType.double)) ∈ W0 := List.mem_filter.mpr ⟨List.mem_append_right _ (List.mem_of_getElem? (i := 560) (by decide +kernel)), rfl⟩
theorem tw_561 : (Jvm.Cond.methodLink "HearingDeskLaw" (127 : Nat) ({ cls := "HearingDeskLaw", name := "hear", desc := "(LHearingDesk;[J)I" } : Jvm.MethodName)) ∈ W0 := List.mem_filter.mpr ⟨List.mem_append_right _ (List.mem_of_getElem? (i := 561) (by decide +kernel)), rfl⟩
theorem tw_562 : (Jvm.Cond.static ({ cls := "HearingDeskLaw", name := "hear", desc := "(LHearingDesk;[J)I" } : Jvm.MethodName)) ∈ W0 := List.mem_filter.mpr ⟨List.mem_append_right _ (List.mem_of_getElem? (i := 562) (by decide +kernel)), rfl⟩
theorem tw_563 : (Jvm.Cond.codeWith ({ cls := "HearingDeskLaw", name := "hear", desc := "(LHearingDesk;[J)I" } : Jvm.MethodName) method_13_code (3 : Nat) (Option.some Jvm.ClassFile.FieldType.int) [((0 : Nat), (8 : Nat), (11 : Nat), (56 : Nat))]) ∈ W0 := List.mem_filter.mpr ⟨List.mem_append_right _ (List.mem_of_getElem? (i := 563) (by decide +kernel)), rfl⟩
theorem tw_564 : (Jvm.Cond.classLink "HearingDeskLaw" (56 : Nat) "java/lang/IllegalStateException") ∈ W0 := List.mem_filter.mpr ⟨List.mem_append_right _ (List.mem_of_getElem? (i := 564) (by decide +kernel)), rfl⟩
theorem tw_565 : (Jvm.Cond.methodLink "HearingDeskLaw" (53 : Nat) ({ cls := "HearingDesk", name := "hear", desc := "()I" } : Jvm.MethodName)) ∈ W0 := List.mem_filter.mpr ⟨List.mem_append_right _ (List.mem_of_getElem? (i := 565) (by decide +kernel)), rfl⟩
theorem tw_566 : (Jvm.Cond.instanceMethod ({ cls := "HearingDesk", name := "hear", desc := "()I" } : Jvm.MethodName)) ∈ W0 := List.mem_filter.mpr ⟨List.mem_append_right _ (List.mem_of_getElem? (i := 566) (by decide +kernel)), rfl⟩
theorem tw_567 : (Jvm.Cond.selects "HearingDesk" ({ cls := "HearingDesk", name := "hear", desc := "()I" } : Jvm.MethodName) ({ cls := "HearingDesk", name := "hear", desc := "()I" } : Jvm.MethodName)) ∈ W0 := List.mem_filter.mpr ⟨List.mem_append_right _ (List.mem_of_getElem? (i := 567) (by decide +kernel)), rfl⟩
theorem tw_568 : (Jvm.Cond.code ({ cls := "HearingDesk", name := "hear", desc := "()I" } : Jvm.MethodName) prog_1_method_14_code (2 : Nat) (Option.some Jvm.ClassFile.FieldType.int)) ∈ W0 := List.mem_filter.mpr ⟨List.mem_append_right _ (List.mem_of_getElem? (i := 568) (by decide +kernel)), rfl⟩
theorem tw_569 : (Jvm.Cond.classLink "HearingDesk" (185 : Nat) "java/lang/IllegalStateException") ∈ W0 := List.mem_filter.mpr ⟨List.mem_append_right _ (List.mem_of_getElem? (i := 569) (by decide +kernel)), rfl⟩
theorem tw_579 : (Jvm.Cond.methodLink "HearingDesk" (189 : Nat) ({ cls := "java/lang/IllegalStateException", name := "<init>", desc := "(Ljava/lang/String;)V" } : Jvm.MethodName)) ∈ W0 := List.mem_filter.mpr ⟨List.mem_append_right _ (List.mem_of_getElem? (i := 579) (by decide +kernel)), rfl⟩
theorem tw_585 : (Jvm.Cond.methodLink "HearingDesk" (190 : Nat) ({ cls := "HearingDesk$WordList", name := "cutOut", desc := "(LHearingDesk$Sound;DI)V" } : Jvm.MethodName)) ∈ W0 := List.mem_filter.mpr ⟨List.mem_append_right _ (List.mem_of_getElem? (i := 585) (by decide +kernel)), rfl⟩
theorem tw_586 : (Jvm.Cond.instanceMethod ({ cls := "HearingDesk$WordList", name := "cutOut", desc := "(LHearingDesk$Sound;DI)V" } : Jvm.MethodName)) ∈ W0 := List.mem_filter.mpr ⟨List.mem_append_right _ (List.mem_of_getElem? (i := 586) (by decide +kernel)), rfl⟩
theorem tw_587 : (Jvm.Cond.selects "HearingDesk$WordList" ({ cls := "HearingDesk$WordList", name := "cutOut", desc := "(LHearingDesk$Sound;DI)V" } : Jvm.MethodName) ({ cls := "HearingDesk$WordList", name := "cutOut", desc := "(LHearingDesk$Sound;DI)V" } : Jvm.MethodName)) ∈ W0 := List.mem_filter.mpr ⟨List.mem_append_right _ (List.mem_of_getElem? (i := 587) (by decide +kernel)), rfl⟩
theorem tw_588 : (Jvm.Cond.code ({ cls := "HearingDesk$WordList", name := "cutOut", desc := "(LHearingDesk$Sound;DI)V" } : Jvm.MethodName) prog_9_method_3_code (9 : Nat) (Option.none : Option Jvm.ClassFile.FieldType)) ∈ W0 := List.mem_filter.mpr ⟨List.mem_append_right _ (List.mem_of_getElem? (i := 588) (by decide +kernel)), rfl⟩
theorem tw_589 : (Jvm.Cond.methodLink "HearingDesk$WordList" (22 : Nat) ({ cls := "HearingDesk$Sound", name := "frames", desc := "()I" } : Jvm.MethodName)) ∈ W0 := List.mem_filter.mpr ⟨List.mem_append_right _ (List.mem_of_getElem? (i := 589) (by decide +kernel)), rfl⟩
theorem tw_590 : (Jvm.Cond.methodLink "HearingDesk$WordList" (28 : Nat) ({ cls := "HearingDesk$Sound", name := "loudness", desc := "(I)D" } : Jvm.MethodName)) ∈ W0 := List.mem_filter.mpr ⟨List.mem_append_right _ (List.mem_of_getElem? (i := 590) (by decide +kernel)), rfl⟩
theorem tw_591 : (Jvm.Cond.instanceMethod ({ cls := "HearingDesk$Sound", name := "loudness", desc := "(I)D" } : Jvm.MethodName)) ∈ W0 := List.mem_filter.mpr ⟨List.mem_append_right _ (List.mem_of_getElem? (i := 591) (by decide +kernel)), rfl⟩
theorem tw_592 : (Jvm.Cond.selects "HearingDesk$Sound" ({ cls := "HearingDesk$Sound", name := "loudness", desc := "(I)D" } : Jvm.MethodName) ({ cls := "HearingDesk$Sound", name := "loudness", desc := "(I)D" } : Jvm.MethodName)) ∈ W0 := List.mem_filter.mpr ⟨List.mem_append_right _ (List.mem_of_getElem? (i := 592) (by decide +kernel)), rfl⟩
theorem tw_593 : (Jvm.Cond.code ({ cls := "HearingDesk$Sound", name := "loudness", desc := "(I)D" } : Jvm.MethodName) prog_6_method_9_code (5 : Nat) (Option.some Jvm.ClassFile.FieldType.double)) ∈ W0 := List.mem_filter.mpr ⟨List.mem_append_right _ (List.mem_of_getElem? (i := 593) (by decide +kernel)), rfl⟩
theorem tw_597 : (Jvm.Cond.instanceMethod ({ cls := "HearingDesk$Word", name := "reach", desc := "(I)V" } : Jvm.MethodName)) ∈ W0 := List.mem_filter.mpr ⟨List.mem_append_right _ (List.mem_of_getElem? (i := 597) (by decide +kernel)), rfl⟩
theorem tw_598 : (Jvm.Cond.code ({ cls := "HearingDesk$Word", name := "reach", desc := "(I)V" } : Jvm.MethodName) prog_8_method_3_code (2 : Nat) (Option.none : Option Jvm.ClassFile.FieldType)) ∈ W0 := List.mem_filter.mpr ⟨List.mem_append_right _ (List.mem_of_getElem? (i := 598) (by decide +kernel)), rfl⟩
theorem tw_599 : (Jvm.Cond.methodLink "HearingDesk" (199 : Nat) ({ cls := "HearingDesk$Word", name := "recognise", desc := "(LHearingDesk$Sound;LHearingDesk$PatternBook;D)V" } : Jvm.MethodName)) ∈ W0 := List.mem_filter.mpr ⟨List.mem_append_right _ (List.mem_of_getElem? (i := 599) (by decide +kernel)), rfl⟩
theorem tw_600 : (Jvm.Cond.instanceMethod ({ cls := "HearingDesk$Word", name := "recognise", desc := "(LHearingDesk$Sound;LHearingDesk$PatternBook;D)V" } : Jvm.MethodName)) ∈ W0 := List.mem_filter.mpr ⟨List.mem_append_right _ (List.mem_of_getElem? (i := 600) (by decide +kernel)), rfl⟩
theorem tw_601 : (Jvm.Cond.selects "HearingDesk$Word" ({ cls := "HearingDesk$Word", name := "recognise", desc := "(LHearingDesk$Sound;LHearingDesk$PatternBook;D)V" } : Jvm.MethodName) ({ cls := "HearingDesk$Word", name := "recognise", desc := "(LHearingDesk$Sound;LHearingDesk$PatternBook;D)V" } : Jvm.MethodName)) ∈ W0 := List.mem_filter.mpr ⟨List.mem_append_right _ (List.mem_of_getElem? (i := 601) (by decide +kernel)), rfl⟩
theorem tw_602 : (Jvm.Cond.code ({ cls := "HearingDesk$Word", name := "recognise", desc := "(LHearingDesk$Sound;LHearingDesk$PatternBook;D)V" } : Jvm.MethodName) prog_8_method_4_code (8 : Nat) (Option.none : Option Jvm.ClassFile.FieldType)) ∈ W0 := List.mem_filter.mpr ⟨List.mem_append_right _ (List.mem_of_getElem? (i := 602) (by decide +kernel)), rfl⟩
theorem tw_603 : (Jvm.Cond.methodLink "HearingDesk$Word" (47 : Nat) ({ cls := "HearingDesk$PatternBook", name := "distance", desc := "([DIILHearingDesk$Pattern;)D" } : Jvm.MethodName)) ∈ W0 := List.mem_filter.mpr ⟨List.mem_append_right _ (List.mem_of_getElem? (i := 603) (by decide +kernel)), rfl⟩
theorem tw_604 : (Jvm.Cond.methodLink "HearingDeskLaw" (130 : Nat) ({ cls := "HearingDeskLaw", name := "word", desc := "(LHearingDesk;II[J)I" } : Jvm.MethodName)) ∈ W0 := List.mem_filter.mpr ⟨List.mem_append_right _ (List.mem_of_getElem? (i := 604) (by decide +kernel)), rfl⟩
theorem tw_605 : (Jvm.Cond.static ({ cls := "HearingDeskLaw", name := "word", desc := "(LHearingDesk;II[J)I" } : Jvm.MethodName)) ∈ W0 := List.mem_filter.mpr ⟨List.mem_append_right _ (List.mem_of_getElem? (i := 605) (by decide +kernel)), rfl⟩
theorem tw_606 : (Jvm.Cond.codeWith ({ cls := "HearingDeskLaw", name := "word", desc := "(LHearingDesk;II[J)I" } : Jvm.MethodName) method_14_code (5 : Nat) (Option.some Jvm.ClassFile.FieldType.int) [((0 : Nat), (10 : Nat), (13 : Nat), (48 : Nat)), ((0 : Nat), (10 : Nat), (17 : Nat), (13 : Nat))]) ∈ W0 := List.mem_filter.mpr ⟨List.mem_append_right _ (List.mem_of_getElem? (i := 606) (by decide +kernel)), rfl⟩
theorem tw_607 : (Jvm.Cond.methodLink "HearingDeskLaw" (58 : Nat) ({ cls := "HearingDesk", name := "word", desc := "(II)I" } : Jvm.MethodName)) ∈ W0 := List.mem_filter.mpr ⟨List.mem_append_right _ (List.mem_of_getElem? (i := 607) (by decide +kernel)), rfl⟩
theorem tw_608 : (Jvm.Cond.instanceMethod ({ cls := "HearingDesk", name := "word", desc := "(II)I" } : Jvm.MethodName)) ∈ W0 := List.mem_filter.mpr ⟨List.mem_append_right _ (List.mem_of_getElem? (i := 608) (by decide +kernel)), rfl⟩
theorem tw_609 : (Jvm.Cond.selects "HearingDesk" ({ cls := "HearingDesk", name := "word", desc := "(II)I" } : Jvm.MethodName) ({ cls := "HearingDesk", name := "word", desc := "(II)I" } : Jvm.MethodName)) ∈ W0 := List.mem_filter.mpr ⟨List.mem_append_right _ (List.mem_of_getElem? (i := 609) (by decide +kernel)), rfl⟩
theorem tw_610 : (Jvm.Cond.code ({ cls := "HearingDesk", name := "word", desc := "(II)I" } : Jvm.MethodName) prog_1_method_15_code (4 : Nat) (Option.some Jvm.ClassFile.FieldType.int)) ∈ W0 := List.mem_filter.mpr ⟨List.mem_append_right _ (List.mem_of_getElem? (i := 610) (by decide +kernel)), rfl⟩
theorem tw_612 : (Jvm.Cond.methodLink "HearingDesk" (218 : Nat) ({ cls := "HearingDesk", name := "milliseconds", desc := "(I)I" } : Jvm.MethodName)) ∈ W0 := List.mem_filter.mpr ⟨List.mem_append_right _ (List.mem_of_getElem? (i := 612) (by decide +kernel)), rfl⟩
theorem tw_614 : (Jvm.Cond.instanceMethod ({ cls := "HearingDesk", name := "milliseconds", desc := "(I)I" } : Jvm.MethodName)) ∈ W0 := List.mem_filter.mpr ⟨List.mem_append_right _ (List.mem_of_getElem? (i := 614) (by decide +kernel)), rfl⟩
theorem tw_615 : (Jvm.Cond.code ({ cls := "HearingDesk", name := "milliseconds", desc := "(I)I" } : Jvm.MethodName) prog_1_method_18_code (2 : Nat) (Option.some Jvm.ClassFile.FieldType.int)) ∈ W0 := List.mem_filter.mpr ⟨List.mem_append_right _ (List.mem_of_getElem? (i := 615) (by decide +kernel)), rfl⟩
theorem tw_617 : (Jvm.Cond.methodLink "HearingDeskLaw" (134 : Nat) ({ cls := "HearingDeskLaw", name := "cost", desc := "(LHearingDesk;I[D)I" } : Jvm.MethodName)) ∈ W0 := List.mem_filter.mpr ⟨List.mem_append_right _ (List.mem_of_getElem? (i := 617) (by decide +kernel)), rfl⟩
theorem tw_618 : (Jvm.Cond.static ({ cls := "HearingDeskLaw", name := "cost", desc := "(LHearingDesk;I[D)I" } : Jvm.MethodName)) ∈ W0 := List.mem_filter.mpr ⟨List.mem_append_right _ (List.mem_of_getElem? (i := 618) (by decide +kernel)), rfl⟩
theorem tw_619 : (Jvm.Cond.codeWith ({ cls := "HearingDeskLaw", name := "cost", desc := "(LHearingDesk;I[D)I" } : Jvm.MethodName) method_15_code (4 : Nat) (Option.some Jvm.ClassFile.FieldType.int) [((0 : Nat), (8 : Nat), (11 : Nat), (48 : Nat)), ((0 : Nat), (8 : Nat), (14 : Nat), (56 : Nat))]) ∈ W0 := List.mem_filter.mpr ⟨List.mem_append_right _ (List.mem_of_getElem? (i := 619) (by decide +kernel)), rfl⟩
theorem tw_620 : (Jvm.Cond.methodLink "HearingDeskLaw" (62 : Nat) ({ cls := "HearingDesk", name := "cost", desc := "(I)D" } : Jvm.MethodName)) ∈ W0 := List.mem_filter.mpr ⟨List.mem_append_right _ (List.mem_of_getElem? (i := 620) (by decide +kernel)), rfl⟩
theorem tw_621 : (Jvm.Cond.instanceMethod ({ cls := "HearingDesk", name := "cost", desc := "(I)D" } : Jvm.MethodName)) ∈ W0 := List.mem_filter.mpr ⟨List.mem_append_right _ (List.mem_of_getElem? (i := 621) (by decide +kernel)), rfl⟩
theorem tw_622 : (Jvm.Cond.selects "HearingDesk" ({ cls := "HearingDesk", name := "cost", desc := "(I)D" } : Jvm.MethodName) ({ cls := "HearingDesk", name := "cost", desc := "(I)D" } : Jvm.MethodName)) ∈ W0 := List.mem_filter.mpr ⟨List.mem_append_right _ (List.mem_of_getElem? (i := 622) (by decide +kernel)), rfl⟩
theorem tw_623 : (Jvm.Cond.code ({ cls := "HearingDesk", name := "cost", desc := "(I)D" } : Jvm.MethodName) prog_1_method_16_code (2 : Nat) (Option.some Jvm.ClassFile.FieldType.double)) ∈ W0 := List.mem_filter.mpr ⟨List.mem_append_right _ (List.mem_of_getElem? (i := 623) (by decide +kernel)), rfl⟩
theorem tw_625 : (Jvm.Cond.methodLink "HearingDeskLaw" (137 : Nat) ({ cls := "HearingDeskLaw", name := "count", desc := "(LHearingDesk;I[J)I" } : Jvm.MethodName)) ∈ W0 := List.mem_filter.mpr ⟨List.mem_append_right _ (List.mem_of_getElem? (i := 625) (by decide +kernel)), rfl⟩
theorem tw_626 : (Jvm.Cond.static ({ cls := "HearingDeskLaw", name := "count", desc := "(LHearingDesk;I[J)I" } : Jvm.MethodName)) ∈ W0 := List.mem_filter.mpr ⟨List.mem_append_right _ (List.mem_of_getElem? (i := 626) (by decide +kernel)), rfl⟩
theorem tw_627 : (Jvm.Cond.codeWith ({ cls := "HearingDeskLaw", name := "count", desc := "(LHearingDesk;I[J)I" } : Jvm.MethodName) method_16_code (4 : Nat) (Option.some Jvm.ClassFile.FieldType.int) [((0 : Nat), (9 : Nat), (12 : Nat), (13 : Nat))]) ∈ W0 := List.mem_filter.mpr ⟨List.mem_append_right _ (List.mem_of_getElem? (i := 627) (by decide +kernel)), rfl⟩
theorem tw_628 : (Jvm.Cond.methodLink "HearingDeskLaw" (65 : Nat) ({ cls := "HearingDesk", name := "count", desc := "(I)I" } : Jvm.MethodName)) ∈ W0 := List.mem_filter.mpr ⟨List.mem_append_right _ (List.mem_of_getElem? (i := 628) (by decide +kernel)), rfl⟩
theorem tw_629 : (Jvm.Cond.instanceMethod ({ cls := "HearingDesk", name := "count", desc := "(I)I" } : Jvm.MethodName)) ∈ W0 := List.mem_filter.mpr ⟨List.mem_append_right _ (List.mem_of_getElem? (i := 629) (by decide +kernel)), rfl⟩
theorem tw_630 : (Jvm.Cond.selects "HearingDesk" ({ cls := "HearingDesk", name := "count", desc := "(I)I" } : Jvm.MethodName) ({ cls := "HearingDesk", name := "count", desc := "(I)I" } : Jvm.MethodName)) ∈ W0 := List.mem_filter.mpr ⟨List.mem_append_right _ (List.mem_of_getElem? (i := 630) (by decide +kernel)), rfl⟩
theorem tw_631 : (Jvm.Cond.code ({ cls := "HearingDesk", name := "count", desc := "(I)I" } : Jvm.MethodName) prog_1_method_17_code (2 : Nat) (Option.some Jvm.ClassFile.FieldType.int)) ∈ W0 := List.mem_filter.mpr ⟨List.mem_append_right _ (List.mem_of_getElem? (i := 631) (by decide +kernel)), rfl⟩
theorem tw_632 : (Jvm.Cond.methodLink "HearingDesk" (228 : Nat) ({ cls := "HearingDesk", name := "loudFrames", desc := "()I" } : Jvm.MethodName)) ∈ W0 := List.mem_filter.mpr ⟨List.mem_append_right _ (List.mem_of_getElem? (i := 632) (by decide +kernel)), rfl⟩
theorem tw_634 : (Jvm.Cond.instanceMethod ({ cls := "HearingDesk", name := "loudFrames", desc := "()I" } : Jvm.MethodName)) ∈ W0 := List.mem_filter.mpr ⟨List.mem_append_right _ (List.mem_of_getElem? (i := 634) (by decide +kernel)), rfl⟩
theorem tw_635 : (Jvm.Cond.code ({ cls := "HearingDesk", name := "loudFrames", desc := "()I" } : Jvm.MethodName) prog_1_method_19_code (3 : Nat) (Option.some Jvm.ClassFile.FieldType.int)) ∈ W0 := List.mem_filter.mpr ⟨List.mem_append_right _ (List.mem_of_getElem? (i := 635) (by decide +kernel)), rfl⟩
theorem tw_636 : (Jvm.Cond.methodLink "HearingDesk" (233 : Nat) ({ cls := "HearingDesk$Sound", name := "loudness", desc := "(I)D" } : Jvm.MethodName)) ∈ W0 := List.mem_filter.mpr ⟨List.mem_append_right _ (List.mem_of_getElem? (i := 636) (by decide +kernel)), rfl⟩
theorem tw_638 : (Jvm.Cond.classLink "HearingDeskLaw" (69 : Nat) "HearingDeskModel") ∈ W0 := List.mem_filter.mpr ⟨List.mem_append_right _ (List.mem_of_getElem? (i := 638) (by decide +kernel)), rfl⟩
theorem tw_639 : (Jvm.Cond.instantiable "HearingDeskModel" (27 : Nat)) ∈ W0 := List.mem_filter.mpr ⟨List.mem_append_right _ (List.mem_of_getElem? (i := 639) (by decide +kernel)), rfl⟩
theorem tw_640 : (Jvm.Cond.methodLink "HearingDeskLaw" (71 : Nat) ({ cls := "HearingDeskModel", name := "<init>", desc := "()V" } : Jvm.MethodName)) ∈ W0 := List.mem_filter.mpr ⟨List.mem_append_right _ (List.mem_of_getElem? (i := 640) (by decide +kernel)), rfl⟩
theorem tw_641 : (Jvm.Cond.instanceMethod ({ cls := "HearingDeskModel", name := "<init>", desc := "()V" } : Jvm.MethodName)) ∈ W0 := List.mem_filter.mpr ⟨List.mem_append_right _ (List.mem_of_getElem? (i := 641) (by decide +kernel)), rfl⟩
theorem tw_642 : (Jvm.Cond.code ({ cls := "HearingDeskModel", name := "<init>", desc := "()V" } : Jvm.MethodName) prog_11_method_1_code (11 : Nat) (Option.none : Option Jvm.ClassFile.FieldType)) ∈ W0 := List.mem_filter.mpr ⟨List.mem_append_right _ (List.mem_of_getElem? (i := 642) (by decide +kernel)), rfl⟩
theorem tw_643 : (Jvm.Cond.methodLink "HearingDeskModel" (1 : Nat) ({ cls := "java/lang/Object", name := "<init>", desc := "()V" } : Jvm.MethodName)) ∈ W0 := List.mem_filter.mpr ⟨List.mem_append_right _ (List.mem_of_getElem? (i := 643) (by decide +kernel)), rfl⟩
theorem tw_644 : (Jvm.Cond.constantDouble "HearingDeskModel" (19 : Nat) (4576918229304087675 : UInt64)) ∈ W0 := List.mem_filter.mpr ⟨List.mem_append_right _ (List.mem_of_getElem? (i := 644) (by decide +kernel)), rfl⟩
theorem tw_645 : (Jvm.Cond.constantDouble "HearingDeskModel" (25 : Nat) (4616189618054758400 : UInt64)) ∈ W0 := List.mem_filter.mpr ⟨List.mem_append_right _ (List.mem_of_getElem? (i := 645) (by decide +kernel)), rfl⟩
theorem tw_646 : (Jvm.Cond.constantDouble "HearingDeskModel" (77 : Nat) (4596242258042563864 : UInt64)) ∈ W0 := List.mem_filter.mpr ⟨List.mem_append_right _ (List.mem_of_getElem? (i := 646) (by decide +kernel)), rfl⟩
theorem tw_647 : (Jvm.Cond.fieldLink "HearingDeskModel" (79 : Nat) "HearingDeskModel" "err" "I") ∈ W0 := List.mem_filter.mpr ⟨List.mem_append_right _ (List.mem_of_getElem? (i := 647) (by decide +kernel)), rfl⟩
theorem tw_648 : (Jvm.Cond.fieldLink "HearingDeskModel" (92 : Nat) "HearingDeskModel" "filed" "I") ∈ W0 := List.mem_filter.mpr ⟨List.mem_append_right _ (List.mem_of_getElem? (i := 648) (by decide +kernel)), rfl⟩
theorem tw_649 : (Jvm.Cond.fieldLink "HearingDeskModel" (7 : Nat) "HearingDeskModel" "wrongAt" "I") ∈ W0 := List.mem_filter.mpr ⟨List.mem_append_right _ (List.mem_of_getElem? (i := 649) (by decide +kernel)), rfl⟩
theorem tw_650 : (Jvm.Cond.fieldLink "HearingDeskModel" (125 : Nat) "HearingDeskModel" "samples" "I") ∈ W0 := List.mem_filter.mpr ⟨List.mem_append_right _ (List.mem_of_getElem? (i := 650) (by decide +kernel)), rfl⟩
theorem tw_651 : (Jvm.Cond.fieldLink "HearingDeskModel" (13 : Nat) "HearingDeskModel" "rate" "I") ∈ W0 := List.mem_filter.mpr ⟨List.mem_append_right _ (List.mem_of_getElem? (i := 651) (by decide +kernel)), rfl⟩
theorem tw_652 : (Jvm.Cond.fieldLink "HearingDeskModel" (169 : Nat) "HearingDeskModel" "patterns" "I") ∈ W0 := List.mem_filter.mpr ⟨List.mem_append_right _ (List.mem_of_getElem? (i := 652) (by decide +kernel)), rfl⟩
theorem tw_653 : (Jvm.Cond.fieldLink "HearingDeskModel" (128 : Nat) "HearingDeskModel" "words" "I") ∈ W0 := List.mem_filter.mpr ⟨List.mem_append_right _ (List.mem_of_getElem? (i := 653) (by decide +kernel)), rfl⟩
theorem tw_654 : (Jvm.Cond.fieldLink "HearingDeskModel" (16 : Nat) "HearingDeskModel" "gap" "I") ∈ W0 := List.mem_filter.mpr ⟨List.mem_append_right _ (List.mem_of_getElem? (i := 654) (by decide +kernel)), rfl⟩
theorem tw_655 : (Jvm.Cond.fieldLink "HearingDeskModel" (172 : Nat) "HearingDeskModel" "first" "I") ∈ W0 := List.mem_filter.mpr ⟨List.mem_append_right _ (List.mem_of_getElem? (i := 655) (by decide +kernel)), rfl⟩
theorem tw_656 : (Jvm.Cond.fieldLink "HearingDeskModel" (175 : Nat) "HearingDeskModel" "second" "I") ∈ W0 := List.mem_filter.mpr ⟨List.mem_append_right _ (List.mem_of_getElem? (i := 656) (by decide +kernel)), rfl⟩
theorem tw_657 : (Jvm.Cond.fieldLink "HearingDeskModel" (21 : Nat) "HearingDeskModel" "threshold" "D") ∈ W0 := List.mem_filter.mpr ⟨List.mem_append_right _ (List.mem_of_getElem? (i := 657) (by decide +kernel)), rfl⟩
theorem tw_658 : (Jvm.Cond.fieldLink "HearingDeskModel" (27 : Nat) "HearingDeskModel" "limit" "D") ∈ W0 := List.mem_filter.mpr ⟨List.mem_append_right _ (List.mem_of_getElem? (i := 658) (by decide +kernel)), rfl⟩
theorem tw_659 : (Jvm.Cond.fieldLink "HearingDeskModel" (30 : Nat) "HearingDeskModel" "file" "[I") ∈ W0 := List.mem_filter.mpr ⟨List.mem_append_right _ (List.mem_of_getElem? (i := 659) (by decide +kernel)), rfl⟩
theorem tw_660 : (Jvm.Cond.fieldLink "HearingDeskModel" (34 : Nat) "HearingDeskModel" "letter" "[I") ∈ W0 := List.mem_filter.mpr ⟨List.mem_append_right _ (List.mem_of_getElem? (i := 660) (by decide +kernel)), rfl⟩
theorem tw_661 : (Jvm.Cond.fieldLink "HearingDeskModel" (37 : Nat) "HearingDeskModel" "rows" "[I") ∈ W0 := List.mem_filter.mpr ⟨List.mem_append_right _ (List.mem_of_getElem? (i := 661) (by decide +kernel)), rfl⟩
theorem tw_662 : (Jvm.Cond.fieldLink "HearingDeskModel" (40 : Nat) "HearingDeskModel" "wordLetter" "[I") ∈ W0 := List.mem_filter.mpr ⟨List.mem_append_right _ (List.mem_of_getElem? (i := 662) (by decide +kernel)), rfl⟩
theorem tw_663 : (Jvm.Cond.fieldLink "HearingDeskModel" (43 : Nat) "HearingDeskModel" "wordFirst" "[I") ∈ W0 := List.mem_filter.mpr ⟨List.mem_append_right _ (List.mem_of_getElem? (i := 663) (by decide +kernel)), rfl⟩
theorem tw_664 : (Jvm.Cond.fieldLink "HearingDeskModel" (46 : Nat) "HearingDeskModel" "wordSize" "[I") ∈ W0 := List.mem_filter.mpr ⟨List.mem_append_right _ (List.mem_of_getElem? (i := 664) (by decide +kernel)), rfl⟩
theorem tw_665 : (Jvm.Cond.fieldLink "HearingDeskModel" (49 : Nat) "HearingDeskModel" "wordPattern" "[I") ∈ W0 := List.mem_filter.mpr ⟨List.mem_append_right _ (List.mem_of_getElem? (i := 665) (by decide +kernel)), rfl⟩
theorem tw_666 : (Jvm.Cond.fieldLink "HearingDeskModel" (52 : Nat) "HearingDeskModel" "sample" "[D") ∈ W0 := List.mem_filter.mpr ⟨List.mem_append_right _ (List.mem_of_getElem? (i := 666) (by decide +kernel)), rfl⟩
theorem tw_667 : (Jvm.Cond.fieldLink "HearingDeskModel" (56 : Nat) "HearingDeskModel" "levels" "[D") ∈ W0 := List.mem_filter.mpr ⟨List.mem_append_right _ (List.mem_of_getElem? (i := 667) (by decide +kernel)), rfl⟩
theorem tw_668 : (Jvm.Cond.fieldLink "HearingDeskModel" (59 : Nat) "HearingDeskModel" "wordCost" "[D") ∈ W0 := List.mem_filter.mpr ⟨List.mem_append_right _ (List.mem_of_getElem? (i := 668) (by decide +kernel)), rfl⟩
theorem tw_669 : (Jvm.Cond.fieldLink "HearingDeskModel" (62 : Nat) "HearingDeskModel" "one" "[D") ∈ W0 := List.mem_filter.mpr ⟨List.mem_append_right _ (List.mem_of_getElem? (i := 669) (by decide +kernel)), rfl⟩
theorem tw_670 : (Jvm.Cond.fieldLink "HearingDeskModel" (65 : Nat) "HearingDeskModel" "two" "[D") ∈ W0 := List.mem_filter.mpr ⟨List.mem_append_right _ (List.mem_of_getElem? (i := 670) (by decide +kernel)), rfl⟩
theorem tw_671 : (Jvm.Cond.fieldLink "HearingDeskModel" (68 : Nat) "HearingDeskModel" "way" "[D") ∈ W0 := List.mem_filter.mpr ⟨List.mem_append_right _ (List.mem_of_getElem? (i := 671) (by decide +kernel)), rfl⟩
theorem tw_672 : (Jvm.Cond.fieldLink "HearingDeskModel" (71 : Nat) "HearingDeskModel" "cosines" "[D") ∈ W0 := List.mem_filter.mpr ⟨List.mem_append_right _ (List.mem_of_getElem? (i := 672) (by decide +kernel)), rfl⟩
theorem tw_673 : (Jvm.Cond.fieldLink "HearingDeskModel" (74 : Nat) "HearingDeskModel" "sines" "[D") ∈ W0 := List.mem_filter.mpr ⟨List.mem_append_right _ (List.mem_of_getElem? (i := 673) (by decide +kernel)), rfl⟩
theorem tw_674 : (Jvm.Cond.lays "HearingDeskModel" "HearingDeskModel" "err" "I") ∈ W0 := List.mem_filter.mpr ⟨List.mem_append_right _ (List.mem_of_getElem? (i := 674) (by decide +kernel)), rfl⟩
theorem tw_676 : (Jvm.Cond.lays "HearingDeskModel" "HearingDeskModel" "filed" "I") ∈ W0 := List.mem_filter.mpr ⟨List.mem_append_right _ (List.mem_of_getElem? (i := 676) (by decide +kernel)), rfl⟩
theorem tw_678 : (Jvm.Cond.lays "HearingDeskModel" "HearingDeskModel" "wrongAt" "I") ∈ W0 := List.mem_filter.mpr ⟨List.mem_append_right _ (List.mem_of_getElem? (i := 678) (by decide +kernel)), rfl⟩
theorem tw_680 : (Jvm.Cond.lays "HearingDeskModel" "HearingDeskModel" "samples" "I") ∈ W0 := List.mem_filter.mpr ⟨List.mem_append_right _ (List.mem_of_getElem? (i := 680) (by decide +kernel)), rfl⟩
theorem tw_682 : (Jvm.Cond.lays "HearingDeskModel" "HearingDeskModel" "rate" "I") ∈ W0 := List.mem_filter.mpr ⟨List.mem_append_right _ (List.mem_of_getElem? (i := 682) (by decide +kernel)), rfl⟩
theorem tw_684 : (Jvm.Cond.lays "HearingDeskModel" "HearingDeskModel" "patterns" "I") ∈ W0 := List.mem_filter.mpr ⟨List.mem_append_right _ (List.mem_of_getElem? (i := 684) (by decide +kernel)), rfl⟩
theorem tw_686 : (Jvm.Cond.lays "HearingDeskModel" "HearingDeskModel" "words" "I") ∈ W0 := List.mem_filter.mpr ⟨List.mem_append_right _ (List.mem_of_getElem? (i := 686) (by decide +kernel)), rfl⟩
theorem tw_688 : (Jvm.Cond.lays "HearingDeskModel" "HearingDeskModel" "gap" "I") ∈ W0 := List.mem_filter.mpr ⟨List.mem_append_right _ (List.mem_of_getElem? (i := 688) (by decide +kernel)), rfl⟩
theorem tw_690 : (Jvm.Cond.lays "HearingDeskModel" "HearingDeskModel" "first" "I") ∈ W0 := List.mem_filter.mpr ⟨List.mem_append_right _ (List.mem_of_getElem? (i := 690) (by decide +kernel)), rfl⟩
theorem tw_692 : (Jvm.Cond.lays "HearingDeskModel" "HearingDeskModel" "second" "I") ∈ W0 := List.mem_filter.mpr ⟨List.mem_append_right _ (List.mem_of_getElem? (i := 692) (by decide +kernel)), rfl⟩
theorem tw_694 : (Jvm.Cond.lays "HearingDeskModel" "HearingDeskModel" "threshold" "D") ∈ W0 := List.mem_filter.mpr ⟨List.mem_append_right _ (List.mem_of_getElem? (i := 694) (by decide +kernel)), rfl⟩
theorem tw_696 : (Jvm.Cond.lays "HearingDeskModel" "HearingDeskModel" "limit" "D") ∈ W0 := List.mem_filter.mpr ⟨List.mem_append_right _ (List.mem_of_getElem? (i := 696) (by decide +kernel)), rfl⟩
theorem tw_698 : (Jvm.Cond.laysFinal "HearingDeskModel" "HearingDeskModel" "file" "[I") ∈ W0 := List.mem_filter.mpr ⟨List.mem_append_right _ (List.mem_of_getElem? (i := 698) (by decide +kernel)), rfl⟩
theorem tw_700 : (Jvm.Cond.laysFinal "HearingDeskModel" "HearingDeskModel" "letter" "[I") ∈ W0 := List.mem_filter.mpr ⟨List.mem_append_right _ (List.mem_of_getElem? (i := 700) (by decide +kernel)), rfl⟩
theorem tw_702 : (Jvm.Cond.laysFinal "HearingDeskModel" "HearingDeskModel" "rows" "[I") ∈ W0 := List.mem_filter.mpr ⟨List.mem_append_right _ (List.mem_of_getElem? (i := 702) (by decide +kernel)), rfl⟩
theorem tw_704 : (Jvm.Cond.laysFinal "HearingDeskModel" "HearingDeskModel" "wordLetter" "[I") ∈ W0 := List.mem_filter.mpr ⟨List.mem_append_right _ (List.mem_of_getElem? (i := 704) (by decide +kernel)), rfl⟩
theorem tw_706 : (Jvm.Cond.laysFinal "HearingDeskModel" "HearingDeskModel" "wordFirst" "[I") ∈ W0 := List.mem_filter.mpr ⟨List.mem_append_right _ (List.mem_of_getElem? (i := 706) (by decide +kernel)), rfl⟩
theorem tw_708 : (Jvm.Cond.laysFinal "HearingDeskModel" "HearingDeskModel" "wordSize" "[I") ∈ W0 := List.mem_filter.mpr ⟨List.mem_append_right _ (List.mem_of_getElem? (i := 708) (by decide +kernel)), rfl⟩
theorem tw_710 : (Jvm.Cond.laysFinal "HearingDeskModel" "HearingDeskModel" "wordPattern" "[I") ∈ W0 := List.mem_filter.mpr ⟨List.mem_append_right _ (List.mem_of_getElem? (i := 710) (by decide +kernel)), rfl⟩
theorem tw_712 : (Jvm.Cond.laysFinal "HearingDeskModel" "HearingDeskModel" "sample" "[D") ∈ W0 := List.mem_filter.mpr ⟨List.mem_append_right _ (List.mem_of_getElem? (i := 712) (by decide +kernel)), rfl⟩
theorem tw_714 : (Jvm.Cond.laysFinal "HearingDeskModel" "HearingDeskModel" "levels" "[D") ∈ W0 := List.mem_filter.mpr ⟨List.mem_append_right _ (List.mem_of_getElem? (i := 714) (by decide +kernel)), rfl⟩
theorem tw_716 : (Jvm.Cond.laysFinal "HearingDeskModel" "HearingDeskModel" "wordCost" "[D") ∈ W0 := List.mem_filter.mpr ⟨List.mem_append_right _ (List.mem_of_getElem? (i := 716) (by decide +kernel)), rfl⟩
theorem tw_718 : (Jvm.Cond.laysFinal "HearingDeskModel" "HearingDeskModel" "one" "[D") ∈ W0 := List.mem_filter.mpr ⟨List.mem_append_right _ (List.mem_of_getElem? (i := 718) (by decide +kernel)), rfl⟩
theorem tw_720 : (Jvm.Cond.laysFinal "HearingDeskModel" "HearingDeskModel" "two" "[D") ∈ W0 := List.mem_filter.mpr ⟨List.mem_append_right _ (List.mem_of_getElem? (i := 720) (by decide +kernel)), rfl⟩
theorem tw_722 : (Jvm.Cond.laysFinal "HearingDeskModel" "HearingDeskModel" "way" "[D") ∈ W0 := List.mem_filter.mpr ⟨List.mem_append_right _ (List.mem_of_getElem? (i := 722) (by decide +kernel)), rfl⟩
theorem tw_724 : (Jvm.Cond.laysFinal "HearingDeskModel" "HearingDeskModel" "cosines" "[D") ∈ W0 := List.mem_filter.mpr ⟨List.mem_append_right _ (List.mem_of_getElem? (i := 724) (by decide +kernel)), rfl⟩
theorem tw_726 : (Jvm.Cond.laysFinal "HearingDeskModel" "HearingDeskModel" "sines" "[D") ∈ W0 := List.mem_filter.mpr ⟨List.mem_append_right _ (List.mem_of_getElem? (i := 726) (by decide +kernel)), rfl⟩
theorem tw_729 : (Jvm.Cond.methodLink "HearingDeskLaw" (80 : Nat) ({ cls := "HearingDeskModel", name := "thrown", desc := "()I" } : Jvm.MethodName)) ∈ W0 := List.mem_filter.mpr ⟨List.mem_append_right _ (List.mem_of_getElem? (i := 729) (by decide +kernel)), rfl⟩
theorem tw_730 : (Jvm.Cond.instanceMethod ({ cls := "HearingDeskModel", name := "thrown", desc := "()I" } : Jvm.MethodName)) ∈ W0 := List.mem_filter.mpr ⟨List.mem_append_right _ (List.mem_of_getElem? (i := 730) (by decide +kernel)), rfl⟩
theorem tw_731 : (Jvm.Cond.selects "HearingDeskModel" ({ cls := "HearingDeskModel", name := "thrown", desc := "()I" } : Jvm.MethodName) ({ cls := "HearingDeskModel", name := "thrown", desc := "()I" } : Jvm.MethodName)) ∈ W0 := List.mem_filter.mpr ⟨List.mem_append_right _ (List.mem_of_getElem? (i := 731) (by decide +kernel)), rfl⟩
theorem tw_732 : (Jvm.Cond.code ({ cls := "HearingDeskModel", name := "thrown", desc := "()I" } : Jvm.MethodName) prog_11_method_2_code (1 : Nat) (Option.some Jvm.ClassFile.FieldType.int)) ∈ W0 := List.mem_filter.mpr ⟨List.mem_append_right _ (List.mem_of_getElem? (i := 732) (by decide +kernel)), rfl⟩
theorem tw_733 : (Jvm.Cond.methodLink "HearingDeskLaw" (79 : Nat) ({ cls := "HearingDeskModel", name := "octets", desc := "(IJ)I" } : Jvm.MethodName)) ∈ W0 := List.mem_filter.mpr ⟨List.mem_append_right _ (List.mem_of_getElem? (i := 733) (by decide +kernel)), rfl⟩
theorem tw_734 : (Jvm.Cond.instanceMethod ({ cls := "HearingDeskModel", name := "octets", desc := "(IJ)I" } : Jvm.MethodName)) ∈ W0 := List.mem_filter.mpr ⟨List.mem_append_right _ (List.mem_of_getElem? (i := 734) (by decide +kernel)), rfl⟩
theorem tw_735 : (Jvm.Cond.selects "HearingDeskModel" ({ cls := "HearingDeskModel", name := "octets", desc := "(IJ)I" } : Jvm.MethodName) ({ cls := "HearingDeskModel", name := "octets", desc := "(IJ)I" } : Jvm.MethodName)) ∈ W0 := List.mem_filter.mpr ⟨List.mem_append_right _ (List.mem_of_getElem? (i := 735) (by decide +kernel)), rfl⟩
theorem tw_736 : (Jvm.Cond.code ({ cls := "HearingDeskModel", name := "octets", desc := "(IJ)I" } : Jvm.MethodName) prog_11_method_5_code (5 : Nat) (Option.some Jvm.ClassFile.FieldType.int)) ∈ W0 := List.mem_filter.mpr ⟨List.mem_append_right _ (List.mem_of_getElem? (i := 736) (by decide +kernel)), rfl⟩
theorem tw_737 : (Jvm.Cond.constantLong "HearingDeskModel" (82 : Nat) (8 : Int64)) ∈ W0 := List.mem_filter.mpr ⟨List.mem_append_right _ (List.mem_of_getElem? (i := 737) (by decide +kernel)), rfl⟩
theorem tw_738 : (Jvm.Cond.methodLink "HearingDeskModel" (84 : Nat) ({ cls := "HearingDeskModel", name := "in", desc := "(JJJ)Z" } : Jvm.MethodName)) ∈ W0 := List.mem_filter.mpr ⟨List.mem_append_right _ (List.mem_of_getElem? (i := 738) (by decide +kernel)), rfl⟩
theorem tw_739 : (Jvm.Cond.static ({ cls := "HearingDeskModel", name := "in", desc := "(JJJ)Z" } : Jvm.MethodName)) ∈ W0 := List.mem_filter.mpr ⟨List.mem_append_right _ (List.mem_of_getElem? (i := 739) (by decide +kernel)), rfl⟩
theorem tw_740 : (Jvm.Cond.code ({ cls := "HearingDeskModel", name := "in", desc := "(JJJ)Z" } : Jvm.MethodName) prog_11_method_3_code (6 : Nat) (Option.some Jvm.ClassFile.FieldType.boolean)) ∈ W0 := List.mem_filter.mpr ⟨List.mem_append_right _ (List.mem_of_getElem? (i := 740) (by decide +kernel)), rfl⟩
theorem tw_741 : (Jvm.Cond.methodLink "HearingDeskModel" (88 : Nat) ({ cls := "HearingDeskModel", name := "fails", desc := "(ZI)Z" } : Jvm.MethodName)) ∈ W0 := List.mem_filter.mpr ⟨List.mem_append_right _ (List.mem_of_getElem? (i := 741) (by decide +kernel)), rfl⟩
theorem tw_743 : (Jvm.Cond.instanceMethod ({ cls := "HearingDeskModel", name := "fails", desc := "(ZI)Z" } : Jvm.MethodName)) ∈ W0 := List.mem_filter.mpr ⟨List.mem_append_right _ (List.mem_of_getElem? (i := 743) (by decide +kernel)), rfl⟩
theorem tw_744 : (Jvm.Cond.code ({ cls := "HearingDeskModel", name := "fails", desc := "(ZI)Z" } : Jvm.MethodName) prog_11_method_4_code (3 : Nat) (Option.some Jvm.ClassFile.FieldType.boolean)) ∈ W0 := List.mem_filter.mpr ⟨List.mem_append_right _ (List.mem_of_getElem? (i := 744) (by decide +kernel)), rfl⟩
theorem tw_745 : (Jvm.Cond.constantLong "HearingDeskModel" (95 : Nat) (255 : Int64)) ∈ W0 := List.mem_filter.mpr ⟨List.mem_append_right _ (List.mem_of_getElem? (i := 745) (by decide +kernel)), rfl⟩
theorem tw_746 : (Jvm.Cond.methodLink "HearingDeskLaw" (86 : Nat) ({ cls := "HearingDeskModel", name := "read", desc := "()I" } : Jvm.MethodName)) ∈ W0 := List.mem_filter.mpr ⟨List.mem_append_right _ (List.mem_of_getElem? (i := 746) (by decide +kernel)), rfl⟩
theorem tw_747 : (Jvm.Cond.instanceMethod ({ cls := "HearingDeskModel", name := "read", desc := "()I" } : Jvm.MethodName)) ∈ W0 := List.mem_filter.mpr ⟨List.mem_append_right _ (List.mem_of_getElem? (i := 747) (by decide +kernel)), rfl⟩
theorem tw_748 : (Jvm.Cond.selects "HearingDeskModel" ({ cls := "HearingDeskModel", name := "read", desc := "()I" } : Jvm.MethodName) ({ cls := "HearingDeskModel", name := "read", desc := "()I" } : Jvm.MethodName)) ∈ W0 := List.mem_filter.mpr ⟨List.mem_append_right _ (List.mem_of_getElem? (i := 748) (by decide +kernel)), rfl⟩
theorem tw_749 : (Jvm.Cond.code ({ cls := "HearingDeskModel", name := "read", desc := "()I" } : Jvm.MethodName) prog_11_method_10_code (8 : Nat) (Option.some Jvm.ClassFile.FieldType.int)) ∈ W0 := List.mem_filter.mpr ⟨List.mem_append_right _ (List.mem_of_getElem? (i := 749) (by decide +kernel)), rfl⟩
theorem tw_750 : (Jvm.Cond.methodLink "HearingDeskModel" (115 : Nat) ({ cls := "HearingDeskModel", name := "wrong", desc := "()I" } : Jvm.MethodName)) ∈ W0 := List.mem_filter.mpr ⟨List.mem_append_right _ (List.mem_of_getElem? (i := 750) (by decide +kernel)), rfl⟩
theorem tw_752 : (Jvm.Cond.instanceMethod ({ cls := "HearingDeskModel", name := "wrong", desc := "()I" } : Jvm.MethodName)) ∈ W0 := List.mem_filter.mpr ⟨List.mem_append_right _ (List.mem_of_getElem? (i := 752) (by decide +kernel)), rfl⟩
theorem tw_753 : (Jvm.Cond.code ({ cls := "HearingDeskModel", name := "wrong", desc := "()I" } : Jvm.MethodName) prog_11_method_8_code (9 : Nat) (Option.some Jvm.ClassFile.FieldType.int)) ∈ W0 := List.mem_filter.mpr ⟨List.mem_append_right _ (List.mem_of_getElem? (i := 753) (by decide +kernel)), rfl⟩
theorem tw_754 : (Jvm.Cond.methodLink "HearingDeskModel" (97 : Nat) ({ cls := "HearingDeskModel", name := "number", desc := "(II)J" } : Jvm.MethodName)) ∈ W0 := List.mem_filter.mpr ⟨List.mem_append_right _ (List.mem_of_getElem? (i := 754) (by decide +kernel)), rfl⟩
theorem tw_756 : (Jvm.Cond.instanceMethod ({ cls := "HearingDeskModel", name := "number", desc := "(II)J" } : Jvm.MethodName)) ∈ W0 := List.mem_filter.mpr ⟨List.mem_append_right _ (List.mem_of_getElem? (i := 756) (by decide +kernel)), rfl⟩
theorem tw_757 : (Jvm.Cond.code ({ cls := "HearingDeskModel", name := "number", desc := "(II)J" } : Jvm.MethodName) prog_11_method_6_code (6 : Nat) (Option.some Jvm.ClassFile.FieldType.long)) ∈ W0 := List.mem_filter.mpr ⟨List.mem_append_right _ (List.mem_of_getElem? (i := 757) (by decide +kernel)), rfl⟩
theorem tw_758 : (Jvm.Cond.methodLink "HearingDeskModel" (101 : Nat) ({ cls := "HearingDeskModel", name := "spells", desc := "(IIIII)Z" } : Jvm.MethodName)) ∈ W0 := List.mem_filter.mpr ⟨List.mem_append_right _ (List.mem_of_getElem? (i := 758) (by decide +kernel)), rfl⟩
theorem tw_760 : (Jvm.Cond.instanceMethod ({ cls := "HearingDeskModel", name := "spells", desc := "(IIIII)Z" } : Jvm.MethodName)) ∈ W0 := List.mem_filter.mpr ⟨List.mem_append_right _ (List.mem_of_getElem? (i := 760) (by decide +kernel)), rfl⟩
theorem tw_761 : (Jvm.Cond.code ({ cls := "HearingDeskModel", name := "spells", desc := "(IIIII)Z" } : Jvm.MethodName) prog_11_method_7_code (6 : Nat) (Option.some Jvm.ClassFile.FieldType.boolean)) ∈ W0 := List.mem_filter.mpr ⟨List.mem_append_right _ (List.mem_of_getElem? (i := 761) (by decide +kernel)), rfl⟩
theorem tw_762 : (Jvm.Cond.constantLong "HearingDeskModel" (105 : Nat) (16 : Int64)) ∈ W0 := List.mem_filter.mpr ⟨List.mem_append_right _ (List.mem_of_getElem? (i := 762) (by decide +kernel)), rfl⟩
theorem tw_763 : (Jvm.Cond.constantLong "HearingDeskModel" (107 : Nat) (2 : Int64)) ∈ W0 := List.mem_filter.mpr ⟨List.mem_append_right _ (List.mem_of_getElem? (i := 763) (by decide +kernel)), rfl⟩
theorem tw_764 : (Jvm.Cond.constantLong "HearingDeskModel" (109 : Nat) (1000 : Int64)) ∈ W0 := List.mem_filter.mpr ⟨List.mem_append_right _ (List.mem_of_getElem? (i := 764) (by decide +kernel)), rfl⟩
theorem tw_765 : (Jvm.Cond.constantLong "HearingDeskModel" (111 : Nat) (48000 : Int64)) ∈ W0 := List.mem_filter.mpr ⟨List.mem_append_right _ (List.mem_of_getElem? (i := 765) (by decide +kernel)), rfl⟩
theorem tw_766 : (Jvm.Cond.methodLink "HearingDeskModel" (119 : Nat) ({ cls := "HearingDeskModel", name := "heard", desc := "(II)D" } : Jvm.MethodName)) ∈ W0 := List.mem_filter.mpr ⟨List.mem_append_right _ (List.mem_of_getElem? (i := 766) (by decide +kernel)), rfl⟩
theorem tw_768 : (Jvm.Cond.instanceMethod ({ cls := "HearingDeskModel", name := "heard", desc := "(II)D" } : Jvm.MethodName)) ∈ W0 := List.mem_filter.mpr ⟨List.mem_append_right _ (List.mem_of_getElem? (i := 768) (by decide +kernel)), rfl⟩
theorem tw_769 : (Jvm.Cond.code ({ cls := "HearingDeskModel", name := "heard", desc := "(II)D" } : Jvm.MethodName) prog_11_method_9_code (4 : Nat) (Option.some Jvm.ClassFile.FieldType.double)) ∈ W0 := List.mem_filter.mpr ⟨List.mem_append_right _ (List.mem_of_getElem? (i := 769) (by decide +kernel)), rfl⟩
theorem tw_770 : (Jvm.Cond.constantDouble "HearingDeskModel" (113 : Nat) (4674736413210574848 : UInt64)) ∈ W0 := List.mem_filter.mpr ⟨List.mem_append_right _ (List.mem_of_getElem? (i := 770) (by decide +kernel)), rfl⟩
theorem tw_771 : (Jvm.Cond.constantDouble "HearingDeskModel" (123 : Nat) (4611686018427387904 : UInt64)) ∈ W0 := List.mem_filter.mpr ⟨List.mem_append_right _ (List.mem_of_getElem? (i := 771) (by decide +kernel)), rfl⟩
theorem tw_772 : (Jvm.Cond.methodLink "HearingDeskLaw" (90 : Nat) ({ cls := "HearingDeskModel", name := "place", desc := "()I" } : Jvm.MethodName)) ∈ W0 := List.mem_filter.mpr ⟨List.mem_append_right _ (List.mem_of_getElem? (i := 772) (by decide +kernel)), rfl⟩
theorem tw_773 : (Jvm.Cond.instanceMethod ({ cls := "HearingDeskModel", name := "place", desc := "()I" } : Jvm.MethodName)) ∈ W0 := List.mem_filter.mpr ⟨List.mem_append_right _ (List.mem_of_getElem? (i := 773) (by decide +kernel)), rfl⟩
theorem tw_774 : (Jvm.Cond.selects "HearingDeskModel" ({ cls := "HearingDeskModel", name := "place", desc := "()I" } : Jvm.MethodName) ({ cls := "HearingDeskModel", name := "place", desc := "()I" } : Jvm.MethodName)) ∈ W0 := List.mem_filter.mpr ⟨List.mem_append_right _ (List.mem_of_getElem? (i := 774) (by decide +kernel)), rfl⟩
theorem tw_775 : (Jvm.Cond.code ({ cls := "HearingDeskModel", name := "place", desc := "()I" } : Jvm.MethodName) prog_11_method_11_code (1 : Nat) (Option.some Jvm.ClassFile.FieldType.int)) ∈ W0 := List.mem_filter.mpr ⟨List.mem_append_right _ (List.mem_of_getElem? (i := 775) (by decide +kernel)), rfl⟩
theorem tw_776 : (Jvm.Cond.methodLink "HearingDeskLaw" (96 : Nat) ({ cls := "HearingDeskModel", name := "wave", desc := "(IID)I" } : Jvm.MethodName)) ∈ W0 := List.mem_filter.mpr ⟨List.mem_append_right _ (List.mem_of_getElem? (i := 776) (by decide +kernel)), rfl⟩
theorem tw_777 : (Jvm.Cond.instanceMethod ({ cls := "HearingDeskModel", name := "wave", desc := "(IID)I" } : Jvm.MethodName)) ∈ W0 := List.mem_filter.mpr ⟨List.mem_append_right _ (List.mem_of_getElem? (i := 777) (by decide +kernel)), rfl⟩
theorem tw_778 : (Jvm.Cond.selects "HearingDeskModel" ({ cls := "HearingDeskModel", name := "wave", desc := "(IID)I" } : Jvm.MethodName) ({ cls := "HearingDeskModel", name := "wave", desc := "(IID)I" } : Jvm.MethodName)) ∈ W0 := List.mem_filter.mpr ⟨List.mem_append_right _ (List.mem_of_getElem? (i := 778) (by decide +kernel)), rfl⟩
theorem tw_779 : (Jvm.Cond.code ({ cls := "HearingDeskModel", name := "wave", desc := "(IID)I" } : Jvm.MethodName) prog_11_method_12_code (6 : Nat) (Option.some Jvm.ClassFile.FieldType.int)) ∈ W0 := List.mem_filter.mpr ⟨List.mem_append_right _ (List.mem_of_getElem? (i := 779) (by decide +kernel)), rfl⟩
theorem tw_780 : (Jvm.Cond.constantLong "HearingDeskModel" (131 : Nat) (64 : Int64)) ∈ W0 := List.mem_filter.mpr ⟨List.mem_append_right _ (List.mem_of_getElem? (i := 780) (by decide +kernel)), rfl⟩
theorem tw_781 : (Jvm.Cond.constantLong "HearingDeskModel" (133 : Nat) (31 : Int64)) ∈ W0 := List.mem_filter.mpr ⟨List.mem_append_right _ (List.mem_of_getElem? (i := 781) (by decide +kernel)), rfl⟩
theorem tw_782 : (Jvm.Cond.methodLink "HearingDeskLaw" (100 : Nat) ({ cls := "HearingDeskModel", name := "clear", desc := "()I" } : Jvm.MethodName)) ∈ W0 := List.mem_filter.mpr ⟨List.mem_append_right _ (List.mem_of_getElem? (i := 782) (by decide +kernel)), rfl⟩
theorem tw_783 : (Jvm.Cond.instanceMethod ({ cls := "HearingDeskModel", name := "clear", desc := "()I" } : Jvm.MethodName)) ∈ W0 := List.mem_filter.mpr ⟨List.mem_append_right _ (List.mem_of_getElem? (i := 783) (by decide +kernel)), rfl⟩
theorem tw_784 : (Jvm.Cond.selects "HearingDeskModel" ({ cls := "HearingDeskModel", name := "clear", desc := "()I" } : Jvm.MethodName) ({ cls := "HearingDeskModel", name := "clear", desc := "()I" } : Jvm.MethodName)) ∈ W0 := List.mem_filter.mpr ⟨List.mem_append_right _ (List.mem_of_getElem? (i := 784) (by decide +kernel)), rfl⟩
theorem tw_785 : (Jvm.Cond.code ({ cls := "HearingDeskModel", name := "clear", desc := "()I" } : Jvm.MethodName) prog_11_method_13_code (2 : Nat) (Option.some Jvm.ClassFile.FieldType.int)) ∈ W0 := List.mem_filter.mpr ⟨List.mem_append_right _ (List.mem_of_getElem? (i := 785) (by decide +kernel)), rfl⟩
theorem tw_786 : (Jvm.Cond.methodLink "HearingDeskLaw" (104 : Nat) ({ cls := "HearingDeskModel", name := "sample", desc := "(I)D" } : Jvm.MethodName)) ∈ W0 := List.mem_filter.mpr ⟨List.mem_append_right _ (List.mem_of_getElem? (i := 786) (by decide +kernel)), rfl⟩
theorem tw_787 : (Jvm.Cond.instanceMethod ({ cls := "HearingDeskModel", name := "sample", desc := "(I)D" } : Jvm.MethodName)) ∈ W0 := List.mem_filter.mpr ⟨List.mem_append_right _ (List.mem_of_getElem? (i := 787) (by decide +kernel)), rfl⟩
theorem tw_788 : (Jvm.Cond.selects "HearingDeskModel" ({ cls := "HearingDeskModel", name := "sample", desc := "(I)D" } : Jvm.MethodName) ({ cls := "HearingDeskModel", name := "sample", desc := "(I)D" } : Jvm.MethodName)) ∈ W0 := List.mem_filter.mpr ⟨List.mem_append_right _ (List.mem_of_getElem? (i := 788) (by decide +kernel)), rfl⟩
theorem tw_789 : (Jvm.Cond.code ({ cls := "HearingDeskModel", name := "sample", desc := "(I)D" } : Jvm.MethodName) prog_11_method_14_code (2 : Nat) (Option.some Jvm.ClassFile.FieldType.double)) ∈ W0 := List.mem_filter.mpr ⟨List.mem_append_right _ (List.mem_of_getElem? (i := 789) (by decide +kernel)), rfl⟩
theorem tw_790 : (Jvm.Cond.methodLink "HearingDeskLaw" (108 : Nat) ({ cls := "HearingDeskModel", name := "power", desc := "(II)D" } : Jvm.MethodName)) ∈ W0 := List.mem_filter.mpr ⟨List.mem_append_right _ (List.mem_of_getElem? (i := 790) (by decide +kernel)), rfl⟩
theorem tw_791 : (Jvm.Cond.instanceMethod ({ cls := "HearingDeskModel", name := "power", desc := "(II)D" } : Jvm.MethodName)) ∈ W0 := List.mem_filter.mpr ⟨List.mem_append_right _ (List.mem_of_getElem? (i := 791) (by decide +kernel)), rfl⟩
theorem tw_792 : (Jvm.Cond.selects "HearingDeskModel" ({ cls := "HearingDeskModel", name := "power", desc := "(II)D" } : Jvm.MethodName) ({ cls := "HearingDeskModel", name := "power", desc := "(II)D" } : Jvm.MethodName)) ∈ W0 := List.mem_filter.mpr ⟨List.mem_append_right _ (List.mem_of_getElem? (i := 792) (by decide +kernel)), rfl⟩
theorem tw_793 : (Jvm.Cond.code ({ cls := "HearingDeskModel", name := "power", desc := "(II)D" } : Jvm.MethodName) prog_11_method_21_code (3 : Nat) (Option.some Jvm.ClassFile.FieldType.double)) ∈ W0 := List.mem_filter.mpr ⟨List.mem_append_right _ (List.mem_of_getElem? (i := 793) (by decide +kernel)), rfl⟩
theorem tw_794 : (Jvm.Cond.methodLink "HearingDeskModel" (155 : Nat) ({ cls := "HearingDeskModel", name := "frames", desc := "()I" } : Jvm.MethodName)) ∈ W0 := List.mem_filter.mpr ⟨List.mem_append_right _ (List.mem_of_getElem? (i := 794) (by decide +kernel)), rfl⟩
theorem tw_796 : (Jvm.Cond.instanceMethod ({ cls := "HearingDeskModel", name := "frames", desc := "()I" } : Jvm.MethodName)) ∈ W0 := List.mem_filter.mpr ⟨List.mem_append_right _ (List.mem_of_getElem? (i := 796) (by decide +kernel)), rfl⟩
theorem tw_797 : (Jvm.Cond.code ({ cls := "HearingDeskModel", name := "frames", desc := "()I" } : Jvm.MethodName) prog_11_method_15_code (1 : Nat) (Option.some Jvm.ClassFile.FieldType.int)) ∈ W0 := List.mem_filter.mpr ⟨List.mem_append_right _ (List.mem_of_getElem? (i := 797) (by decide +kernel)), rfl⟩
theorem tw_798 : (Jvm.Cond.methodLink "HearingDeskModel" (137 : Nat) ({ cls := "HearingDeskModel", name := "powerOf", desc := "(II)D" } : Jvm.MethodName)) ∈ W0 := List.mem_filter.mpr ⟨List.mem_append_right _ (List.mem_of_getElem? (i := 798) (by decide +kernel)), rfl⟩
theorem tw_800 : (Jvm.Cond.instanceMethod ({ cls := "HearingDeskModel", name := "powerOf", desc := "(II)D" } : Jvm.MethodName)) ∈ W0 := List.mem_filter.mpr ⟨List.mem_append_right _ (List.mem_of_getElem? (i := 800) (by decide +kernel)), rfl⟩
theorem tw_801 : (Jvm.Cond.code ({ cls := "HearingDeskModel", name := "powerOf", desc := "(II)D" } : Jvm.MethodName) prog_11_method_16_code (10 : Nat) (Option.some Jvm.ClassFile.FieldType.double)) ∈ W0 := List.mem_filter.mpr ⟨List.mem_append_right _ (List.mem_of_getElem? (i := 801) (by decide +kernel)), rfl⟩
theorem tw_802 : (Jvm.Cond.constantDouble "HearingDeskModel" (135 : Nat) (4602678819172646912 : UInt64)) ∈ W0 := List.mem_filter.mpr ⟨List.mem_append_right _ (List.mem_of_getElem? (i := 802) (by decide +kernel)), rfl⟩
theorem tw_803 : (Jvm.Cond.methodLink "HearingDeskLaw" (111 : Nat) ({ cls := "HearingDeskModel", name := "level", desc := "(II)D" } : Jvm.MethodName)) ∈ W0 := List.mem_filter.mpr ⟨List.mem_append_right _ (List.mem_of_getElem? (i := 803) (by decide +kernel)), rfl⟩
theorem tw_804 : (Jvm.Cond.instanceMethod ({ cls := "HearingDeskModel", name := "level", desc := "(II)D" } : Jvm.MethodName)) ∈ W0 := List.mem_filter.mpr ⟨List.mem_append_right _ (List.mem_of_getElem? (i := 804) (by decide +kernel)), rfl⟩
theorem tw_805 : (Jvm.Cond.selects "HearingDeskModel" ({ cls := "HearingDeskModel", name := "level", desc := "(II)D" } : Jvm.MethodName) ({ cls := "HearingDeskModel", name := "level", desc := "(II)D" } : Jvm.MethodName)) ∈ W0 := List.mem_filter.mpr ⟨List.mem_append_right _ (List.mem_of_getElem? (i := 805) (by decide +kernel)), rfl⟩
theorem tw_806 : (Jvm.Cond.code ({ cls := "HearingDeskModel", name := "level", desc := "(II)D" } : Jvm.MethodName) prog_11_method_22_code (3 : Nat) (Option.some Jvm.ClassFile.FieldType.double)) ∈ W0 := List.mem_filter.mpr ⟨List.mem_append_right _ (List.mem_of_getElem? (i := 806) (by decide +kernel)), rfl⟩
theorem tw_807 : (Jvm.Cond.constantLong "HearingDeskModel" (158 : Nat) (3 : Int64)) ∈ W0 := List.mem_filter.mpr ⟨List.mem_append_right _ (List.mem_of_getElem? (i := 807) (by decide +kernel)), rfl⟩
theorem tw_808 : (Jvm.Cond.methodLink "HearingDeskModel" (160 : Nat) ({ cls := "HearingDeskModel", name := "levelOf", desc := "(II)D" } : Jvm.MethodName)) ∈ W0 := List.mem_filter.mpr ⟨List.mem_append_right _ (List.mem_of_getElem? (i := 808) (by decide +kernel)), rfl⟩
theorem tw_810 : (Jvm.Cond.instanceMethod ({ cls := "HearingDeskModel", name := "levelOf", desc := "(II)D" } : Jvm.MethodName)) ∈ W0 := List.mem_filter.mpr ⟨List.mem_append_right _ (List.mem_of_getElem? (i := 810) (by decide +kernel)), rfl⟩
theorem tw_811 : (Jvm.Cond.code ({ cls := "HearingDeskModel", name := "levelOf", desc := "(II)D" } : Jvm.MethodName) prog_11_method_19_code (5 : Nat) (Option.some Jvm.ClassFile.FieldType.double)) ∈ W0 := List.mem_filter.mpr ⟨List.mem_append_right _ (List.mem_of_getElem? (i := 811) (by decide +kernel)), rfl⟩
theorem tw_812 : (Jvm.Cond.methodLink "HearingDeskModel" (146 : Nat) ({ cls := "HearingDeskModel", name := "bandOf", desc := "(II)D" } : Jvm.MethodName)) ∈ W0 := List.mem_filter.mpr ⟨List.mem_append_right _ (List.mem_of_getElem? (i := 812) (by decide +kernel)), rfl⟩
theorem tw_814 : (Jvm.Cond.instanceMethod ({ cls := "HearingDeskModel", name := "bandOf", desc := "(II)D" } : Jvm.MethodName)) ∈ W0 := List.mem_filter.mpr ⟨List.mem_append_right _ (List.mem_of_getElem? (i := 814) (by decide +kernel)), rfl⟩
theorem tw_815 : (Jvm.Cond.code ({ cls := "HearingDeskModel", name := "bandOf", desc := "(II)D" } : Jvm.MethodName) prog_11_method_17_code (8 : Nat) (Option.some Jvm.ClassFile.FieldType.double)) ∈ W0 := List.mem_filter.mpr ⟨List.mem_append_right _ (List.mem_of_getElem? (i := 815) (by decide +kernel)), rfl⟩
theorem tw_816 : (Jvm.Cond.constantDouble "HearingDeskModel" (149 : Nat) (4457293557087583675 : UInt64)) ∈ W0 := List.mem_filter.mpr ⟨List.mem_append_right _ (List.mem_of_getElem? (i := 816) (by decide +kernel)), rfl⟩
theorem tw_817 : (Jvm.Cond.methodLink "HearingDeskModel" (151 : Nat) ({ cls := "HearingDeskModel", name := "logarithm", desc := "(D)D" } : Jvm.MethodName)) ∈ W0 := List.mem_filter.mpr ⟨List.mem_append_right _ (List.mem_of_getElem? (i := 817) (by decide +kernel)), rfl⟩
theorem tw_818 : (Jvm.Cond.static ({ cls := "HearingDeskModel", name := "logarithm", desc := "(D)D" } : Jvm.MethodName)) ∈ W0 := List.mem_filter.mpr ⟨List.mem_append_right _ (List.mem_of_getElem? (i := 818) (by decide +kernel)), rfl⟩
theorem tw_819 : (Jvm.Cond.code ({ cls := "HearingDeskModel", name := "logarithm", desc := "(D)D" } : Jvm.MethodName) prog_11_method_18_code (12 : Nat) (Option.some Jvm.ClassFile.FieldType.double)) ∈ W0 := List.mem_filter.mpr ⟨List.mem_append_right _ (List.mem_of_getElem? (i := 819) (by decide +kernel)), rfl⟩
theorem tw_820 : (Jvm.Cond.constantDouble "HearingDeskModel" (140 : Nat) (4609434218613702656 : UInt64)) ∈ W0 := List.mem_filter.mpr ⟨List.mem_append_right _ (List.mem_of_getElem? (i := 820) (by decide +kernel)), rfl⟩
theorem tw_821 : (Jvm.Cond.constantDouble "HearingDeskModel" (142 : Nat) (4604930618986332160 : UInt64)) ∈ W0 := List.mem_filter.mpr ⟨List.mem_append_right _ (List.mem_of_getElem? (i := 821) (by decide +kernel)), rfl⟩
theorem tw_822 : (Jvm.Cond.constantDouble "HearingDeskModel" (144 : Nat) (4604418534313441775 : UInt64)) ∈ W0 := List.mem_filter.mpr ⟨List.mem_append_right _ (List.mem_of_getElem? (i := 822) (by decide +kernel)), rfl⟩
theorem tw_823 : (Jvm.Cond.methodLink "HearingDeskLaw" (115 : Nat) ({ cls := "HearingDeskModel", name := "ways", desc := "(DID)V" } : Jvm.MethodName)) ∈ W0 := List.mem_filter.mpr ⟨List.mem_append_right _ (List.mem_of_getElem? (i := 823) (by decide +kernel)), rfl⟩
theorem tw_824 : (Jvm.Cond.instanceMethod ({ cls := "HearingDeskModel", name := "ways", desc := "(DID)V" } : Jvm.MethodName)) ∈ W0 := List.mem_filter.mpr ⟨List.mem_append_right _ (List.mem_of_getElem? (i := 824) (by decide +kernel)), rfl⟩
theorem tw_825 : (Jvm.Cond.selects "HearingDeskModel" ({ cls := "HearingDeskModel", name := "ways", desc := "(DID)V" } : Jvm.MethodName) ({ cls := "HearingDeskModel", name := "ways", desc := "(DID)V" } : Jvm.MethodName)) ∈ W0 := List.mem_filter.mpr ⟨List.mem_append_right _ (List.mem_of_getElem? (i := 825) (by decide +kernel)), rfl⟩
theorem tw_826 : (Jvm.Cond.code ({ cls := "HearingDeskModel", name := "ways", desc := "(DID)V" } : Jvm.MethodName) prog_11_method_23_code (6 : Nat) (Option.none : Option Jvm.ClassFile.FieldType)) ∈ W0 := List.mem_filter.mpr ⟨List.mem_append_right _ (List.mem_of_getElem? (i := 826) (by decide +kernel)), rfl⟩
theorem tw_827 : (Jvm.Cond.constantLong "HearingDeskModel" (163 : Nat) (4 : Int64)) ∈ W0 := List.mem_filter.mpr ⟨List.mem_append_right _ (List.mem_of_getElem? (i := 827) (by decide +kernel)), rfl⟩
theorem tw_828 : (Jvm.Cond.methodLink "HearingDeskLaw" (119 : Nat) ({ cls := "HearingDeskModel", name := "learn", desc := "(III)I" } : Jvm.MethodName)) ∈ W0 := List.mem_filter.mpr ⟨List.mem_append_right _ (List.mem_of_getElem? (i := 828) (by decide +kernel)), rfl⟩
theorem tw_829 : (Jvm.Cond.instanceMethod ({ cls := "HearingDeskModel", name := "learn", desc := "(III)I" } : Jvm.MethodName)) ∈ W0 := List.mem_filter.mpr ⟨List.mem_append_right _ (List.mem_of_getElem? (i := 829) (by decide +kernel)), rfl⟩
theorem tw_830 : (Jvm.Cond.selects "HearingDeskModel" ({ cls := "HearingDeskModel", name := "learn", desc := "(III)I" } : Jvm.MethodName) ({ cls := "HearingDeskModel", name := "learn", desc := "(III)I" } : Jvm.MethodName)) ∈ W0 := List.mem_filter.mpr ⟨List.mem_append_right _ (List.mem_of_getElem? (i := 830) (by decide +kernel)), rfl⟩
theorem tw_831 : (Jvm.Cond.code ({ cls := "HearingDeskModel", name := "learn", desc := "(III)I" } : Jvm.MethodName) prog_11_method_24_code (6 : Nat) (Option.some Jvm.ClassFile.FieldType.int)) ∈ W0 := List.mem_filter.mpr ⟨List.mem_append_right _ (List.mem_of_getElem? (i := 831) (by decide +kernel)), rfl⟩
theorem tw_832 : (Jvm.Cond.constantLong "HearingDeskModel" (165 : Nat) (97 : Int64)) ∈ W0 := List.mem_filter.mpr ⟨List.mem_append_right _ (List.mem_of_getElem? (i := 832) (by decide +kernel)), rfl⟩
theorem tw_833 : (Jvm.Cond.constantLong "HearingDeskModel" (167 : Nat) (122 : Int64)) ∈ W0 := List.mem_filter.mpr ⟨List.mem_append_right _ (List.mem_of_getElem? (i := 833) (by decide +kernel)), rfl⟩
theorem tw_834 : (Jvm.Cond.methodLink "HearingDeskLaw" (123 : Nat) ({ cls := "HearingDeskModel", name := "forget", desc := "(I)I" } : Jvm.MethodName)) ∈ W0 := List.mem_filter.mpr ⟨List.mem_append_right _ (List.mem_of_getElem? (i := 834) (by decide +kernel)), rfl⟩
theorem tw_835 : (Jvm.Cond.instanceMethod ({ cls := "HearingDeskModel", name := "forget", desc := "(I)I" } : Jvm.MethodName)) ∈ W0 := List.mem_filter.mpr ⟨List.mem_append_right _ (List.mem_of_getElem? (i := 835) (by decide +kernel)), rfl⟩
theorem tw_836 : (Jvm.Cond.selects "HearingDeskModel" ({ cls := "HearingDeskModel", name := "forget", desc := "(I)I" } : Jvm.MethodName) ({ cls := "HearingDeskModel", name := "forget", desc := "(I)I" } : Jvm.MethodName)) ∈ W0 := List.mem_filter.mpr ⟨List.mem_append_right _ (List.mem_of_getElem? (i := 836) (by decide +kernel)), rfl⟩
theorem tw_837 : (Jvm.Cond.code ({ cls := "HearingDeskModel", name := "forget", desc := "(I)I" } : Jvm.MethodName) prog_11_method_25_code (5 : Nat) (Option.some Jvm.ClassFile.FieldType.int)) ∈ W0 := List.mem_filter.mpr ⟨List.mem_append_right _ (List.mem_of_getElem? (i := 837) (by decide +kernel)), rfl⟩
theorem tw_838 : (Jvm.Cond.methodLink "HearingDeskLaw" (126 : Nat) ({ cls := "HearingDeskModel", name := "warp", desc := "(II)D" } : Jvm.MethodName)) ∈ W0 := List.mem_filter.mpr ⟨List.mem_append_right _ (List.mem_of_getElem? (i := 838) (by decide +kernel)), rfl⟩
theorem tw_839 : (Jvm.Cond.instanceMethod ({ cls := "HearingDeskModel", name := "warp", desc := "(II)D" } : Jvm.MethodName)) ∈ W0 := List.mem_filter.mpr ⟨List.mem_append_right _ (List.mem_of_getElem? (i := 839) (by decide +kernel)), rfl⟩
theorem tw_840 : (Jvm.Cond.selects "HearingDeskModel" ({ cls := "HearingDeskModel", name := "warp", desc := "(II)D" } : Jvm.MethodName) ({ cls := "HearingDeskModel", name := "warp", desc := "(II)D" } : Jvm.MethodName)) ∈ W0 := List.mem_filter.mpr ⟨List.mem_append_right _ (List.mem_of_getElem? (i := 840) (by decide +kernel)), rfl⟩
theorem tw_841 : (Jvm.Cond.code ({ cls := "HearingDeskModel", name := "warp", desc := "(II)D" } : Jvm.MethodName) prog_11_method_28_code (3 : Nat) (Option.some Jvm.ClassFile.FieldType.double)) ∈ W0 := List.mem_filter.mpr ⟨List.mem_append_right _ (List.mem_of_getElem? (i := 841) (by decide +kernel)), rfl⟩
theorem tw_842 : (Jvm.Cond.methodLink "HearingDeskModel" (178 : Nat) ({ cls := "HearingDeskModel", name := "takes", desc := "([DI)V" } : Jvm.MethodName)) ∈ W0 := List.mem_filter.mpr ⟨List.mem_append_right _ (List.mem_of_getElem? (i := 842) (by decide +kernel)), rfl⟩
theorem tw_844 : (Jvm.Cond.instanceMethod ({ cls := "HearingDeskModel", name := "takes", desc := "([DI)V" } : Jvm.MethodName)) ∈ W0 := List.mem_filter.mpr ⟨List.mem_append_right _ (List.mem_of_getElem? (i := 844) (by decide +kernel)), rfl⟩
theorem tw_845 : (Jvm.Cond.code ({ cls := "HearingDeskModel", name := "takes", desc := "([DI)V" } : Jvm.MethodName) prog_11_method_26_code (4 : Nat) (Option.none : Option Jvm.ClassFile.FieldType)) ∈ W0 := List.mem_filter.mpr ⟨List.mem_append_right _ (List.mem_of_getElem? (i := 845) (by decide +kernel)), rfl⟩
theorem tw_846 : (Jvm.Cond.methodLink "HearingDeskModel" (182 : Nat) ({ cls := "HearingDeskModel", name := "warps", desc := "()D" } : Jvm.MethodName)) ∈ W0 := List.mem_filter.mpr ⟨List.mem_append_right _ (List.mem_of_getElem? (i := 846) (by decide +kernel)), rfl⟩
theorem tw_848 : (Jvm.Cond.instanceMethod ({ cls := "HearingDeskModel", name := "warps", desc := "()D" } : Jvm.MethodName)) ∈ W0 := List.mem_filter.mpr ⟨List.mem_append_right _ (List.mem_of_getElem? (i := 848) (by decide +kernel)), rfl⟩
theorem tw_849 : (Jvm.Cond.code ({ cls := "HearingDeskModel", name := "warps", desc := "()D" } : Jvm.MethodName) prog_11_method_27_code (8 : Nat) (Option.some Jvm.ClassFile.FieldType.double)) ∈ W0 := List.mem_filter.mpr ⟨List.mem_append_right _ (List.mem_of_getElem? (i := 849) (by decide +kernel)), rfl⟩
theorem tw_850 : (Jvm.Cond.methodLink "HearingDeskLaw" (129 : Nat) ({ cls := "HearingDeskModel", name := "hear", desc := "()I" } : Jvm.MethodName)) ∈ W0 := List.mem_filter.mpr ⟨List.mem_append_right _ (List.mem_of_getElem? (i := 850) (by decide +kernel)), rfl⟩
theorem tw_851 : (Jvm.Cond.instanceMethod ({ cls := "HearingDeskModel", name := "hear", desc := "()I" } : Jvm.MethodName)) ∈ W0 := List.mem_filter.mpr ⟨List.mem_append_right _ (List.mem_of_getElem? (i := 851) (by decide +kernel)), rfl⟩
theorem tw_852 : (Jvm.Cond.selects "HearingDeskModel" ({ cls := "HearingDeskModel", name := "hear", desc := "()I" } : Jvm.MethodName) ({ cls := "HearingDeskModel", name := "hear", desc := "()I" } : Jvm.MethodName)) ∈ W0 := List.mem_filter.mpr ⟨List.mem_append_right _ (List.mem_of_getElem? (i := 852) (by decide +kernel)), rfl⟩
theorem tw_853 : (Jvm.Cond.code ({ cls := "HearingDeskModel", name := "hear", desc := "()I" } : Jvm.MethodName) prog_11_method_30_code (7 : Nat) (Option.some Jvm.ClassFile.FieldType.int)) ∈ W0 := List.mem_filter.mpr ⟨List.mem_append_right _ (List.mem_of_getElem? (i := 853) (by decide +kernel)), rfl⟩
theorem tw_854 : (Jvm.Cond.methodLink "HearingDeskModel" (186 : Nat) ({ cls := "HearingDeskModel", name := "isLoud", desc := "(I)Z" } : Jvm.MethodName)) ∈ W0 := List.mem_filter.mpr ⟨List.mem_append_right _ (List.mem_of_getElem? (i := 854) (by decide +kernel)), rfl⟩
theorem tw_856 : (Jvm.Cond.instanceMethod ({ cls := "HearingDeskModel", name := "isLoud", desc := "(I)Z" } : Jvm.MethodName)) ∈ W0 := List.mem_filter.mpr ⟨List.mem_append_right _ (List.mem_of_getElem? (i := 856) (by decide +kernel)), rfl⟩
theorem tw_857 : (Jvm.Cond.code ({ cls := "HearingDeskModel", name := "isLoud", desc := "(I)Z" } : Jvm.MethodName) prog_11_method_20_code (5 : Nat) (Option.some Jvm.ClassFile.FieldType.boolean)) ∈ W0 := List.mem_filter.mpr ⟨List.mem_append_right _ (List.mem_of_getElem? (i := 857) (by decide +kernel)), rfl⟩
theorem tw_858 : (Jvm.Cond.methodLink "HearingDeskModel" (190 : Nat) ({ cls := "HearingDeskModel", name := "writes", desc := "(II)V" } : Jvm.MethodName)) ∈ W0 := List.mem_filter.mpr ⟨List.mem_append_right _ (List.mem_of_getElem? (i := 858) (by decide +kernel)), rfl⟩
theorem tw_860 : (Jvm.Cond.instanceMethod ({ cls := "HearingDeskModel", name := "writes", desc := "(II)V" } : Jvm.MethodName)) ∈ W0 := List.mem_filter.mpr ⟨List.mem_append_right _ (List.mem_of_getElem? (i := 860) (by decide +kernel)), rfl⟩
theorem tw_861 : (Jvm.Cond.code ({ cls := "HearingDeskModel", name := "writes", desc := "(II)V" } : Jvm.MethodName) prog_11_method_29_code (7 : Nat) (Option.none : Option Jvm.ClassFile.FieldType)) ∈ W0 := List.mem_filter.mpr ⟨List.mem_append_right _ (List.mem_of_getElem? (i := 861) (by decide +kernel)), rfl⟩
theorem tw_862 : (Jvm.Cond.methodLink "HearingDeskLaw" (133 : Nat) ({ cls := "HearingDeskModel", name := "word", desc := "(II)I" } : Jvm.MethodName)) ∈ W0 := List.mem_filter.mpr ⟨List.mem_append_right _ (List.mem_of_getElem? (i := 862) (by decide +kernel)), rfl⟩
theorem tw_863 : (Jvm.Cond.instanceMethod ({ cls := "HearingDeskModel", name := "word", desc := "(II)I" } : Jvm.MethodName)) ∈ W0 := List.mem_filter.mpr ⟨List.mem_append_right _ (List.mem_of_getElem? (i := 863) (by decide +kernel)), rfl⟩
theorem tw_864 : (Jvm.Cond.selects "HearingDeskModel" ({ cls := "HearingDeskModel", name := "word", desc := "(II)I" } : Jvm.MethodName) ({ cls := "HearingDeskModel", name := "word", desc := "(II)I" } : Jvm.MethodName)) ∈ W0 := List.mem_filter.mpr ⟨List.mem_append_right _ (List.mem_of_getElem? (i := 864) (by decide +kernel)), rfl⟩
theorem tw_865 : (Jvm.Cond.code ({ cls := "HearingDeskModel", name := "word", desc := "(II)I" } : Jvm.MethodName) prog_11_method_31_code (3 : Nat) (Option.some Jvm.ClassFile.FieldType.int)) ∈ W0 := List.mem_filter.mpr ⟨List.mem_append_right _ (List.mem_of_getElem? (i := 865) (by decide +kernel)), rfl⟩
theorem tw_866 : (Jvm.Cond.constantLong "HearingDeskModel" (194 : Nat) (5 : Int64)) ∈ W0 := List.mem_filter.mpr ⟨List.mem_append_right _ (List.mem_of_getElem? (i := 866) (by decide +kernel)), rfl⟩
theorem tw_867 : (Jvm.Cond.methodLink "HearingDeskLaw" (136 : Nat) ({ cls := "HearingDeskModel", name := "cost", desc := "(I)D" } : Jvm.MethodName)) ∈ W0 := List.mem_filter.mpr ⟨List.mem_append_right _ (List.mem_of_getElem? (i := 867) (by decide +kernel)), rfl⟩
theorem tw_868 : (Jvm.Cond.instanceMethod ({ cls := "HearingDeskModel", name := "cost", desc := "(I)D" } : Jvm.MethodName)) ∈ W0 := List.mem_filter.mpr ⟨List.mem_append_right _ (List.mem_of_getElem? (i := 868) (by decide +kernel)), rfl⟩
theorem tw_869 : (Jvm.Cond.selects "HearingDeskModel" ({ cls := "HearingDeskModel", name := "cost", desc := "(I)D" } : Jvm.MethodName) ({ cls := "HearingDeskModel", name := "cost", desc := "(I)D" } : Jvm.MethodName)) ∈ W0 := List.mem_filter.mpr ⟨List.mem_append_right _ (List.mem_of_getElem? (i := 869) (by decide +kernel)), rfl⟩
theorem tw_870 : (Jvm.Cond.code ({ cls := "HearingDeskModel", name := "cost", desc := "(I)D" } : Jvm.MethodName) prog_11_method_32_code (2 : Nat) (Option.some Jvm.ClassFile.FieldType.double)) ∈ W0 := List.mem_filter.mpr ⟨List.mem_append_right _ (List.mem_of_getElem? (i := 870) (by decide +kernel)), rfl⟩
theorem tw_871 : (Jvm.Cond.methodLink "HearingDeskLaw" (139 : Nat) ({ cls := "HearingDeskModel", name := "count", desc := "(I)I" } : Jvm.MethodName)) ∈ W0 := List.mem_filter.mpr ⟨List.mem_append_right _ (List.mem_of_getElem? (i := 871) (by decide +kernel)), rfl⟩
theorem tw_872 : (Jvm.Cond.instanceMethod ({ cls := "HearingDeskModel", name := "count", desc := "(I)I" } : Jvm.MethodName)) ∈ W0 := List.mem_filter.mpr ⟨List.mem_append_right _ (List.mem_of_getElem? (i := 872) (by decide +kernel)), rfl⟩
theorem tw_873 : (Jvm.Cond.selects "HearingDeskModel" ({ cls := "HearingDeskModel", name := "count", desc := "(I)I" } : Jvm.MethodName) ({ cls := "HearingDeskModel", name := "count", desc := "(I)I" } : Jvm.MethodName)) ∈ W0 := List.mem_filter.mpr ⟨List.mem_append_right _ (List.mem_of_getElem? (i := 873) (by decide +kernel)), rfl⟩
theorem tw_874 : (Jvm.Cond.code ({ cls := "HearingDeskModel", name := "count", desc := "(I)I" } : Jvm.MethodName) prog_11_method_33_code (4 : Nat) (Option.some Jvm.ClassFile.FieldType.int)) ∈ W0 := List.mem_filter.mpr ⟨List.mem_append_right _ (List.mem_of_getElem? (i := 874) (by decide +kernel)), rfl⟩
theorem tw_875 : (Jvm.Cond.constantLong "HearingDeskModel" (196 : Nat) (6 : Int64)) ∈ W0 := List.mem_filter.mpr ⟨List.mem_append_right _ (List.mem_of_getElem? (i := 875) (by decide +kernel)), rfl⟩
theorem tw_876 : (Jvm.Cond.constantLong "HearingDeskLaw" (72 : Nat) (4294967295 : Int64)) ∈ W0 := List.mem_filter.mpr ⟨List.mem_append_right _ (List.mem_of_getElem? (i := 876) (by decide +kernel)), rfl⟩
theorem tw_877 : (Jvm.Cond.constantDouble "HearingDeskLaw" (91 : Nat) (4593671619917905920 : UInt64)) ∈ W0 := List.mem_filter.mpr ⟨List.mem_append_right _ (List.mem_of_getElem? (i := 877) (by decide +kernel)), rfl⟩
theorem tw_878 : (Jvm.Cond.arrayClass Jvm.ClassFile.FieldType.long) ∈ W0 := List.mem_filter.mpr ⟨List.mem_append_right _ (List.mem_of_getElem? (i := 878) (by decide +kernel)), rfl⟩
theorem sl_Wo_begin : Cond.selects "HearingDesk$Word" ⟨"HearingDesk$Word", "begin", "(I)V"⟩ ⟨"HearingDesk$Word", "begin", "(I)V"⟩ ∈ W0 := List.mem_filter.mpr ⟨List.mem_append_left _ (List.mem_of_getElem? (i := 0) (by decide +kernel)), rfl⟩
theorem sl_Fi_firstWrongOfHead : Cond.selects "HearingDesk$SoundFile" ⟨"HearingDesk$SoundFile", "firstWrongOfHead", "()I"⟩ ⟨"HearingDesk$SoundFile", "firstWrongOfHead", "()I"⟩ ∈ W0 := List.mem_filter.mpr ⟨List.mem_append_left _ (List.mem_of_getElem? (i := 2) (by decide +kernel)), rfl⟩
theorem sl_Fi_spells : Cond.selects "HearingDesk$SoundFile" ⟨"HearingDesk$SoundFile", "spells", "(IIIII)Z"⟩ ⟨"HearingDesk$SoundFile", "spells", "(IIIII)Z"⟩ ∈ W0 := List.mem_filter.mpr ⟨List.mem_append_left _ (List.mem_of_getElem? (i := 3) (by decide +kernel)), rfl⟩
theorem sl_Fi_four : Cond.selects "HearingDesk$SoundFile" ⟨"HearingDesk$SoundFile", "four", "(I)J"⟩ ⟨"HearingDesk$SoundFile", "four", "(I)J"⟩ ∈ W0 := List.mem_filter.mpr ⟨List.mem_append_left _ (List.mem_of_getElem? (i := 4) (by decide +kernel)), rfl⟩
theorem sl_Fi_two : Cond.selects "HearingDesk$SoundFile" ⟨"HearingDesk$SoundFile", "two", "(I)I"⟩ ⟨"HearingDesk$SoundFile", "two", "(I)I"⟩ ∈ W0 := List.mem_filter.mpr ⟨List.mem_append_left _ (List.mem_of_getElem? (i := 5) (by decide +kernel)), rfl⟩
theorem sl_Fi_firstWrongOfForm : Cond.selects "HearingDesk$SoundFile" ⟨"HearingDesk$SoundFile", "firstWrongOfForm", "()I"⟩ ⟨"HearingDesk$SoundFile", "firstWrongOfForm", "()I"⟩ ∈ W0 := List.mem_filter.mpr ⟨List.mem_append_left _ (List.mem_of_getElem? (i := 6) (by decide +kernel)), rfl⟩
theorem sl_Fi_channels : Cond.selects "HearingDesk$SoundFile" ⟨"HearingDesk$SoundFile", "channels", "()I"⟩ ⟨"HearingDesk$SoundFile", "channels", "()I"⟩ ∈ W0 := List.mem_filter.mpr ⟨List.mem_append_left _ (List.mem_of_getElem? (i := 7) (by decide +kernel)), rfl⟩
theorem sl_Fi_width : Cond.selects "HearingDesk$SoundFile" ⟨"HearingDesk$SoundFile", "width", "()I"⟩ ⟨"HearingDesk$SoundFile", "width", "()I"⟩ ∈ W0 := List.mem_filter.mpr ⟨List.mem_append_left _ (List.mem_of_getElem? (i := 8) (by decide +kernel)), rfl⟩
theorem sl_Fi_bits : Cond.selects "HearingDesk$SoundFile" ⟨"HearingDesk$SoundFile", "bits", "()I"⟩ ⟨"HearingDesk$SoundFile", "bits", "()I"⟩ ∈ W0 := List.mem_filter.mpr ⟨List.mem_append_left _ (List.mem_of_getElem? (i := 9) (by decide +kernel)), rfl⟩
theorem sl_Fi_channelAt : Cond.selects "HearingDesk$SoundFile" ⟨"HearingDesk$SoundFile", "channelAt", "(I)D"⟩ ⟨"HearingDesk$SoundFile", "channelAt", "(I)D"⟩ ∈ W0 := List.mem_filter.mpr ⟨List.mem_append_left _ (List.mem_of_getElem? (i := 10) (by decide +kernel)), rfl⟩
theorem sl_So_judgeBand : Cond.selects "HearingDesk$Sound" ⟨"HearingDesk$Sound", "judgeBand", "(III)V"⟩ ⟨"HearingDesk$Sound", "judgeBand", "(III)V"⟩ ∈ W0 := List.mem_filter.mpr ⟨List.mem_append_left _ (List.mem_of_getElem? (i := 11) (by decide +kernel)), rfl⟩
theorem sl_Bo_leastBefore : Cond.selects "HearingDesk$PatternBook" ⟨"HearingDesk$PatternBook", "leastBefore", "(II)D"⟩ ⟨"HearingDesk$PatternBook", "leastBefore", "(II)D"⟩ ∈ W0 := List.mem_filter.mpr ⟨List.mem_append_left _ (List.mem_of_getElem? (i := 12) (by decide +kernel)), rfl⟩
theorem sl_Wo_reach : Cond.selects "HearingDesk$Word" ⟨"HearingDesk$Word", "reach", "(I)V"⟩ ⟨"HearingDesk$Word", "reach", "(I)V"⟩ ∈ W0 := List.mem_filter.mpr ⟨List.mem_append_left _ (List.mem_of_getElem? (i := 13) (by decide +kernel)), rfl⟩
theorem sl_De_milliseconds : Cond.selects "HearingDesk" ⟨"HearingDesk", "milliseconds", "(I)I"⟩ ⟨"HearingDesk", "milliseconds", "(I)I"⟩ ∈ W0 := List.mem_filter.mpr ⟨List.mem_append_left _ (List.mem_of_getElem? (i := 14) (by decide +kernel)), rfl⟩
theorem sl_De_loudFrames : Cond.selects "HearingDesk" ⟨"HearingDesk", "loudFrames", "()I"⟩ ⟨"HearingDesk", "loudFrames", "()I"⟩ ∈ W0 := List.mem_filter.mpr ⟨List.mem_append_left _ (List.mem_of_getElem? (i := 15) (by decide +kernel)), rfl⟩
theorem sl_Mo_fails : Cond.selects "HearingDeskModel" ⟨"HearingDeskModel", "fails", "(ZI)Z"⟩ ⟨"HearingDeskModel", "fails", "(ZI)Z"⟩ ∈ W0 := List.mem_filter.mpr ⟨List.mem_append_left _ (List.mem_of_getElem? (i := 16) (by decide +kernel)), rfl⟩
theorem sl_Mo_wrong : Cond.selects "HearingDeskModel" ⟨"HearingDeskModel", "wrong", "()I"⟩ ⟨"HearingDeskModel", "wrong", "()I"⟩ ∈ W0 := List.mem_filter.mpr ⟨List.mem_append_left _ (List.mem_of_getElem? (i := 17) (by decide +kernel)), rfl⟩
theorem sl_Mo_number : Cond.selects "HearingDeskModel" ⟨"HearingDeskModel", "number", "(II)J"⟩ ⟨"HearingDeskModel", "number", "(II)J"⟩ ∈ W0 := List.mem_filter.mpr ⟨List.mem_append_left _ (List.mem_of_getElem? (i := 18) (by decide +kernel)), rfl⟩
theorem sl_Mo_spells : Cond.selects "HearingDeskModel" ⟨"HearingDeskModel", "spells", "(IIIII)Z"⟩ ⟨"HearingDeskModel", "spells", "(IIIII)Z"⟩ ∈ W0 := List.mem_filter.mpr ⟨List.mem_append_left _ (List.mem_of_getElem? (i := 19) (by decide +kernel)), rfl⟩
theorem sl_Mo_heard : Cond.selects "HearingDeskModel" ⟨"HearingDeskModel", "heard", "(II)D"⟩ ⟨"HearingDeskModel", "heard", "(II)D"⟩ ∈ W0 := List.mem_filter.mpr ⟨List.mem_append_left _ (List.mem_of_getElem? (i := 20) (by decide +kernel)), rfl⟩
theorem sl_Mo_frames : Cond.selects "HearingDeskModel" ⟨"HearingDeskModel", "frames", "()I"⟩ ⟨"HearingDeskModel", "frames", "()I"⟩ ∈ W0 := List.mem_filter.mpr ⟨List.mem_append_left _ (List.mem_of_getElem? (i := 21) (by decide +kernel)), rfl⟩
theorem sl_Mo_powerOf : Cond.selects "HearingDeskModel" ⟨"HearingDeskModel", "powerOf", "(II)D"⟩ ⟨"HearingDeskModel", "powerOf", "(II)D"⟩ ∈ W0 := List.mem_filter.mpr ⟨List.mem_append_left _ (List.mem_of_getElem? (i := 22) (by decide +kernel)), rfl⟩
theorem sl_Mo_levelOf : Cond.selects "HearingDeskModel" ⟨"HearingDeskModel", "levelOf", "(II)D"⟩ ⟨"HearingDeskModel", "levelOf", "(II)D"⟩ ∈ W0 := List.mem_filter.mpr ⟨List.mem_append_left _ (List.mem_of_getElem? (i := 23) (by decide +kernel)), rfl⟩
theorem sl_Mo_bandOf : Cond.selects "HearingDeskModel" ⟨"HearingDeskModel", "bandOf", "(II)D"⟩ ⟨"HearingDeskModel", "bandOf", "(II)D"⟩ ∈ W0 := List.mem_filter.mpr ⟨List.mem_append_left _ (List.mem_of_getElem? (i := 24) (by decide +kernel)), rfl⟩
theorem sl_Mo_takes : Cond.selects "HearingDeskModel" ⟨"HearingDeskModel", "takes", "([DI)V"⟩ ⟨"HearingDeskModel", "takes", "([DI)V"⟩ ∈ W0 := List.mem_filter.mpr ⟨List.mem_append_left _ (List.mem_of_getElem? (i := 25) (by decide +kernel)), rfl⟩
theorem sl_Mo_warps : Cond.selects "HearingDeskModel" ⟨"HearingDeskModel", "warps", "()D"⟩ ⟨"HearingDeskModel", "warps", "()D"⟩ ∈ W0 := List.mem_filter.mpr ⟨List.mem_append_left _ (List.mem_of_getElem? (i := 26) (by decide +kernel)), rfl⟩
theorem sl_Mo_isLoud : Cond.selects "HearingDeskModel" ⟨"HearingDeskModel", "isLoud", "(I)Z"⟩ ⟨"HearingDeskModel", "isLoud", "(I)Z"⟩ ∈ W0 := List.mem_filter.mpr ⟨List.mem_append_left _ (List.mem_of_getElem? (i := 27) (by decide +kernel)), rfl⟩
theorem sl_Mo_writes : Cond.selects "HearingDeskModel" ⟨"HearingDeskModel", "writes", "(II)V"⟩ ⟨"HearingDeskModel", "writes", "(II)V"⟩ ∈ W0 := List.mem_filter.mpr ⟨List.mem_append_left _ (List.mem_of_getElem? (i := 28) (by decide +kernel)), rfl⟩
end
section
abbrev RCi : String := "HearingDesk$Circle"
def TCi : u_T := fun k => match k with
  | 0 => ("HearingDesk$Circle", "cosines", "[D", true)
  | 1 => ("HearingDesk$Circle", "sines", "[D", true)
  | _ => ("HearingDesk$Circle", "window", "[D", true)
def tyCi : Nat → FieldType := fun k => match k with
  | 0 => .array .double
  | 1 => .array .double
  | _ => .array .double
theorem nmCi : ∀ a, a < 3 → ∀ b, b < 3 → a ≠ b → (TCi a).2.1 ≠ (TCi b).2.1 := by decide +kernel
theorem tyCi_ok : ∀ k, k < 3 → parseFieldDescriptor (TCi k).2.2.1 = some (tyCi k) := by decide +kernel
theorem inCi : ∀ w ∈ u_ws RCi TCi 3, w ∈ W0 := by
  intro w h
  obtain ⟨k, hk, rfl⟩ := List.mem_map.mp h
  have hk := List.mem_range.mp hk
  match k, hk with
  | 0, _ => exact tw_60
  | 1, _ => exact tw_62
  | 2, _ => exact tw_64
  | k + 3, hk => exact absurd hk (by omega)
abbrev RPa : String := "HearingDesk$Pattern"
def TPa : u_T := fun k => match k with
  | 0 => ("HearingDesk$Pattern", "levels", "[D", true)
  | 1 => ("HearingDesk$Pattern", "letter", "I", false)
  | _ => ("HearingDesk$Pattern", "rows", "I", false)
def tyPa : Nat → FieldType := fun k => match k with
  | 0 => .array .double
  | 1 => .int
  | _ => .int
theorem nmPa : ∀ a, a < 3 → ∀ b, b < 3 → a ≠ b → (TPa a).2.1 ≠ (TPa b).2.1 := by decide +kernel
theorem tyPa_ok : ∀ k, k < 3 → parseFieldDescriptor (TPa k).2.2.1 = some (tyPa k) := by decide +kernel
theorem inPa : ∀ w ∈ u_ws RPa TPa 3, w ∈ W0 := by
  intro w h
  obtain ⟨k, hk, rfl⟩ := List.mem_map.mp h
  have hk := List.mem_range.mp hk
  match k, hk with
  | 0, _ => exact tw_122
  | 1, _ => exact tw_124
  | 2, _ => exact tw_126
  | k + 3, hk => exact absurd hk (by omega)
abbrev RBo : String := "HearingDesk$PatternBook"
def TBo : u_T := fun k => match k with
  | 0 => ("HearingDesk$PatternBook", "patterns", "[LHearingDesk$Pattern;", true)
  | 1 => ("HearingDesk$PatternBook", "paths", "[D", true)
  | _ => ("HearingDesk$PatternBook", "size", "I", false)
def tyBo : Nat → FieldType := fun k => match k with
  | 0 => .array (.object "HearingDesk$Pattern")
  | 1 => .array .double
  | _ => .int
theorem nmBo : ∀ a, a < 3 → ∀ b, b < 3 → a ≠ b → (TBo a).2.1 ≠ (TBo b).2.1 := by decide +kernel
theorem tyBo_ok : ∀ k, k < 3 → parseFieldDescriptor (TBo k).2.2.1 = some (tyBo k) := by decide +kernel
theorem inBo : ∀ w ∈ u_ws RBo TBo 3, w ∈ W0 := by
  intro w h
  obtain ⟨k, hk, rfl⟩ := List.mem_map.mp h
  have hk := List.mem_range.mp hk
  match k, hk with
  | 0, _ => exact tw_136
  | 1, _ => exact tw_138
  | 2, _ => exact tw_140
  | k + 3, hk => exact absurd hk (by omega)
abbrev RSo : String := "HearingDesk$Sound"
def TSo : u_T := fun k => match k with
  | 0 => ("HearingDesk$Sound", "circle", "LHearingDesk$Circle;", true)
  | 1 => ("HearingDesk$Sound", "samples", "[D", true)
  | 2 => ("HearingDesk$Sound", "weighed", "[D", true)
  | 3 => ("HearingDesk$Sound", "sums", "[D", true)
  | 4 => ("HearingDesk$Sound", "levels", "[D", true)
  | 5 => ("HearingDesk$Sound", "size", "I", false)
  | _ => ("HearingDesk$Sound", "judged", "I", false)
def tySo : Nat → FieldType := fun k => match k with
  | 0 => .object "HearingDesk$Circle"
  | 1 => .array .double
  | 2 => .array .double
  | 3 => .array .double
  | 4 => .array .double
  | 5 => .int
  | _ => .int
theorem nmSo : ∀ a, a < 7 → ∀ b, b < 7 → a ≠ b → (TSo a).2.1 ≠ (TSo b).2.1 := by decide +kernel
theorem tySo_ok : ∀ k, k < 7 → parseFieldDescriptor (TSo k).2.2.1 = some (tySo k) := by decide +kernel
theorem inSo : ∀ w ∈ u_ws RSo TSo 7, w ∈ W0 := by
  intro w h
  obtain ⟨k, hk, rfl⟩ := List.mem_map.mp h
  have hk := List.mem_range.mp hk
  match k, hk with
  | 0, _ => exact tw_85
  | 1, _ => exact tw_87
  | 2, _ => exact tw_89
  | 3, _ => exact tw_91
  | 4, _ => exact tw_93
  | 5, _ => exact tw_95
  | 6, _ => exact tw_97
  | k + 7, hk => exact absurd hk (by omega)
abbrev RFi : String := "HearingDesk$SoundFile"
def TFi : u_T := fun k => match k with
  | 0 => ("HearingDesk$SoundFile", "octets", "[I", true)
  | _ => ("HearingDesk$SoundFile", "size", "I", false)
def tyFi : Nat → FieldType := fun k => match k with
  | 0 => .array .int
  | _ => .int
theorem nmFi : ∀ a, a < 2 → ∀ b, b < 2 → a ≠ b → (TFi a).2.1 ≠ (TFi b).2.1 := by decide +kernel
theorem tyFi_ok : ∀ k, k < 2 → parseFieldDescriptor (TFi k).2.2.1 = some (tyFi k) := by decide +kernel
theorem inFi : ∀ w ∈ u_ws RFi TFi 2, w ∈ W0 := by
  intro w h
  obtain ⟨k, hk, rfl⟩ := List.mem_map.mp h
  have hk := List.mem_range.mp hk
  match k, hk with
  | 0, _ => exact tw_36
  | 1, _ => exact tw_38
  | k + 2, hk => exact absurd hk (by omega)
abbrev RWo : String := "HearingDesk$Word"
def TWo : u_T := fun k => match k with
  | 0 => ("HearingDesk$Word", "first", "I", false)
  | 1 => ("HearingDesk$Word", "frames", "I", false)
  | 2 => ("HearingDesk$Word", "nearest", "I", false)
  | 3 => ("HearingDesk$Word", "letter", "I", false)
  | _ => ("HearingDesk$Word", "leastWarp", "D", false)
def tyWo : Nat → FieldType := fun k => match k with
  | 0 => .int
  | 1 => .int
  | 2 => .int
  | 3 => .int
  | _ => .double
theorem nmWo : ∀ a, a < 5 → ∀ b, b < 5 → a ≠ b → (TWo a).2.1 ≠ (TWo b).2.1 := by decide +kernel
theorem tyWo_ok : ∀ k, k < 5 → parseFieldDescriptor (TWo k).2.2.1 = some (tyWo k) := by decide +kernel
theorem inWo : ∀ w ∈ u_ws RWo TWo 5, w ∈ W0 := by
  intro w h
  obtain ⟨k, hk, rfl⟩ := List.mem_map.mp h
  have hk := List.mem_range.mp hk
  match k, hk with
  | 0, _ => exact tw_170
  | 1, _ => exact tw_172
  | 2, _ => exact tw_174
  | 3, _ => exact tw_176
  | 4, _ => exact tw_178
  | k + 5, hk => exact absurd hk (by omega)
abbrev RLi : String := "HearingDesk$WordList"
def TLi : u_T := fun k => match k with
  | 0 => ("HearingDesk$WordList", "row", "[LHearingDesk$Word;", true)
  | _ => ("HearingDesk$WordList", "size", "I", false)
def tyLi : Nat → FieldType := fun k => match k with
  | 0 => .array (.object "HearingDesk$Word")
  | _ => .int
theorem nmLi : ∀ a, a < 2 → ∀ b, b < 2 → a ≠ b → (TLi a).2.1 ≠ (TLi b).2.1 := by decide +kernel
theorem tyLi_ok : ∀ k, k < 2 → parseFieldDescriptor (TLi k).2.2.1 = some (tyLi k) := by decide +kernel
theorem inLi : ∀ w ∈ u_ws RLi TLi 2, w ∈ W0 := by
  intro w h
  obtain ⟨k, hk, rfl⟩ := List.mem_map.mp h
  have hk := List.mem_range.mp hk
  match k, hk with
  | 0, _ => exact tw_185
  | 1, _ => exact tw_187
  | k + 2, hk => exact absurd hk (by omega)
abbrev RDe : String := "HearingDesk"
def TDe : u_T := fun k => match k with
  | 0 => ("HearingDesk", "file", "LHearingDesk$SoundFile;", true)
  | 1 => ("HearingDesk", "circle", "LHearingDesk$Circle;", true)
  | 2 => ("HearingDesk", "sound", "LHearingDesk$Sound;", true)
  | 3 => ("HearingDesk", "book", "LHearingDesk$PatternBook;", true)
  | 4 => ("HearingDesk", "words", "LHearingDesk$WordList;", true)
  | 5 => ("HearingDesk", "rate", "I", false)
  | 6 => ("HearingDesk", "wrongPlace", "I", false)
  | 7 => ("HearingDesk", "threshold", "D", false)
  | 8 => ("HearingDesk", "gap", "I", false)
  | _ => ("HearingDesk", "limit", "D", false)
def tyDe : Nat → FieldType := fun k => match k with
  | 0 => .object "HearingDesk$SoundFile"
  | 1 => .object "HearingDesk$Circle"
  | 2 => .object "HearingDesk$Sound"
  | 3 => .object "HearingDesk$PatternBook"
  | 4 => .object "HearingDesk$WordList"
  | 5 => .int
  | 6 => .int
  | 7 => .double
  | 8 => .int
  | _ => .double
theorem nmDe : ∀ a, a < 10 → ∀ b, b < 10 → a ≠ b → (TDe a).2.1 ≠ (TDe b).2.1 := by decide +kernel
theorem tyDe_ok : ∀ k, k < 10 → parseFieldDescriptor (TDe k).2.2.1 = some (tyDe k) := by decide +kernel
theorem inDe : ∀ w ∈ u_ws RDe TDe 10, w ∈ W0 := by
  intro w h
  obtain ⟨k, hk, rfl⟩ := List.mem_map.mp h
  have hk := List.mem_range.mp hk
  match k, hk with
  | 0, _ => exact tw_202
  | 1, _ => exact tw_204
  | 2, _ => exact tw_206
  | 3, _ => exact tw_208
  | 4, _ => exact tw_210
  | 5, _ => exact tw_212
  | 6, _ => exact tw_214
  | 7, _ => exact tw_216
  | 8, _ => exact tw_218
  | 9, _ => exact tw_220
  | k + 10, hk => exact absurd hk (by omega)
abbrev RMo : String := "HearingDeskModel"
def TMo : u_T := fun k => match k with
  | 0 => ("HearingDeskModel", "err", "I", false)
  | 1 => ("HearingDeskModel", "filed", "I", false)
  | 2 => ("HearingDeskModel", "wrongAt", "I", false)
  | 3 => ("HearingDeskModel", "samples", "I", false)
  | 4 => ("HearingDeskModel", "rate", "I", false)
  | 5 => ("HearingDeskModel", "patterns", "I", false)
  | 6 => ("HearingDeskModel", "words", "I", false)
  | 7 => ("HearingDeskModel", "gap", "I", false)
  | 8 => ("HearingDeskModel", "first", "I", false)
  | 9 => ("HearingDeskModel", "second", "I", false)
  | 10 => ("HearingDeskModel", "threshold", "D", false)
  | 11 => ("HearingDeskModel", "limit", "D", false)
  | 12 => ("HearingDeskModel", "file", "[I", true)
  | 13 => ("HearingDeskModel", "letter", "[I", true)
  | 14 => ("HearingDeskModel", "rows", "[I", true)
  | 15 => ("HearingDeskModel", "wordLetter", "[I", true)
  | 16 => ("HearingDeskModel", "wordFirst", "[I", true)
  | 17 => ("HearingDeskModel", "wordSize", "[I", true)
  | 18 => ("HearingDeskModel", "wordPattern", "[I", true)
  | 19 => ("HearingDeskModel", "sample", "[D", true)
  | 20 => ("HearingDeskModel", "levels", "[D", true)
  | 21 => ("HearingDeskModel", "wordCost", "[D", true)
  | 22 => ("HearingDeskModel", "one", "[D", true)
  | 23 => ("HearingDeskModel", "two", "[D", true)
  | 24 => ("HearingDeskModel", "way", "[D", true)
  | 25 => ("HearingDeskModel", "cosines", "[D", true)
  | _ => ("HearingDeskModel", "sines", "[D", true)
def tyMo : Nat → FieldType := fun k => match k with
  | 0 => .int
  | 1 => .int
  | 2 => .int
  | 3 => .int
  | 4 => .int
  | 5 => .int
  | 6 => .int
  | 7 => .int
  | 8 => .int
  | 9 => .int
  | 10 => .double
  | 11 => .double
  | 12 => .array .int
  | 13 => .array .int
  | 14 => .array .int
  | 15 => .array .int
  | 16 => .array .int
  | 17 => .array .int
  | 18 => .array .int
  | 19 => .array .double
  | 20 => .array .double
  | 21 => .array .double
  | 22 => .array .double
  | 23 => .array .double
  | 24 => .array .double
  | 25 => .array .double
  | _ => .array .double
theorem nmMo : ∀ a, a < 27 → ∀ b, b < 27 → a ≠ b → (TMo a).2.1 ≠ (TMo b).2.1 := by decide +kernel
theorem tyMo_ok : ∀ k, k < 27 → parseFieldDescriptor (TMo k).2.2.1 = some (tyMo k) := by decide +kernel
theorem inMo : ∀ w ∈ u_ws RMo TMo 27, w ∈ W0 := by
  intro w h
  obtain ⟨k, hk, rfl⟩ := List.mem_map.mp h
  have hk := List.mem_range.mp hk
  match k, hk with
  | 0, _ => exact tw_674
  | 1, _ => exact tw_676
  | 2, _ => exact tw_678
  | 3, _ => exact tw_680
  | 4, _ => exact tw_682
  | 5, _ => exact tw_684
  | 6, _ => exact tw_686
  | 7, _ => exact tw_688
  | 8, _ => exact tw_690
  | 9, _ => exact tw_692
  | 10, _ => exact tw_694
  | 11, _ => exact tw_696
  | 12, _ => exact tw_698
  | 13, _ => exact tw_700
  | 14, _ => exact tw_702
  | 15, _ => exact tw_704
  | 16, _ => exact tw_706
  | 17, _ => exact tw_708
  | 18, _ => exact tw_710
  | 19, _ => exact tw_712
  | 20, _ => exact tw_714
  | 21, _ => exact tw_716
  | 22, _ => exact tw_718
  | 23, _ => exact tw_720
  | 24, _ => exact tw_722
  | 25, _ => exact tw_724
  | 26, _ => exact tw_726
  | k + 27, hk => exact absurd hk (by omega)
abbrev RNu : String := "HearingDesk$Numbers"
abbrev RLa : String := "HearingDeskLaw"
abbrev vwCl : List vw_C := [(RCi, TCi, 3), (RPa, TPa, 3), (RBo, TBo, 3), (RSo, TSo, 7), (RFi, TFi, 2), (RWo, TWo, 5), (RLi, TLi, 2), (RDe, TDe, 10), (RMo, TMo, 27)]
abbrev cDe_init : ByteArray := prog_1_method_1_code
abbrev yDe_init : MethodName := ⟨"HearingDesk", "<init>", "()V"⟩
abbrev wDe_init : List Cond := .code yDe_init cDe_init 1 none :: W0
abbrev cFi_init : ByteArray := prog_7_method_1_code
abbrev yFi_init : MethodName := ⟨"HearingDesk$SoundFile", "<init>", "()V"⟩
abbrev wFi_init : List Cond := .code yFi_init cFi_init 1 none :: W0
abbrev cCi_init : ByteArray := prog_2_method_1_code
abbrev yCi_init : MethodName := ⟨"HearingDesk$Circle", "<init>", "()V"⟩
abbrev wCi_init : List Cond := .code yCi_init cCi_init 4 none :: W0
abbrev cCi_series : ByteArray := prog_2_method_2_code
abbrev yCi_series : MethodName := ⟨"HearingDesk$Circle", "series", "(DI)D"⟩
abbrev wCi_series : List Cond := .code yCi_series cCi_series 6 (some .double) :: W0
abbrev cSo_init : ByteArray := prog_6_method_1_code
abbrev ySo_init : MethodName := ⟨"HearingDesk$Sound", "<init>", "(LHearingDesk$Circle;)V"⟩
abbrev wSo_init : List Cond := .code ySo_init cSo_init 2 none :: W0
abbrev cBo_init : ByteArray := prog_5_method_1_code
abbrev yBo_init : MethodName := ⟨"HearingDesk$PatternBook", "<init>", "()V"⟩
abbrev wBo_init : List Cond := .code yBo_init cBo_init 2 none :: W0
abbrev cPa_init : ByteArray := prog_4_method_1_code
abbrev yPa_init : MethodName := ⟨"HearingDesk$Pattern", "<init>", "()V"⟩
abbrev wPa_init : List Cond := .code yPa_init cPa_init 1 none :: W0
abbrev cLi_init : ByteArray := prog_9_method_1_code
abbrev yLi_init : MethodName := ⟨"HearingDesk$WordList", "<init>", "()V"⟩
abbrev wLi_init : List Cond := .code yLi_init cLi_init 2 none :: W0
abbrev cWo_init : ByteArray := prog_8_method_1_code
abbrev yWo_init : MethodName := ⟨"HearingDesk$Word", "<init>", "()V"⟩
abbrev wWo_init : List Cond := .code yWo_init cWo_init 1 none :: W0
abbrev cWo_begin : ByteArray := prog_8_method_2_code
abbrev yWo_begin : MethodName := ⟨"HearingDesk$Word", "begin", "(I)V"⟩
abbrev wWo_begin : List Cond := .code yWo_begin cWo_begin 2 none :: W0
abbrev cDe_place : ByteArray := prog_1_method_4_code
abbrev yDe_place : MethodName := ⟨"HearingDesk", "place", "()I"⟩
abbrev wDe_place : List Cond := .code yDe_place cDe_place 1 (some .int) :: W0
abbrev cDe_clear : ByteArray := prog_1_method_6_code
abbrev yDe_clear : MethodName := ⟨"HearingDesk", "clear", "()I"⟩
abbrev wDe_clear : List Cond := .code yDe_clear cDe_clear 2 (some .int) :: W0
abbrev cSo_empty : ByteArray := prog_6_method_3_code
abbrev ySo_empty : MethodName := ⟨"HearingDesk$Sound", "empty", "()V"⟩
abbrev wSo_empty : List Cond := .code ySo_empty cSo_empty 1 none :: W0
abbrev cLi_empty : ByteArray := prog_9_method_2_code
abbrev yLi_empty : MethodName := ⟨"HearingDesk$WordList", "empty", "()V"⟩
abbrev wLi_empty : List Cond := .code yLi_empty cLi_empty 1 none :: W0
abbrev cLa_octets : ByteArray := method_3_code
abbrev yLa_octets : MethodName := ⟨"HearingDeskLaw", "octets", "(LHearingDesk;IJ[J)I"⟩
abbrev cDe_octets : ByteArray := prog_1_method_2_code
abbrev yDe_octets : MethodName := ⟨"HearingDesk", "octets", "(IJ)I"⟩
abbrev wDe_octets : List Cond := .code yDe_octets cDe_octets 5 (some .int) :: W0
abbrev cFi_append : ByteArray := prog_7_method_2_code
abbrev yFi_append : MethodName := ⟨"HearingDesk$SoundFile", "append", "(I)V"⟩
abbrev wFi_append : List Cond := .code yFi_append cFi_append 2 none :: W0
abbrev cLa_read : ByteArray := method_4_code
abbrev yLa_read : MethodName := ⟨"HearingDeskLaw", "read", "(LHearingDesk;[J)I"⟩
abbrev cDe_read : ByteArray := prog_1_method_3_code
abbrev yDe_read : MethodName := ⟨"HearingDesk", "read", "()I"⟩
abbrev wDe_read : List Cond := .code yDe_read cDe_read 3 (some .int) :: W0
abbrev cFi_firstWrong : ByteArray := prog_7_method_4_code
abbrev yFi_firstWrong : MethodName := ⟨"HearingDesk$SoundFile", "firstWrong", "()I"⟩
abbrev wFi_firstWrong : List Cond := .code yFi_firstWrong cFi_firstWrong 2 (some .int) :: W0
abbrev cFi_firstWrongOfHead : ByteArray := prog_7_method_5_code
abbrev yFi_firstWrongOfHead : MethodName := ⟨"HearingDesk$SoundFile", "firstWrongOfHead", "()I"⟩
abbrev wFi_firstWrongOfHead : List Cond := .code yFi_firstWrongOfHead cFi_firstWrongOfHead 1 (some .int) :: W0
abbrev cFi_spells : ByteArray := prog_7_method_7_code
abbrev yFi_spells : MethodName := ⟨"HearingDesk$SoundFile", "spells", "(IIIII)Z"⟩
abbrev wFi_spells : List Cond := .code yFi_spells cFi_spells 6 (some .boolean) :: W0
abbrev cFi_four : ByteArray := prog_7_method_9_code
abbrev yFi_four : MethodName := ⟨"HearingDesk$SoundFile", "four", "(I)J"⟩
abbrev wFi_four : List Cond := .code yFi_four cFi_four 2 (some .long) :: W0
abbrev cFi_two : ByteArray := prog_7_method_8_code
abbrev yFi_two : MethodName := ⟨"HearingDesk$SoundFile", "two", "(I)I"⟩
abbrev wFi_two : List Cond := .code yFi_two cFi_two 2 (some .int) :: W0
abbrev cFi_firstWrongOfForm : ByteArray := prog_7_method_6_code
abbrev yFi_firstWrongOfForm : MethodName := ⟨"HearingDesk$SoundFile", "firstWrongOfForm", "()I"⟩
abbrev wFi_firstWrongOfForm : List Cond := .code yFi_firstWrongOfForm cFi_firstWrongOfForm 1 (some .int) :: W0
abbrev cFi_channels : ByteArray := prog_7_method_10_code
abbrev yFi_channels : MethodName := ⟨"HearingDesk$SoundFile", "channels", "()I"⟩
abbrev wFi_channels : List Cond := .code yFi_channels cFi_channels 1 (some .int) :: W0
abbrev cFi_rateSaid : ByteArray := prog_7_method_11_code
abbrev yFi_rateSaid : MethodName := ⟨"HearingDesk$SoundFile", "rateSaid", "()J"⟩
abbrev wFi_rateSaid : List Cond := .code yFi_rateSaid cFi_rateSaid 1 (some .long) :: W0
abbrev cFi_width : ByteArray := prog_7_method_12_code
abbrev yFi_width : MethodName := ⟨"HearingDesk$SoundFile", "width", "()I"⟩
abbrev wFi_width : List Cond := .code yFi_width cFi_width 1 (some .int) :: W0
abbrev cFi_bits : ByteArray := prog_7_method_13_code
abbrev yFi_bits : MethodName := ⟨"HearingDesk$SoundFile", "bits", "()I"⟩
abbrev wFi_bits : List Cond := .code yFi_bits cFi_bits 1 (some .int) :: W0
abbrev cFi_empty : ByteArray := prog_7_method_3_code
abbrev yFi_empty : MethodName := ⟨"HearingDesk$SoundFile", "empty", "()V"⟩
abbrev wFi_empty : List Cond := .code yFi_empty cFi_empty 1 none :: W0
abbrev cFi_sampleCount : ByteArray := prog_7_method_14_code
abbrev yFi_sampleCount : MethodName := ⟨"HearingDesk$SoundFile", "sampleCount", "()I"⟩
abbrev wFi_sampleCount : List Cond := .code yFi_sampleCount cFi_sampleCount 1 (some .int) :: W0
abbrev cFi_sampleAt : ByteArray := prog_7_method_15_code
abbrev yFi_sampleAt : MethodName := ⟨"HearingDesk$SoundFile", "sampleAt", "(I)D"⟩
abbrev wFi_sampleAt : List Cond := .code yFi_sampleAt cFi_sampleAt 3 (some .double) :: W0
abbrev cFi_channelAt : ByteArray := prog_7_method_16_code
abbrev yFi_channelAt : MethodName := ⟨"HearingDesk$SoundFile", "channelAt", "(I)D"⟩
abbrev wFi_channelAt : List Cond := .code yFi_channelAt cFi_channelAt 3 (some .double) :: W0
abbrev cSo_append : ByteArray := prog_6_method_2_code
abbrev ySo_append : MethodName := ⟨"HearingDesk$Sound", "append", "(D)V"⟩
abbrev wSo_append : List Cond := .code ySo_append cSo_append 3 none :: W0
abbrev cLa_wave : ByteArray := method_5_code
abbrev yLa_wave : MethodName := ⟨"HearingDeskLaw", "wave", "(LHearingDesk;IID[J)I"⟩
abbrev cDe_wave : ByteArray := prog_1_method_5_code
abbrev yDe_wave : MethodName := ⟨"HearingDesk", "wave", "(IID)I"⟩
abbrev wDe_wave : List Cond := .code yDe_wave cDe_wave 6 (some .int) :: W0
abbrev cNu_swing : ByteArray := prog_3_method_3_code
abbrev yNu_swing : MethodName := ⟨"HearingDesk$Numbers", "swing", "(DD)D"⟩
abbrev wNu_swing : List Cond := .code yNu_swing cNu_swing 4 (some .double) :: W0
abbrev cNu_finite : ByteArray := prog_3_method_2_code
abbrev yNu_finite : MethodName := ⟨"HearingDesk$Numbers", "finite", "(D)D"⟩
abbrev wNu_finite : List Cond := .code yNu_finite cNu_finite 2 (some .double) :: W0
abbrev cLa_sample : ByteArray := method_6_code
abbrev yLa_sample : MethodName := ⟨"HearingDeskLaw", "sample", "(LHearingDesk;I[D)I"⟩
abbrev cDe_sample : ByteArray := prog_1_method_7_code
abbrev yDe_sample : MethodName := ⟨"HearingDesk", "sample", "(I)D"⟩
abbrev wDe_sample : List Cond := .code yDe_sample cDe_sample 2 (some .double) :: W0
abbrev cLa_power : ByteArray := method_7_code
abbrev yLa_power : MethodName := ⟨"HearingDeskLaw", "power", "(LHearingDesk;II[D)I"⟩
abbrev cDe_power : ByteArray := prog_1_method_8_code
abbrev yDe_power : MethodName := ⟨"HearingDesk", "power", "(II)D"⟩
abbrev wDe_power : List Cond := .code yDe_power cDe_power 3 (some .double) :: W0
abbrev cSo_frames : ByteArray := prog_6_method_4_code
abbrev ySo_frames : MethodName := ⟨"HearingDesk$Sound", "frames", "()I"⟩
abbrev wSo_frames : List Cond := .code ySo_frames cSo_frames 1 (some .int) :: W0
abbrev cSo_weigh : ByteArray := prog_6_method_5_code
abbrev ySo_weigh : MethodName := ⟨"HearingDesk$Sound", "weigh", "(I)V"⟩
abbrev wSo_weigh : List Cond := .code ySo_weigh cSo_weigh 3 none :: W0
abbrev cSo_strength : ByteArray := prog_6_method_6_code
abbrev ySo_strength : MethodName := ⟨"HearingDesk$Sound", "strength", "(I)D"⟩
abbrev wSo_strength : List Cond := .code ySo_strength cSo_strength 8 (some .double) :: W0
abbrev cLa_level : ByteArray := method_8_code
abbrev yLa_level : MethodName := ⟨"HearingDeskLaw", "level", "(LHearingDesk;II[D)I"⟩
abbrev cDe_level : ByteArray := prog_1_method_9_code
abbrev yDe_level : MethodName := ⟨"HearingDesk", "level", "(II)D"⟩
abbrev wDe_level : List Cond := .code yDe_level cDe_level 3 (some .double) :: W0
abbrev cSo_judge : ByteArray := prog_6_method_7_code
abbrev ySo_judge : MethodName := ⟨"HearingDesk$Sound", "judge", "()V"⟩
abbrev wSo_judge : List Cond := .code ySo_judge cSo_judge 3 none :: W0
abbrev cSo_judgeBand : ByteArray := prog_6_method_8_code
abbrev ySo_judgeBand : MethodName := ⟨"HearingDesk$Sound", "judgeBand", "(III)V"⟩
abbrev wSo_judgeBand : List Cond := .code ySo_judgeBand cSo_judgeBand 7 none :: W0
abbrev cNu_logarithm : ByteArray := prog_3_method_4_code
abbrev yNu_logarithm : MethodName := ⟨"HearingDesk$Numbers", "logarithm", "(D)D"⟩
abbrev wNu_logarithm : List Cond := .code yNu_logarithm cNu_logarithm 12 (some .double) :: W0
abbrev cLa_ways : ByteArray := method_9_code
abbrev yLa_ways : MethodName := ⟨"HearingDeskLaw", "ways", "(LHearingDesk;DID)I"⟩
abbrev cDe_ways : ByteArray := prog_1_method_10_code
abbrev yDe_ways : MethodName := ⟨"HearingDesk", "ways", "(DID)V"⟩
abbrev wDe_ways : List Cond := .code yDe_ways cDe_ways 6 none :: W0
abbrev cLa_learn : ByteArray := method_10_code
abbrev yLa_learn : MethodName := ⟨"HearingDeskLaw", "learn", "(LHearingDesk;III[J)I"⟩
abbrev cDe_learn : ByteArray := prog_1_method_11_code
abbrev yDe_learn : MethodName := ⟨"HearingDesk", "learn", "(III)I"⟩
abbrev wDe_learn : List Cond := .code yDe_learn cDe_learn 4 (some .int) :: W0
abbrev cBo_append : ByteArray := prog_5_method_2_code
abbrev yBo_append : MethodName := ⟨"HearingDesk$PatternBook", "append", "(I[DII)V"⟩
abbrev wBo_append : List Cond := .code yBo_append cBo_append 6 none :: W0
abbrev cLa_forget : ByteArray := method_11_code
abbrev yLa_forget : MethodName := ⟨"HearingDeskLaw", "forget", "(LHearingDesk;I[J)I"⟩
abbrev cDe_forget : ByteArray := prog_1_method_12_code
abbrev yDe_forget : MethodName := ⟨"HearingDesk", "forget", "(I)I"⟩
abbrev wDe_forget : List Cond := .code yDe_forget cDe_forget 2 (some .int) :: W0
abbrev cBo_takeOut : ByteArray := prog_5_method_3_code
abbrev yBo_takeOut : MethodName := ⟨"HearingDesk$PatternBook", "takeOut", "(I)I"⟩
abbrev wBo_takeOut : List Cond := .code yBo_takeOut cBo_takeOut 4 (some .int) :: W0
abbrev cLa_warp : ByteArray := method_12_code
abbrev yLa_warp : MethodName := ⟨"HearingDeskLaw", "warp", "(LHearingDesk;II[D)I"⟩
abbrev cDe_warp : ByteArray := prog_1_method_13_code
abbrev yDe_warp : MethodName := ⟨"HearingDesk", "warp", "(II)D"⟩
abbrev wDe_warp : List Cond := .code yDe_warp cDe_warp 3 (some .double) :: W0
abbrev cBo_distance : ByteArray := prog_5_method_4_code
abbrev yBo_distance : MethodName := ⟨"HearingDesk$PatternBook", "distance", "([DIILHearingDesk$Pattern;)D"⟩
abbrev wBo_distance : List Cond := .code yBo_distance cBo_distance 8 (some .double) :: W0
abbrev cBo_far : ByteArray := prog_5_method_5_code
abbrev yBo_far : MethodName := ⟨"HearingDesk$PatternBook", "far", "([DI[DI)D"⟩
abbrev wBo_far : List Cond := .code yBo_far cBo_far 9 (some .double) :: W0
abbrev cBo_leastBefore : ByteArray := prog_5_method_6_code
abbrev yBo_leastBefore : MethodName := ⟨"HearingDesk$PatternBook", "leastBefore", "(II)D"⟩
abbrev wBo_leastBefore : List Cond := .code yBo_leastBefore cBo_leastBefore 6 (some .double) :: W0
abbrev cBo_lesser : ByteArray := prog_5_method_7_code
abbrev yBo_lesser : MethodName := ⟨"HearingDesk$PatternBook", "lesser", "(DD)D"⟩
abbrev wBo_lesser : List Cond := .code yBo_lesser cBo_lesser 4 (some .double) :: W0
abbrev cLa_hear : ByteArray := method_13_code
abbrev yLa_hear : MethodName := ⟨"HearingDeskLaw", "hear", "(LHearingDesk;[J)I"⟩
abbrev cDe_hear : ByteArray := prog_1_method_14_code
abbrev yDe_hear : MethodName := ⟨"HearingDesk", "hear", "()I"⟩
abbrev wDe_hear : List Cond := .code yDe_hear cDe_hear 2 (some .int) :: W0
abbrev cLi_cutOut : ByteArray := prog_9_method_3_code
abbrev yLi_cutOut : MethodName := ⟨"HearingDesk$WordList", "cutOut", "(LHearingDesk$Sound;DI)V"⟩
abbrev wLi_cutOut : List Cond := .code yLi_cutOut cLi_cutOut 9 none :: W0
abbrev cSo_loudness : ByteArray := prog_6_method_9_code
abbrev ySo_loudness : MethodName := ⟨"HearingDesk$Sound", "loudness", "(I)D"⟩
abbrev wSo_loudness : List Cond := .code ySo_loudness cSo_loudness 5 (some .double) :: W0
abbrev cWo_reach : ByteArray := prog_8_method_3_code
abbrev yWo_reach : MethodName := ⟨"HearingDesk$Word", "reach", "(I)V"⟩
abbrev wWo_reach : List Cond := .code yWo_reach cWo_reach 2 none :: W0
abbrev cWo_recognise : ByteArray := prog_8_method_4_code
abbrev yWo_recognise : MethodName := ⟨"HearingDesk$Word", "recognise", "(LHearingDesk$Sound;LHearingDesk$PatternBook;D)V"⟩
abbrev wWo_recognise : List Cond := .code yWo_recognise cWo_recognise 8 none :: W0
abbrev cLa_word : ByteArray := method_14_code
abbrev yLa_word : MethodName := ⟨"HearingDeskLaw", "word", "(LHearingDesk;II[J)I"⟩
abbrev cDe_word : ByteArray := prog_1_method_15_code
abbrev yDe_word : MethodName := ⟨"HearingDesk", "word", "(II)I"⟩
abbrev wDe_word : List Cond := .code yDe_word cDe_word 4 (some .int) :: W0
abbrev cDe_milliseconds : ByteArray := prog_1_method_18_code
abbrev yDe_milliseconds : MethodName := ⟨"HearingDesk", "milliseconds", "(I)I"⟩
abbrev wDe_milliseconds : List Cond := .code yDe_milliseconds cDe_milliseconds 2 (some .int) :: W0
abbrev cLa_cost : ByteArray := method_15_code
abbrev yLa_cost : MethodName := ⟨"HearingDeskLaw", "cost", "(LHearingDesk;I[D)I"⟩
abbrev cDe_cost : ByteArray := prog_1_method_16_code
abbrev yDe_cost : MethodName := ⟨"HearingDesk", "cost", "(I)D"⟩
abbrev wDe_cost : List Cond := .code yDe_cost cDe_cost 2 (some .double) :: W0
abbrev cLa_count : ByteArray := method_16_code
abbrev yLa_count : MethodName := ⟨"HearingDeskLaw", "count", "(LHearingDesk;I[J)I"⟩
abbrev cDe_count : ByteArray := prog_1_method_17_code
abbrev yDe_count : MethodName := ⟨"HearingDesk", "count", "(I)I"⟩
abbrev wDe_count : List Cond := .code yDe_count cDe_count 2 (some .int) :: W0
abbrev cDe_loudFrames : ByteArray := prog_1_method_19_code
abbrev yDe_loudFrames : MethodName := ⟨"HearingDesk", "loudFrames", "()I"⟩
abbrev wDe_loudFrames : List Cond := .code yDe_loudFrames cDe_loudFrames 3 (some .int) :: W0
abbrev cMo_init : ByteArray := prog_11_method_1_code
abbrev yMo_init : MethodName := ⟨"HearingDeskModel", "<init>", "()V"⟩
abbrev wMo_init : List Cond := .code yMo_init cMo_init 11 none :: W0
abbrev cMo_thrown : ByteArray := prog_11_method_2_code
abbrev yMo_thrown : MethodName := ⟨"HearingDeskModel", "thrown", "()I"⟩
abbrev wMo_thrown : List Cond := .code yMo_thrown cMo_thrown 1 (some .int) :: W0
abbrev cMo_octets : ByteArray := prog_11_method_5_code
abbrev yMo_octets : MethodName := ⟨"HearingDeskModel", "octets", "(IJ)I"⟩
abbrev wMo_octets : List Cond := .code yMo_octets cMo_octets 5 (some .int) :: W0
abbrev cMo_in : ByteArray := prog_11_method_3_code
abbrev yMo_in : MethodName := ⟨"HearingDeskModel", "in", "(JJJ)Z"⟩
abbrev wMo_in : List Cond := .code yMo_in cMo_in 6 (some .boolean) :: W0
abbrev cMo_fails : ByteArray := prog_11_method_4_code
abbrev yMo_fails : MethodName := ⟨"HearingDeskModel", "fails", "(ZI)Z"⟩
abbrev wMo_fails : List Cond := .code yMo_fails cMo_fails 3 (some .boolean) :: W0
abbrev cMo_read : ByteArray := prog_11_method_10_code
abbrev yMo_read : MethodName := ⟨"HearingDeskModel", "read", "()I"⟩
abbrev wMo_read : List Cond := .code yMo_read cMo_read 8 (some .int) :: W0
abbrev cMo_wrong : ByteArray := prog_11_method_8_code
abbrev yMo_wrong : MethodName := ⟨"HearingDeskModel", "wrong", "()I"⟩
abbrev wMo_wrong : List Cond := .code yMo_wrong cMo_wrong 9 (some .int) :: W0
abbrev cMo_number : ByteArray := prog_11_method_6_code
abbrev yMo_number : MethodName := ⟨"HearingDeskModel", "number", "(II)J"⟩
abbrev wMo_number : List Cond := .code yMo_number cMo_number 6 (some .long) :: W0
abbrev cMo_spells : ByteArray := prog_11_method_7_code
abbrev yMo_spells : MethodName := ⟨"HearingDeskModel", "spells", "(IIIII)Z"⟩
abbrev wMo_spells : List Cond := .code yMo_spells cMo_spells 6 (some .boolean) :: W0
abbrev cMo_heard : ByteArray := prog_11_method_9_code
abbrev yMo_heard : MethodName := ⟨"HearingDeskModel", "heard", "(II)D"⟩
abbrev wMo_heard : List Cond := .code yMo_heard cMo_heard 4 (some .double) :: W0
abbrev cMo_place : ByteArray := prog_11_method_11_code
abbrev yMo_place : MethodName := ⟨"HearingDeskModel", "place", "()I"⟩
abbrev wMo_place : List Cond := .code yMo_place cMo_place 1 (some .int) :: W0
abbrev cMo_wave : ByteArray := prog_11_method_12_code
abbrev yMo_wave : MethodName := ⟨"HearingDeskModel", "wave", "(IID)I"⟩
abbrev wMo_wave : List Cond := .code yMo_wave cMo_wave 6 (some .int) :: W0
abbrev cMo_clear : ByteArray := prog_11_method_13_code
abbrev yMo_clear : MethodName := ⟨"HearingDeskModel", "clear", "()I"⟩
abbrev wMo_clear : List Cond := .code yMo_clear cMo_clear 2 (some .int) :: W0
abbrev cMo_sample : ByteArray := prog_11_method_14_code
abbrev yMo_sample : MethodName := ⟨"HearingDeskModel", "sample", "(I)D"⟩
abbrev wMo_sample : List Cond := .code yMo_sample cMo_sample 2 (some .double) :: W0
abbrev cMo_power : ByteArray := prog_11_method_21_code
abbrev yMo_power : MethodName := ⟨"HearingDeskModel", "power", "(II)D"⟩
abbrev wMo_power : List Cond := .code yMo_power cMo_power 3 (some .double) :: W0
abbrev cMo_frames : ByteArray := prog_11_method_15_code
abbrev yMo_frames : MethodName := ⟨"HearingDeskModel", "frames", "()I"⟩
abbrev wMo_frames : List Cond := .code yMo_frames cMo_frames 1 (some .int) :: W0
abbrev cMo_powerOf : ByteArray := prog_11_method_16_code
abbrev yMo_powerOf : MethodName := ⟨"HearingDeskModel", "powerOf", "(II)D"⟩
abbrev wMo_powerOf : List Cond := .code yMo_powerOf cMo_powerOf 10 (some .double) :: W0
abbrev cMo_level : ByteArray := prog_11_method_22_code
abbrev yMo_level : MethodName := ⟨"HearingDeskModel", "level", "(II)D"⟩
abbrev wMo_level : List Cond := .code yMo_level cMo_level 3 (some .double) :: W0
abbrev cMo_levelOf : ByteArray := prog_11_method_19_code
abbrev yMo_levelOf : MethodName := ⟨"HearingDeskModel", "levelOf", "(II)D"⟩
abbrev wMo_levelOf : List Cond := .code yMo_levelOf cMo_levelOf 5 (some .double) :: W0
abbrev cMo_bandOf : ByteArray := prog_11_method_17_code
abbrev yMo_bandOf : MethodName := ⟨"HearingDeskModel", "bandOf", "(II)D"⟩
abbrev wMo_bandOf : List Cond := .code yMo_bandOf cMo_bandOf 8 (some .double) :: W0
abbrev cMo_logarithm : ByteArray := prog_11_method_18_code
abbrev yMo_logarithm : MethodName := ⟨"HearingDeskModel", "logarithm", "(D)D"⟩
abbrev wMo_logarithm : List Cond := .code yMo_logarithm cMo_logarithm 12 (some .double) :: W0
abbrev cMo_ways : ByteArray := prog_11_method_23_code
abbrev yMo_ways : MethodName := ⟨"HearingDeskModel", "ways", "(DID)V"⟩
abbrev wMo_ways : List Cond := .code yMo_ways cMo_ways 6 none :: W0
abbrev cMo_learn : ByteArray := prog_11_method_24_code
abbrev yMo_learn : MethodName := ⟨"HearingDeskModel", "learn", "(III)I"⟩
abbrev wMo_learn : List Cond := .code yMo_learn cMo_learn 6 (some .int) :: W0
abbrev cMo_forget : ByteArray := prog_11_method_25_code
abbrev yMo_forget : MethodName := ⟨"HearingDeskModel", "forget", "(I)I"⟩
abbrev wMo_forget : List Cond := .code yMo_forget cMo_forget 5 (some .int) :: W0
abbrev cMo_warp : ByteArray := prog_11_method_28_code
abbrev yMo_warp : MethodName := ⟨"HearingDeskModel", "warp", "(II)D"⟩
abbrev wMo_warp : List Cond := .code yMo_warp cMo_warp 3 (some .double) :: W0
abbrev cMo_takes : ByteArray := prog_11_method_26_code
abbrev yMo_takes : MethodName := ⟨"HearingDeskModel", "takes", "([DI)V"⟩
abbrev wMo_takes : List Cond := .code yMo_takes cMo_takes 4 none :: W0
abbrev cMo_warps : ByteArray := prog_11_method_27_code
abbrev yMo_warps : MethodName := ⟨"HearingDeskModel", "warps", "()D"⟩
abbrev wMo_warps : List Cond := .code yMo_warps cMo_warps 8 (some .double) :: W0
abbrev cMo_hear : ByteArray := prog_11_method_30_code
abbrev yMo_hear : MethodName := ⟨"HearingDeskModel", "hear", "()I"⟩
abbrev wMo_hear : List Cond := .code yMo_hear cMo_hear 7 (some .int) :: W0
abbrev cMo_isLoud : ByteArray := prog_11_method_20_code
abbrev yMo_isLoud : MethodName := ⟨"HearingDeskModel", "isLoud", "(I)Z"⟩
abbrev wMo_isLoud : List Cond := .code yMo_isLoud cMo_isLoud 5 (some .boolean) :: W0
abbrev cMo_writes : ByteArray := prog_11_method_29_code
abbrev yMo_writes : MethodName := ⟨"HearingDeskModel", "writes", "(II)V"⟩
abbrev wMo_writes : List Cond := .code yMo_writes cMo_writes 7 none :: W0
abbrev cMo_word : ByteArray := prog_11_method_31_code
abbrev yMo_word : MethodName := ⟨"HearingDeskModel", "word", "(II)I"⟩
abbrev wMo_word : List Cond := .code yMo_word cMo_word 3 (some .int) :: W0
abbrev cMo_cost : ByteArray := prog_11_method_32_code
abbrev yMo_cost : MethodName := ⟨"HearingDeskModel", "cost", "(I)D"⟩
abbrev wMo_cost : List Cond := .code yMo_cost cMo_cost 2 (some .double) :: W0
abbrev cMo_count : ByteArray := prog_11_method_33_code
abbrev yMo_count : MethodName := ⟨"HearingDeskModel", "count", "(I)I"⟩
abbrev wMo_count : List Cond := .code yMo_count cMo_count 4 (some .int) :: W0
end
