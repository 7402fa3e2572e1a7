-- what the document calls A, C, S, P, LN, LEVEL, LOUD, FAR, D, WARP: as functions on bits
def hd_1 : UInt64 := 4607182418800017408
def hd_2 : UInt64 := 4611686018427387904
def hd_h : UInt64 := 4602678819172646912
def hd_ep : UInt64 := 4457293557087583675
def hd_15 : UInt64 := 4609434218613702656
def hd_75 : UInt64 := 4604930618986332160
def hd_l : UInt64 := 4604418534313441775
def hd_A (n : Nat) : UInt64 := FP.dmul (FP.i2d (if 17 ≤ n then nI n - 32 else nI n)) 4596242258042563864
def hd_sr (o : Nat) (y : UInt64) : Nat → UInt64
  | 0 => hd_1
  | k + 1 => FP.dsub hd_1 (FP.ddiv (FP.dmul y (hd_sr o y k)) (FP.i2d (nI ((24 - 2 * k + o) * (24 - 2 * k + o - 1)))))
def hd_C (n : Nat) : UInt64 := hd_sr 0 (FP.dmul (hd_A n) (hd_A n)) 12
def hd_S (n : Nat) : UInt64 := FP.dmul (hd_A n) (hd_sr 1 (FP.dmul (hd_A n) (hd_A n)) 12)
def hd_W (n : Nat) : UInt64 := FP.dsub hd_h (FP.dmul hd_h (hd_C n))
def hd_v (sa : Nat → UInt64) (f i : Nat) : UInt64 := FP.dmul (sa (16 * f + i)) (hd_W i)
def hd_re (sa : Nat → UInt64) (f k : Nat) : Nat → UInt64
  | 0 => 0
  | i + 1 => FP.dadd (hd_re sa f k i) (FP.dmul (hd_v sa f i) (hd_C (k * i % 32)))
def hd_im (sa : Nat → UInt64) (f k : Nat) : Nat → UInt64
  | 0 => 0
  | i + 1 => FP.dsub (hd_im sa f k i) (FP.dmul (hd_v sa f i) (hd_S (k * i % 32)))
def hd_P (sa : Nat → UInt64) (f k : Nat) : UInt64 := FP.dadd (FP.dmul (hd_re sa f k 32) (hd_re sa f k 32)) (FP.dmul (hd_im sa f k 32) (hd_im sa f k 32))
def hd_bl (b : Nat) : Nat := if b = 0 then 1 else if b = 1 then 3 else if b = 2 then 5 else 9
def hd_bn (b : Nat) : Nat := if b = 0 then 2 else if b = 1 then 2 else if b = 2 then 4 else 8
def hd_bs (sa : Nat → UInt64) (f lo : Nat) : Nat → UInt64
  | 0 => 0
  | m + 1 => FP.dadd (hd_bs sa f lo m) (hd_P sa f (lo + m))
def hd_su (sa : Nat → UInt64) (f b : Nat) : UInt64 := hd_bs sa f (hd_bl b) (hd_bn b)
def hd_lo (sa : Nat → UInt64) (f : Nat) : Nat → UInt64
  | 0 => 0
  | b + 1 => FP.dadd (hd_lo sa f b) (hd_su sa f b)
-- LN: halved as long as it is 1.5 or more, doubled as long as it is below 0.75 (the fuel is never used up), then the series
def hd_l1 : Nat → UInt64 → Int32 → UInt64 × Int32
  | 0, x, k => (x, k)
  | n + 1, x, k => if FP.dcmp x hd_15 = some .gt ∨ FP.dcmp x hd_15 = some .eq then hd_l1 n (FP.ddiv x hd_2) (k + 1) else (x, k)
def hd_l2 : Nat → UInt64 → Int32 → UInt64 × Int32
  | 0, x, k => (x, k)
  | n + 1, x, k => if FP.dcmp x hd_75 = some .lt then hd_l2 n (FP.dmul x hd_2) (k - 1) else (x, k)
def hd_l3 (y : UInt64) : Nat → UInt64
  | 0 => 0
  | k + 1 => FP.dadd (FP.dmul (hd_l3 y k) y) (FP.ddiv hd_1 (FP.i2d (nI (19 - 2 * k))))
def hd_z (x : UInt64) : UInt64 := FP.ddiv (FP.dsub x hd_1) (FP.dadd x hd_1)
def hd_le (x : UInt64) (k : Int32) : UInt64 := FP.dadd (FP.dmul (FP.dmul hd_2 (hd_z x)) (hd_l3 (FP.dmul (hd_z x) (hd_z x)) 10)) (FP.dmul (FP.i2d k) hd_l)
def hd_x2 (x : UInt64) : UInt64 × Int32 := hd_l2 2000 (hd_l1 2000 x 0).1 (hd_l1 2000 x 0).2
def hd_ln (x : UInt64) : UInt64 := hd_le (hd_x2 x).1 (hd_x2 x).2
def hd_fl (s : UInt64) : UInt64 := if FP.dcmp s hd_ep = some .gt then s else hd_ep
def hd_lev (sa : Nat → UInt64) (f b : Nat) : UInt64 := hd_ln (hd_fl (hd_su sa f b))
-- bounds
theorem hd_C_b : ∀ n, n < 32 → (hd_C n).toNat % 2 ^ 63 < 1024 * 2 ^ 52 := by decide +kernel
theorem hd_S_b : ∀ n, n < 32 → (hd_S n).toNat % 2 ^ 63 < 1024 * 2 ^ 52 := by decide +kernel
theorem hd_W_b : ∀ n, n < 32 → (hd_W n).toNat % 2 ^ 63 < 1024 * 2 ^ 52 := by decide +kernel
theorem hd_v_b {sa : Nat → UInt64} {f : Nat} (h : ∀ i, i < 32 → fb_ 1057 (sa (16 * f + i))) {i : Nat} (hi : i < 32) : fb_ 1059 (hd_v sa f i) := fb_mono (fb_mul (h i hi) (hd_W_b i hi) (by decide) (by decide)) (by omega)
theorem hd_vc_b {sa : Nat → UInt64} {f : Nat} (h : ∀ i, i < 32 → fb_ 1057 (sa (16 * f + i))) {i j : Nat} (hi : i < 32) (hj : j < 32) : fb_ 1061 (FP.dmul (hd_v sa f i) (hd_C j)) := fb_mono (fb_mul (hd_v_b h hi) (hd_C_b j hj) (by decide) (by decide)) (by omega)
theorem hd_vs_b {sa : Nat → UInt64} {f : Nat} (h : ∀ i, i < 32 → fb_ 1057 (sa (16 * f + i))) {i j : Nat} (hi : i < 32) (hj : j < 32) : fb_ 1061 (FP.dmul (hd_v sa f i) (hd_S j)) := fb_mono (fb_mul (hd_v_b h hi) (hd_S_b j hj) (by decide) (by decide)) (by omega)
theorem hd_re_b {sa : Nat → UInt64} {f : Nat} (h : ∀ i, i < 32 → fb_ 1057 (sa (16 * f + i))) (k : Nat) : ∀ n, n ≤ 32 → fb_ (1061 + 2 * n) (hd_re sa f k n)
  | 0, _ => by unfold fb_ hd_re; decide
  | n + 1, hn => fb_mono (fb_add (hd_re_b h k n (by omega)) (fb_mono (hd_vc_b h (by omega) (Nat.mod_lt _ (by decide))) (by omega)) (by omega)) (by omega)
theorem hd_im_b {sa : Nat → UInt64} {f : Nat} (h : ∀ i, i < 32 → fb_ 1057 (sa (16 * f + i))) (k : Nat) : ∀ n, n ≤ 32 → fb_ (1061 + 2 * n) (hd_im sa f k n)
  | 0, _ => by unfold fb_ hd_im; decide
  | n + 1, hn => fb_mono (fb_sub (hd_im_b h k n (by omega)) (fb_mono (hd_vs_b h (by omega) (Nat.mod_lt _ (by decide))) (by omega)) (by omega)) (by omega)
theorem hd_re2_b {sa : Nat → UInt64} {f : Nat} (h : ∀ i, i < 32 → fb_ 1057 (sa (16 * f + i))) (k : Nat) : fb_ 1228 (FP.dmul (hd_re sa f k 32) (hd_re sa f k 32)) := fb_mono (fb_mul (hd_re_b h k 32 (by decide)) (hd_re_b h k 32 (by decide)) (by decide) (by decide)) (by omega)
theorem hd_im2_b {sa : Nat → UInt64} {f : Nat} (h : ∀ i, i < 32 → fb_ 1057 (sa (16 * f + i))) (k : Nat) : fb_ 1228 (FP.dmul (hd_im sa f k 32) (hd_im sa f k 32)) := fb_mono (fb_mul (hd_im_b h k 32 (by decide)) (hd_im_b h k 32 (by decide)) (by decide) (by decide)) (by omega)
theorem hd_P_b {sa : Nat → UInt64} {f : Nat} (h : ∀ i, i < 32 → fb_ 1057 (sa (16 * f + i))) (k : Nat) : fb_ 1230 (hd_P sa f k) := fb_mono (fb_add (hd_re2_b h k) (hd_im2_b h k) (by decide)) (by omega)
theorem hd_P_p {sa : Nat → UInt64} {f : Nat} (h : ∀ i, i < 32 → fb_ 1057 (sa (16 * f + i))) (k : Nat) : po_ (hd_P sa f k) := po_add (fb_fin (hd_re2_b h k) (by decide)) (fb_fin (hd_im2_b h k) (by decide)) (po_sq (fb_fin (hd_re_b h k 32 (by decide)) (by decide))) (po_sq (fb_fin (hd_im_b h k 32 (by decide)) (by decide)))
theorem hd_bs_b {sa : Nat → UInt64} {f : Nat} (h : ∀ i, i < 32 → fb_ 1057 (sa (16 * f + i))) (lo : Nat) : ∀ m, m ≤ 8 → fb_ (1230 + 2 * m) (hd_bs sa f lo m)
  | 0, _ => by unfold fb_ hd_bs; decide
  | m + 1, hm => fb_mono (fb_add (hd_bs_b h lo m (by omega)) (fb_mono (hd_P_b h (lo + m)) (by omega)) (by omega)) (by omega)
theorem hd_bs_p {sa : Nat → UInt64} {f : Nat} (h : ∀ i, i < 32 → fb_ 1057 (sa (16 * f + i))) (lo : Nat) : ∀ m, m ≤ 8 → po_ (hd_bs sa f lo m)
  | 0, _ => by unfold po_ hd_bs; decide
  | m + 1, hm => po_add (fb_fin (hd_bs_b h lo m (by omega)) (by omega)) (fb_fin (hd_P_b h (lo + m)) (by decide)) (hd_bs_p h lo m (by omega)) (hd_P_p h (lo + m))
theorem hd_bn_8 (b : Nat) : hd_bn b ≤ 8 := by unfold hd_bn; split <;> (try split) <;> (try split) <;> omega
theorem hd_su_b {sa : Nat → UInt64} {f : Nat} (h : ∀ i, i < 32 → fb_ 1057 (sa (16 * f + i))) (b : Nat) : fb_ 1246 (hd_su sa f b) := fb_mono (hd_bs_b h (hd_bl b) (hd_bn b) (hd_bn_8 b)) (by have := hd_bn_8 b; omega)
theorem hd_su_p {sa : Nat → UInt64} {f : Nat} (h : ∀ i, i < 32 → fb_ 1057 (sa (16 * f + i))) (b : Nat) : po_ (hd_su sa f b) := hd_bs_p h (hd_bl b) (hd_bn b) (hd_bn_8 b)
theorem hd_lo_b {sa : Nat → UInt64} {f : Nat} (h : ∀ i, i < 32 → fb_ 1057 (sa (16 * f + i))) : ∀ b, b ≤ 4 → fb_ (1246 + 2 * b) (hd_lo sa f b)
  | 0, _ => by unfold fb_ hd_lo; decide
  | b + 1, hb => fb_mono (fb_add (hd_lo_b h b (by omega)) (fb_mono (hd_su_b h b) (by omega)) (by omega)) (by omega)
-- LN: what goes in lies between 0.0000000001 and 2 ^ 223; what is left lies between 0.75 and 1.5
def hd_in (x : UInt64) : Prop := 989 * 2 ^ 52 ≤ x.toNat ∧ x.toNat < 1246 * 2 ^ 52
theorem hd_in_p {x : UInt64} (h : hd_in x) : po_ x := by unfold hd_in at h; unfold po_; omega
theorem hd_in_b {x : UInt64} (h : hd_in x) : fb_ 1246 x := by unfold hd_in at h; unfold fb_; omega
theorem hd_fl_in {s : UInt64} (h : fb_ 1246 s) (p : po_ s) : hd_in (hd_fl s) := by
  have e : hd_ep.toNat = 4457293557087583675 := by decide
  unfold hd_fl
  by_cases c : FP.dcmp s hd_ep = some .gt
  · rw [if_pos c]
    rw [fo_gt (fb_nn h (by decide)) (by decide +kernel) p (by unfold po_; decide), e] at c
    unfold hd_in
    unfold fb_ at h
    unfold po_ at p
    omega
  · rw [if_neg c]
    unfold hd_in
    rw [e]
    omega
theorem hd_15_n : hd_15.toNat = 4609434218613702656 := by decide
theorem hd_75_n : hd_75.toNat = 4604930618986332160 := by decide
theorem hd_c15 {x : UInt64} (h : hd_in x) : (FP.dcmp x hd_15 = some .gt ∨ FP.dcmp x hd_15 = some .eq) ↔ 4609434218613702656 ≤ x.toNat := by
  have n1 := fb_nn (hd_in_b h) (by decide)
  have n2 : FP.Core.val64 hd_15 ≠ .nan := by decide +kernel
  have p2 : po_ hd_15 := by unfold po_; decide
  rw [fo_gt n1 n2 (hd_in_p h) p2, fo_eq n1 n2 (hd_in_p h) p2, hd_15_n]
  omega
theorem hd_c75 {x : UInt64} (h : hd_in x) : FP.dcmp x hd_75 = some .lt ↔ x.toNat < 4604930618986332160 := by
  rw [fo_lt (fb_nn (hd_in_b h) (by decide)) (by decide +kernel) (hd_in_p h) (by unfold po_; decide), hd_75_n]
theorem hd_l1_in : ∀ (n : Nat) (x : UInt64) (k : Int32), hd_in x → x.toNat < 4609434218613702656 + n * 2 ^ 52 → hd_in (hd_l1 n x k).1 ∧ (hd_l1 n x k).1.toNat < 4609434218613702656
  | 0, x, k, h, hn => ⟨h, by show x.toNat < _; omega⟩
  | n + 1, x, k, h, hn => by
    unfold hd_l1
    by_cases c : FP.dcmp x hd_15 = some .gt ∨ FP.dcmp x hd_15 = some .eq
    · rw [if_pos c]
      have c' := (hd_c15 h).mp c
      have e : (FP.ddiv x hd_2).toNat = x.toNat - 2 ^ 52 := fn_half (by omega) (by unfold hd_in at h; omega)
      exact hd_l1_in n _ _ (by unfold hd_in at h ⊢; rw [e]; omega) (by rw [e]; omega)
    · rw [if_neg c]
      exact ⟨h, by have := mt (hd_c15 h).mpr c; show x.toNat < _; omega⟩
theorem hd_l2_in : ∀ (n : Nat) (x : UInt64) (k : Int32), hd_in x → x.toNat < 4609434218613702656 → 4604930618986332160 ≤ x.toNat + n * 2 ^ 52 → 4604930618986332160 ≤ (hd_l2 n x k).1.toNat ∧ (hd_l2 n x k).1.toNat < 4609434218613702656
  | 0, x, k, h, h1, hn => ⟨by show _ ≤ x.toNat; omega, h1⟩
  | n + 1, x, k, h, h1, hn => by
    unfold hd_l2
    by_cases c : FP.dcmp x hd_75 = some .lt
    · rw [if_pos c]
      have c' := (hd_c75 h).mp c
      have e : (FP.dmul x hd_2).toNat = x.toNat + 2 ^ 52 := fn_dbl (by unfold hd_in at h; omega) (by unfold hd_in at h; omega)
      exact hd_l2_in n _ _ (by unfold hd_in at h ⊢; rw [e]; omega) (by rw [e]; omega) (by rw [e]; omega)
    · rw [if_neg c]
      exact ⟨by have := mt (hd_c75 h).mpr c; show _ ≤ x.toNat; omega, h1⟩
theorem hd_x2_in {x : UInt64} (h : hd_in x) : 4604930618986332160 ≤ (hd_x2 x).1.toNat ∧ (hd_x2 x).1.toNat < 4609434218613702656 := by
  obtain ⟨a, b⟩ := hd_l1_in 2000 x 0 h (by unfold hd_in at h; omega)
  exact hd_l2_in 2000 _ _ a b (by unfold hd_in at a; omega)
-- the series of LN
def hd_ok (x : UInt64) : Prop := 4604930618986332160 ≤ x.toNat ∧ x.toNat < 4609434218613702656
theorem hd_ok_b {x : UInt64} (h : hd_ok x) : fb_ 1024 x := by unfold hd_ok at h; unfold fb_; omega
theorem hd_ok_p {x : UInt64} (h : hd_ok x) : po_ x := by unfold hd_ok at h; unfold po_; omega
theorem hd_1_b : fb_ 1024 hd_1 := by unfold fb_; decide
theorem hd_1_p : po_ hd_1 := by unfold po_; decide
theorem hd_m1_b {x : UInt64} (h : hd_ok x) : fb_ 1026 (FP.dsub x hd_1) := fb_mono (fb_sub (hd_ok_b h) hd_1_b (by decide)) (by omega)
theorem hd_p1_b {x : UInt64} (h : hd_ok x) : fb_ 1026 (FP.dadd x hd_1) := fb_mono (fb_add (hd_ok_b h) hd_1_b (by decide)) (by omega)
theorem hd_p1_p {x : UInt64} (h : hd_ok x) : po_ (FP.dadd x hd_1) := po_add (fb_fin (hd_ok_b h) (by decide)) (fb_fin hd_1_b (by decide)) (hd_ok_p h) hd_1_p
theorem hd_p1_g {x : UInt64} (h : hd_ok x) : 1023 * 2 ^ 52 ≤ (FP.dadd x hd_1).toNat % 2 ^ 63 := by
  have nx := fb_nn (hd_ok_b h) (by decide)
  have n1 := fb_nn hd_1_b (by decide)
  have hs := FP.Core.sum_ge FP.Core.good_b64 (fb_fin (hd_ok_b h) (by decide)) (fb_fin hd_1_b (by decide)) (FP.Core.val64_fits x) (FP.Core.val64_fits hd_1) (FP.Core.val64_fits hd_1) n1 (by have := FP.Core.zval_nonneg nx (hd_ok_p h); omega)
  rw [← FP.Core.val64_dadd] at hs
  have np := fb_nn (hd_p1_b h) (by decide)
  have hc := FP.Core.dcmp_ge.mpr ⟨np, n1, hs⟩
  have pp := hd_p1_p h
  have hc2 : hd_1.toNat ≤ (FP.dadd x hd_1).toNat := by
    rcases hc with g | g
    · exact Nat.le_of_lt ((fo_gt np n1 pp hd_1_p).mp g)
    · exact Nat.le_of_eq ((fo_eq np n1 pp hd_1_p).mp g).symm
  have e : hd_1.toNat = 4607182418800017408 := by decide
  rw [e] at hc2
  unfold po_ at pp
  omega
theorem hd_z_b {x : UInt64} (h : hd_ok x) : fb_ 1027 (hd_z x) := fb_mono (fb_div (hd_m1_b h) (hd_p1_g h) (fb_mono (hd_p1_b h) (by decide)) (by decide) (by decide)) (by omega)
theorem hd_y_b {x : UInt64} (h : hd_ok x) : fb_ 1032 (FP.dmul (hd_z x) (hd_z x)) := fb_mono (fb_mul (hd_z_b h) (hd_z_b h) (by decide) (by decide)) (by omega)
theorem hd_j_g : ∀ k, k < 10 → 1023 * 2 ^ 52 ≤ (FP.i2d (nI (19 - 2 * k))).toNat % 2 ^ 63 := by decide +kernel
theorem hd_j_b {k : Nat} (hk : k < 10) : fb_ 1025 (FP.ddiv hd_1 (FP.i2d (nI (19 - 2 * k)))) := fb_mono (fb_div hd_1_b (hd_j_g k hk) (fb_mono (fb_i2d _) (by decide)) (by decide) (by decide)) (by omega)
theorem hd_l3_b {y : UInt64} (h : fb_ 1032 y) : ∀ k, k ≤ 10 → fb_ (1025 + 12 * k) (hd_l3 y k)
  | 0, _ => by unfold fb_ hd_l3; decide
  | k + 1, hk => fb_mono (fb_add (K := 1035 + 12 * k) (fb_mono (fb_mul (hd_l3_b h k (by omega)) h (by omega) (by decide)) (by omega)) (fb_mono (hd_j_b (by omega)) (by omega)) (by omega)) (by omega)
theorem hd_l3y_b {y : UInt64} (h : fb_ 1032 y) {k : Nat} (hk : k ≤ 10) : fb_ 1155 (FP.dmul (hd_l3 y k) y) := fb_mono (fb_mul (hd_l3_b h k hk) h (by omega) (by decide)) (by omega)
theorem hd_2z_b {x : UInt64} (h : hd_ok x) : fb_ 1030 (FP.dmul hd_2 (hd_z x)) := fb_mono (fb_mul (K := 1025) (by unfold fb_; decide) (hd_z_b h) (by decide) (by decide)) (by omega)
theorem hd_2zs_b {x : UInt64} (h : hd_ok x) : fb_ 1153 (FP.dmul (FP.dmul hd_2 (hd_z x)) (hd_l3 (FP.dmul (hd_z x) (hd_z x)) 10)) := fb_mono (fb_mul (hd_2z_b h) (hd_l3_b (hd_y_b h) 10 (by decide)) (by decide) (by decide)) (by omega)
theorem hd_kl_b (k : Int32) : fb_ 1057 (FP.dmul (FP.i2d k) hd_l) := fb_mono (fb_mul (L := 1023) (fb_i2d k) (by unfold fb_; decide) (by decide) (by decide)) (by omega)
theorem hd_le_b {x : UInt64} (h : hd_ok x) (k : Int32) : fb_ 1155 (hd_le x k) := fb_mono (fb_add (hd_2zs_b h) (fb_mono (hd_kl_b k) (by decide)) (by decide)) (by omega)
theorem hd_ln_b {x : UInt64} (h : hd_in x) : fb_ 1155 (hd_ln x) := hd_le_b (hd_x2_in h) _
theorem hd_lev_b {sa : Nat → UInt64} {f : Nat} (h : ∀ i, i < 32 → fb_ 1057 (sa (16 * f + i))) (b : Nat) : fb_ 1155 (hd_lev sa f b) := hd_ln_b (hd_fl_in (hd_su_b h b) (hd_su_p h b))
-- FAR of two rows of four, D and WARP
def hd_far (a b : Nat → UInt64) : Nat → UInt64
  | 0 => 0
  | k + 1 => FP.dadd (hd_far a b k) (FP.dmul (FP.dsub (a k) (b k)) (FP.dsub (a k) (b k)))
theorem hd_df_b {x y : UInt64} (hx : fb_ 1155 x) (hy : fb_ 1155 y) : fb_ 1157 (FP.dsub x y) := fb_mono (fb_sub hx hy (by decide)) (by omega)
theorem hd_dd_b {x y : UInt64} (hx : fb_ 1155 x) (hy : fb_ 1155 y) : fb_ 1292 (FP.dmul (FP.dsub x y) (FP.dsub x y)) := fb_mono (fb_mul (hd_df_b hx hy) (hd_df_b hx hy) (by decide) (by decide)) (by omega)
theorem hd_far_b {a b : Nat → UInt64} (ha : ∀ k, k < 4 → fb_ 1155 (a k)) (hb : ∀ k, k < 4 → fb_ 1155 (b k)) : ∀ n, n ≤ 4 → fb_ (1292 + 2 * n) (hd_far a b n)
  | 0, _ => by unfold fb_ hd_far; decide
  | n + 1, hn => fb_mono (fb_add (hd_far_b ha hb n (by omega)) (fb_mono (hd_dd_b (ha n (by omega)) (hb n (by omega))) (by omega)) (by omega)) (by omega)
theorem hd_far_p {a b : Nat → UInt64} (ha : ∀ k, k < 4 → fb_ 1155 (a k)) (hb : ∀ k, k < 4 → fb_ 1155 (b k)) : ∀ n, n ≤ 4 → po_ (hd_far a b n)
  | 0, _ => by unfold po_ hd_far; decide
  | n + 1, hn => po_add (fb_fin (hd_far_b ha hb n (by omega)) (by omega)) (fb_fin (hd_dd_b (ha n (by omega)) (hb n (by omega))) (by decide)) (hd_far_p ha hb n (by omega)) (po_sq (fb_fin (hd_df_b (ha n (by omega)) (hb n (by omega))) (by decide)))
