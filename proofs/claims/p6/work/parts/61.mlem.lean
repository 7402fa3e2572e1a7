-- an array's content set whole
def us (D : Nat → Nat → UInt64) (c : Nat) (w : Nat → UInt64) : Nat → Nat → UInt64 := fun c' => if c' = c then w else D c'
theorem us_c (D : Nat → Nat → UInt64) (c : Nat) (w : Nat → UInt64) : us D c w c = w := if_pos rfl
theorem us_o (D : Nat → Nat → UInt64) {c c' : Nat} (w : Nat → UInt64) (h : c' ≠ c) : us D c w c' = D c' := if_neg h
theorem us_us (D : Nat → Nat → UInt64) (c : Nat) (w v : Nat → UInt64) : us (us D c w) c v = us D c v := by
  funext c'
  unfold us
  by_cases h : c' = c
  · rw [if_pos h, if_pos h]
  · rw [if_neg h, if_neg h, if_neg h]
theorem us_id (D : Nat → Nat → UInt64) (c : Nat) : us D c (D c) = D := by
  funext c'
  unfold us
  by_cases h : c' = c
  · rw [if_pos h, h]
  · rw [if_neg h]
theorem ud_us (D : Nat → Nat → UInt64) (c j : Nat) (w : Nat → UInt64) (x : UInt64) : ud (us D c w) c j x = us D c (vf_upd w j x) := by
  funext c'
  unfold ud us
  by_cases h : c' = c
  · rw [if_pos h, if_pos h, if_pos rfl]
  · rw [if_neg h, if_neg h, if_neg h]
theorem us_sw (D : Nat → Nat → UInt64) {c d : Nat} (w v : Nat → UInt64) (h : c ≠ d) : us (us D c w) d v = us (us D d v) c w := by
  funext c'
  unfold us
  by_cases h1 : c' = c
  · rw [if_pos h1, if_neg (by omega), if_pos h1]
  · rw [if_neg h1, if_neg h1]
def si (I : Nat → Nat → Int32) (c : Nat) (w : Nat → Int32) : Nat → Nat → Int32 := fun c' => if c' = c then w else I c'
theorem si_c (D : Nat → Nat → Int32) (c : Nat) (w : Nat → Int32) : si D c w c = w := if_pos rfl
theorem si_o (D : Nat → Nat → Int32) {c c' : Nat} (w : Nat → Int32) (h : c' ≠ c) : si D c w c' = D c' := if_neg h
theorem si_id (D : Nat → Nat → Int32) (c : Nat) : si D c (D c) = D := by
  funext c'
  unfold si
  by_cases h : c' = c
  · rw [if_pos h, h]
  · rw [if_neg h]
theorem si_is (D : Nat → Nat → Int32) (c : Nat) (w v : Nat → Int32) : si (si D c w) c v = si D c v := by
  funext c'
  unfold si
  by_cases h : c' = c
  · rw [if_pos h, if_pos h]
  · rw [if_neg h, if_neg h, if_neg h]
theorem si_sw (D : Nat → Nat → Int32) {c d : Nat} (w v : Nat → Int32) (h : c ≠ d) : si (si D c w) d v = si (si D d v) c w := by
  funext c'
  unfold si
  by_cases h1 : c' = c
  · rw [if_pos h1, if_neg (by omega), if_pos h1]
  · rw [if_neg h1, if_neg h1]
theorem ui_si (D : Nat → Nat → Int32) (c j : Nat) (w : Nat → Int32) (x : Int32) : ui (si D c w) c j x = si D c (upd w j x) := by
  funext c'
  unfold ui si
  by_cases h : c' = c
  · rw [if_pos h, if_pos h, if_pos rfl]
  · rw [if_neg h, if_neg h, if_neg h]
theorem ui_eq_si (D : Nat → Nat → Int32) (c j : Nat) (x : Int32) : ui D c j x = si D c (upd (D c) j x) := rfl
theorem ud_eq_us (D : Nat → Nat → UInt64) (c j : Nat) (x : UInt64) : ud D c j x = us D c (vf_upd (D c) j x) := rfl
theorem vu_s (w : Nat → UInt64) (j : Nat) (x : UInt64) : vf_upd w j x j = x := if_pos rfl
theorem vu_n (w : Nat → UInt64) {j i : Nat} (x : UInt64) (h : i ≠ j) : vf_upd w j x i = w i := if_neg h
theorem up_s (w : Nat → Int32) (j : Nat) (x : Int32) : upd w j x j = x := if_pos rfl
theorem up_n (w : Nat → Int32) {j i : Nat} (x : Int32) (h : i ≠ j) : upd w j x i = w i := if_neg h
/-- a run of an array filled, one more -/
theorem fill_s {w : Nat → UInt64} {g : Nat → UInt64} {o j : Nat} (h : ∀ i, i < j → w (o + i) = g i) {x : UInt64} (hx : x = g j) : ∀ i, i < j + 1 → vf_upd w (o + j) x (o + i) = g i := by
  intro i hi
  by_cases e : i = j
  · subst e; rw [vu_s]; exact hx
  · rw [vu_n _ _ (by omega)]; exact h i (by omega)
-- the SAMPLES of a FILE
def fi_sa (oc : Nat → Nat) (i : Nat) : UInt64 := if nu oc 22 2 = 1 then fi_ch oc (nu oc 34 2) (44 + nu oc 32 2 * i) else FP.ddiv (FP.dadd (fi_ch oc (nu oc 34 2) (44 + nu oc 32 2 * i)) (fi_ch oc (nu oc 34 2) (44 + nu oc 32 2 * i + nu oc 34 2 / 8))) hd_2
theorem fi_su_b (oc : Nat → Nat) (a x y : Nat) : fb_ 1044 (FP.dadd (fi_ch oc a x) (fi_ch oc a y)) := fb_add (fi_ch_b oc a x) (fi_ch_b oc a y) (by decide)
theorem fi_hf_b (oc : Nat → Nat) (a x y : Nat) : fb_ 1044 (FP.ddiv (FP.dadd (fi_ch oc a x) (fi_ch oc a y)) hd_2) := fb_mono (fb_div (L := 1024) (fi_su_b oc a x y) (by decide) (by unfold fb_; decide) (by decide) (by decide)) (by decide)
theorem fi_sa_b (oc : Nat → Nat) (i : Nat) : fb_ 1044 (fi_sa oc i) := by
  unfold fi_sa
  split
  · exact fb_mono (fi_ch_b _ _ _) (by decide)
  · exact fi_hf_b _ _ _ _
def fi_n (oc : Nat → Nat) (n : Nat) : Nat := (n - 44) / nu oc 32 2
/-- what is known of a FILE without fault -/
theorem fi_k {oc : Nat → Nat} {n : Nat} (h : fi_ok oc n) : 44 ≤ n ∧ (nu oc 22 2 = 1 ∨ nu oc 22 2 = 2) ∧ (nu oc 34 2 = 8 ∨ nu oc 34 2 = 16) ∧ nu oc 32 2 * 8 = nu oc 22 2 * nu oc 34 2 ∧ 1000 ≤ nu oc 24 4 ∧ nu oc 24 4 ≤ 48000 := by
  obtain ⟨h0, -, -, -, -, -, -, h7, h8, -, h10, h11, -, -, -⟩ := h
  refine ⟨h0, by omega, h11, ?_, h8.1, h8.2⟩
  rw [h10]
  rcases (show nu oc 22 2 = 1 ∨ nu oc 22 2 = 2 by omega) with e1 | e1 <;> rcases h11 with e2 | e2 <;> rw [e1, e2]
theorem fi_e {oc : Nat → Nat} {n : Nat} (h : fi_ok oc n) : 1 ≤ nu oc 32 2 ∧ nu oc 32 2 ≤ 4 := by
  obtain ⟨-, h1, h2, h3, -, -⟩ := fi_k h
  rcases h1 with e1 | e1 <;> rcases h2 with e2 | e2 <;> rw [e1, e2] at h3 <;> omega
theorem fi_at {oc : Nat → Nat} {n i : Nat} (h : fi_ok oc n) (hn : n ≤ 400) (hi : i < fi_n oc n) : 44 + nu oc 32 2 * i + nu oc 32 2 ≤ 400 := by
  obtain ⟨h0, -, -, -, -, -⟩ := fi_k h
  obtain ⟨e1, -⟩ := fi_e h
  unfold fi_n at hi
  have := Nat.mul_le_of_le_div _ _ _ (Nat.succ_le_of_lt hi)
  rw [Nat.succ_eq_add_one, Nat.add_mul, Nat.one_mul, Nat.mul_comm i] at this
  omega
theorem fi_n_le {oc : Nat → Nat} {n : Nat} (h : fi_ok oc n) (hn : n ≤ 400) : fi_n oc n ≤ 356 := by
  unfold fi_n
  exact Nat.le_trans (Nat.div_le_self _ _) (by omega)
-- D of two rows of levels, WARP
def mn_ (x y : UInt64) : UInt64 := if y.toNat < x.toNat then y else x
theorem mn_n (x y : UInt64) : (mn_ x y).toNat = min x.toNat y.toNat := by
  unfold mn_
  split <;> omega
def hw_F (x y : Nat → UInt64) (i j : Nat) : UInt64 := hd_far (fun q => x (4 * i + q)) (fun q => y (4 * j + q)) 4
def hw_d0 (x y : Nat → UInt64) : Nat → UInt64
  | 0 => hw_F x y 0 0
  | j + 1 => FP.dadd (hw_F x y 0 (j + 1)) (hw_d0 x y j)
def hw_d1 (x y : Nat → UInt64) (i : Nat) (r : Nat → UInt64) : Nat → UInt64
  | 0 => FP.dadd (hw_F x y (i + 1) 0) (r 0)
  | j + 1 => FP.dadd (hw_F x y (i + 1) (j + 1)) (mn_ (mn_ (r (j + 1)) (hw_d1 x y i r j)) (r j))
def hw_dd (x y : Nat → UInt64) : Nat → Nat → UInt64
  | 0 => hw_d0 x y
  | i + 1 => hw_d1 x y i (hw_dd x y i)
def hw_wa (x y : Nat → UInt64) (n m : Nat) : UInt64 := FP.ddiv (hw_dd x y (n - 1) (m - 1)) (FP.i2d (nI (n + m)))
theorem hw_F_b {x y : Nat → UInt64} {n m i j : Nat} (hx : ∀ q, q < 4 * n → fb_ 1155 (x q)) (hy : ∀ q, q < 4 * m → fb_ 1155 (y q)) (hi : i < n) (hj : j < m) : fb_ 1300 (hw_F x y i j) ∧ po_ (hw_F x y i j) :=
  ⟨hd_far_b (fun q hq => hx _ (by omega)) (fun q hq => hy _ (by omega)) 4 (by decide), hd_far_p (fun q hq => hx _ (by omega)) (fun q hq => hy _ (by omega)) 4 (by decide)⟩
theorem hd_ad {K : Nat} {a b : UInt64} (ha : fb_ 1300 a ∧ po_ a) (hb : fb_ K b ∧ po_ b) (hK : 1300 ≤ K) (hK2 : K ≤ 2047) : fb_ (K + 2) (FP.dadd a b) ∧ po_ (FP.dadd a b) :=
  ⟨fb_add (fb_mono ha.1 hK) hb.1 hK2, po_add (fb_fin ha.1 (by decide)) (fb_fin hb.1 hK2) ha.2 hb.2⟩
theorem mn_b {K : Nat} {a b : UInt64} (ha : fb_ K a ∧ po_ a) (hb : fb_ K b ∧ po_ b) : fb_ K (mn_ a b) ∧ po_ (mn_ a b) := by
  unfold mn_
  split
  · exact hb
  · exact ha
theorem hd_m2 {K L : Nat} {a : UInt64} (h : fb_ K a ∧ po_ a) (hl : K ≤ L) : fb_ L a ∧ po_ a := ⟨fb_mono h.1 hl, h.2⟩
theorem hw_dd_b {x y : Nat → UInt64} {n m : Nat} (hx : ∀ q, q < 4 * n → fb_ 1155 (x q)) (hy : ∀ q, q < 4 * m → fb_ 1155 (y q)) (hn : n ≤ 10) (hm : m ≤ 8) : ∀ i, i < n → ∀ j, j < m → fb_ (1300 + 2 * (i + j)) (hw_dd x y i j) ∧ po_ (hw_dd x y i j) := by
  intro i
  induction i with
  | zero =>
    intro hi j
    induction j with
    | zero => intro hj; exact hw_F_b hx hy hi hj
    | succ j ih => intro hj; exact hd_m2 (hd_ad (hw_F_b hx hy hi hj) (ih (by omega)) (by omega) (by omega)) (by omega)
  | succ i ihi =>
    intro hi j
    induction j with
    | zero => intro hj; exact hd_m2 (hd_ad (hw_F_b hx hy hi hj) (ihi (by omega) 0 hj) (by omega) (by omega)) (by omega)
    | succ j ih =>
      intro hj
      have a1 := hd_m2 (L := 1300 + 2 * (i + 1 + j)) (ihi (by omega) (j + 1) hj) (by omega)
      have a2 := ih (by omega)
      have a3 := hd_m2 (L := 1300 + 2 * (i + 1 + j)) (ihi (by omega) j (by omega)) (by omega)
      exact hd_m2 (hd_ad (hw_F_b hx hy hi hj) (mn_b (mn_b a1 a2) a3) (by omega) (by omega)) (by omega)
theorem hw_dd_c {x y : Nat → UInt64} {n m : Nat} (hx : ∀ q, q < 4 * n → fb_ 1155 (x q)) (hy : ∀ q, q < 4 * m → fb_ 1155 (y q)) (hn : n ≤ 10) (hm : m ≤ 8) {i j : Nat} (hi : i < n) (hj : j < m) : fb_ 1340 (hw_dd x y i j) ∧ po_ (hw_dd x y i j) := hd_m2 (hw_dd_b hx hy hn hm i hi j hj) (by omega)
theorem hd_ng : ∀ q, q < 20 → 1 ≤ q → 1023 * 2 ^ 52 ≤ (FP.i2d (nI q)).toNat % 2 ^ 63 := by decide +kernel
theorem hw_wa_b {x y : Nat → UInt64} {n m : Nat} (hx : ∀ q, q < 4 * n → fb_ 1155 (x q)) (hy : ∀ q, q < 4 * m → fb_ 1155 (y q)) (hn : n ≤ 10) (hm : m ≤ 8) (hn1 : 1 ≤ n) (hm1 : 1 ≤ m) : fb_ 1343 (hw_wa x y n m) :=
  fb_mono (fb_div (hw_dd_c hx hy hn hm (i := n - 1) (j := m - 1) (by omega) (by omega)).1 (hd_ng (n + m) (by omega) (by omega)) (fb_mono (fb_i2d _) (by decide)) (by decide) (by decide)) (by decide)
theorem fo_l {K : Nat} {a b : UInt64} (ha : fb_ K a ∧ po_ a) (hb : fb_ K b ∧ po_ b) (hK : K ≤ 2047) : FP.dcmp a b = some .lt ↔ a.toNat < b.toNat := fo_lt (fb_nn ha.1 hK) (fb_nn hb.1 hK) ha.2 hb.2
theorem mn_3 {u l a z : UInt64} (h : z.toNat = min (min u.toNat l.toNat) a.toNat) : z = mn_ (mn_ u l) a := UInt64.toNat_inj.mp (by rw [mn_n, mn_n]; exact h)
theorem hw_d00 (x y : Nat → UInt64) : hw_dd x y 0 0 = hw_F x y 0 0 := rfl
theorem hw_d0s (x y : Nat → UInt64) (j : Nat) : hw_dd x y 0 (j + 1) = FP.dadd (hw_F x y 0 (j + 1)) (hw_dd x y 0 j) := rfl
theorem hw_ds0 (x y : Nat → UInt64) (i : Nat) : hw_dd x y (i + 1) 0 = FP.dadd (hw_F x y (i + 1) 0) (hw_dd x y i 0) := rfl
theorem hw_dss (x y : Nat → UInt64) (i j : Nat) : hw_dd x y (i + 1) (j + 1) = FP.dadd (hw_F x y (i + 1) (j + 1)) (mn_ (mn_ (hw_dd x y i (j + 1)) (hw_dd x y (i + 1) j)) (hw_dd x y i j)) := rfl
/-- only the first 4 n, 4 m values count -/
theorem hd_far_g {a b a2 b2 : Nat → UInt64} : ∀ n, (∀ k, k < n → a k = a2 k) → (∀ k, k < n → b k = b2 k) → hd_far a b n = hd_far a2 b2 n
  | 0, _, _ => rfl
  | n + 1, ha, hb => by
    unfold hd_far
    rw [hd_far_g n (fun k hk => ha k (by omega)) (fun k hk => hb k (by omega)), ha n (by omega), hb n (by omega)]
theorem hw_F_g {x y x2 y2 : Nat → UInt64} {n m i j : Nat} (hx : ∀ q, q < 4 * n → x q = x2 q) (hy : ∀ q, q < 4 * m → y q = y2 q) (hi : i < n) (hj : j < m) : hw_F x y i j = hw_F x2 y2 i j := hd_far_g 4 (fun k hk => hx _ (by omega)) (fun k hk => hy _ (by omega))
theorem hw_dd_g {x y x2 y2 : Nat → UInt64} {n m : Nat} (hx : ∀ q, q < 4 * n → x q = x2 q) (hy : ∀ q, q < 4 * m → y q = y2 q) : ∀ i, i < n → ∀ j, j < m → hw_dd x y i j = hw_dd x2 y2 i j := by
  intro i
  induction i with
  | zero =>
    intro hi j
    induction j with
    | zero => intro hj; exact hw_F_g hx hy hi hj
    | succ j ih => intro hj; rw [hw_d0s, hw_d0s, ih (by omega), hw_F_g hx hy hi hj]
  | succ i ihi =>
    intro hi j
    induction j with
    | zero => intro hj; rw [hw_ds0, hw_ds0, ihi (by omega) 0 hj, hw_F_g hx hy hi hj]
    | succ j ih => intro hj; rw [hw_dss, hw_dss, ih (by omega), ihi (by omega) j (by omega), ihi (by omega) (j + 1) hj, hw_F_g hx hy hi hj]
theorem hw_wa_g {x y x2 y2 : Nat → UInt64} {n m : Nat} (hx : ∀ q, q < 4 * n → x q = x2 q) (hy : ∀ q, q < 4 * m → y q = y2 q) (hn : 1 ≤ n) (hm : 1 ≤ m) : hw_wa x y n m = hw_wa x2 y2 n m := by
  unfold hw_wa
  rw [hw_dd_g hx hy (n - 1) (by omega) (m - 1) (by omega)]
theorem fill_1 {w : Nat → UInt64} {g : Nat → UInt64} {j : Nat} (h : ∀ i, i < j → w i = g i) {x : UInt64} (hx : x = g j) : ∀ i, i < j + 1 → vf_upd w j x i = g i := by
  intro i hi
  by_cases e : i = j
  · subst e; rw [vu_s]; exact hx
  · rw [vu_n _ _ e]; exact h i (by omega)
