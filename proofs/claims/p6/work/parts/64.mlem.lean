-- a row's levels one behind the other
def hw_lv (sa : Nat → UInt64) (f q : Nat) : UInt64 := hd_lev sa (f + q / 4) (q % 4)
theorem hw_lv_e (sa : Nat → UInt64) (f i j : Nat) (hj : j < 4) : hd_lev sa (f + i) j = hw_lv sa f (4 * i + j) := by
  unfold hw_lv
  rw [show (4 * i + j) / 4 = i by omega, show (4 * i + j) % 4 = j by omega]
theorem hw_lv_b {sa : Nat → UInt64} {ns f m : Nat} (hs : ∀ i, i < ns → fb_ 1057 (sa i)) (hf : f + m ≤ hd_nf ns) {q : Nat} (hq : q < 4 * m) : fb_ 1155 (hw_lv sa f q) := by
  have h2 := nf_lt (n := ns) (j := f + q / 4) (by omega)
  exact hd_lev_b (fun i hi => hs _ (by omega)) _
theorem lr_neg : ∀ n, n < 20 → ∀ m, m < 9 → n < m → (lN n - lN m).toInt < 0 := by decide +kernel
theorem lr_in {f : Int32} {n m : Nat} (hn : n ≤ 19) (hm : m ≤ 8) (h : lN 0 ≤ f.toInt64 ∧ f.toInt64 ≤ lN n - lN m) : ∃ j, j + m ≤ n ∧ f = nI j := by
  by_cases hh : m ≤ n
  · rw [lN_sub hh] at h
    obtain ⟨j, -, h2, rfl⟩ := in_ab (a := 0) (c := n - m) (by decide) (by omega) h
    exact ⟨j, by omega, rfl⟩
  · have h1 := Int64.le_iff_toInt_le.mp h.1
    have h2 := Int64.le_iff_toInt_le.mp h.2
    have h3 := lr_neg n (by omega) m (by omega) (by omega)
    have h4 : (lN 0).toInt = 0 := by decide
    omega
theorem lr_ni {f : Int32} {n m : Nat} (hn : n ≤ 19) (hm : m ≤ 8) (h : ∃ j, j + m ≤ n ∧ f = nI j) : lN 0 ≤ f.toInt64 ∧ f.toInt64 ≤ lN n - lN m := by
  obtain ⟨j, h1, rfl⟩ := h
  rw [lN_sub (by omega)]
  exact in_ba (a := 0) (c := n - m) (by decide) (by omega) ⟨j, by omega, by omega, rfl⟩
-- the nearest PATTERN, its WARP, the letter
def hr_p (W : Nat → UInt64) : Nat → Nat × UInt64
  | 0 => (0, 0)
  | k + 1 => if k = 0 ∨ FP.dcmp (W k) (hr_p W k).2 = some .lt then (k, W k) else hr_p W k
theorem hr_pos {W : Nat → UInt64} {k : Nat} (h : k = 0 ∨ FP.dcmp (W k) (hr_p W k).2 = some .lt) : hr_p W (k + 1) = (k, W k) := by
  show (if _ then _ else _) = _
  rw [if_pos h]
theorem hr_neg {W : Nat → UInt64} {k : Nat} (h : ¬ (k = 0 ∨ FP.dcmp (W k) (hr_p W k).2 = some .lt)) : hr_p W (k + 1) = hr_p W k := by
  show (if _ then _ else _) = _
  rw [if_neg h]
theorem hr_lt (W : Nat → UInt64) : ∀ k, 0 < k → (hr_p W k).1 < k
  | k + 1, _ => by
    by_cases h : k = 0 ∨ FP.dcmp (W k) (hr_p W k).2 = some .lt
    · rw [hr_pos h]; exact Nat.lt_succ_self _
    · rw [hr_neg h]
      have := hr_lt W k (by omega)
      omega
theorem hr_g {W W2 : Nat → UInt64} : ∀ k, (∀ j, j < k → W j = W2 j) → hr_p W k = hr_p W2 k
  | 0, _ => rfl
  | k + 1, h => by
    show (if _ then _ else _) = (if _ then _ else _)
    rw [hr_g k (fun j hj => h j (by omega)), h k (by omega)]
def hr_n (W : Nat → UInt64) (np : Nat) : Int32 := if np = 0 then -1 else nI (hr_p W np).1
def hr_l (W : Nat → UInt64) (le : Nat → Int32) (lm : UInt64) (np : Nat) : Int32 := if 0 < np ∧ (FP.dcmp (hr_p W np).2 lm = some .lt ∨ FP.dcmp (hr_p W np).2 lm = some .eq) then le (hr_p W np).1 else nI 63
-- the WORDS that are cut out: (first frame, frames)
def hs_in (sa : Nat → UInt64) (th : UInt64) (n gp : Nat) : Nat → Nat → Nat → Nat → Nat → Nat × Nat
  | 0, g, la, _, _ => (la, g)
  | fu + 1, g, la, q, lk => if g < n ∧ lk < 10 ∧ q < gp then (if hd_ld sa g th then hs_in sa th n gp fu (g + 1) g 0 (lk + 1) else hs_in sa th n gp fu (g + 1) la (q + 1) (lk + 1)) else (la, g)
theorem hs_in_e {sa : Nat → UInt64} {th : UInt64} {n gp : Nat} (fu : Nat) {g la q lk : Nat} (h : ¬ (g < n ∧ lk < 10 ∧ q < gp)) : hs_in sa th n gp fu g la q lk = (la, g) := by
  cases fu with
  | zero => rfl
  | succ fu =>
    show (if _ then _ else _) = _
    rw [if_neg h]
theorem hs_in_l {sa : Nat → UInt64} {th : UInt64} {n gp fu g la q lk : Nat} (h : g < n ∧ lk < 10 ∧ q < gp) (hl : hd_ld sa g th) : hs_in sa th n gp (fu + 1) g la q lk = hs_in sa th n gp fu (g + 1) g 0 (lk + 1) := by
  show (if _ then (if _ then _ else _) else _) = _
  rw [if_pos h, if_pos hl]
theorem hs_in_q {sa : Nat → UInt64} {th : UInt64} {n gp fu g la q lk : Nat} (h : g < n ∧ lk < 10 ∧ q < gp) (hl : ¬ hd_ld sa g th) : hs_in sa th n gp (fu + 1) g la q lk = hs_in sa th n gp fu (g + 1) la (q + 1) (lk + 1) := by
  show (if _ then (if _ then _ else _) else _) = _
  rw [if_pos h, if_neg hl]
def hs_w (sa : Nat → UInt64) (th : UInt64) (n gp : Nat) : Nat → Nat → List (Nat × Nat)
  | 0, _ => []
  | fu + 1, f => if f < n then (if hd_ld sa f th then (f, (hs_in sa th n gp 10 (f + 1) f 0 1).1 - f + 1) :: hs_w sa th n gp fu (hs_in sa th n gp 10 (f + 1) f 0 1).2 else hs_w sa th n gp fu (f + 1)) else []
theorem hs_w_e {sa : Nat → UInt64} {th : UInt64} {n gp : Nat} (fu : Nat) {f : Nat} (h : ¬ f < n) : hs_w sa th n gp fu f = [] := by
  cases fu with
  | zero => rfl
  | succ fu =>
    show (if _ then _ else _) = _
    rw [if_neg h]
theorem hs_w_l {sa : Nat → UInt64} {th : UInt64} {n gp fu f : Nat} (h : f < n) (hl : hd_ld sa f th) : hs_w sa th n gp (fu + 1) f = (f, (hs_in sa th n gp 10 (f + 1) f 0 1).1 - f + 1) :: hs_w sa th n gp fu (hs_in sa th n gp 10 (f + 1) f 0 1).2 := by
  show (if _ then (if _ then _ else _) else _) = _
  rw [if_pos h, if_pos hl]
theorem hs_w_q {sa : Nat → UInt64} {th : UInt64} {n gp fu f : Nat} (h : f < n) (hl : ¬ hd_ld sa f th) : hs_w sa th n gp (fu + 1) f = hs_w sa th n gp fu (f + 1) := by
  show (if _ then (if _ then _ else _) else _) = _
  rw [if_pos h, if_neg hl]
/-- one more at the end of a list -/
theorem la_app {L : List (Nat × Nat)} {x p : Nat × Nat} {k : Nat} (h : (L ++ [x])[k]? = some p) : (k < L.length ∧ L[k]? = some p) ∨ (k = L.length ∧ p = x) := by
  rcases Nat.lt_or_ge k L.length with g | g
  · exact Or.inl ⟨g, by rw [List.getElem?_append_left g] at h; exact h⟩
  · rw [List.getElem?_append_right g] at h
    rcases Nat.eq_zero_or_pos (k - L.length) with z | z
    · rw [z] at h
      exact Or.inr ⟨by omega, (Option.some.inj h).symm⟩
    · obtain ⟨q, hq⟩ : ∃ q, k - L.length = q + 1 := ⟨k - L.length - 1, by omega⟩
      rw [hq] at h
      cases h
theorem la_lt {L : List (Nat × Nat)} {p : Nat × Nat} {k : Nat} (h : L[k]? = some p) : k < L.length := (List.getElem?_eq_some_iff.mp h).1
