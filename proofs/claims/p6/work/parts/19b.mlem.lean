theorem nf_le {n : Nat} (h : n ≤ 320) : hd_nf n ≤ 19 := by unfold hd_nf; split <;> omega
theorem nf_lt {n j : Nat} (h : j < hd_nf n) : 16 * j + 32 ≤ n := by
  unfold hd_nf at h
  split at h <;> omega
-- octets that come behind f others; a wave's samples behind ns others
def oc_w (W j : Nat) : Nat := W / 2 ^ (8 * j) % 256
def fi_wr (I : Nat → Nat → Int32) (c f W : Nat) : Nat → Nat → Nat → Int32
  | 0 => I
  | j + 1 => ui (fi_wr I c f W j) c (f + j) (nI (oc_w W j))
theorem fi_wr_o (I : Nat → Nat → Int32) (c f W : Nat) {c' : Nat} (h : c' ≠ c) : ∀ j, fi_wr I c f W j c' = I c'
  | 0 => rfl
  | j + 1 => (ui_o _ _ _ h).trans (fi_wr_o I c f W h j)
theorem fi_wr_lo (I : Nat → Nat → Int32) (c f W : Nat) {i : Nat} (h : i < f) : ∀ j, fi_wr I c f W j c i = I c i
  | 0 => rfl
  | j + 1 => (ui_n _ _ _ (by omega)).trans (fi_wr_lo I c f W h j)
theorem fi_wr_in (I : Nat → Nat → Int32) (c f W : Nat) {i : Nat} : ∀ j, i < j → fi_wr I c f W j c (f + i) = nI (oc_w W i)
  | j + 1, h => by
    by_cases e : i = j
    · subst e; exact ui_s _ _ _ _
    · exact (ui_n _ _ _ (by omega)).trans (fi_wr_in I c f W j (by omega))
theorem fi_wr_hi (I : Nat → Nat → Int32) (c f W : Nat) {i : Nat} : ∀ j, f + j ≤ i → fi_wr I c f W j c i = I c i
  | 0, _ => rfl
  | j + 1, h => (ui_n _ _ _ (by omega)).trans (fi_wr_hi I c f W j (by omega))
def hd_wr (D : Nat → Nat → UInt64) (c ns st : Nat) (a : UInt64) : Nat → Nat → Nat → UInt64
  | 0 => D
  | j + 1 => ud (hd_wr D c ns st a j) c (ns + j) (FP.dmul a (hd_C (j * st % 32)))
theorem hd_wr_o (D : Nat → Nat → UInt64) (c ns st : Nat) (a : UInt64) {c' : Nat} (h : c' ≠ c) : ∀ j, hd_wr D c ns st a j c' = D c'
  | 0 => rfl
  | j + 1 => (ud_o _ _ _ h).trans (hd_wr_o D c ns st a h j)
theorem hd_wr_lo (D : Nat → Nat → UInt64) (c ns st : Nat) (a : UInt64) {i : Nat} (h : i < ns) : ∀ j, hd_wr D c ns st a j c i = D c i
  | 0 => rfl
  | j + 1 => (ud_n _ _ _ (by omega)).trans (hd_wr_lo D c ns st a h j)
theorem hd_wr_in (D : Nat → Nat → UInt64) (c ns st : Nat) (a : UInt64) {i : Nat} : ∀ j, i < j → hd_wr D c ns st a j c (ns + i) = FP.dmul a (hd_C (i * st % 32))
  | j + 1, h => by
    by_cases e : i = j
    · subst e; exact ud_s _ _ _ _
    · exact (ud_n _ _ _ (by omega)).trans (hd_wr_in D c ns st a j (by omega))
theorem oc_shr {W j : Nat} (h : W < 2 ^ 64) (hj : j < 8) : ((lN W).toUInt64 >>> ((nI (8 * j)).toInt64.toUInt64 &&& Int64.toUInt64 63)).toInt64 = lN (W / 2 ^ (8 * j)) := wb_shr h (by omega)
theorem oc_and {W j : Nat} (h : W < 2 ^ 64) : lN (W / 2 ^ (8 * j)) &&& lN 255 = lN (oc_w W j) := wb_mask (n := W / 2 ^ (8 * j)) (k := 8) (Nat.lt_of_le_of_lt (Nat.div_le_self _ _) h) (by decide)
