theorem l1_pos {n : Nat} {x : UInt64} {k : Int32} (h : FP.dcmp x hd_15 = some .gt ∨ FP.dcmp x hd_15 = some .eq) : hd_l1 (n + 1) x k = hd_l1 n (FP.ddiv x hd_2) (k + 1) := by
  show (if _ then _ else _) = _
  rw [if_pos h]
theorem l1_neg (n : Nat) {x : UInt64} {k : Int32} (h : ¬ (FP.dcmp x hd_15 = some .gt ∨ FP.dcmp x hd_15 = some .eq)) : hd_l1 n x k = (x, k) := by
  cases n with
  | zero => rfl
  | succ n =>
    show (if _ then _ else _) = _
    rw [if_neg h]
theorem l2_pos {n : Nat} {x : UInt64} {k : Int32} (h : FP.dcmp x hd_75 = some .lt) : hd_l2 (n + 1) x k = hd_l2 n (FP.dmul x hd_2) (k - 1) := by
  show (if _ then _ else _) = _
  rw [if_pos h]
theorem l2_neg (n : Nat) {x : UInt64} {k : Int32} (h : ¬ FP.dcmp x hd_75 = some .lt) : hd_l2 n x k = (x, k) := by
  cases n with
  | zero => rfl
  | succ n =>
    show (if _ then _ else _) = _
    rw [if_neg h]
theorem kr_m1 (k : Int32) : k + Int32.ofInt (-1) = k - 1 := by
  rw [Int32.sub_eq_add_neg, show Int32.ofInt (-1) = -1 by decide]
def jd (q : Nat) : Int32 := nI 19 - nI (2 * q)
theorem jd_n {q : Nat} (h : q < 10) : jd q = nI (19 - 2 * q) := pk_sub (by omega)
theorem jd_le : ∀ q, q ≤ 10 → (jd q ≤ 0 ↔ q = 10) := by decide +kernel
theorem jd_s : ∀ q, q < 10 → jd q + Int32.ofInt (-2) = jd (q + 1) := by decide +kernel
theorem jd_0 : nI 19 = jd 0 := by decide +kernel
