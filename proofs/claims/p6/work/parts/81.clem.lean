theorem ui_z (J : Nat → Nat → Int32) (c2 n : Nat) (x : Int32) {c z : Nat} (h : z ≠ n) : ui J c2 n x c z = J c z := by
  by_cases e : c = c2
  · subst e; exact ui_n _ _ _ h
  · rw [ui_o _ _ _ e]
theorem ud_z (J : Nat → Nat → UInt64) (c2 n : Nat) (x : UInt64) {c z : Nat} (h : z ≠ n) : ud J c2 n x c z = J c z := by
  by_cases e : c = c2
  · subst e; exact ud_n _ _ _ h
  · rw [ud_o _ _ _ e]
def dk_wd (I : Nat → Nat → Int32) (j q : Nat) : Int32 := if q = 0 then I 7 j else if q = 1 then I 4 j else if q = 2 then I 5 j else if q = 3 then I 6 j else if q = 4 then nI 16 * I 4 j * nI 1000 / I 0 0 else (nI 16 * (I 4 j + I 5 j) + nI 16) * nI 1000 / I 0 0
/-- a WORD as it is cut out -/
def wk_0 (J : Nat → Nat → Int32) (E : Nat → Nat → UInt64) (n k f m : Nat) : Prop := J 4 k = nI f ∧ J 5 k = nI m ∧ J 6 k = -1 ∧ J 7 k = nI 63 ∧ E 9 k = 0 ∧ f + m ≤ n ∧ 1 ≤ m ∧ m ≤ 10
