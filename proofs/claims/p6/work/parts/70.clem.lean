-- the FILE of the class
theorem nu_2 (oc : Nat → Nat) (t : Nat) : oc t + 256 * oc (t + 1) = nu oc t 2 := by
  show _ = oc t + 256 * (oc (t + 1) + 256 * 0)
  omega
theorem nu_4 (oc : Nat → Nat) (t : Nat) : nu oc t 2 + 65536 * nu oc (t + 2) 2 = nu oc t 4 := by
  show oc t + 256 * (oc (t + 1) + 256 * 0) + 65536 * (oc (t + 2) + 256 * (oc (t + 2 + 1) + 256 * 0)) = oc t + 256 * (oc (t + 1) + 256 * (oc (t + 1 + 1) + 256 * (oc (t + 1 + 1 + 1) + 256 * 0)))
  rw [show t + 2 + 1 = t + 3 by omega, show t + 1 + 1 + 1 = t + 3 by omega, show t + 1 + 1 = t + 2 by omega]
  omega
theorem nu_l2 {oc : Nat → Nat} (ho : ∀ j, j < 400 → oc j < 256) {t : Nat} (ht : t + 2 ≤ 400) : nu oc t 2 < 65536 := nu_lt oc 2 t (fun j hj => ho j (by omega))
theorem nu_l4 {oc : Nat → Nat} (ho : ∀ j, j < 400 → oc j < 256) {t : Nat} (ht : t + 4 ≤ 400) : nu oc t 4 < 4294967296 := nu_lt oc 4 t (fun j hj => ho j (by omega))
def fi_h (oc : Nat → Nat) (n : Nat) : Prop := fi_sp oc 0 82 73 70 70 ∧ nu oc 4 4 = n - 8 ∧ fi_sp oc 8 87 65 86 69 ∧ fi_sp oc 12 102 109 116 32 ∧ nu oc 16 4 = 16 ∧ nu oc 20 2 = 1
def fi_f (oc : Nat → Nat) (n : Nat) : Prop := (nu oc 22 2 = 1 ∨ nu oc 22 2 = 2) ∧ 1000 ≤ nu oc 24 4 ∧ nu oc 24 4 ≤ 48000 ∧ nu oc 28 4 = nu oc 24 4 * nu oc 32 2 ∧ 8 * nu oc 32 2 = nu oc 22 2 * nu oc 34 2 ∧ (nu oc 34 2 = 8 ∨ nu oc 34 2 = 16) ∧ fi_sp oc 36 100 97 116 97 ∧ nu oc 40 4 = n - 44 ∧ (n - 44) % nu oc 32 2 = 0
theorem fi_hf {oc : Nat → Nat} {n : Nat} (h : 44 ≤ n) : fi_ok oc n ↔ fi_h oc n ∧ fi_f oc n := by
  constructor
  · intro z
    obtain ⟨-, k1, k2, k3, -, -⟩ := fi_k z
    obtain ⟨h0, h1, h2, h3, h4, h5, h6, h7, h8, h9, h10, h11, h12, h13, h14⟩ := z
    exact ⟨⟨h1, h2, h3, h4, h5, h6⟩, k1, h8.1, h8.2, h9, by omega, h11, h12, h13, by rw [← h13]; exact h14⟩
  · rintro ⟨⟨h1, h2, h3, h4, h5, h6⟩, f1, f2, f3, f4, f5, f6, f7, f8, f9⟩
    refine ⟨h, h1, h2, h3, h4, h5, h6, by omega, ⟨f2, f3⟩, f4, by omega, f6, f7, f8, by rw [f8]; exact f9⟩
theorem fi_w {ch bt w : Nat} (h1 : ch = 1 ∨ ch = 2) (h2 : 8 * w = ch * bt) (h3 : bt = 8 ∨ bt = 16) : 1 ≤ w ∧ w ≤ 4 := by
  rcases h1 with rfl | rfl <;> rcases h3 with rfl | rfl <;> omega
theorem fi_s16 : ∀ a, a < 256 → ∀ b, b < 256 → (nI (a + 256 * b)).toInt16.toInt32 = (if 32768 ≤ a + 256 * b then nI (a + 256 * b) - nI 65536 else nI (a + 256 * b)) := by
  intro a ha b hb
  obtain ⟨x, hx⟩ : ∃ x, x = a + 256 * b := ⟨_, rfl⟩
  rw [← hx]
  have hx2 : x < 65536 := by omega
  have h1 : (nI x).toInt16.toInt32.toInt = if 32768 ≤ x then (x : Int) - 65536 else x := by
    rw [Int16.toInt_toInt32]
    show (Int16.ofBitVec ((BitVec.ofNat 32 x).signExtend 16)).toInt = _
    rw [Int16.toInt_ofBitVec, BitVec.toInt_signExtend, BitVec.toInt_eq_toNat_bmod, BitVec.toNat_ofNat, Nat.mod_eq_of_lt (by omega : x < 2 ^ 32)]
    simp only [Int.bmod_def, show (2 : Nat) ^ min 16 32 = 65536 by decide, show (2 : Nat) ^ 32 = 4294967296 by decide]
    by_cases z : 32768 ≤ x
    · rw [if_pos z]; split <;> split <;> omega
    · rw [if_neg z]; split <;> split <;> omega
  apply Int32.toInt_inj.mp
  rw [h1]
  split
  · rw [pk_sub_toInt (by omega) (by decide)]
    rfl
  · rw [nI_toInt (by omega)]
