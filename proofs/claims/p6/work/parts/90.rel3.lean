section RH
variable {n ns gp np nw jd9 : Nat} {oc rw9 : Nat → Nat} {P : Nat → Nat} {I I2 J J2 : Nat → Nat → Int32} {D D2 E E2 : Nat → Nat → UInt64}
theorem rp_wa (hS : rS ns I D I2 D2) (hP : rP np rw9 P I D I2 D2) {f m : Nat} (hf : f + m ≤ hd_nf ns) (hm : 1 ≤ m) : ∀ j, j < np → hw_wa (hw_lv (D2 1) f) (fun q => D2 2 (32 * j + q)) m (rw9 j) = hw_wa (hw_lv (D 1) f) (D (10 + P j)) m (rw9 j) := by
  intro j hj
  obtain ⟨p1, p2, p3, p4, p5, p6, p7, p8, p9, p10⟩ := hP
  exact hw_wa_g (fun q hq => hw_lv_g hS.2.2.2.2 (by omega)) (fun q hq => p10 j hj q hq) hm (p7 j hj).2.1
theorem rx_hr (R : rl n oc ns gp np rw9 nw jd9 P I D I2 D2) {L L2 : List (Nat × Nat)} (l1 : L = hs_w (D 1) (D 0 0) (hd_nf ns) gp 20 0) (l2 : L.length ≤ 19) (c7 : J 0 7 = nI L.length) (c0 : ∀ z, z ≠ 5 → z ≠ 7 → J 0 z = I 0 z) (c1 : ∀ c, c ≠ 0 → c < 4 → J c = I c) (c2 : ∀ c, c ≠ 2 → c ≠ 3 → c ≠ 4 → c ≠ 8 → c ≠ 9 → E c = D c) (c5 : J 0 5 = nI (hd_nf ns)) (c3 : ∀ q, q < 4 * hd_nf ns → E 3 q = hw_su (D 1) q) (c4 : ∀ q, q < 4 * hd_nf ns → E 4 q = hw_lv (D 1) 0 q)
    (cw : ∀ z9 f9 m9, L[z9]? = some (f9, m9) → J 4 z9 = nI f9 ∧ J 5 z9 = nI m9 ∧ J 6 z9 = hr_n (fun k9 => hw_wa (hw_lv (D 1) f9) (D (10 + P k9)) m9 (rw9 k9)) np ∧ J 7 z9 = hr_l (fun k9 => hw_wa (hw_lv (D 1) f9) (D (10 + P k9)) m9 (rw9 k9)) (fun k9 => I 2 (P k9)) (D 0 1) np ∧ E 9 z9 = (hr_p (fun k9 => hw_wa (hw_lv (D 1) f9) (D (10 + P k9)) m9 (rw9 k9)) np).2 ∧ f9 + m9 ≤ hd_nf ns ∧ 1 ≤ m9)
    (m1 : L2 = hs_w (D2 1) (D2 0 0) (hd_nf ns) gp 20 0) (m6 : J2 0 6 = nI L2.length) (m0 : ∀ z, z ≠ 0 → z ≠ 6 → z ≠ 8 → z ≠ 9 → J2 0 z = I2 0 z) (m3 : ∀ c, c ≠ 0 → c < 4 → J2 c = I2 c) (m2 : ∀ c, c ≠ 3 → c ≠ 4 → c ≠ 5 → c ≠ 6 → E2 c = D2 c)
    (mw : ∀ k9 f9 m9, L2[k9]? = some (f9, m9) → J2 5 k9 = nI f9 ∧ J2 6 k9 = nI m9 ∧ J2 7 k9 = hr_n (fun k8 => hw_wa (hw_lv (D2 1) f9) (fun q => D2 2 (32 * k8 + q)) m9 (rw9 k8)) np ∧ J2 4 k9 = hr_l (fun k8 => hw_wa (hw_lv (D2 1) f9) (fun q => D2 2 (32 * k8 + q)) m9 (rw9 k8)) (I2 2) (D2 0 1) np ∧ E2 3 k9 = (hr_p (fun k8 => hw_wa (hw_lv (D2 1) f9) (fun q => D2 2 (32 * k8 + q)) m9 (rw9 k8)) np).2) :
    L2.length = L.length ∧ rx P J E J2 E2 := by
  obtain ⟨hF, hS, hM, hP, hW, hJ, hT⟩ := R
  have eL : L2 = L := by
    rw [m1, l1, hM.2.2.2.2.2.2.1]
    exact hs_w_g hS.2.2.2.2 _ _ _ _
  subst eL
  have o : ∀ c, c < 10 → c ≠ 2 → c ≠ 3 → c ≠ 4 → c ≠ 8 → c ≠ 9 → E c = D c := fun c _ z2 z3 z4 z8 z9 => c2 c z2 z3 z4 z8 z9
  refine ⟨rfl, n, oc, ns, gp, np, rw9, L2.length, hd_nf ns, rF_fr hF (c0 3 (by decide) (by decide)) (c1 1 (by decide) (by decide)) (m0 1 (by decide) (by decide) (by decide) (by decide)) (m3 1 (by decide) (by decide)), rS_fr hS (c0 4 (by decide) (by decide)) (c2 1 (by decide) (by decide) (by decide) (by decide) (by decide)) (m0 3 (by decide) (by decide) (by decide) (by decide)) (m2 1 (by decide) (by decide) (by decide) (by decide)),
    rM_fr hM (c0 0 (by decide) (by decide)) (c0 2 (by decide) (by decide)) (c2 0 (by decide) (by decide) (by decide) (by decide) (by decide)) (m0 4 (by decide) (by decide) (by decide) (by decide)) (m0 7 (by decide) (by decide) (by decide) (by decide)) (m2 0 (by decide) (by decide) (by decide) (by decide)),
    rP_fr hP (c0 6 (by decide) (by decide)) (c1 2 (by decide) (by decide)) (c1 3 (by decide) (by decide)) (fun j _ => c2 _ (by omega) (by omega) (by omega) (by omega) (by omega)) (m0 5 (by decide) (by decide) (by decide) (by decide)) (m3 2 (by decide) (by decide)) (m3 3 (by decide) (by decide)) (m2 2 (by decide) (by decide) (by decide) (by decide)), ⟨l2, c7, m6, fun k hk => ?_⟩, ⟨Nat.le_refl _, c5, ?_, ?_⟩,
    rT_fr hT (c2 5 (by decide) (by decide) (by decide) (by decide) (by decide)) (c2 6 (by decide) (by decide) (by decide) (by decide) (by decide)) (c2 7 (by decide) (by decide) (by decide) (by decide) (by decide)) (m2 7 (by decide) (by decide) (by decide) (by decide)) (m2 8 (by decide) (by decide) (by decide) (by decide))⟩
  · obtain ⟨f, m, hk2⟩ : ∃ f m, L2[k]? = some (f, m) := ⟨_, _, List.getElem?_eq_getElem hk⟩
    obtain ⟨a1, a2, a3, a4, a5, a6, a7⟩ := cw k f m hk2
    obtain ⟨b1, b2, b3, b4, b5⟩ := mw k f m hk2
    have eW := rp_wa hS hP a6 a7
    have eG : hr_p (fun k8 => hw_wa (hw_lv (D2 1) f) (fun q => D2 2 (32 * k8 + q)) m (rw9 k8)) np = hr_p (fun k9 => hw_wa (hw_lv (D 1) f) (D (10 + P k9)) m (rw9 k9)) np := hr_g np eW
    have hn : J2 7 k = J 6 k := by
      rw [b3, a3]
      unfold hr_n
      rw [eG]
    refine ⟨b1.trans a1.symm, b2.trans a2.symm, hn, ?_, by rw [b5, a5, eG], ?_⟩
    · rw [b4, a4]
      unfold hr_l
      rw [eG, hM.2.2.2.2.2.2.2]
      by_cases c : 0 < np ∧ (FP.dcmp (hr_p (fun k9 => hw_wa (hw_lv (D 1) f) (D (10 + P k9)) m (rw9 k9)) np).2 (D 0 1) = some .lt ∨ FP.dcmp (hr_p (fun k9 => hw_wa (hw_lv (D 1) f) (D (10 + P k9)) m (rw9 k9)) np).2 (D 0 1) = some .eq)
      · rw [if_pos c, if_pos c]
        exact hP.2.2.2.2.2.1 _ (hr_lt _ np c.1)
      · rw [if_neg c, if_neg c]
    · rw [a3]
      unfold hr_n
      have h6 := hP.1
      by_cases c : np = 0
      · rw [if_pos c]; exact Or.inl rfl
      · rw [if_neg c]; exact Or.inr ⟨_, by have := hr_lt (fun k9 => hw_wa (hw_lv (D 1) f) (D (10 + P k9)) m (rw9 k9)) np (by omega); omega, rfl⟩
  · rw [c2 1 (by decide) (by decide) (by decide) (by decide) (by decide)]; exact c3
  · rw [c2 1 (by decide) (by decide) (by decide) (by decide) (by decide)]; exact c4
end RH
