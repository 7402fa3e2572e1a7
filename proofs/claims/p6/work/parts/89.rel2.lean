section RX
variable {n ns gp np nw jd9 : Nat} {oc rw9 : Nat → Nat} {P : Nat → Nat} {I I2 J J2 : Nat → Nat → Int32} {D D2 E E2 : Nat → Nat → UInt64}
theorem rx_oct (R : rl n oc ns gp np rw9 nw jd9 P I D I2 D2) {Wv q : Nat} {x : Int32} (hq : n + q ≤ 400) : rx P (ui (fi_wr I 1 n Wv q) 0 3 (nI (n + q))) D (ui (fi_wr (ui I2 0 0 x) 1 n Wv q) 0 1 (nI (n + q))) D2 := by
  obtain ⟨hF, hS, hM, hP, hW, hJ, hT⟩ := R
  have a0 : fi_wr I 1 n Wv q 0 = I 0 := fi_wr_o _ _ _ _ (by decide) q
  have a : ∀ c, c ≠ 0 → c ≠ 1 → ui (fi_wr I 1 n Wv q) 0 3 (nI (n + q)) c = I c := fun c z0 z1 => by rw [ui_o _ _ _ z0, fi_wr_o _ _ _ _ z1]
  have az : ∀ z, z ≠ 3 → ui (fi_wr I 1 n Wv q) 0 3 (nI (n + q)) 0 z = I 0 z := fun z z3 => by rw [ui_n _ _ _ z3, a0]
  have b0 : fi_wr (ui I2 0 0 x) 1 n Wv q 0 = ui I2 0 0 x 0 := fi_wr_o _ _ _ _ (by decide) q
  have b : ∀ c, c ≠ 0 → c ≠ 1 → ui (fi_wr (ui I2 0 0 x) 1 n Wv q) 0 1 (nI (n + q)) c = I2 c := fun c z0 z1 => by rw [ui_o _ _ _ z0, fi_wr_o _ _ _ _ z1, ui_o _ _ _ z0]
  have bz : ∀ z, z ≠ 0 → z ≠ 1 → ui (fi_wr (ui I2 0 0 x) 1 n Wv q) 0 1 (nI (n + q)) 0 z = I2 0 z := fun z z0 z1 => by rw [ui_n _ _ _ z1, b0, ui_n _ _ _ z0]
  have key : ∀ (J : Nat → Nat → Int32), (∀ j, j < 400 → J 1 j = nI (oc j) ∧ oc j < 256) → ∀ j, j < 400 → fi_wr J 1 n Wv q 1 j = nI ((fun j => if n ≤ j ∧ j < n + q then oc_w Wv (j - n) else oc j) j) ∧ (fun j => if n ≤ j ∧ j < n + q then oc_w Wv (j - n) else oc j) j < 256 := by
    intro J hJ j hj
    dsimp only
    by_cases c : n ≤ j ∧ j < n + q
    · rw [if_pos c]
      refine ⟨?_, Nat.mod_lt _ (by decide)⟩
      have := fi_wr_in J 1 n Wv (i := j - n) q (by omega)
      rw [show n + (j - n) = j by omega] at this
      exact this
    · rw [if_neg c]
      refine ⟨?_, (hJ j hj).2⟩
      rcases Nat.lt_or_ge j n with g | g
      · rw [fi_wr_lo _ _ _ _ g]; exact (hJ j hj).1
      · rw [fi_wr_hi _ _ _ _ _ (by omega)]; exact (hJ j hj).1
  refine ⟨n + q, fun j => if n ≤ j ∧ j < n + q then oc_w Wv (j - n) else oc j, ns, gp, np, rw9, nw, jd9, ⟨hq, ui_s _ _ _ _, ui_s _ _ _ _, fun j hj => ?_, fun j hj => ?_⟩, rS_fr hS (az 4 (by decide)) rfl (bz 3 (by decide) (by decide)) rfl, rM_fr hM (az 0 (by decide)) (az 2 (by decide)) rfl (bz 4 (by decide) (by decide)) (bz 7 (by decide) (by decide)) rfl, rP_fr hP (az 6 (by decide)) (a 2 (by decide) (by decide)) (a 3 (by decide) (by decide)) (fun _ _ => rfl) (bz 5 (by decide) (by decide)) (b 2 (by decide) (by decide)) (b 3 (by decide) (by decide)) rfl,
    rW_fr hW (az 7 (by decide)) (a 4 (by decide) (by decide)) (a 5 (by decide) (by decide)) (a 6 (by decide) (by decide)) (a 7 (by decide) (by decide)) rfl (bz 6 (by decide) (by decide)) (b 4 (by decide) (by decide)) (b 5 (by decide) (by decide)) (b 6 (by decide) (by decide)) (b 7 (by decide) (by decide)) rfl, rJ_fr hJ (az 5 (by decide)) rfl rfl rfl, rT_fr hT rfl rfl rfl rfl rfl⟩
  · rw [ui_o _ _ _ (by decide)]; exact key I hF.2.2.2.1 j hj
  · rw [ui_o _ _ _ (by decide)]; exact key _ (fun j hj => by rw [ui_o _ _ _ (by decide)]; exact hF.2.2.2.2 j hj) j hj
theorem rx_rd0 (R : rl n oc ns gp np rw9 nw jd9 P I D I2 D2) {x a y z : Int32} : rx P (ui (ui I 0 1 x) 0 3 (nI 0)) D (ui (ui (ui (ui I2 0 0 a) 0 2 y) 0 1 (nI 0)) 0 0 z) D2 := by
  obtain ⟨hF, hS, hM, hP, hW, hJ, hT⟩ := R
  exact ⟨0, oc, ns, gp, np, rw9, nw, jd9, ⟨by omega, rfl, rfl, hF.2.2.2.1, hF.2.2.2.2⟩, rS_fr hS rfl rfl rfl rfl, rM_fr hM rfl rfl rfl rfl rfl rfl, rP_fr hP rfl rfl rfl (fun _ _ => rfl) rfl rfl rfl rfl, rW_fr hW rfl rfl rfl rfl rfl rfl rfl rfl rfl rfl rfl rfl, rJ_fr hJ rfl rfl rfl rfl, rT_fr hT rfl rfl rfl rfl rfl⟩
theorem rx_rd1 (R : rl n oc ns gp np rw9 nw jd9 P I D I2 D2) (hok : fi_ok oc n) (hN : fi_n oc n ≤ 320) {v v2 : Nat → UInt64} {a y : Int32} (hv : ∀ i, i < fi_n oc n → v i = fi_sa oc i) (hv2 : ∀ i, i < fi_n oc n → v2 i = fi_sa oc i)
    (c1 : ∀ c, c ≠ 0 → J c = I c) (c2 : ∀ z, z ≠ 0 → z ≠ 1 → z ≠ 3 → z ≠ 4 → z ≠ 5 → z ≠ 7 → J 0 z = I 0 z) (c3 : J 0 0 = nI (nu oc 24 4)) (c4 : J 0 3 = nI 0) (c5 : J 0 4 = nI (fi_n oc n)) (c6 : J 0 5 = nI 0) (c7 : J 0 7 = nI 0) :
    rx P J (us D 1 v) (ui (ui (ui (ui (ui (ui I2 0 0 a) 0 2 y) 0 4 (nI (nu oc 24 4))) 0 3 (nI (fi_n oc n))) 0 6 (nI 0)) 0 1 (nI 0)) (us D2 1 v2) := by
  obtain ⟨hF, hS, hM, hP, hW, hJ, hT⟩ := R
  obtain ⟨-, -, -, -, k4, k5⟩ := fi_k hok
  have o : ∀ c, c ≠ 1 → us D 1 v c = D c := fun c z => us_o _ _ z
  refine ⟨0, oc, fi_n oc n, gp, np, rw9, 0, 0, ⟨by omega, c4, rfl, by rw [c1 1 (by decide)]; exact hF.2.2.2.1, hF.2.2.2.2⟩, ⟨hN, c5, rfl, fun i hi => ?_, fun i hi => ?_⟩, ⟨c3.symm, ?_, hM.2.2.1, hM.2.2.2.1, (c2 2 (by decide) (by decide) (by decide) (by decide) (by decide) (by decide)).trans hM.2.2.2.2.1, hM.2.2.2.2.2.1, hM.2.2.2.2.2.2.1, hM.2.2.2.2.2.2.2⟩,
    rP_fr hP (c2 6 (by decide) (by decide) (by decide) (by decide) (by decide) (by decide)) (c1 2 (by decide)) (c1 3 (by decide)) (fun j _ => o _ (by omega)) rfl rfl rfl rfl, ⟨by omega, c7, rfl, fun k hk => absurd hk (Nat.not_lt_zero _)⟩, ⟨Nat.zero_le _, c6, fun q hq => absurd hq (by omega), fun q hq => absurd hq (by omega)⟩, rT_fr hT rfl rfl rfl rfl rfl⟩
  · rw [us_c, hv i hi]; exact fb_mono (fi_sa_b oc i) (by decide)
  · rw [us_c, us_c, hv i hi, hv2 i hi]
  · rw [c3]; exact nI_ne0 (by omega) (by omega)
theorem rx_wv (R : rl n oc ns gp np rw9 nw jd9 P I D I2 D2) {sp q : Nat} {a : UInt64} {x : Int32} (ha : fb_ 1055 a) (hq : ns + q ≤ 320) : rx P (ui I 0 4 (nI (ns + q))) (hd_wr D 1 ns sp a q) (ui (ui I2 0 0 x) 0 3 (nI (ns + q))) (hd_wr D2 1 ns sp a q) := by
  obtain ⟨hF, hS, hM, hP, hW, hJ, hT⟩ := R
  have o : ∀ c, c ≠ 1 → hd_wr D 1 ns sp a q c = D c := fun c z => hd_wr_o _ _ _ _ _ z q
  have o2 : ∀ c, c ≠ 1 → hd_wr D2 1 ns sp a q c = D2 c := fun c z => hd_wr_o _ _ _ _ _ z q
  have lo : ∀ i, i < ns → hd_wr D 1 ns sp a q 1 i = D 1 i := fun i hi => hd_wr_lo _ _ _ _ _ hi q
  have nf : hd_nf ns ≤ hd_nf (ns + q) := by
    unfold hd_nf
    split <;> split <;> omega
  refine ⟨n, oc, ns + q, gp, np, rw9, nw, jd9, rF_fr hF rfl rfl rfl rfl, ⟨hq, rfl, rfl, fun i hi => ?_, fun i hi => ?_⟩, rM_fr hM rfl rfl (o 0 (by decide)) rfl rfl (o2 0 (by decide)), rP_fr hP rfl rfl rfl (fun j _ => o _ (by omega)) rfl rfl rfl (o2 2 (by decide)), rW_fr hW rfl rfl rfl rfl rfl (o 9 (by decide)) rfl rfl rfl rfl rfl (o2 3 (by decide)), ⟨Nat.le_trans hJ.1 nf, hJ.2.1, fun q9 hq9 => ?_, fun q9 hq9 => ?_⟩, rT_fr hT (o 5 (by decide)) (o 6 (by decide)) (o 7 (by decide)) (o2 7 (by decide)) (o2 8 (by decide))⟩
  · rcases Nat.lt_or_ge i ns with g | g
    · rw [lo i g]; exact hS.2.2.2.1 i g
    · have := hd_wr_in D 1 ns sp a (i := i - ns) q (by omega)
      rw [show ns + (i - ns) = i by omega] at this
      rw [this]
      exact fb_mono (fb_mul ha (hd_C_b _ (Nat.mod_lt _ (by decide))) (by decide) (by decide)) (by decide)
  · rcases Nat.lt_or_ge i ns with g | g
    · rw [lo i g, hd_wr_lo _ _ _ _ _ g]; exact hS.2.2.2.2 i g
    · have h1 := hd_wr_in D 1 ns sp a (i := i - ns) q (by omega)
      have h2 := hd_wr_in D2 1 ns sp a (i := i - ns) q (by omega)
      rw [show ns + (i - ns) = i by omega] at h1 h2
      rw [h1, h2]
  · have hj := hJ.1
    rw [o 3 (by decide), hJ.2.2.1 q9 hq9]
    exact (hw_su_g lo (by omega)).symm
  · have hj := hJ.1
    rw [o 4 (by decide), hJ.2.2.2 q9 hq9]
    exact (hw_lv_g lo (by omega)).symm
theorem rx_cl (R : rl n oc ns gp np rw9 nw jd9 P I D I2 D2) {x : Int32} : rx P (ui (ui (ui I 0 4 (nI 0)) 0 5 (nI 0)) 0 7 (nI 0)) D (ui (ui (ui I2 0 0 x) 0 3 0) 0 6 0) D2 := by
  obtain ⟨hF, hS, hM, hP, hW, hJ, hT⟩ := R
  exact ⟨n, oc, 0, gp, np, rw9, 0, 0, rF_fr hF rfl rfl rfl rfl, ⟨by omega, rfl, rfl, fun i hi => absurd hi (Nat.not_lt_zero _), fun i hi => absurd hi (Nat.not_lt_zero _)⟩, rM_fr hM rfl rfl rfl rfl rfl rfl, rP_fr hP rfl rfl rfl (fun _ _ => rfl) rfl rfl rfl rfl, ⟨by omega, rfl, rfl, fun k hk => absurd hk (Nat.not_lt_zero _)⟩, ⟨Nat.zero_le _, rfl, fun q hq => absurd hq (by omega), fun q hq => absurd hq (by omega)⟩, rT_fr hT rfl rfl rfl rfl rfl⟩
theorem rx_wy (R : rl n oc ns gp np rw9 nw jd9 P I D I2 D2) {g : Nat} {th lm : UInt64} {x : Int32} (g1 : 1 ≤ g) (g2 : g ≤ 4) : rx P (ui I 0 2 (nI g)) (ud (ud D 0 0 th) 0 1 lm) (ui (ui I2 0 0 x) 0 7 (nI g)) (ud (ud D2 0 0 th) 0 1 lm) := by
  obtain ⟨hF, hS, hM, hP, hW, hJ, hT⟩ := R
  exact ⟨n, oc, ns, g, np, rw9, nw, jd9, rF_fr hF rfl rfl rfl rfl, rS_fr hS rfl rfl rfl rfl, ⟨hM.1, hM.2.1, g1, g2, rfl, rfl, rfl, rfl⟩, rP_fr hP rfl rfl rfl (fun j _ => by rw [ud_o _ _ _ (by omega), ud_o _ _ _ (by omega)]) rfl rfl rfl rfl, rW_fr hW rfl rfl rfl rfl rfl rfl rfl rfl rfl rfl rfl rfl, rJ_fr hJ rfl rfl rfl rfl, rT_fr hT rfl rfl rfl rfl rfl⟩
theorem rx_wp (R : rl n oc ns gp np rw9 nw jd9 P I D I2 D2) {x y z : Int32} (h : ∀ c, c ≠ 4 → c ≠ 5 → c ≠ 6 → E2 c = D2 c) : rx P I D (ui (ui (ui I2 0 0 x) 0 8 y) 0 9 z) E2 := by
  obtain ⟨hF, hS, hM, hP, hW, hJ, hT⟩ := R
  exact ⟨n, oc, ns, gp, np, rw9, nw, jd9, rF_fr hF rfl rfl rfl rfl, rS_fr hS rfl rfl rfl (h 1 (by decide) (by decide) (by decide)), rM_fr hM rfl rfl rfl rfl rfl (h 0 (by decide) (by decide) (by decide)), rP_fr hP rfl rfl rfl (fun _ _ => rfl) rfl rfl rfl (h 2 (by decide) (by decide) (by decide)), rW_fr hW rfl rfl rfl rfl rfl rfl rfl rfl rfl rfl rfl (h 3 (by decide) (by decide) (by decide)), rJ_fr hJ rfl rfl rfl rfl, rT_fr hT rfl rfl rfl (h 7 (by decide) (by decide) (by decide)) (h 8 (by decide) (by decide) (by decide))⟩
/-- a PATTERN more -/
theorem rx_le (R : rl n oc ns gp np rw9 nw jd9 P I D I2 D2) {q f : Nat} {le x : Int32} (hnp : np < 6) (q1 : 1 ≤ q) (q2 : q ≤ 8) (hf : f + q ≤ hd_nf ns) {v2 : Nat → UInt64}
    (e1 : ∀ z, z < 4 * q → E (10 + P np) z = hw_lv (D 1) f z) (e2 : ∀ c, c ≠ 2 → c ≠ 3 → c ≠ 4 → c ≠ 10 + P np → E c = D c) (e3 : ∀ q, q < 4 * hd_nf ns → E 3 q = hw_su (D 1) q) (e4 : ∀ q, q < 4 * hd_nf ns → E 4 q = hw_lv (D 1) 0 q)
    (m1 : ∀ z, z < 4 * q → v2 (32 * np + z) = hw_lv (D2 1) f z) (m2 : ∀ z, z < 32 * np → v2 z = D2 2 z) :
    rx P (ui (ui (ui (ui I 0 5 (nI (hd_nf ns))) 2 (P np) le) 3 (P np) (nI q)) 0 6 (nI (np + 1))) E (ui (ui (ui (ui I2 0 0 x) 2 np le) 3 np (nI q)) 0 5 (nI (np + 1))) (us D2 2 v2) := by
  obtain ⟨hF, hS, hM, hP, hW, hJ, hT⟩ := R
  obtain ⟨p1, p2, p3, p4, p5, p6, p7, p8, p9, p10⟩ := hP
  have ne : ∀ j, j < np → P j ≠ P np := fun j hj z => absurd (p5 j (by omega) np (by omega) z) (by omega)
  have hp := p4 np (by omega)
  have o : ∀ c, c ≠ 2 → c ≠ 3 → c ≠ 4 → c < 10 → E c = D c := fun c z2 z3 z4 z => e2 c z2 z3 z4 (by omega)
  have sm : ∀ z, z < 4 * q → hw_lv (D2 1) f z = hw_lv (D 1) f z := fun z hz => hw_lv_g hS.2.2.2.2 (by omega)
  have r0 : ∀ z, z ≠ 5 → z ≠ 6 → (ui (ui (ui (ui I 0 5 (nI (hd_nf ns))) 2 (P np) le) 3 (P np) (nI q)) 0 6 (nI (np + 1))) 0 z = I 0 z := fun z z5 z6 => by rw [ui_n _ _ _ z6, ui_o _ _ _ (by decide), ui_o _ _ _ (by decide), ui_n _ _ _ z5]
  refine ⟨n, oc, ns, gp, np + 1, fun j => if j = np then q else rw9 j, nw, hd_nf ns, rF_fr hF rfl rfl rfl rfl, rS_fr hS rfl (o 1 (by decide) (by decide) (by decide) (by decide)) rfl rfl, rM_fr hM rfl rfl (o 0 (by decide) (by decide) (by decide) (by decide)) rfl rfl rfl, ⟨by omega, rfl, rfl, p4, p5, fun j hj => ?_, fun j hj => ?_, fun j hj => ?_, fun j hj z hz => ?_, fun j hj z hz => ?_⟩,
    rW_fr hW rfl rfl rfl rfl rfl (o 9 (by decide) (by decide) (by decide) (by decide)) rfl rfl rfl rfl rfl rfl, ⟨Nat.le_refl _, rfl, ?_, ?_⟩, rT_fr hT (o 5 (by decide) (by decide) (by decide) (by decide)) (o 6 (by decide) (by decide) (by decide) (by decide)) (o 7 (by decide) (by decide) (by decide) (by decide)) rfl rfl⟩
  · show ui (ui I2 0 0 x) 2 np le 2 j = ui (ui I 0 5 (nI (hd_nf ns))) 2 (P np) le 2 (P j)
    by_cases c : j = np
    · subst c; rw [ui_s, ui_s]
    · rw [ui_n _ _ _ c, ui_n _ _ _ (ne j (by omega)), ui_o _ _ _ (by decide), ui_o _ _ _ (by decide)]; exact p6 j (by omega)
  · rw [ui_o _ _ _ (by decide)]
    dsimp only
    by_cases c : j = np
    · subst c; rw [ui_s, if_pos rfl]; exact ⟨rfl, q1, q2⟩
    · rw [ui_n _ _ _ (ne j (by omega)), if_neg c, ui_o _ _ _ (by decide), ui_o _ _ _ (by decide)]; exact p7 j (by omega)
  · rw [ui_o _ _ _ (by decide)]
    dsimp only
    by_cases c : j = np
    · subst c; rw [ui_s, if_pos rfl]
    · rw [ui_n _ _ _ c, if_neg c, ui_o _ _ _ (by decide), ui_o _ _ _ (by decide)]; exact p8 j (by omega)
  · dsimp only at hz
    by_cases c : j = np
    · subst c; rw [if_pos rfl] at hz; rw [e1 z hz]; exact hw_lv_b hS.2.2.2.1 hf hz
    · rw [if_neg c] at hz
      have := ne j (by omega)
      rw [e2 _ (by omega) (by omega) (by omega) (by omega)]; exact p9 j (by omega) z hz
  · dsimp only at hz
    rw [us_c]
    by_cases c : j = np
    · subst c; rw [if_pos rfl] at hz; rw [e1 z hz, m1 z hz]; exact sm z hz
    · rw [if_neg c] at hz
      have := ne j (by omega)
      have r8 := (p7 j (by omega)).2.2
      rw [e2 _ (by omega) (by omega) (by omega) (by omega), m2 _ (by omega)]; exact p10 j (by omega) z hz
  · rw [o 1 (by decide) (by decide) (by decide) (by decide)]; exact e3
  · rw [o 1 (by decide) (by decide) (by decide) (by decide)]; exact e4
/-- a PATTERN less -/
theorem rx_fo (R : rl n oc ns gp np rw9 nw jd9 P I D I2 D2) {x : Nat} {y : Int32} (hx : x < np) {Q : Nat → Nat} (hQ : ∀ z, Q z = if z = np - 1 then P x else if x ≤ z ∧ z < np - 1 then P (z + 1) else P z)
    (m1 : ∀ c, c ≠ 2 → c ≠ 3 → J2 c = (ui (ui I2 0 0 y) 0 5 (nI (np - 1))) c) (m2 : ∀ z, J2 2 z = if x ≤ z ∧ z < np - 1 then I2 2 (z + 1) else I2 2 z) (m3 : ∀ z, J2 3 z = if x ≤ z ∧ z < np - 1 then I2 3 (z + 1) else I2 3 z) (m4 : ∀ c, c ≠ 2 → E2 c = D2 c) (m5 : ∀ z, E2 2 z = if 32 * x ≤ z ∧ z < 32 * (np - 1) then D2 2 (z + 32) else D2 2 z) :
    rx Q (ui I 0 6 (nI (np - 1))) D J2 E2 := by
  obtain ⟨hF, hS, hM, hP, hW, hJ, hT⟩ := R
  obtain ⟨p1, p2, p3, p4, p5, p6, p7, p8, p9, p10⟩ := hP
  have k0 : ∀ z, z ≠ 0 → z ≠ 5 → J2 0 z = I2 0 z := fun z z0 z5 => by rw [m1 0 (by decide) (by decide), ui_n _ _ _ z5, ui_n _ _ _ z0]
  have k : ∀ c, c ≠ 0 → c ≠ 2 → c ≠ 3 → J2 c = I2 c := fun c z0 z2 z3 => by rw [m1 c z2 z3, ui_o _ _ _ z0, ui_o _ _ _ z0]
  have q6 : ∀ j, j < 6 → Q j < 6 := fun j hj => by
    rw [hQ]
    split
    · exact p4 x (by omega)
    · split
      · exact p4 _ (by omega)
      · exact p4 _ hj
  -- the place in the old row
  have old : ∀ j, j < 6 → ∃ i, i < 6 ∧ Q j = P i ∧ (i = if j = np - 1 then x else if x ≤ j ∧ j < np - 1 then j + 1 else j) := fun j hj => by
    refine ⟨if j = np - 1 then x else if x ≤ j ∧ j < np - 1 then j + 1 else j, ?_, ?_, rfl⟩
    · split
      · omega
      · split <;> omega
    · rw [hQ]
      split
      · rfl
      · split <;> rfl
  have inj : ∀ i, i < 6 → ∀ j, j < 6 → Q i = Q j → i = j := fun i hi j hj e => by
    obtain ⟨a, ha, ea, da⟩ := old i hi
    obtain ⟨b, hb, eb, db⟩ := old j hj
    have := p5 a ha b hb (by rw [← ea, ← eb]; exact e)
    subst this
    rw [da] at db
    split at db <;> split at db <;> (try split at db) <;> (try split at db) <;> omega
  have qs : ∀ j, j < np - 1 → Q j = P (if x ≤ j then j + 1 else j) := fun j hj => by
    rw [hQ, if_neg (by omega)]
    by_cases c : x ≤ j
    · rw [if_pos ⟨c, hj⟩, if_pos c]
    · rw [if_neg (fun z => c z.1), if_neg c]
  have sl : ∀ j, j < np - 1 → (if x ≤ j then j + 1 else j) < np := fun j hj => by split <;> omega
  refine ⟨n, oc, ns, gp, np - 1, fun j => rw9 (if x ≤ j then j + 1 else j), nw, jd9, rF_fr hF rfl rfl (k0 1 (by decide) (by decide)) (k 1 (by decide) (by decide) (by decide)), rS_fr hS rfl rfl (k0 3 (by decide) (by decide)) (m4 1 (by decide)), rM_fr hM rfl rfl rfl (k0 4 (by decide) (by decide)) (k0 7 (by decide) (by decide)) (m4 0 (by decide)), ⟨by omega, rfl, ?_, q6, inj, fun j hj => ?_, fun j hj => ?_, fun j hj => ?_, fun j hj z hz => ?_, fun j hj z hz => ?_⟩,
    rW_fr hW rfl rfl rfl rfl rfl rfl (k0 6 (by decide) (by decide)) (k 4 (by decide) (by decide) (by decide)) (k 5 (by decide) (by decide) (by decide)) (k 6 (by decide) (by decide) (by decide)) (k 7 (by decide) (by decide) (by decide)) (m4 3 (by decide)), rJ_fr hJ rfl rfl rfl rfl, rT_fr hT rfl rfl rfl (m4 7 (by decide)) (m4 8 (by decide))⟩
  · rw [m1 0 (by decide) (by decide), ui_s]
  · rw [m2, qs j hj, ui_o _ _ _ (by decide)]
    by_cases c : x ≤ j
    · rw [if_pos ⟨c, hj⟩, if_pos c]; exact p6 _ (by omega)
    · rw [if_neg (fun z => c z.1), if_neg c]; exact p6 _ (by omega)
  · rw [qs j hj, ui_o _ _ _ (by decide)]
    exact p7 _ (sl j hj)
  · rw [m3]
    dsimp only
    by_cases c : x ≤ j
    · rw [if_pos ⟨c, hj⟩, if_pos c]; exact p8 _ (by omega)
    · rw [if_neg (fun z => c z.1), if_neg c]; exact p8 _ (by omega)
  · rw [qs j hj]
    exact p9 _ (sl j hj) z hz
  · have r8 := (p7 _ (sl j hj)).2.2
    dsimp only at hz
    rw [qs j hj, m5]
    by_cases c : x ≤ j
    · rw [if_pos c] at hz r8
      rw [if_pos (by omega), if_pos c, show 32 * j + z + 32 = 32 * (j + 1) + z by omega]; exact p10 _ (by omega) z hz
    · rw [if_neg c] at hz r8
      rw [if_neg (by omega), if_neg c]; exact p10 _ (by omega) z hz
end RX
