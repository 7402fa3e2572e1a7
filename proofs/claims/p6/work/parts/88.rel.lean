-- both sides hold the same: FILE, SAMPLES, ways and rate, PATTERNS, WORDS; what the class has judged; the tables
def rF (n : Nat) (oc : Nat → Nat) (I I2 : Nat → Nat → Int32) : Prop := n ≤ 400 ∧ I 0 3 = nI n ∧ I2 0 1 = nI n ∧ (∀ j, j < 400 → I 1 j = nI (oc j) ∧ oc j < 256) ∧ (∀ j, j < 400 → I2 1 j = nI (oc j) ∧ oc j < 256)
def rS (ns : Nat) (I : Nat → Nat → Int32) (D : Nat → Nat → UInt64) (I2 : Nat → Nat → Int32) (D2 : Nat → Nat → UInt64) : Prop := ns ≤ 320 ∧ I 0 4 = nI ns ∧ I2 0 3 = nI ns ∧ (∀ i, i < ns → fb_ 1057 (D 1 i)) ∧ (∀ i, i < ns → D2 1 i = D 1 i)
def rM (gp : Nat) (I : Nat → Nat → Int32) (D : Nat → Nat → UInt64) (I2 : Nat → Nat → Int32) (D2 : Nat → Nat → UInt64) : Prop := I2 0 4 = I 0 0 ∧ I 0 0 ≠ 0 ∧ 1 ≤ gp ∧ gp ≤ 4 ∧ I 0 2 = nI gp ∧ I2 0 7 = nI gp ∧ D2 0 0 = D 0 0 ∧ D2 0 1 = D 0 1
def rP (np : Nat) (rw9 : Nat → Nat) (P : Nat → Nat) (I : Nat → Nat → Int32) (D : Nat → Nat → UInt64) (I2 : Nat → Nat → Int32) (D2 : Nat → Nat → UInt64) : Prop := np ≤ 6 ∧ I 0 6 = nI np ∧ I2 0 5 = nI np ∧ (∀ j, j < 6 → P j < 6) ∧ (∀ i, i < 6 → ∀ j, j < 6 → P i = P j → i = j) ∧ (∀ j, j < np → I2 2 j = I 2 (P j)) ∧ (∀ j, j < np → I 3 (P j) = nI (rw9 j) ∧ 1 ≤ rw9 j ∧ rw9 j ≤ 8) ∧ (∀ j, j < np → I2 3 j = nI (rw9 j)) ∧ (∀ j, j < np → ∀ q, q < 4 * rw9 j → fb_ 1155 (D (10 + P j) q)) ∧ (∀ j, j < np → ∀ q, q < 4 * rw9 j → D2 2 (32 * j + q) = D (10 + P j) q)
def rW (nw : Nat) (I : Nat → Nat → Int32) (D : Nat → Nat → UInt64) (I2 : Nat → Nat → Int32) (D2 : Nat → Nat → UInt64) : Prop := nw ≤ 19 ∧ I 0 7 = nI nw ∧ I2 0 6 = nI nw ∧ ∀ k, k < nw → I2 5 k = I 4 k ∧ I2 6 k = I 5 k ∧ I2 7 k = I 6 k ∧ I2 4 k = I 7 k ∧ D2 3 k = D 9 k ∧ (I 6 k = -1 ∨ ∃ i, i < 6 ∧ I 6 k = nI i)
def rJ (ns jd9 : Nat) (I : Nat → Nat → Int32) (D : Nat → Nat → UInt64) : Prop := jd9 ≤ hd_nf ns ∧ I 0 5 = nI jd9 ∧ (∀ q, q < 4 * jd9 → D 3 q = hw_su (D 1) q) ∧ (∀ q, q < 4 * jd9 → D 4 q = hw_lv (D 1) 0 q)
def rT (D D2 : Nat → Nat → UInt64) : Prop := (∀ j, j < 32 → D 5 j = hd_C j) ∧ (∀ j, j < 32 → D 6 j = hd_S j) ∧ (∀ j, j < 32 → D 7 j = hd_W j) ∧ (∀ j, j < 32 → D2 7 j = hd_C j) ∧ (∀ j, j < 32 → D2 8 j = hd_S j)
def rl (n : Nat) (oc : Nat → Nat) (ns gp np : Nat) (rw9 : Nat → Nat) (nw jd9 : Nat) (P : Nat → Nat) (I : Nat → Nat → Int32) (D : Nat → Nat → UInt64) (I2 : Nat → Nat → Int32) (D2 : Nat → Nat → UInt64) : Prop := rF n oc I I2 ∧ rS ns I D I2 D2 ∧ rM gp I D I2 D2 ∧ rP np rw9 P I D I2 D2 ∧ rW nw I D I2 D2 ∧ rJ ns jd9 I D ∧ rT D D2
def rx (P : Nat → Nat) (I : Nat → Nat → Int32) (D : Nat → Nat → UInt64) (I2 : Nat → Nat → Int32) (D2 : Nat → Nat → UInt64) : Prop := ∃ n oc ns gp np rw9 nw jd9, rl n oc ns gp np rw9 nw jd9 P I D I2 D2
section FR
variable {n ns gp np nw jd9 : Nat} {oc rw9 : Nat → Nat} {P : Nat → Nat} {I I2 J J2 : Nat → Nat → Int32} {D D2 E E2 : Nat → Nat → UInt64}
theorem rF_fr (h : rF n oc I I2) (a : J 0 3 = I 0 3) (b : J 1 = I 1) (c : J2 0 1 = I2 0 1) (d : J2 1 = I2 1) : rF n oc J J2 := ⟨h.1, a.trans h.2.1, c.trans h.2.2.1, by rw [b]; exact h.2.2.2.1, by rw [d]; exact h.2.2.2.2⟩
theorem rS_fr (h : rS ns I D I2 D2) (a : J 0 4 = I 0 4) (b : E 1 = D 1) (c : J2 0 3 = I2 0 3) (d : E2 1 = D2 1) : rS ns J E J2 E2 := ⟨h.1, a.trans h.2.1, c.trans h.2.2.1, by rw [b]; exact h.2.2.2.1, by rw [b, d]; exact h.2.2.2.2⟩
theorem rM_fr (h : rM gp I D I2 D2) (a : J 0 0 = I 0 0) (b : J 0 2 = I 0 2) (c : E 0 = D 0) (d : J2 0 4 = I2 0 4) (e : J2 0 7 = I2 0 7) (f : E2 0 = D2 0) : rM gp J E J2 E2 := by
  unfold rM
  rw [a, b, c, d, e, f]
  exact h
theorem rP_fr (h : rP np rw9 P I D I2 D2) (a : J 0 6 = I 0 6) (b : J 2 = I 2) (c : J 3 = I 3) (d : ∀ j, j < 6 → E (10 + j) = D (10 + j)) (e : J2 0 5 = I2 0 5) (f : J2 2 = I2 2) (g : J2 3 = I2 3) (i : E2 2 = D2 2) : rP np rw9 P J E J2 E2 := by
  obtain ⟨h1, h2, h3, h4, h5, h6, h7, h8, h9, h10⟩ := h
  refine ⟨h1, a.trans h2, e.trans h3, h4, h5, by rw [f, b]; exact h6, by rw [c]; exact h7, by rw [g]; exact h8, fun j hj q hq => ?_, fun j hj q hq => ?_⟩
  · rw [d _ (h4 j (by omega))]; exact h9 j hj q hq
  · rw [d _ (h4 j (by omega)), i]; exact h10 j hj q hq
theorem rW_fr (h : rW nw I D I2 D2) (a : J 0 7 = I 0 7) (b4 : J 4 = I 4) (b5 : J 5 = I 5) (b6 : J 6 = I 6) (b7 : J 7 = I 7) (c : E 9 = D 9) (d : J2 0 6 = I2 0 6) (e4 : J2 4 = I2 4) (e5 : J2 5 = I2 5) (e6 : J2 6 = I2 6) (e7 : J2 7 = I2 7) (f : E2 3 = D2 3) : rW nw J E J2 E2 := by
  unfold rW
  rw [a, b4, b5, b6, b7, c, d, e4, e5, e6, e7, f]
  exact h
theorem rJ_fr (h : rJ ns jd9 I D) (a : J 0 5 = I 0 5) (b : E 1 = D 1) (c : E 3 = D 3) (d : E 4 = D 4) : rJ ns jd9 J E := by
  unfold rJ
  rw [a, b, c, d]
  exact h
theorem rT_fr (h : rT D D2) (a : E 5 = D 5) (b : E 6 = D 6) (c : E 7 = D 7) (d : E2 7 = D2 7) (e : E2 8 = D2 8) : rT E E2 := by
  unfold rT
  rw [a, b, c, d, e]
  exact h
/-- nothing of the class has changed that shows, nothing of the reference but err -/
theorem rx_0 (h : rl n oc ns gp np rw9 nw jd9 P I D I2 D2) {x : Int32} : rx P I D (ui I2 0 0 x) D2 := ⟨n, oc, ns, gp, np, rw9, nw, jd9, rF_fr h.1 rfl rfl rfl rfl, rS_fr h.2.1 rfl rfl rfl rfl, rM_fr h.2.2.1 rfl rfl rfl rfl rfl rfl, rP_fr h.2.2.2.1 rfl rfl rfl (fun _ _ => rfl) rfl rfl rfl rfl, rW_fr h.2.2.2.2.1 rfl rfl rfl rfl rfl rfl rfl rfl rfl rfl rfl rfl, rJ_fr h.2.2.2.2.2.1 rfl rfl rfl rfl, rT_fr h.2.2.2.2.2.2 rfl rfl rfl rfl rfl⟩
theorem rx_1 (h : rl n oc ns gp np rw9 nw jd9 P I D I2 D2) {x y : Int32} : rx P I D (ui (ui I2 0 0 x) 0 0 y) D2 := by
  rw [ui_ww]
  exact rx_0 h
theorem rx_us2 (h : rx P I D I2 D2) {c : Nat} (hc : c = 2 ∨ c = 8) {w : Nat → UInt64} : rx P I (us D c w) I2 D2 := by
  obtain ⟨n, oc, ns, gp, np, rw9, nw, jd9, h⟩ := h
  have o : ∀ c', c' ≠ 2 → c' ≠ 8 → us D c w c' = D c' := fun c' z2 z8 => us_o _ _ (by omega)
  exact ⟨n, oc, ns, gp, np, rw9, nw, jd9, rF_fr h.1 rfl rfl rfl rfl, rS_fr h.2.1 rfl (o 1 (by decide) (by decide)) rfl rfl, rM_fr h.2.2.1 rfl rfl (o 0 (by decide) (by decide)) rfl rfl rfl, rP_fr h.2.2.2.1 rfl rfl rfl (fun j _ => o _ (by omega) (by omega)) rfl rfl rfl rfl, rW_fr h.2.2.2.2.1 rfl rfl rfl rfl rfl (o 9 (by decide) (by decide)) rfl rfl rfl rfl rfl rfl, rJ_fr h.2.2.2.2.2.1 rfl (o 1 (by decide) (by decide)) (o 3 (by decide) (by decide)) (o 4 (by decide) (by decide)), rT_fr h.2.2.2.2.2.2 (o 5 (by decide) (by decide)) (o 6 (by decide) (by decide)) (o 7 (by decide) (by decide)) rfl rfl⟩
/-- all frames are judged -/
theorem rx_jd (h : rl n oc ns gp np rw9 nw jd9 P I D I2 D2) (e1 : ∀ c, c ≠ 2 → c ≠ 3 → c ≠ 4 → E c = D c) (e3 : ∀ q, q < 4 * hd_nf ns → E 3 q = hw_su (D 1) q) (e4 : ∀ q, q < 4 * hd_nf ns → E 4 q = hw_lv (D 1) 0 q) : rl n oc ns gp np rw9 nw (hd_nf ns) P (ui I 0 5 (nI (hd_nf ns))) E I2 D2 := by
  have o : ∀ c, c ≠ 2 → c ≠ 3 → c ≠ 4 → E c = D c := e1
  refine ⟨rF_fr h.1 rfl rfl rfl rfl, rS_fr h.2.1 rfl (o 1 (by decide) (by decide) (by decide)) rfl rfl, rM_fr h.2.2.1 rfl rfl (o 0 (by decide) (by decide) (by decide)) rfl rfl rfl, rP_fr h.2.2.2.1 rfl rfl rfl (fun j _ => o _ (by omega) (by omega) (by omega)) rfl rfl rfl rfl, rW_fr h.2.2.2.2.1 rfl rfl rfl rfl rfl (o 9 (by decide) (by decide) (by decide)) rfl rfl rfl rfl rfl rfl, ⟨Nat.le_refl _, rfl, ?_, ?_⟩, rT_fr h.2.2.2.2.2.2 (o 5 (by decide) (by decide) (by decide)) (o 6 (by decide) (by decide) (by decide)) (o 7 (by decide) (by decide) (by decide)) rfl rfl⟩
  · rw [o 1 (by decide) (by decide) (by decide)]; exact e3
  · rw [o 1 (by decide) (by decide) (by decide)]; exact e4
end FR
-- what a frame shows depends on its 32 samples alone
section EXT
variable {sa sb : Nat → UInt64} {f : Nat}
theorem hd_re_g (h : ∀ i, i < 32 → sa (16 * f + i) = sb (16 * f + i)) (k : Nat) : ∀ n, n ≤ 32 → hd_re sa f k n = hd_re sb f k n
  | 0, _ => rfl
  | n + 1, hn => by
    unfold hd_re
    rw [hd_re_g h k n (by omega)]
    unfold hd_v
    rw [h n (by omega)]
theorem hd_im_g (h : ∀ i, i < 32 → sa (16 * f + i) = sb (16 * f + i)) (k : Nat) : ∀ n, n ≤ 32 → hd_im sa f k n = hd_im sb f k n
  | 0, _ => rfl
  | n + 1, hn => by
    unfold hd_im
    rw [hd_im_g h k n (by omega)]
    unfold hd_v
    rw [h n (by omega)]
theorem hd_P_g (h : ∀ i, i < 32 → sa (16 * f + i) = sb (16 * f + i)) (k : Nat) : hd_P sa f k = hd_P sb f k := by
  unfold hd_P
  rw [hd_re_g h k 32 (by decide), hd_im_g h k 32 (by decide)]
theorem hd_bs_g (h : ∀ i, i < 32 → sa (16 * f + i) = sb (16 * f + i)) (lo : Nat) : ∀ m, hd_bs sa f lo m = hd_bs sb f lo m
  | 0 => rfl
  | m + 1 => by
    unfold hd_bs
    rw [hd_bs_g h lo m, hd_P_g h]
theorem hd_su_g (h : ∀ i, i < 32 → sa (16 * f + i) = sb (16 * f + i)) (b : Nat) : hd_su sa f b = hd_su sb f b := hd_bs_g h _ _
theorem hd_lo_g (h : ∀ i, i < 32 → sa (16 * f + i) = sb (16 * f + i)) : ∀ b, hd_lo sa f b = hd_lo sb f b
  | 0 => rfl
  | b + 1 => by
    unfold hd_lo
    rw [hd_lo_g h b, hd_su_g h]
theorem hd_lev_g (h : ∀ i, i < 32 → sa (16 * f + i) = sb (16 * f + i)) (b : Nat) : hd_lev sa f b = hd_lev sb f b := by
  unfold hd_lev
  rw [hd_su_g h]
theorem hd_ld_g (h : ∀ i, i < 32 → sa (16 * f + i) = sb (16 * f + i)) (th : UInt64) : hd_ld sa f th ↔ hd_ld sb f th := by
  unfold hd_ld
  rw [hd_lo_g h]
end EXT
section EXS
variable {sa sb : Nat → UInt64} {ns : Nat}
theorem ex_f (h : ∀ i, i < ns → sa i = sb i) {f : Nat} (hf : f < hd_nf ns) : ∀ i, i < 32 → sa (16 * f + i) = sb (16 * f + i) := fun i hi => h _ (by have := nf_lt hf; omega)
theorem hw_su_g (h : ∀ i, i < ns → sa i = sb i) {q : Nat} (hq : q < 4 * hd_nf ns) : hw_su sa q = hw_su sb q := hd_su_g (ex_f h (by omega)) _
theorem hw_lv_g (h : ∀ i, i < ns → sa i = sb i) {f q : Nat} (hq : f + q / 4 < hd_nf ns) : hw_lv sa f q = hw_lv sb f q := hd_lev_g (ex_f h hq) _
theorem ld_cnt_g (h : ∀ i, i < ns → sa i = sb i) (th : UInt64) : ∀ f, f ≤ hd_nf ns → ld_cnt sa th f = ld_cnt sb th f
  | 0, _ => rfl
  | f + 1, hf => by
    have e := hd_ld_g (ex_f h (f := f) (by omega)) th
    by_cases g : hd_ld sa f th
    · rw [ld_s1 g, ld_s1 (e.mp g), ld_cnt_g h th f (by omega)]
    · rw [ld_s0 g, ld_s0 (fun z => g (e.mpr z)), ld_cnt_g h th f (by omega)]
theorem hs_in_g (h : ∀ i, i < ns → sa i = sb i) (th : UInt64) (gp : Nat) : ∀ fu g la q lk, hs_in sa th (hd_nf ns) gp fu g la q lk = hs_in sb th (hd_nf ns) gp fu g la q lk
  | 0, _, _, _, _ => rfl
  | fu + 1, g, la, q, lk => by
    by_cases c : g < hd_nf ns ∧ lk < 10 ∧ q < gp
    · have e := hd_ld_g (ex_f h c.1) th
      by_cases d : hd_ld sa g th
      · rw [hs_in_l c d, hs_in_l c (e.mp d)]; exact hs_in_g h th gp fu _ _ _ _
      · rw [hs_in_q c d, hs_in_q c (fun z => d (e.mpr z))]; exact hs_in_g h th gp fu _ _ _ _
    · rw [hs_in_e _ c, hs_in_e _ c]
theorem hs_w_g (h : ∀ i, i < ns → sa i = sb i) (th : UInt64) (gp : Nat) : ∀ fu f, hs_w sa th (hd_nf ns) gp fu f = hs_w sb th (hd_nf ns) gp fu f
  | 0, _ => rfl
  | fu + 1, f => by
    by_cases c : f < hd_nf ns
    · have e := hd_ld_g (ex_f h c) th
      by_cases d : hd_ld sa f th
      · rw [hs_w_l c d, hs_w_l c (e.mp d), hs_in_g h, hs_w_g h]
      · rw [hs_w_q c d, hs_w_q c (fun z => d (e.mpr z)), hs_w_g h]
    · rw [hs_w_e _ c, hs_w_e _ c]
end EXS
