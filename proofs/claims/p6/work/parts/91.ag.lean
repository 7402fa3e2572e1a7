theorem ag_octets {n ns gp np nw jd9 : Nat} {oc rw9 : Nat → Nat} {P : Nat → Nat} {I I2 : Nat → Nat → Int32} {D D2 : Nat → Nat → UInt64} (R : rl n oc ns gp np rw9 nw jd9 P I D I2 D2) (n9 : Int32) (Wv : Nat) {r : Int32} {u : (Nat → Int64) × (Nat → Nat → Int32)} {r2 : Int32} {u2 : Nat → Nat → Int32} (h1 : (fun r (u : (Nat → Int64) × (Nat → Nat → Int32)) => (∃ v : Int32, (fun r (u : Nat → Nat → Int32) => ∃ q, 1 ≤ q ∧ q ≤ 8 ∧ n9 = nI q ∧ n + q ≤ 400 ∧ r = nI (n + q) ∧ u = ui (fi_wr I 1 n Wv q) 0 3 (nI (n + q))) v u.2 ∧ r = nI 0 ∧ u.1 0 = v.toInt64) ∨ (∃ E, (fun E (u : Nat → Nat → Int32) => u = I ∧ ((E = th_IA ∧ ¬ ∃ q, 1 ≤ q ∧ q ≤ 8 ∧ n9 = nI q) ∨ (E = th_IO ∧ ∃ q, 1 ≤ q ∧ q ≤ 8 ∧ n9 = nI q ∧ 400 < n + q))) E u.2 ∧ r = (if E = th_IA then nI 1 else nI 2))) r u) (h2 : (fun r (u : Nat → Nat → Int32) => ((¬ ∃ q, 1 ≤ q ∧ q ≤ 8 ∧ n9 = nI q) ∧ u = ui (ui I2 0 0 (nI 0)) 0 0 (nI 1)) ∨ (∃ q, 1 ≤ q ∧ q ≤ 8 ∧ n9 = nI q ∧ ((400 < n + q ∧ u = ui (ui I2 0 0 (nI 0)) 0 0 (nI 2)) ∨ (n + q ≤ 400 ∧ r = nI (n + q) ∧ u = ui (fi_wr (ui I2 0 0 (nI 0)) 1 n Wv q) 0 1 (nI (n + q)))))) r2 u2) : u2 0 0 = r ∧ (r = nI 0 → u.1 0 = r2.toInt64) ∧ rx P u.2 D u2 D2 := by
  rcases h1 with ⟨v, ⟨q, q1, q2, rfl, q3, rfl, hc⟩, hr, ho⟩ | ⟨E, ⟨hc, hE⟩, hr⟩
  · rcases h2 with ⟨hn, -⟩ | ⟨q', p1, p2, pe, h2⟩
    · exact absurd ⟨q, q1, q2, rfl⟩ hn
    · obtain rfl : q = q' := (nI_eq (by omega) (by omega)).mp pe
      rcases h2 with ⟨h3, -⟩ | ⟨-, hr2, hu⟩
      · omega
      · subst hr
        refine ⟨by rw [hu, ui_n _ _ _ (by decide), fi_wr_o _ _ _ _ (by decide), ui_s], fun _ => by rw [ho, hr2], ?_⟩
        rw [hc, hu]
        exact rx_oct R q3
  · rcases hE with ⟨rfl, hn⟩ | ⟨rfl, q, q1, q2, rfl, q3⟩
    · rcases h2 with ⟨-, hu⟩ | ⟨q', p1, p2, pe, -⟩
      · rw [if_pos rfl] at hr
        subst hr
        exact ⟨by rw [hu, ui_s], fun z => absurd z (by decide), by rw [hc, hu]; exact rx_1 R⟩
      · exact absurd ⟨q', p1, p2, pe⟩ hn
    · rw [if_neg (by decide)] at hr
      subst hr
      rcases h2 with ⟨hn, -⟩ | ⟨q', p1, p2, pe, h2⟩
      · exact absurd ⟨q, q1, q2, rfl⟩ hn
      · obtain rfl : q = q' := (nI_eq (by omega) (by omega)).mp pe
        rcases h2 with ⟨-, hu⟩ | ⟨h3, -⟩
        · exact ⟨by rw [hu, ui_s], fun z => absurd z (by decide), by rw [hc, hu]; exact rx_1 R⟩
        · omega
theorem ag_read {n ns gp np nw jd9 : Nat} {oc rw9 : Nat → Nat} {P : Nat → Nat} {I I2 : Nat → Nat → Int32} {D D2 : Nat → Nat → UInt64} (R : rl n oc ns gp np rw9 nw jd9 P I D I2 D2)  {r : Int32} {u : (Nat → Int64) × ((Nat → Nat → Int32) × (Nat → UInt64))} {r2 : Int32} {u2 : (Nat → Nat → Int32) × (Nat → UInt64)} (h1 : (fun r (u : (Nat → Int64) × ((Nat → Nat → Int32) × (Nat → UInt64))) => (∃ v : Int32, (fun r (u : (Nat → Nat → Int32) × (Nat → UInt64)) => fi_ok oc n ∧ fi_n oc n ≤ 320 ∧ r = nI (fi_n oc n) ∧ (∀ i, i < fi_n oc n → u.2 i = fi_sa oc i) ∧ (∀ c, c ≠ 0 → u.1 c = I c) ∧ (∀ z, z ≠ 0 → z ≠ 1 → z ≠ 3 → z ≠ 4 → z ≠ 5 → z ≠ 7 → u.1 0 z = I 0 z) ∧ u.1 0 0 = nI (nu oc 24 4) ∧ u.1 0 3 = nI 0 ∧ u.1 0 4 = nI (fi_n oc n) ∧ u.1 0 5 = nI 0 ∧ u.1 0 7 = nI 0) v u.2 ∧ r = nI 0 ∧ u.1 0 = v.toInt64) ∨ (∃ E, (fun E (u : (Nat → Nat → Int32) × (Nat → UInt64)) => u.2 = D 1 ∧ (∃ x, u.1 = ui (ui I 0 1 x) 0 3 (nI 0)) ∧ ((E = th_IA ∧ ¬ fi_ok oc n) ∨ (E = th_IO ∧ fi_ok oc n ∧ 320 < fi_n oc n))) E u.2 ∧ r = (if E = th_IA then nI 1 else nI 2))) r u) (h2 : (fun r (u : (Nat → Nat → Int32) × (Nat → UInt64)) => ((¬ fi_ok oc n) ∧ ∃ j, j ≤ 44 ∧ u = (ui (ui (ui (ui I2 0 0 (nI 0)) 0 2 (nI j)) 0 1 (nI 0)) 0 0 (nI 1), D2 1)) ∨ (fi_ok oc n ∧ 320 < fi_n oc n ∧ u = (ui (ui (ui (ui I2 0 0 (nI 0)) 0 2 (-1)) 0 1 (nI 0)) 0 0 (nI 2), D2 1)) ∨ (fi_ok oc n ∧ fi_n oc n ≤ 320 ∧ r = nI (fi_n oc n) ∧ u.1 = ui (ui (ui (ui (ui (ui I2 0 0 (nI 0)) 0 2 (-1)) 0 4 (nI (nu oc 24 4))) 0 3 (nI (fi_n oc n))) 0 6 (nI 0)) 0 1 (nI 0) ∧ ∀ i, i < fi_n oc n → u.2 i = fi_sa oc i)) r2 u2) : u2.1 0 0 = r ∧ (r = nI 0 → u.1 0 = r2.toInt64) ∧ rx P u.2.1 (us D 1 u.2.2) u2.1 (us D2 1 u2.2) := by
  rcases h1 with ⟨v, ⟨hok, hN, rfl, hv, c1, c2, c3, c4, c5, c6, c7⟩, hr, ho⟩ | ⟨E, ⟨hd, ⟨x, hc⟩, hE⟩, hr⟩
  · subst hr
    rcases h2 with ⟨hn, -⟩ | ⟨-, h3, -⟩ | ⟨-, -, hr2, hu, hv2⟩
    · exact absurd hok hn
    · omega
    · refine ⟨by rw [hu]; rfl, fun _ => by rw [ho, hr2], ?_⟩
      rw [hu]
      exact rx_rd1 R hok hN hv hv2 c1 c2 c3 c4 c5 c6 c7
  · rcases hE with ⟨rfl, hn⟩ | ⟨rfl, hok, hN⟩
    · rw [if_pos rfl] at hr
      subst hr
      rcases h2 with ⟨-, j, -, hu⟩ | ⟨hok, -⟩ | ⟨hok, -⟩
      · refine ⟨by rw [hu]; rfl, fun z => absurd z (by decide), ?_⟩
        rw [hc, hd, hu, us_id, us_id]
        exact rx_rd0 R
      · exact absurd hok hn
      · exact absurd hok hn
    · rw [if_neg (by decide)] at hr
      subst hr
      rcases h2 with ⟨hn, -⟩ | ⟨-, -, hu⟩ | ⟨-, h3, -⟩
      · exact absurd hok hn
      · refine ⟨by rw [hu]; rfl, fun z => absurd z (by decide), ?_⟩
        rw [hc, hd, hu, us_id, us_id]
        exact rx_rd0 R
      · omega
theorem ag_wave {n ns gp np nw jd9 : Nat} {oc rw9 : Nat → Nat} {P : Nat → Nat} {I I2 : Nat → Nat → Int32} {D D2 : Nat → Nat → UInt64} (R : rl n oc ns gp np rw9 nw jd9 P I D I2 D2) (n9 st : Int32) (a : UInt64) (ha : fb_ 1055 a) {r : Int32} {u : (Nat → Int64) × ((Nat → Nat → Int32) × (Nat → Nat → UInt64))} {r2 : Int32} {u2 : (Nat → Nat → Int32) × (Nat → Nat → UInt64)} (h1 : (fun r (u : (Nat → Int64) × ((Nat → Nat → Int32) × (Nat → Nat → UInt64))) => (∃ v : Int32, (fun r (u : (Nat → Nat → Int32) × (Nat → Nat → UInt64)) => ∃ q, 1 ≤ q ∧ q ≤ 64 ∧ n9 = nI q ∧ ∃ sp, 0 ≤ sp ∧ sp ≤ 31 ∧ st = nI sp ∧ ns + q ≤ 320 ∧ r = nI (ns + q) ∧ u = (ui I 0 4 (nI (ns + q)), hd_wr D 1 ns sp a q)) v u.2 ∧ r = nI 0 ∧ u.1 0 = v.toInt64) ∨ (∃ E, (fun E (u : (Nat → Nat → Int32) × (Nat → Nat → UInt64)) => u = (I, D) ∧ ((E = th_IA ∧ ¬ ((∃ q, 1 ≤ q ∧ q ≤ 64 ∧ n9 = nI q) ∧ ∃ sp, 0 ≤ sp ∧ sp ≤ 31 ∧ st = nI sp)) ∨ (E = th_IO ∧ ∃ q, 1 ≤ q ∧ q ≤ 64 ∧ n9 = nI q ∧ (∃ sp, 0 ≤ sp ∧ sp ≤ 31 ∧ st = nI sp) ∧ 320 < ns + q))) E u.2 ∧ r = (if E = th_IA then nI 1 else nI 2))) r u) (h2 : (fun r (u : (Nat → Nat → Int32) × (Nat → Nat → UInt64)) => ((¬ ((∃ q, 1 ≤ q ∧ q ≤ 64 ∧ n9 = nI q) ∧ ∃ sp, 0 ≤ sp ∧ sp ≤ 31 ∧ st = nI sp)) ∧ u = (ui (ui I2 0 0 (nI 0)) 0 0 (nI 1), D2)) ∨ (∃ q, 1 ≤ q ∧ q ≤ 64 ∧ n9 = nI q ∧ ∃ sp, 0 ≤ sp ∧ sp ≤ 31 ∧ st = nI sp ∧ ((320 < ns + q ∧ u = (ui (ui I2 0 0 (nI 0)) 0 0 (nI 2), D2)) ∨ (ns + q ≤ 320 ∧ r = nI (ns + q) ∧ u = (ui (ui I2 0 0 (nI 0)) 0 3 (nI (ns + q)), hd_wr D2 1 ns sp a q))))) r2 u2) : u2.1 0 0 = r ∧ (r = nI 0 → u.1 0 = r2.toInt64) ∧ rx P u.2.1 u.2.2 u2.1 u2.2 := by
  rcases h1 with ⟨v, ⟨q, q1, q2, rfl, sp, s1, s2, rfl, q3, rfl, hc⟩, hr, ho⟩ | ⟨E, ⟨hc, hE⟩, hr⟩
  · rcases h2 with ⟨hn, -⟩ | ⟨q', p1, p2, pe, sp', g1, g2, ge, h2⟩
    · exact absurd ⟨⟨q, q1, q2, rfl⟩, sp, s1, s2, rfl⟩ hn
    · obtain rfl : q = q' := (nI_eq (by omega) (by omega)).mp pe
      obtain rfl : sp = sp' := (nI_eq (by omega) (by omega)).mp ge
      rcases h2 with ⟨h3, -⟩ | ⟨-, hr2, hu⟩
      · omega
      · subst hr
        refine ⟨by rw [hu]; rfl, fun _ => by rw [ho, hr2], ?_⟩
        rw [hc, hu]
        exact rx_wv R ha q3
  · rcases hE with ⟨rfl, hn⟩ | ⟨rfl, q, q1, q2, rfl, hsp, q3⟩
    · rcases h2 with ⟨-, hu⟩ | ⟨q', p1, p2, pe, sp', g1, g2, g3, -⟩
      · rw [if_pos rfl] at hr
        subst hr
        exact ⟨by rw [hu]; rfl, fun z => absurd z (by decide), by rw [hc, hu]; exact rx_1 R⟩
      · exact absurd ⟨⟨q', p1, p2, pe⟩, sp', g1, g2, g3⟩ hn
    · rw [if_neg (by decide)] at hr
      subst hr
      rcases h2 with ⟨hn, -⟩ | ⟨q', p1, p2, pe, sp', -, -, -, h2⟩
      · exact absurd ⟨⟨q, q1, q2, rfl⟩, hsp⟩ hn
      · obtain rfl : q = q' := (nI_eq (by omega) (by omega)).mp pe
        rcases h2 with ⟨-, hu⟩ | ⟨h3, -⟩
        · exact ⟨by rw [hu]; rfl, fun z => absurd z (by decide), by rw [hc, hu]; exact rx_1 R⟩
        · omega
theorem ag_sample {n ns gp np nw jd9 : Nat} {oc rw9 : Nat → Nat} {P : Nat → Nat} {I I2 : Nat → Nat → Int32} {D D2 : Nat → Nat → UInt64} (R : rl n oc ns gp np rw9 nw jd9 P I D I2 D2) (i : Int32) {r : Int32} {u : (Nat → UInt64) × (Nat → Nat → Int32)} {r2 : UInt64} {u2 : Nat → Nat → Int32} (h1 : (fun r (u : (Nat → UInt64) × (Nat → Nat → Int32)) => (∃ v : UInt64, (fun r (u : Nat → Nat → Int32) => u = I ∧ ∃ j, j < ns ∧ i = nI j ∧ r = D 1 j) v u.2 ∧ r = nI 0 ∧ u.1 0 = v) ∨ (∃ E, (fun E (u : Nat → Nat → Int32) => u = I ∧ E = th_IO ∧ ¬ ∃ j, j < ns ∧ i = nI j) E u.2 ∧ r = nI 1)) r u) (h2 : (fun r (u : Nat → Nat → Int32) => ((¬ ∃ j, j < ns ∧ i = nI j) ∧ u = ui (ui I2 0 0 (nI 0)) 0 0 (nI 1)) ∨ (∃ j, j < ns ∧ i = nI j ∧ u = ui I2 0 0 (nI 0) ∧ r = D2 1 j)) r2 u2) : u2 0 0 = r ∧ (r = nI 0 → u.1 0 = r2) ∧ rx P u.2 D u2 D2 := by
  have hs := R.2.1
  have hn := hs.1
  rcases h1 with ⟨v, ⟨hc, j, hj, rfl, rfl⟩, hr, ho⟩ | ⟨E, ⟨hc, -, hn9⟩, hr⟩
  · subst hr
    rcases h2 with ⟨hn, -⟩ | ⟨j', hj', pe, hu, hr2⟩
    · exact absurd ⟨j, hj, rfl⟩ hn
    · obtain rfl : j = j' := (nI_eq (by omega) (by omega)).mp pe
      exact ⟨by rw [hu, ui_s], fun _ => by rw [ho, hr2, hs.2.2.2.2 j hj], by rw [hc, hu]; exact rx_0 R⟩
  · subst hr
    rcases h2 with ⟨-, hu⟩ | ⟨j', hj', pe, -⟩
    · exact ⟨by rw [hu, ui_s], fun z => absurd z (by decide), by rw [hc, hu]; exact rx_1 R⟩
    · exact absurd ⟨j', hj', pe⟩ hn9
theorem ag_power {n ns gp np nw jd9 : Nat} {oc rw9 : Nat → Nat} {P : Nat → Nat} {I I2 : Nat → Nat → Int32} {D D2 : Nat → Nat → UInt64} (R : rl n oc ns gp np rw9 nw jd9 P I D I2 D2) (f9 k9 : Int32) {r : Int32} {u : (Nat → UInt64) × (Nat → UInt64)} {r2 : UInt64} {u2 : Nat → Nat → Int32} (h1 : (fun r (u : (Nat → UInt64) × (Nat → UInt64)) => (∃ v : UInt64, (fun r (u : Nat → UInt64) => ∃ j, j < hd_nf ns ∧ f9 = nI j ∧ ∃ q, 0 ≤ q ∧ q ≤ 16 ∧ k9 = nI q ∧ r = hd_P (D 1) j q) v u.2 ∧ r = nI 0 ∧ u.1 0 = v) ∨ (∃ E, (fun E (u : Nat → UInt64) => u = D 2 ∧ ((E = th_IO ∧ ¬ ∃ j, j < hd_nf ns ∧ f9 = nI j) ∨ (E = th_IA ∧ (∃ j, j < hd_nf ns ∧ f9 = nI j) ∧ ¬ ∃ q, 0 ≤ q ∧ q ≤ 16 ∧ k9 = nI q))) E u.2 ∧ r = (if E = th_IO then nI 1 else nI 2))) r u) (h2 : (fun r (u : Nat → Nat → Int32) => ((¬ ∃ j, j < hd_nf ns ∧ f9 = nI j) ∧ u = ui (ui I2 0 0 (nI 0)) 0 0 (nI 1)) ∨ (∃ j, j < hd_nf ns ∧ f9 = nI j ∧ (((¬ ∃ q, 0 ≤ q ∧ q ≤ 16 ∧ k9 = nI q) ∧ u = ui (ui I2 0 0 (nI 0)) 0 0 (nI 2)) ∨ (∃ q, 0 ≤ q ∧ q ≤ 16 ∧ k9 = nI q ∧ u = ui I2 0 0 (nI 0) ∧ r = hd_P (D2 1) j q)))) r2 u2) : u2 0 0 = r ∧ (r = nI 0 → u.1 0 = r2) ∧ rx P I (us D 2 u.2) u2 D2 := by
  have hs := R.2.1
  have hn := nf_le hs.1
  rcases h1 with ⟨v, ⟨j, hj, rfl, q, q1, q2, rfl, rfl⟩, hr, ho⟩ | ⟨E, ⟨hc, hE⟩, hr⟩
  · subst hr
    rcases h2 with ⟨hn, -⟩ | ⟨j', hj', pe, h2⟩
    · exact absurd ⟨j, hj, rfl⟩ hn
    · obtain rfl : j = j' := (nI_eq (by omega) (by omega)).mp pe
      rcases h2 with ⟨hn, -⟩ | ⟨q', p1, p2, pe2, hu, hr2⟩
      · exact absurd ⟨q, q1, q2, rfl⟩ hn
      · obtain rfl : q = q' := (nI_eq (by omega) (by omega)).mp pe2
        exact ⟨by rw [hu, ui_s], fun _ => by rw [ho, hr2]; exact (hd_P_g (ex_f hs.2.2.2.2 hj) q).symm, by rw [hu]; exact rx_us2 (rx_0 R) (Or.inl rfl)⟩
  · have key : ∀ {x : Int32}, rx P I (us D 2 u.2) (ui (ui I2 0 0 (nI 0)) 0 0 x) D2 := fun {x} => by rw [hc]; exact rx_us2 (rx_1 R) (Or.inl rfl)
    rcases hE with ⟨rfl, hn9⟩ | ⟨rfl, ⟨j, hj, rfl⟩, hn9⟩
    · rw [if_pos rfl] at hr
      subst hr
      rcases h2 with ⟨-, hu⟩ | ⟨j', hj', pe, -⟩
      · exact ⟨by rw [hu, ui_s], fun z => absurd z (by decide), by rw [hu]; exact key⟩
      · exact absurd ⟨j', hj', pe⟩ hn9
    · rw [if_neg (by decide)] at hr
      subst hr
      rcases h2 with ⟨hn8, -⟩ | ⟨j', hj', pe, h2⟩
      · exact absurd ⟨j, hj, rfl⟩ hn8
      · rcases h2 with ⟨-, hu⟩ | ⟨q', p1, p2, pe2, -⟩
        · exact ⟨by rw [hu, ui_s], fun z => absurd z (by decide), by rw [hu]; exact key⟩
        · exact absurd ⟨q', p1, p2, pe2⟩ hn9
theorem ag_level {n ns gp np nw jd9 : Nat} {oc rw9 : Nat → Nat} {P : Nat → Nat} {I I2 : Nat → Nat → Int32} {D D2 : Nat → Nat → UInt64} (R : rl n oc ns gp np rw9 nw jd9 P I D I2 D2) (f9 k9 : Int32) {r : Int32} {u : (Nat → UInt64) × ((Nat → Nat → Int32) × (Nat → Nat → UInt64))} {r2 : UInt64} {u2 : Nat → Nat → Int32} (h1 : (fun r (u : (Nat → UInt64) × ((Nat → Nat → Int32) × (Nat → Nat → UInt64))) => (∃ v : UInt64, (fun r (u : (Nat → Nat → Int32) × (Nat → Nat → UInt64)) => (∃ j, j < hd_nf ns ∧ f9 = nI j ∧ ∃ q, 0 ≤ q ∧ q ≤ 3 ∧ k9 = nI q ∧ r = hd_lev (D 1) j q) ∧ u.1 = ui I 0 5 (nI (hd_nf ns)) ∧ (∀ c, c ≠ 2 → c ≠ 3 → c ≠ 4 → u.2 c = D c) ∧ (∀ q, q < 4 * hd_nf ns → u.2 3 q = hw_su (D 1) q) ∧ (∀ q, q < 4 * hd_nf ns → u.2 4 q = hw_lv (D 1) 0 q)) v u.2 ∧ r = nI 0 ∧ u.1 0 = v) ∨ (∃ E, (fun E (u : (Nat → Nat → Int32) × (Nat → Nat → UInt64)) => u = (I, D) ∧ ((E = th_IO ∧ ¬ ∃ j, j < hd_nf ns ∧ f9 = nI j) ∨ (E = th_IA ∧ (∃ j, j < hd_nf ns ∧ f9 = nI j) ∧ ¬ ∃ q, 0 ≤ q ∧ q ≤ 3 ∧ k9 = nI q))) E u.2 ∧ r = (if E = th_IO then nI 1 else nI 2))) r u) (h2 : (fun r (u : Nat → Nat → Int32) => ((¬ ∃ j, j < hd_nf ns ∧ f9 = nI j) ∧ u = ui (ui I2 0 0 (nI 0)) 0 0 (nI 1)) ∨ (∃ j, j < hd_nf ns ∧ f9 = nI j ∧ (((¬ ∃ q, 0 ≤ q ∧ q ≤ 3 ∧ k9 = nI q) ∧ u = ui (ui I2 0 0 (nI 0)) 0 0 (nI 2)) ∨ (∃ q, 0 ≤ q ∧ q ≤ 3 ∧ k9 = nI q ∧ u = ui I2 0 0 (nI 0) ∧ r = hd_lev (D2 1) j q)))) r2 u2) : u2 0 0 = r ∧ (r = nI 0 → u.1 0 = r2) ∧ rx P u.2.1 u.2.2 u2 D2 := by
  have hs := R.2.1
  have hn := nf_le hs.1
  rcases h1 with ⟨v, ⟨⟨j, hj, rfl, q, q1, q2, rfl, rfl⟩, e0, e1, e3, e4⟩, hr, ho⟩ | ⟨E, ⟨hc, hE⟩, hr⟩
  · subst hr
    rcases h2 with ⟨hn, -⟩ | ⟨j', hj', pe, h2⟩
    · exact absurd ⟨j, hj, rfl⟩ hn
    · obtain rfl : j = j' := (nI_eq (by omega) (by omega)).mp pe
      rcases h2 with ⟨hn, -⟩ | ⟨q', p1, p2, pe2, hu, hr2⟩
      · exact absurd ⟨q, q1, q2, rfl⟩ hn
      · obtain rfl : q = q' := (nI_eq (by omega) (by omega)).mp pe2
        exact ⟨by rw [hu, ui_s], fun _ => by rw [ho, hr2]; exact (hd_lev_g (ex_f hs.2.2.2.2 hj) q).symm, by rw [hu, e0]; exact rx_0 (rx_jd R e1 e3 e4)⟩
  · rcases hE with ⟨rfl, hn9⟩ | ⟨rfl, ⟨j, hj, rfl⟩, hn9⟩
    · rw [if_pos rfl] at hr
      subst hr
      rcases h2 with ⟨-, hu⟩ | ⟨j', hj', pe, -⟩
      · exact ⟨by rw [hu, ui_s], fun z => absurd z (by decide), by rw [hc, hu]; exact rx_1 R⟩
      · exact absurd ⟨j', hj', pe⟩ hn9
    · rw [if_neg (by decide)] at hr
      subst hr
      rcases h2 with ⟨hn8, -⟩ | ⟨j', hj', pe, h2⟩
      · exact absurd ⟨j, hj, rfl⟩ hn8
      · rcases h2 with ⟨-, hu⟩ | ⟨q', p1, p2, pe2, -⟩
        · exact ⟨by rw [hu, ui_s], fun z => absurd z (by decide), by rw [hc, hu]; exact rx_1 R⟩
        · exact absurd ⟨q', p1, p2, pe2⟩ hn9
theorem ag_ways {n ns gp np nw jd9 : Nat} {oc rw9 : Nat → Nat} {P : Nat → Nat} {I I2 : Nat → Nat → Int32} {D D2 : Nat → Nat → UInt64} (R : rl n oc ns gp np rw9 nw jd9 P I D I2 D2) (th lm : UInt64) (g9 : Int32) {r : Int32} {u : ((Nat → Nat → Int32) × (Nat → Nat → UInt64))} {u2 : (Nat → Nat → Int32) × (Nat → Nat → UInt64)} (h1 : (fun r (u : ((Nat → Nat → Int32) × (Nat → Nat → UInt64))) => ((fun (u : (Nat → Nat → Int32) × (Nat → Nat → UInt64)) => FP.dcmp th 0 = some .gt ∧ ¬ FP.dcmp lm 0 = some .lt ∧ ∃ g, 1 ≤ g ∧ g ≤ 4 ∧ g9 = nI g ∧ u = (ui I 0 2 (nI g), ud (ud D 0 0 th) 0 1 lm)) u ∧ r = nI 0) ∨ (∃ E, (fun E (u : (Nat → Nat → Int32) × (Nat → Nat → UInt64)) => u = (I, D) ∧ E = th_IA ∧ ¬ (FP.dcmp th 0 = some .gt ∧ (∃ g, 1 ≤ g ∧ g ≤ 4 ∧ g9 = nI g) ∧ ¬ FP.dcmp lm 0 = some .lt)) E u ∧ r = nI 1)) r u) (h2 : (fun (u : (Nat → Nat → Int32) × (Nat → Nat → UInt64)) => (¬ (FP.dcmp th 0 = some .gt ∧ (∃ g, 1 ≤ g ∧ g ≤ 4 ∧ g9 = nI g) ∧ ¬ FP.dcmp lm 0 = some .lt) ∧ u = (ui (ui I2 0 0 (nI 0)) 0 0 (nI 1), D2)) ∨ (FP.dcmp th 0 = some .gt ∧ ¬ FP.dcmp lm 0 = some .lt ∧ ∃ g, 1 ≤ g ∧ g ≤ 4 ∧ g9 = nI g ∧ u = (ui (ui I2 0 0 (nI 0)) 0 7 (nI g), ud (ud D2 0 0 th) 0 1 lm))) u2) : u2.1 0 0 = r ∧ rx P u.1 u.2 u2.1 u2.2 := by
  rcases h1 with ⟨⟨g1, g2, g, g3, g4, rfl, hc⟩, hr⟩ | ⟨E, ⟨hc, -, hn⟩, hr⟩
  · subst hr
    rcases h2 with ⟨hn, -⟩ | ⟨-, -, g', p1, p2, pe, hu⟩
    · exact absurd ⟨g1, ⟨g, g3, g4, rfl⟩, g2⟩ hn
    · obtain rfl : g = g' := (nI_eq (by omega) (by omega)).mp pe
      refine ⟨by rw [hu]; rfl, ?_⟩
      rw [hc, hu]
      exact rx_wy R g3 g4
  · subst hr
    rcases h2 with ⟨-, hu⟩ | ⟨g1, g2, g, g3, g4, ge, -⟩
    · exact ⟨by rw [hu]; rfl, by rw [hc, hu]; exact rx_1 R⟩
    · exact absurd ⟨g1, ⟨g, g3, g4, ge⟩, g2⟩ hn
theorem ag_learn {n ns gp np nw jd9 : Nat} {oc rw9 : Nat → Nat} {P : Nat → Nat} {I I2 : Nat → Nat → Int32} {D D2 : Nat → Nat → UInt64} (R : rl n oc ns gp np rw9 nw jd9 P I D I2 D2) (le f9 n9 : Int32) {r : Int32} {u : (Nat → Int64) × ((Nat → Nat → Int32) × (Nat → Nat → UInt64))} {r2 : Int32} {u2 : (Nat → Nat → Int32) × (Nat → UInt64)} (h1 : (fun r (u : (Nat → Int64) × ((Nat → Nat → Int32) × (Nat → Nat → UInt64))) => (∃ v : Int32, (fun r (u : (Nat → Nat → Int32) × (Nat → Nat → UInt64)) => (∃ q, 97 ≤ q ∧ q ≤ 122 ∧ le = nI q) ∧ ∃ q, 1 ≤ q ∧ q ≤ 8 ∧ n9 = nI q ∧ ∃ f, f + q ≤ hd_nf ns ∧ f9 = nI f ∧ np < 6 ∧ r = nI (np + 1) ∧ u.1 = ui (ui (ui (ui I 0 5 (nI (hd_nf ns))) 2 (P np) le) 3 (P np) (nI q)) 0 6 (nI (np + 1)) ∧ (∀ z, z < 4 * q → u.2 (10 + P np) z = hw_lv (D 1) f z) ∧ (∀ c, c ≠ 2 → c ≠ 3 → c ≠ 4 → c ≠ 10 + P np → u.2 c = D c) ∧ (∀ q, q < 4 * hd_nf ns → u.2 3 q = hw_su (D 1) q) ∧ (∀ q, q < 4 * hd_nf ns → u.2 4 q = hw_lv (D 1) 0 q)) v u.2 ∧ r = nI 0 ∧ u.1 0 = v.toInt64) ∨ (∃ E, (fun E (u : (Nat → Nat → Int32) × (Nat → Nat → UInt64)) => u = (I, D) ∧ ((E = th_IA ∧ ¬ ((∃ q, 97 ≤ q ∧ q ≤ 122 ∧ le = nI q) ∧ ∃ q, 1 ≤ q ∧ q ≤ 8 ∧ n9 = nI q)) ∨ (E = th_IO ∧ (∃ q, 97 ≤ q ∧ q ≤ 122 ∧ le = nI q) ∧ ∃ q, 1 ≤ q ∧ q ≤ 8 ∧ n9 = nI q ∧ ((¬ ∃ f, f + q ≤ hd_nf ns ∧ f9 = nI f) ∨ np = 6)))) E u.2 ∧ r = (if E = th_IA then nI 1 else nI 2))) r u) (h2 : (fun r (u : (Nat → Nat → Int32) × (Nat → UInt64)) => ((¬ ((∃ q, 97 ≤ q ∧ q ≤ 122 ∧ le = nI q) ∧ ∃ q, 1 ≤ q ∧ q ≤ 8 ∧ n9 = nI q)) ∧ u = (ui (ui I2 0 0 (nI 0)) 0 0 (nI 1), D2 2)) ∨ ((∃ q, 97 ≤ q ∧ q ≤ 122 ∧ le = nI q) ∧ ∃ q, 1 ≤ q ∧ q ≤ 8 ∧ n9 = nI q ∧ ((((¬ ∃ f, f + q ≤ hd_nf ns ∧ f9 = nI f) ∨ np = 6) ∧ u = (ui (ui I2 0 0 (nI 0)) 0 0 (nI 2), D2 2)) ∨ (∃ f, f + q ≤ hd_nf ns ∧ f9 = nI f ∧ np < 6 ∧ r = nI (np + 1) ∧ u.1 = ui (ui (ui (ui I2 0 0 (nI 0)) 2 np le) 3 np (nI q)) 0 5 (nI (np + 1)) ∧ (∀ z, z < 4 * q → u.2 (32 * np + z) = hw_lv (D2 1) f z) ∧ ∀ z, z < 32 * np → u.2 z = D2 2 z)))) r2 u2) : u2.1 0 0 = r ∧ (r = nI 0 → u.1 0 = r2.toInt64) ∧ rx P u.2.1 u.2.2 u2.1 (us D2 2 u2.2) := by
  have hs := R.2.1
  have hn := nf_le hs.1
  rcases h1 with ⟨v, ⟨hL, q, q1, q2, rfl, f, hf, rfl, hnp, rfl, hc, e1, e2, e3, e4⟩, hr, ho⟩ | ⟨E, ⟨hc, hE⟩, hr⟩
  · subst hr
    rcases h2 with ⟨hn9, -⟩ | ⟨-, q', p1, p2, pe, h2⟩
    · exact absurd ⟨hL, q, q1, q2, rfl⟩ hn9
    · obtain rfl : q = q' := (nI_eq (by omega) (by omega)).mp pe
      rcases h2 with ⟨hn9, -⟩ | ⟨f', hf', pf, -, hr2, hu, m1, m2⟩
      · rcases hn9 with hn9 | hn9
        · exact absurd ⟨f, hf, rfl⟩ hn9
        · omega
      · obtain rfl : f = f' := (nI_eq (by omega) (by omega)).mp pf
        refine ⟨by rw [hu]; rfl, fun _ => by rw [ho, hr2], ?_⟩
        rw [hc, hu]
        exact rx_le R hnp q1 q2 hf e1 e2 e3 e4 m1 m2
  · have key : ∀ {x : Int32}, rx P u.2.1 u.2.2 (ui (ui I2 0 0 (nI 0)) 0 0 x) (us D2 2 (D2 2)) := fun {x} => by rw [hc, us_id]; exact rx_1 R
    rcases hE with ⟨rfl, hn9⟩ | ⟨rfl, hL, q, q1, q2, rfl, hE⟩
    · rw [if_pos rfl] at hr
      subst hr
      rcases h2 with ⟨-, hu⟩ | ⟨hL, q', p1, p2, pe, -⟩
      · exact ⟨by rw [hu]; rfl, fun z => absurd z (by decide), by rw [hu]; exact key⟩
      · exact absurd ⟨hL, q', p1, p2, pe⟩ hn9
    · rw [if_neg (by decide)] at hr
      subst hr
      rcases h2 with ⟨hn9, -⟩ | ⟨-, q', p1, p2, pe, h2⟩
      · exact absurd ⟨hL, q, q1, q2, rfl⟩ hn9
      · obtain rfl : q = q' := (nI_eq (by omega) (by omega)).mp pe
        rcases h2 with ⟨-, hu⟩ | ⟨f', hf', pf, h6, -⟩
        · exact ⟨by rw [hu]; rfl, fun z => absurd z (by decide), by rw [hu]; exact key⟩
        · rcases hE with hE | hE
          · exact absurd ⟨f', hf', pf⟩ hE
          · omega
theorem ag_forget {n ns gp np nw jd9 : Nat} {oc rw9 : Nat → Nat} {P : Nat → Nat} {I I2 : Nat → Nat → Int32} {D D2 : Nat → Nat → UInt64} (R : rl n oc ns gp np rw9 nw jd9 P I D I2 D2) (k9 : Int32) {r : Int32} {u : (Nat → Int64) × ((Nat → Nat → Int32) × (Nat → Nat))} {r2 : Int32} {u2 : (Nat → Nat → Int32) × (Nat → Nat → UInt64)} (h1 : (fun r (u : (Nat → Int64) × ((Nat → Nat → Int32) × (Nat → Nat))) => (∃ v : Int32, (fun r (u : (Nat → Nat → Int32) × (Nat → Nat)) => ∃ x, x < np ∧ k9 = nI x ∧ r = I 2 (P x) ∧ u.1 = ui I 0 6 (nI (np - 1)) ∧ ∀ z, u.2 z = if z = np - 1 then P x else if x ≤ z ∧ z < np - 1 then P (z + 1) else P z) v u.2 ∧ r = nI 0 ∧ u.1 0 = v.toInt64) ∨ (∃ E, (fun E (u : (Nat → Nat → Int32) × (Nat → Nat)) => u = (I, P) ∧ E = th_NS ∧ ¬ ∃ j, j < np ∧ k9 = nI j) E u.2 ∧ r = nI 1)) r u) (h2 : (fun r (u : (Nat → Nat → Int32) × (Nat → Nat → UInt64)) => ((¬ ∃ j, j < np ∧ k9 = nI j) ∧ u = (ui (ui I2 0 0 (nI 0)) 0 0 (nI 1), D2)) ∨ (∃ x, x < np ∧ k9 = nI x ∧ r = I2 2 x ∧ (∀ c, c ≠ 2 → c ≠ 3 → u.1 c = (ui (ui I2 0 0 (nI 0)) 0 5 (nI (np - 1))) c) ∧ (∀ z, u.1 2 z = if x ≤ z ∧ z < np - 1 then I2 2 (z + 1) else I2 2 z) ∧ (∀ z, u.1 3 z = if x ≤ z ∧ z < np - 1 then I2 3 (z + 1) else I2 3 z) ∧ (∀ c, c ≠ 2 → u.2 c = D2 c) ∧ ∀ z, u.2 2 z = if 32 * x ≤ z ∧ z < 32 * (np - 1) then D2 2 (z + 32) else D2 2 z)) r2 u2) : u2.1 0 0 = r ∧ (r = nI 0 → u.1 0 = r2.toInt64) ∧ rx u.2.2 u.2.1 D u2.1 u2.2 := by
  have h6 := R.2.2.2.1.1
  rcases h1 with ⟨v, ⟨x, hx, rfl, rfl, hc, hQ⟩, hr, ho⟩ | ⟨E, ⟨hc, -, hn9⟩, hr⟩
  · subst hr
    rcases h2 with ⟨hn, -⟩ | ⟨x', hx', pe, hr2, m1, m2, m3, m4, m5⟩
    · exact absurd ⟨x, hx, rfl⟩ hn
    · obtain rfl : x = x' := (nI_eq (by omega) (by omega)).mp pe
      refine ⟨by rw [m1 0 (by decide) (by decide)]; rfl, fun _ => by rw [ho, hr2, R.2.2.2.1.2.2.2.2.2.1 x hx], ?_⟩
      rw [hc]
      exact rx_fo R hx hQ m1 m2 m3 m4 m5
  · subst hr
    rcases h2 with ⟨-, hu⟩ | ⟨x', hx', pe, -⟩
    · exact ⟨by rw [hu]; rfl, fun z => absurd z (by decide), by rw [hc, hu]; exact rx_1 R⟩
    · exact absurd ⟨x', hx', pe⟩ hn9
theorem ag_warp {n ns gp np nw jd9 : Nat} {oc rw9 : Nat → Nat} {P : Nat → Nat} {I I2 : Nat → Nat → Int32} {D D2 : Nat → Nat → UInt64} (R : rl n oc ns gp np rw9 nw jd9 P I D I2 D2) (k9 j9 : Int32) {r : Int32} {u : (Nat → UInt64) × (Nat → UInt64)} {r2 : UInt64} {u2 : (Nat → Nat → Int32) × (Nat → Nat → UInt64)} (h1 : (fun r (u : (Nat → UInt64) × (Nat → UInt64)) => (∃ v : UInt64, (fun r (_ : Nat → UInt64) => ∃ x, x < np ∧ k9 = nI x ∧ ∃ y, y < np ∧ j9 = nI y ∧ r = hw_wa (D (10 + P x)) (D (10 + P y)) (rw9 x) (rw9 y)) v u.2 ∧ r = nI 0 ∧ u.1 0 = v) ∨ (∃ E, (fun E (u : Nat → UInt64) => u = D 8 ∧ E = th_NS ∧ ¬ ((∃ j, j < np ∧ k9 = nI j) ∧ ∃ j, j < np ∧ j9 = nI j)) E u.2 ∧ r = nI 1)) r u) (h2 : (fun r (u : (Nat → Nat → Int32) × (Nat → Nat → UInt64)) => ((¬ ((∃ j, j < np ∧ k9 = nI j) ∧ ∃ j, j < np ∧ j9 = nI j)) ∧ u = (ui (ui I2 0 0 (nI 0)) 0 0 (nI 1), D2)) ∨ (∃ x, x < np ∧ k9 = nI x ∧ ∃ y, y < np ∧ j9 = nI y ∧ u.1 = ui (ui (ui I2 0 0 (nI 0)) 0 8 (nI (rw9 x))) 0 9 (nI (rw9 y)) ∧ (∀ c, c ≠ 4 → c ≠ 5 → c ≠ 6 → u.2 c = D2 c) ∧ r = hw_wa (fun q => D2 2 (32 * x + q)) (fun q => D2 2 (32 * y + q)) (rw9 x) (rw9 y))) r2 u2) : u2.1 0 0 = r ∧ (r = nI 0 → u.1 0 = r2) ∧ rx P I (us D 8 u.2) u2.1 u2.2 := by
  obtain ⟨h6, -, -, -, -, -, p7, -, -, p10⟩ := R.2.2.2.1
  rcases h1 with ⟨v, ⟨x, hx, rfl, y, hy, rfl, rfl⟩, hr, ho⟩ | ⟨E, ⟨hc, -, hn9⟩, hr⟩
  · subst hr
    rcases h2 with ⟨hn, -⟩ | ⟨x', hx', pe, y', hy', pf, hu, m4, hr2⟩
    · exact absurd ⟨⟨x, hx, rfl⟩, y, hy, rfl⟩ hn
    · obtain rfl : x = x' := (nI_eq (by omega) (by omega)).mp pe
      obtain rfl : y = y' := (nI_eq (by omega) (by omega)).mp pf
      refine ⟨by rw [hu]; rfl, fun _ => by rw [ho, hr2]; exact hw_wa_g (fun q hq => (p10 x hx q hq).symm) (fun q hq => (p10 y hy q hq).symm) (p7 x hx).2.1 (p7 y hy).2.1, ?_⟩
      rw [hu]
      exact rx_us2 (rx_wp R m4) (Or.inr rfl)
  · subst hr
    rcases h2 with ⟨-, hu⟩ | ⟨x', hx', pe, y', hy', pf, -⟩
    · exact ⟨by rw [hu]; rfl, fun z => absurd z (by decide), by rw [hc, hu]; exact rx_us2 (rx_1 R) (Or.inr rfl)⟩
    · exact absurd ⟨⟨x', hx', pe⟩, y', hy', pf⟩ hn9
theorem ag_hear {n ns gp np nw jd9 : Nat} {oc rw9 : Nat → Nat} {P : Nat → Nat} {I I2 : Nat → Nat → Int32} {D D2 : Nat → Nat → UInt64} (R : rl n oc ns gp np rw9 nw jd9 P I D I2 D2)  {r : Int32} {u : (Nat → Int64) × ((Nat → Nat → Int32) × (Nat → Nat → UInt64))} {r2 : Int32} {u2 : (Nat → Nat → Int32) × (Nat → Nat → UInt64)} (h1 : (fun r (u : (Nat → Int64) × ((Nat → Nat → Int32) × (Nat → Nat → UInt64))) => (∃ v : Int32, (fun r (u : (Nat → Nat → Int32) × (Nat → Nat → UInt64)) => 0 < hd_nf ns ∧ ∃ L, L = hs_w (D 1) (D 0 0) (hd_nf ns) gp 20 0 ∧ L.length ≤ 19 ∧ r = nI L.length ∧ u.1 0 7 = nI L.length ∧ ((∀ z, z ≠ 5 → z ≠ 7 → u.1 0 z = I 0 z) ∧ (∀ c, c ≠ 0 → c < 4 → u.1 c = I c) ∧ (∀ c, c ≠ 2 → c ≠ 3 → c ≠ 4 → c ≠ 8 → c ≠ 9 → u.2 c = D c) ∧ u.1 0 5 = nI (hd_nf ns) ∧ (∀ q, q < 4 * hd_nf ns → u.2 3 q = hw_su (D 1) q) ∧ (∀ q, q < 4 * hd_nf ns → u.2 4 q = hw_lv (D 1) 0 q)) ∧ ∀ z9 f9 m9, L[z9]? = some (f9, m9) → u.1 4 z9 = nI f9 ∧ u.1 5 z9 = nI m9 ∧ u.1 6 z9 = hr_n (fun k9 => hw_wa (hw_lv (D 1) f9) (D (10 + P k9)) m9 (rw9 k9)) np ∧ u.1 7 z9 = hr_l (fun k9 => hw_wa (hw_lv (D 1) f9) (D (10 + P k9)) m9 (rw9 k9)) (fun k9 => I 2 (P k9)) (D 0 1) np ∧ u.2 9 z9 = (hr_p (fun k9 => hw_wa (hw_lv (D 1) f9) (D (10 + P k9)) m9 (rw9 k9)) np).2 ∧ f9 + m9 ≤ hd_nf ns ∧ 1 ≤ m9) v u.2 ∧ r = nI 0 ∧ u.1 0 = v.toInt64) ∨ (∃ E, (fun E (u : (Nat → Nat → Int32) × (Nat → Nat → UInt64)) => u = (I, D) ∧ E = th_IS ∧ hd_nf ns = 0) E u.2 ∧ r = nI 1)) r u) (h2 : (fun r (u : (Nat → Nat → Int32) × (Nat → Nat → UInt64)) => (hd_nf ns = 0 ∧ u = (ui (ui I2 0 0 (nI 0)) 0 0 (nI 1), D2)) ∨ (0 < hd_nf ns ∧ ∃ L, L = hs_w (D2 1) (D2 0 0) (hd_nf ns) gp 20 0 ∧ L.length ≤ 19 ∧ r = nI L.length ∧ u.1 0 0 = nI 0 ∧ u.1 0 6 = nI L.length ∧ (∀ z, z ≠ 0 → z ≠ 6 → z ≠ 8 → z ≠ 9 → u.1 0 z = I2 0 z) ∧ (∀ c, c ≠ 0 → c < 4 → u.1 c = I2 c) ∧ (∀ c, c ≠ 3 → c ≠ 4 → c ≠ 5 → c ≠ 6 → u.2 c = D2 c) ∧ ∀ k9 f9 m9, L[k9]? = some (f9, m9) → u.1 5 k9 = nI f9 ∧ u.1 6 k9 = nI m9 ∧ u.1 7 k9 = hr_n (fun k8 => hw_wa (hw_lv (D2 1) f9) (fun q => D2 2 (32 * k8 + q)) m9 (rw9 k8)) np ∧ u.1 4 k9 = hr_l (fun k8 => hw_wa (hw_lv (D2 1) f9) (fun q => D2 2 (32 * k8 + q)) m9 (rw9 k8)) (I2 2) (D2 0 1) np ∧ u.2 3 k9 = (hr_p (fun k8 => hw_wa (hw_lv (D2 1) f9) (fun q => D2 2 (32 * k8 + q)) m9 (rw9 k8)) np).2)) r2 u2) : u2.1 0 0 = r ∧ (r = nI 0 → u.1 0 = r2.toInt64) ∧ rx P u.2.1 u.2.2 u2.1 u2.2 := by
  rcases h1 with ⟨v, ⟨h0, L, l1, l2, rfl, c7, ⟨c0, c1, c2, c5, c3, c4⟩, cw⟩, hr, ho⟩ | ⟨E, ⟨hc, -, h0⟩, hr⟩
  · subst hr
    rcases h2 with ⟨h3, -⟩ | ⟨-, L2, m1, -, hr2, m00, m6, m0, m3, m2, mw⟩
    · omega
    · obtain ⟨eL, X⟩ := rx_hr R l1 l2 c7 c0 c1 c2 c5 c3 c4 cw m1 m6 m0 m3 m2 mw
      exact ⟨m00, fun _ => by rw [ho, hr2, eL], X⟩
  · subst hr
    rcases h2 with ⟨-, hu⟩ | ⟨h3, -⟩
    · exact ⟨by rw [hu]; rfl, fun z => absurd z (by decide), by rw [hc, hu]; exact rx_1 R⟩
    · omega
theorem ag_word {n ns gp np nw jd9 : Nat} {oc rw9 : Nat → Nat} {P : Nat → Nat} {I I2 : Nat → Nat → Int32} {D D2 : Nat → Nat → UInt64} (R : rl n oc ns gp np rw9 nw jd9 P I D I2 D2) (k9 wh : Int32) {r : Int32} {u : (Nat → Int64) × (Nat → Nat → Int32)} {r2 : Int32} {u2 : Nat → Nat → Int32} (h1 : (fun r (u : (Nat → Int64) × (Nat → Nat → Int32)) => (∃ v : Int32, (fun r (u : Nat → Nat → Int32) => u = I ∧ ∃ j, j < nw ∧ k9 = nI j ∧ ∃ q, 0 ≤ q ∧ q ≤ 5 ∧ wh = nI q ∧ r = dk_wd I j q) v u.2 ∧ r = nI 0 ∧ u.1 0 = v.toInt64) ∨ (∃ E, (fun E (u : Nat → Nat → Int32) => u = I ∧ ((E = th_NS ∧ ¬ ∃ j, j < nw ∧ k9 = nI j) ∨ (E = th_IA ∧ (∃ j, j < nw ∧ k9 = nI j) ∧ ¬ ∃ q, 0 ≤ q ∧ q ≤ 5 ∧ wh = nI q))) E u.2 ∧ r = (if E = th_NS then nI 1 else nI 2))) r u) (h2 : (fun r (u : Nat → Nat → Int32) => ((¬ ∃ j, j < nw ∧ k9 = nI j) ∧ u = ui (ui I2 0 0 (nI 0)) 0 0 (nI 1)) ∨ (∃ j, j < nw ∧ k9 = nI j ∧ (((¬ ∃ q, 0 ≤ q ∧ q ≤ 5 ∧ wh = nI q) ∧ u = ui (ui I2 0 0 (nI 0)) 0 0 (nI 2)) ∨ (∃ q, 0 ≤ q ∧ q ≤ 5 ∧ wh = nI q ∧ u = ui I2 0 0 (nI 0) ∧ r = mo_wd I2 j q)))) r2 u2) : u2 0 0 = r ∧ (r = nI 0 → u.1 0 = r2.toInt64) ∧ rx P u.2 D u2 D2 := by
  obtain ⟨h19, w1, w2, w3⟩ := R.2.2.2.2.1
  have hm := R.2.2.1
  rcases h1 with ⟨v, ⟨hc, j, hj, rfl, q, q1, q2, rfl, rfl⟩, hr, ho⟩ | ⟨E, ⟨hc, hE⟩, hr⟩
  · subst hr
    rcases h2 with ⟨hn, -⟩ | ⟨j', hj', pe, h2⟩
    · exact absurd ⟨j, hj, rfl⟩ hn
    · obtain rfl : j = j' := (nI_eq (by omega) (by omega)).mp pe
      rcases h2 with ⟨hn, -⟩ | ⟨q', p1, p2, pe2, hu, hr2⟩
      · exact absurd ⟨q, q1, q2, rfl⟩ hn
      · obtain rfl : q = q' := (nI_eq (by omega) (by omega)).mp pe2
        refine ⟨by rw [hu, ui_s], fun _ => ?_, by rw [hc, hu]; exact rx_0 R⟩
        rw [ho, hr2]
        refine congrArg Int32.toInt64 ?_
        obtain ⟨a1, a2, a3, a4, -, -⟩ := w3 j hj
        unfold dk_wd mo_wd
        rw [a1, a2, a3, a4, hm.1]
  · rcases hE with ⟨rfl, hn9⟩ | ⟨rfl, ⟨j, hj, rfl⟩, hn9⟩
    · rw [if_pos rfl] at hr
      subst hr
      rcases h2 with ⟨-, hu⟩ | ⟨j', hj', pe, -⟩
      · exact ⟨by rw [hu, ui_s], fun z => absurd z (by decide), by rw [hc, hu]; exact rx_1 R⟩
      · exact absurd ⟨j', hj', pe⟩ hn9
    · rw [if_neg (by decide)] at hr
      subst hr
      rcases h2 with ⟨hn8, -⟩ | ⟨j', hj', pe, h2⟩
      · exact absurd ⟨j, hj, rfl⟩ hn8
      · rcases h2 with ⟨-, hu⟩ | ⟨q', p1, p2, pe2, -⟩
        · exact ⟨by rw [hu, ui_s], fun z => absurd z (by decide), by rw [hc, hu]; exact rx_1 R⟩
        · exact absurd ⟨q', p1, p2, pe2⟩ hn9
theorem ag_cost {n ns gp np nw jd9 : Nat} {oc rw9 : Nat → Nat} {P : Nat → Nat} {I I2 : Nat → Nat → Int32} {D D2 : Nat → Nat → UInt64} (R : rl n oc ns gp np rw9 nw jd9 P I D I2 D2) (k9 : Int32) {r : Int32} {u : (Nat → UInt64) × (Nat → Nat → Int32)} {r2 : UInt64} {u2 : Nat → Nat → Int32} (h1 : (fun r (u : (Nat → UInt64) × (Nat → Nat → Int32)) => (∃ v : UInt64, (fun r (u : Nat → Nat → Int32) => u = I ∧ ∃ j, j < nw ∧ k9 = nI j ∧ I 6 j ≠ -1 ∧ r = D 9 j) v u.2 ∧ r = nI 0 ∧ u.1 0 = v) ∨ (∃ E, (fun E (u : Nat → Nat → Int32) => u = I ∧ ((E = th_NS ∧ ¬ ∃ j, j < nw ∧ k9 = nI j) ∨ (E = th_IS ∧ ∃ j, j < nw ∧ k9 = nI j ∧ I 6 j = -1))) E u.2 ∧ r = (if E = th_NS then nI 1 else nI 2))) r u) (h2 : (fun r (u : Nat → Nat → Int32) => ((¬ ∃ j, j < nw ∧ k9 = nI j) ∧ u = ui (ui I2 0 0 (nI 0)) 0 0 (nI 1)) ∨ (∃ j, j < nw ∧ k9 = nI j ∧ ((I2 7 j < 0 ∧ u = ui (ui I2 0 0 (nI 0)) 0 0 (nI 2)) ∨ (¬ I2 7 j < 0 ∧ u = ui I2 0 0 (nI 0) ∧ r = D2 3 j)))) r2 u2) : u2 0 0 = r ∧ (r = nI 0 → u.1 0 = r2) ∧ rx P u.2 D u2 D2 := by
  obtain ⟨h19, w1, w2, w3⟩ := R.2.2.2.2.1
  rcases h1 with ⟨v, ⟨hc, j, hj, rfl, hne, rfl⟩, hr, ho⟩ | ⟨E, ⟨hc, hE⟩, hr⟩
  · subst hr
    rcases h2 with ⟨hn, -⟩ | ⟨j', hj', pe, h2⟩
    · exact absurd ⟨j, hj, rfl⟩ hn
    · obtain rfl : j = j' := (nI_eq (by omega) (by omega)).mp pe
      obtain ⟨-, -, a3, -, a5, a6⟩ := w3 j hj
      rcases h2 with ⟨hlt, -⟩ | ⟨-, hu, hr2⟩
      · rw [a3] at hlt
        rcases a6 with a6 | ⟨i, hi, a6⟩
        · exact absurd a6 hne
        · rw [a6] at hlt
          exact absurd hlt (nI_pos (by omega))
      · exact ⟨by rw [hu, ui_s], fun _ => by rw [ho, hr2, a5], by rw [hc, hu]; exact rx_0 R⟩
  · rcases hE with ⟨rfl, hn9⟩ | ⟨rfl, j, hj, rfl, hne⟩
    · rw [if_pos rfl] at hr
      subst hr
      rcases h2 with ⟨-, hu⟩ | ⟨j', hj', pe, -⟩
      · exact ⟨by rw [hu, ui_s], fun z => absurd z (by decide), by rw [hc, hu]; exact rx_1 R⟩
      · exact absurd ⟨j', hj', pe⟩ hn9
    · rw [if_neg (by decide)] at hr
      subst hr
      rcases h2 with ⟨hn8, -⟩ | ⟨j', hj', pe, h2⟩
      · exact absurd ⟨j, hj, rfl⟩ hn8
      · obtain rfl : j = j' := (nI_eq (by omega) (by omega)).mp pe
        obtain ⟨-, -, a3, -, a5, a6⟩ := w3 j hj
        rcases h2 with ⟨-, hu⟩ | ⟨hlt, -⟩
        · exact ⟨by rw [hu, ui_s], fun z => absurd z (by decide), by rw [hc, hu]; exact rx_1 R⟩
        · rw [a3, hne] at hlt
          exact absurd (by decide) hlt
theorem ag_count {n ns gp np nw jd9 : Nat} {oc rw9 : Nat → Nat} {P : Nat → Nat} {I I2 : Nat → Nat → Int32} {D D2 : Nat → Nat → UInt64} (R : rl n oc ns gp np rw9 nw jd9 P I D I2 D2) (wh : Int32) {r : Int32} {u : (Nat → Int64) × ((Nat → Nat → Int32) × (Nat → Nat → UInt64))} {r2 : Int32} {u2 : Nat → Nat → Int32} (h1 : (fun r (u : (Nat → Int64) × ((Nat → Nat → Int32) × (Nat → Nat → UInt64))) => (∃ v : Int32, (fun r (u : (Nat → Nat → Int32) × (Nat → Nat → UInt64)) => ∃ q, 0 ≤ q ∧ q ≤ 6 ∧ wh = nI q ∧ r = dk_ct I (D 1) (D 0 0) ns q ∧ (u = (I, D) ∨ (u.1 = ui I 0 5 (nI (hd_nf ns)) ∧ (∀ c, c ≠ 2 → c ≠ 3 → c ≠ 4 → u.2 c = D c) ∧ (∀ q, q < 4 * hd_nf ns → u.2 3 q = hw_su (D 1) q) ∧ (∀ q, q < 4 * hd_nf ns → u.2 4 q = hw_lv (D 1) 0 q)))) v u.2 ∧ r = nI 0 ∧ u.1 0 = v.toInt64) ∨ (∃ E, (fun E (u : (Nat → Nat → Int32) × (Nat → Nat → UInt64)) => u = (I, D) ∧ E = th_IA ∧ ¬ ∃ q, 0 ≤ q ∧ q ≤ 6 ∧ wh = nI q) E u.2 ∧ r = nI 1)) r u) (h2 : (fun r (u : Nat → Nat → Int32) => ((¬ ∃ q, 0 ≤ q ∧ q ≤ 6 ∧ wh = nI q) ∧ u = ui (ui I2 0 0 (nI 0)) 0 0 (nI 1)) ∨ (∃ q, 0 ≤ q ∧ q ≤ 6 ∧ wh = nI q ∧ u = ui I2 0 0 (nI 0) ∧ r = mo_ct I2 (D2 1) (D2 0 0) ns q)) r2 u2) : u2 0 0 = r ∧ (r = nI 0 → u.1 0 = r2.toInt64) ∧ rx P u.2.1 u.2.2 u2 D2 := by
  have hs := R.2.1
  rcases h1 with ⟨v, ⟨q, q1, q2, rfl, rfl, hc⟩, hr, ho⟩ | ⟨E, ⟨hc, -, hn9⟩, hr⟩
  · subst hr
    rcases h2 with ⟨hn8, -⟩ | ⟨q', p1, p2, pe, hu, hr2⟩
    · exact absurd ⟨q, q1, q2, rfl⟩ hn8
    · obtain rfl : q = q' := (nI_eq (by omega) (by omega)).mp pe
      refine ⟨by rw [hu, ui_s], fun _ => ?_, ?_⟩
      · rw [ho, hr2]
        refine congrArg Int32.toInt64 ?_
        have hm := R.2.2.1
        unfold dk_ct mo_ct
        rw [R.1.2.1, R.1.2.2.1, hm.1, R.2.2.2.1.2.1, R.2.2.2.1.2.2.1, R.2.2.2.2.1.2.1, R.2.2.2.2.1.2.2.1, hm.2.2.2.2.2.2.1, ld_cnt_g hs.2.2.2.2 (D 0 0) _ (Nat.le_refl _)]
      · rcases hc with hc | ⟨e0, e1, e3, e4⟩
        · rw [hc, hu]; exact rx_0 R
        · rw [hu, e0]; exact rx_0 (rx_jd R e1 e3 e4)
  · subst hr
    rcases h2 with ⟨-, hu⟩ | ⟨q', p1, p2, pe, -⟩
    · exact ⟨by rw [hu, ui_s], fun z => absurd z (by decide), by rw [hc, hu]; exact rx_1 R⟩
    · exact absurd ⟨q', p1, p2, pe⟩ hn9
