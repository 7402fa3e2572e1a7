theorem ag_octets {I I2 : Nat → Nat → Int32} {D D2 : Nat → Nat → UInt64} (n : Int32) (Wv f : Nat) (hW : Wv < 2 ^ 64) (hf : f ≤ 400) (h3 : I 0 3 = nI f) {r : Int32} {u : (Nat → Int64) × (Nat → Nat → Int32)} {r2 : Int32} {u2 : Nat → Nat → Int32}  (h1 : (fun r (u : (Nat → Int64) × (Nat → Nat → Int32)) => (∃ v : Int32, (fun r (u : Nat → Nat → Int32) => ∃ q, 1 ≤ q ∧ q ≤ 8 ∧ n = nI q ∧ f + q ≤ 400 ∧ r = nI (f + q) ∧ u = ui (fi_wr I 1 f Wv q) 0 3 (nI (f + q))) v u.2 ∧ r = nI 0 ∧ u.1 0 = v.toInt64) ∨ (∃ E, (fun E (u : Nat → Nat → Int32) => u = I ∧ ((E = th_IA ∧ ¬ ∃ q, 1 ≤ q ∧ q ≤ 8 ∧ n = nI q) ∨ (E = th_IO ∧ ∃ q, 1 ≤ q ∧ q ≤ 8 ∧ n = nI q ∧ 400 < f + q))) E u.2 ∧ r = (if E = th_IA then nI 1 else nI 2))) r u) (h2 : (fun r (u : Nat → Nat → Int32) => ((¬ ∃ q, 1 ≤ q ∧ q ≤ 8 ∧ n = nI q) ∧ u = ui (ui I2 0 0 (nI 0)) 0 0 (nI 1)) ∨ (∃ q, 1 ≤ q ∧ q ≤ 8 ∧ n = nI q ∧ ((400 < f + q ∧ u = ui (ui I2 0 0 (nI 0)) 0 0 (nI 2)) ∨ (f + q ≤ 400 ∧ r = nI (f + q) ∧ u = ui (fi_wr (ui I2 0 0 (nI 0)) 1 f Wv q) 0 1 (nI (f + q)))))) r2 u2) : u2 0 0 = r ∧ (r = nI 0 → u.1 0 = r2.toInt64) := by
  rcases h1 with ⟨v, ⟨q, q1, q2, rfl, q3, rfl, -⟩, hr, ho⟩ | ⟨E, ⟨-, hE⟩, hr⟩
  · rcases h2 with ⟨hn, -⟩ | ⟨q', p1, p2, pe, h2⟩
    · exact absurd ⟨q, q1, q2, rfl⟩ hn
    · obtain rfl : q = q' := (nI_eq (by omega) (by omega)).mp pe
      rcases h2 with ⟨h3, -⟩ | ⟨-, hr2, hu⟩
      · omega
      · subst hr
        exact ⟨by rw [hu, ui_n _ _ _ (by decide), fi_wr_o _ _ _ _ (by decide), ui_s], fun _ => by rw [ho, hr2]⟩
  · rcases hE with ⟨rfl, hn⟩ | ⟨rfl, q, q1, q2, rfl, q3⟩
    · rcases h2 with ⟨-, hu⟩ | ⟨q', p1, p2, pe, -⟩
      · rw [if_pos rfl] at hr
        subst hr
        exact ⟨by rw [hu, ui_s], fun z => absurd z (by decide)⟩
      · exact absurd ⟨q', p1, p2, pe⟩ hn
    · rw [if_neg (by decide)] at hr
      subst hr
      rcases h2 with ⟨hn, -⟩ | ⟨q', p1, p2, pe, h2⟩
      · exact absurd ⟨q, q1, q2, rfl⟩ hn
      · obtain rfl : q = q' := (nI_eq (by omega) (by omega)).mp pe
        rcases h2 with ⟨-, hu⟩ | ⟨h3, -⟩
        · exact ⟨by rw [hu, ui_s], fun z => absurd z (by decide)⟩
        · omega
theorem ag_read {I I2 : Nat → Nat → Int32} {D D2 : Nat → Nat → UInt64} (n : Nat) (hn : n < 44) (h3 : I 0 3 = nI n) {r : Int32} {u : (Nat → Int64) × (Nat → Nat → Int32)} {r2 : Int32} {u2 : Nat → Nat → Int32}  (h1 : (fun r (u : (Nat → Int64) × (Nat → Nat → Int32)) => (∃ v : Int32, (fun _ (_ : Nat → Nat → Int32) => False) v u.2 ∧ r = nI 0 ∧ u.1 0 = v.toInt64) ∨ (∃ E, (fun E (u : Nat → Nat → Int32) => E = th_IA ∧ u = ui (ui I 0 1 (nI n)) 0 3 (nI 0)) E u.2 ∧ r = (if E = th_IA then nI 1 else nI 2))) r u) (h2 : (fun _ (u : Nat → Nat → Int32) => u 0 0 = nI 1) r2 u2) : u2 0 0 = r ∧ (r = nI 0 → u.1 0 = r2.toInt64) := by
  rcases h1 with ⟨v, hv, -⟩ | ⟨E, hE, hr⟩
  · exact hv.elim
  · obtain rfl : E = th_IA := hE.1
    rw [if_pos rfl] at hr
    subst hr
    exact ⟨h2, fun z => absurd z (by decide)⟩
theorem ag_wave {I I2 : Nat → Nat → Int32} {D D2 : Nat → Nat → UInt64} (n st : Int32) (a : UInt64) (ha : fb_ 1055 a) (ns : Nat) (hn : ns ≤ 320) (h4 : I 0 4 = nI ns) (hc : ∀ j, j < 32 → D 5 j = hd_C j) {r : Int32} {u : (Nat → Int64) × ((Nat → Nat → Int32) × (Nat → Nat → UInt64))} {r2 : Int32} {u2 : (Nat → Nat → Int32) × (Nat → Nat → UInt64)}  (h1 : (fun r (u : (Nat → Int64) × ((Nat → Nat → Int32) × (Nat → Nat → UInt64))) => (∃ v : Int32, (fun r (u : (Nat → Nat → Int32) × (Nat → Nat → UInt64)) => ∃ q, 1 ≤ q ∧ q ≤ 64 ∧ n = nI q ∧ ∃ sp, 0 ≤ sp ∧ sp ≤ 31 ∧ st = nI sp ∧ ns + q ≤ 320 ∧ r = nI (ns + q) ∧ u = (ui I 0 4 (nI (ns + q)), hd_wr D 1 ns sp a q)) v u.2 ∧ r = nI 0 ∧ u.1 0 = v.toInt64) ∨ (∃ E, (fun E (u : (Nat → Nat → Int32) × (Nat → Nat → UInt64)) => u = (I, D) ∧ ((E = th_IA ∧ ¬ ((∃ q, 1 ≤ q ∧ q ≤ 64 ∧ n = nI q) ∧ ∃ sp, 0 ≤ sp ∧ sp ≤ 31 ∧ st = nI sp)) ∨ (E = th_IO ∧ ∃ q, 1 ≤ q ∧ q ≤ 64 ∧ n = nI q ∧ (∃ sp, 0 ≤ sp ∧ sp ≤ 31 ∧ st = nI sp) ∧ 320 < ns + q))) E u.2 ∧ r = (if E = th_IA then nI 1 else nI 2))) r u) (h2 : (fun r (u : (Nat → Nat → Int32) × (Nat → Nat → UInt64)) => ((¬ ((∃ q, 1 ≤ q ∧ q ≤ 64 ∧ n = nI q) ∧ ∃ sp, 0 ≤ sp ∧ sp ≤ 31 ∧ st = nI sp)) ∧ u = (ui (ui I2 0 0 (nI 0)) 0 0 (nI 1), D2)) ∨ (∃ q, 1 ≤ q ∧ q ≤ 64 ∧ n = nI q ∧ ∃ sp, 0 ≤ sp ∧ sp ≤ 31 ∧ st = nI sp ∧ ((320 < ns + q ∧ u = (ui (ui I2 0 0 (nI 0)) 0 0 (nI 2), D2)) ∨ (ns + q ≤ 320 ∧ r = nI (ns + q) ∧ u = (ui (ui I2 0 0 (nI 0)) 0 3 (nI (ns + q)), hd_wr D2 1 ns sp a q))))) r2 u2) : u2.1 0 0 = r ∧ (r = nI 0 → u.1 0 = r2.toInt64) := by
  rcases h1 with ⟨v, ⟨q, q1, q2, rfl, sp, s1, s2, rfl, q3, rfl, -⟩, hr, ho⟩ | ⟨E, ⟨-, hE⟩, hr⟩
  · rcases h2 with ⟨hn, -⟩ | ⟨q', p1, p2, pe, sp', -, -, -, h2⟩
    · exact absurd ⟨⟨q, q1, q2, rfl⟩, sp, s1, s2, rfl⟩ hn
    · obtain rfl : q = q' := (nI_eq (by omega) (by omega)).mp pe
      rcases h2 with ⟨h3, -⟩ | ⟨-, hr2, hu⟩
      · omega
      · subst hr
        exact ⟨by rw [hu]; dsimp only; rw [ui_n _ _ _ (by decide), ui_s], fun _ => by rw [ho, hr2]⟩
  · rcases hE with ⟨rfl, hn⟩ | ⟨rfl, q, q1, q2, rfl, hsp, q3⟩
    · rcases h2 with ⟨-, hu⟩ | ⟨q', p1, p2, pe, sp', g1, g2, g3, -⟩
      · rw [if_pos rfl] at hr
        subst hr
        exact ⟨by rw [hu]; dsimp only; rw [ui_s], fun z => absurd z (by decide)⟩
      · exact absurd ⟨⟨q', p1, p2, pe⟩, sp', g1, g2, g3⟩ hn
    · rw [if_neg (by decide)] at hr
      subst hr
      rcases h2 with ⟨hn, -⟩ | ⟨q', p1, p2, pe, sp', -, -, -, h2⟩
      · exact absurd ⟨⟨q, q1, q2, rfl⟩, hsp⟩ hn
      · obtain rfl : q = q' := (nI_eq (by omega) (by omega)).mp pe
        rcases h2 with ⟨-, hu⟩ | ⟨h3, -⟩
        · exact ⟨by rw [hu]; dsimp only; rw [ui_s], fun z => absurd z (by decide)⟩
        · omega
theorem ag_sample {I I2 : Nat → Nat → Int32} {D D2 : Nat → Nat → UInt64} (i : Int32) (ns : Nat) (hn : ns ≤ 320) (h4 : I 0 4 = nI ns) {r : Int32} {u : (Nat → UInt64) × (Nat → Nat → Int32)} {r2 : UInt64} {u2 : Nat → Nat → Int32} (hsd : ∀ j, j < ns → D 1 j = D2 1 j) (h1 : (fun r (u : (Nat → UInt64) × (Nat → Nat → Int32)) => (∃ v : UInt64, (fun r (u : Nat → Nat → Int32) => u = I ∧ ∃ j, j < ns ∧ i = nI j ∧ r = D 1 j) v u.2 ∧ r = nI 0 ∧ u.1 0 = v) ∨ (∃ E, (fun E (u : Nat → Nat → Int32) => u = I ∧ E = th_IO ∧ ¬ ∃ j, j < ns ∧ i = nI j) E u.2 ∧ r = nI 1)) r u) (h2 : (fun r (u : Nat → Nat → Int32) => ((¬ ∃ j, j < ns ∧ i = nI j) ∧ u = ui (ui I2 0 0 (nI 0)) 0 0 (nI 1)) ∨ (∃ j, j < ns ∧ i = nI j ∧ u = ui I2 0 0 (nI 0) ∧ r = D2 1 j)) r2 u2) : u2 0 0 = r ∧ (r = nI 0 → u.1 0 = r2) := by
  rcases h1 with ⟨v, ⟨-, j, hj, rfl, rfl⟩, hr, ho⟩ | ⟨E, ⟨-, -, hn9⟩, hr⟩
  · subst hr
    rcases h2 with ⟨hn, -⟩ | ⟨j', hj', pe, hu, hr2⟩
    · exact absurd ⟨j, hj, rfl⟩ hn
    · obtain rfl : j = j' := (nI_eq (by omega) (by omega)).mp pe
      exact ⟨by rw [hu, ui_s], fun _ => by rw [ho, hr2, hsd j hj]⟩
  · subst hr
    rcases h2 with ⟨-, hu⟩ | ⟨j', hj', pe, -⟩
    · exact ⟨by rw [hu, ui_s], fun z => absurd z (by decide)⟩
    · exact absurd ⟨j', hj', pe⟩ hn9
theorem ag_power {I I2 : Nat → Nat → Int32} {D D2 : Nat → Nat → UInt64} (f9 k9 : Int32) (n : Nat) (hn : n < 32) (h4 : I 0 4 = nI n) {r : Int32} {u : (Nat → UInt64) × (Nat → Nat → Int32)} {r2 : UInt64} {u2 : Nat → Nat → Int32}  (h1 : (fun r (u : (Nat → UInt64) × (Nat → Nat → Int32)) => (∃ v : UInt64, (fun _ (_ : Nat → Nat → Int32) => False) v u.2 ∧ r = nI 0 ∧ u.1 0 = v) ∨ (∃ E, (fun E (u : Nat → Nat → Int32) => u = I ∧ E = th_IO) E u.2 ∧ r = (if E = th_IO then nI 1 else nI 2))) r u) (h2 : (fun r (u : Nat → Nat → Int32) => ((¬ ∃ j, j < hd_nf n ∧ f9 = nI j) ∧ u = ui (ui I2 0 0 (nI 0)) 0 0 (nI 1)) ∨ (∃ j, j < hd_nf n ∧ f9 = nI j ∧ (((¬ ∃ q, 0 ≤ q ∧ q ≤ 16 ∧ k9 = nI q) ∧ u = ui (ui I2 0 0 (nI 0)) 0 0 (nI 2)) ∨ (∃ q, 0 ≤ q ∧ q ≤ 16 ∧ k9 = nI q ∧ u = ui I2 0 0 (nI 0) ∧ r = hd_P (D2 1) j q)))) r2 u2) : u2 0 0 = r ∧ (r = nI 0 → u.1 0 = r2) := by
  rcases h1 with ⟨v, hv, -⟩ | ⟨E, hE, hr⟩
  · exact hv.elim
  · obtain rfl : E = th_IO := hE.2
    rw [if_pos rfl] at hr
    subst hr
    rcases h2 with ⟨-, hu⟩ | ⟨j, hj, -⟩
    · exact ⟨by rw [hu, ui_s], fun z => absurd z (by decide)⟩
    · rw [nf0 hn] at hj
      exact absurd hj (Nat.not_lt_zero _)
theorem ag_level {I I2 : Nat → Nat → Int32} {D D2 : Nat → Nat → UInt64} (f9 k9 : Int32) (n : Nat) (hn : n < 32) (h4 : I 0 4 = nI n) {r : Int32} {u : (Nat → UInt64) × (Nat → Nat → Int32)} {r2 : UInt64} {u2 : Nat → Nat → Int32}  (h1 : (fun r (u : (Nat → UInt64) × (Nat → Nat → Int32)) => (∃ v : UInt64, (fun _ (_ : Nat → Nat → Int32) => False) v u.2 ∧ r = nI 0 ∧ u.1 0 = v) ∨ (∃ E, (fun E (u : Nat → Nat → Int32) => u = I ∧ E = th_IO) E u.2 ∧ r = (if E = th_IO then nI 1 else nI 2))) r u) (h2 : (fun r (u : Nat → Nat → Int32) => ((¬ ∃ j, j < hd_nf n ∧ f9 = nI j) ∧ u = ui (ui I2 0 0 (nI 0)) 0 0 (nI 1)) ∨ (∃ j, j < hd_nf n ∧ f9 = nI j ∧ (((¬ ∃ q, 0 ≤ q ∧ q ≤ 3 ∧ k9 = nI q) ∧ u = ui (ui I2 0 0 (nI 0)) 0 0 (nI 2)) ∨ (∃ q, 0 ≤ q ∧ q ≤ 3 ∧ k9 = nI q ∧ u = ui I2 0 0 (nI 0) ∧ r = hd_lev (D2 1) j q)))) r2 u2) : u2 0 0 = r ∧ (r = nI 0 → u.1 0 = r2) := by
  rcases h1 with ⟨v, hv, -⟩ | ⟨E, hE, hr⟩
  · exact hv.elim
  · obtain rfl : E = th_IO := hE.2
    rw [if_pos rfl] at hr
    subst hr
    rcases h2 with ⟨-, hu⟩ | ⟨j, hj, -⟩
    · exact ⟨by rw [hu, ui_s], fun z => absurd z (by decide)⟩
    · rw [nf0 hn] at hj
      exact absurd hj (Nat.not_lt_zero _)
theorem ag_ways {I I2 : Nat → Nat → Int32} {D D2 : Nat → Nat → UInt64} (th lm : UInt64) (gp : Int32) {r : Int32} {u : ((Nat → Nat → Int32) × (Nat → Nat → UInt64))} {u2 : (Nat → Nat → Int32) × (Nat → Nat → UInt64)}  (h1 : (fun r (u : ((Nat → Nat → Int32) × (Nat → Nat → UInt64))) => ((fun (u : (Nat → Nat → Int32) × (Nat → Nat → UInt64)) => FP.dcmp th 0 = some .gt ∧ ¬ FP.dcmp lm 0 = some .lt ∧ ∃ g, 1 ≤ g ∧ g ≤ 4 ∧ gp = nI g ∧ u = (ui I 0 2 (nI g), ud (ud D 0 0 th) 0 1 lm)) u ∧ r = nI 0) ∨ (∃ E, (fun E (u : (Nat → Nat → Int32) × (Nat → Nat → UInt64)) => u = (I, D) ∧ E = th_IA ∧ ¬ (FP.dcmp th 0 = some .gt ∧ (∃ g, 1 ≤ g ∧ g ≤ 4 ∧ gp = nI g) ∧ ¬ FP.dcmp lm 0 = some .lt)) E u ∧ r = nI 1)) r u) (h2 : (fun (u : (Nat → Nat → Int32) × (Nat → Nat → UInt64)) => (¬ (FP.dcmp th 0 = some .gt ∧ (∃ g, 1 ≤ g ∧ g ≤ 4 ∧ gp = nI g) ∧ ¬ FP.dcmp lm 0 = some .lt) ∧ u = (ui (ui I2 0 0 (nI 0)) 0 0 (nI 1), D2)) ∨ (FP.dcmp th 0 = some .gt ∧ ¬ FP.dcmp lm 0 = some .lt ∧ ∃ g, 1 ≤ g ∧ g ≤ 4 ∧ gp = nI g ∧ u = (ui (ui I2 0 0 (nI 0)) 0 7 (nI g), ud (ud D2 0 0 th) 0 1 lm))) u2) : u2.1 0 0 = r := by
  rcases h1 with ⟨⟨g1, g2, g, g3, g4, rfl, -⟩, hr⟩ | ⟨E, ⟨-, -, hn⟩, hr⟩
  · subst hr
    rcases h2 with ⟨hn, -⟩ | ⟨-, -, g', -, -, -, hu⟩
    · exact absurd ⟨g1, ⟨g, g3, g4, rfl⟩, g2⟩ hn
    · rw [hu]
      dsimp only
      rw [ui_n _ _ _ (by decide), ui_s]
  · subst hr
    rcases h2 with ⟨-, hu⟩ | ⟨g1, g2, g, g3, g4, ge, -⟩
    · rw [hu]
      dsimp only
      rw [ui_s]
    · exact absurd ⟨g1, ⟨g, g3, g4, ge⟩, g2⟩ hn
theorem ag_learn {I I2 : Nat → Nat → Int32} {D D2 : Nat → Nat → UInt64} (le f9 n9 : Int32) (n : Nat) (hn : n < 32) (h4 : I 0 4 = nI n) {r : Int32} {u : (Nat → Int64) × (Nat → Nat → Int32)} {r2 : Int32} {u2 : Nat → Nat → Int32}  (h1 : (fun r (u : (Nat → Int64) × (Nat → Nat → Int32)) => (∃ v : Int32, (fun _ (_ : Nat → Nat → Int32) => False) v u.2 ∧ r = nI 0 ∧ u.1 0 = v.toInt64) ∨ (∃ E, (fun E (u : Nat → Nat → Int32) => u = I ∧ ((E = th_IA ∧ ¬ ((∃ q, 97 ≤ q ∧ q ≤ 122 ∧ le = nI q) ∧ ∃ q, 1 ≤ q ∧ q ≤ 8 ∧ n9 = nI q)) ∨ (E = th_IO ∧ (∃ q, 97 ≤ q ∧ q ≤ 122 ∧ le = nI q) ∧ ∃ q, 1 ≤ q ∧ q ≤ 8 ∧ n9 = nI q))) E u.2 ∧ r = (if E = th_IA then nI 1 else nI 2))) r u) (h2 : (fun _ (u : Nat → Nat → Int32) => ((¬ ((∃ q, 97 ≤ q ∧ q ≤ 122 ∧ le = nI q) ∧ ∃ q, 1 ≤ q ∧ q ≤ 8 ∧ n9 = nI q)) ∧ u 0 0 = nI 1) ∨ ((∃ q, 97 ≤ q ∧ q ≤ 122 ∧ le = nI q) ∧ (∃ q, 1 ≤ q ∧ q ≤ 8 ∧ n9 = nI q) ∧ u 0 0 = nI 2)) r2 u2) : u2 0 0 = r ∧ (r = nI 0 → u.1 0 = r2.toInt64) := by
  rcases h1 with ⟨v, hv, -⟩ | ⟨E, ⟨-, hE⟩, hr⟩
  · exact hv.elim
  · rcases hE with ⟨rfl, hn9⟩ | ⟨rfl, hL, hN⟩
    · rw [if_pos rfl] at hr
      subst hr
      rcases h2 with ⟨-, hu⟩ | ⟨hL, hN, -⟩
      · exact ⟨hu, fun z => absurd z (by decide)⟩
      · exact absurd ⟨hL, hN⟩ hn9
    · rw [if_neg (by decide)] at hr
      subst hr
      rcases h2 with ⟨hn9, -⟩ | ⟨-, -, hu⟩
      · exact absurd ⟨hL, hN⟩ hn9
      · exact ⟨hu, fun z => absurd z (by decide)⟩
theorem ag_forget {I I2 : Nat → Nat → Int32} {D D2 : Nat → Nat → UInt64} (k9 : Int32) (h0 : I 0 6 = nI 0) {r : Int32} {u : (Nat → Int64) × (Nat → Nat → Int32)} {r2 : Int32} {u2 : Nat → Nat → Int32}  (h1 : (fun r (u : (Nat → Int64) × (Nat → Nat → Int32)) => (∃ v : Int32, (fun _ (_ : Nat → Nat → Int32) => False) v u.2 ∧ r = nI 0 ∧ u.1 0 = v.toInt64) ∨ (∃ E, (fun E (u : Nat → Nat → Int32) => u = I ∧ E = th_NS) E u.2 ∧ r = nI 1)) r u) (h2 : (fun _ (u : Nat → Nat → Int32) => u 0 0 = nI 1) r2 u2) : u2 0 0 = r ∧ (r = nI 0 → u.1 0 = r2.toInt64) := by
  rcases h1 with ⟨v, hv, -⟩ | ⟨E, hE, hr⟩
  · exact hv.elim
  · obtain rfl : E = th_NS := hE.2
    subst hr
    exact ⟨h2, fun z => absurd z (by decide)⟩
theorem ag_warp {I I2 : Nat → Nat → Int32} {D D2 : Nat → Nat → UInt64} (k9 j9 : Int32) (h0 : I 0 6 = nI 0) {r : Int32} {u : (Nat → UInt64) × (Nat → Nat → Int32)} {r2 : UInt64} {u2 : Nat → Nat → Int32}  (h1 : (fun r (u : (Nat → UInt64) × (Nat → Nat → Int32)) => (∃ v : UInt64, (fun _ (_ : Nat → Nat → Int32) => False) v u.2 ∧ r = nI 0 ∧ u.1 0 = v) ∨ (∃ E, (fun E (u : Nat → Nat → Int32) => u = I ∧ E = th_NS) E u.2 ∧ r = nI 1)) r u) (h2 : (fun _ (u : Nat → Nat → Int32) => u 0 0 = nI 1) r2 u2) : u2 0 0 = r ∧ (r = nI 0 → u.1 0 = r2) := by
  rcases h1 with ⟨v, hv, -⟩ | ⟨E, hE, hr⟩
  · exact hv.elim
  · obtain rfl : E = th_NS := hE.2
    subst hr
    exact ⟨h2, fun z => absurd z (by decide)⟩
theorem ag_hear {I I2 : Nat → Nat → Int32} {D D2 : Nat → Nat → UInt64} (n : Nat) (hn : n < 32) (h4 : I 0 4 = nI n) {r : Int32} {u : (Nat → Int64) × (Nat → Nat → Int32)} {r2 : Int32} {u2 : Nat → Nat → Int32}  (h1 : (fun r (u : (Nat → Int64) × (Nat → Nat → Int32)) => (∃ v : Int32, (fun _ (_ : Nat → Nat → Int32) => False) v u.2 ∧ r = nI 0 ∧ u.1 0 = v.toInt64) ∨ (∃ E, (fun E (u : Nat → Nat → Int32) => u = I ∧ E = th_IS) E u.2 ∧ r = nI 1)) r u) (h2 : (fun _ (u : Nat → Nat → Int32) => u 0 0 = nI 1) r2 u2) : u2 0 0 = r ∧ (r = nI 0 → u.1 0 = r2.toInt64) := by
  rcases h1 with ⟨v, hv, -⟩ | ⟨E, hE, hr⟩
  · exact hv.elim
  · obtain rfl : E = th_IS := hE.2
    subst hr
    exact ⟨h2, fun z => absurd z (by decide)⟩
theorem ag_word {I I2 : Nat → Nat → Int32} {D D2 : Nat → Nat → UInt64} (k9 j9 : Int32) (h0 : I 0 7 = nI 0) {r : Int32} {u : (Nat → Int64) × (Nat → Nat → Int32)} {r2 : Int32} {u2 : Nat → Nat → Int32}  (h1 : (fun r (u : (Nat → Int64) × (Nat → Nat → Int32)) => (∃ v : Int32, (fun _ (_ : Nat → Nat → Int32) => False) v u.2 ∧ r = nI 0 ∧ u.1 0 = v.toInt64) ∨ (∃ E, (fun E (u : Nat → Nat → Int32) => u = I ∧ E = th_NS) E u.2 ∧ r = (if E = th_NS then nI 1 else nI 2))) r u) (h2 : (fun r (u : Nat → Nat → Int32) => ((¬ ∃ j, j < 0 ∧ k9 = nI j) ∧ u = ui (ui I2 0 0 (nI 0)) 0 0 (nI 1)) ∨ (∃ j, j < 0 ∧ k9 = nI j ∧ (((¬ ∃ q, 0 ≤ q ∧ q ≤ 5 ∧ j9 = nI q) ∧ u = ui (ui I2 0 0 (nI 0)) 0 0 (nI 2)) ∨ (∃ q, 0 ≤ q ∧ q ≤ 5 ∧ j9 = nI q ∧ u = ui I2 0 0 (nI 0) ∧ r = mo_wd I2 j q)))) r2 u2) : u2 0 0 = r ∧ (r = nI 0 → u.1 0 = r2.toInt64) := by
  rcases h1 with ⟨v, hv, -⟩ | ⟨E, hE, hr⟩
  · exact hv.elim
  · obtain rfl : E = th_NS := hE.2
    rw [if_pos rfl] at hr
    subst hr
    rcases h2 with ⟨-, hu⟩ | ⟨j, hj, -⟩
    · exact ⟨by rw [hu, ui_s], fun z => absurd z (by decide)⟩
    · exact absurd hj (Nat.not_lt_zero _)
theorem ag_cost {I I2 : Nat → Nat → Int32} {D D2 : Nat → Nat → UInt64} (k9 : Int32) (h0 : I 0 7 = nI 0) {r : Int32} {u : (Nat → UInt64) × (Nat → Nat → Int32)} {r2 : UInt64} {u2 : Nat → Nat → Int32}  (h1 : (fun r (u : (Nat → UInt64) × (Nat → Nat → Int32)) => (∃ v : UInt64, (fun _ (_ : Nat → Nat → Int32) => False) v u.2 ∧ r = nI 0 ∧ u.1 0 = v) ∨ (∃ E, (fun E (u : Nat → Nat → Int32) => u = I ∧ E = th_NS) E u.2 ∧ r = (if E = th_NS then nI 1 else nI 2))) r u) (h2 : (fun r (u : Nat → Nat → Int32) => ((¬ ∃ j, j < 0 ∧ k9 = nI j) ∧ u = ui (ui I2 0 0 (nI 0)) 0 0 (nI 1)) ∨ (∃ j, j < 0 ∧ k9 = nI j ∧ ((I2 7 j < 0 ∧ u = ui (ui I2 0 0 (nI 0)) 0 0 (nI 2)) ∨ (¬ I2 7 j < 0 ∧ u = ui I2 0 0 (nI 0) ∧ r = D2 3 j)))) r2 u2) : u2 0 0 = r ∧ (r = nI 0 → u.1 0 = r2) := by
  rcases h1 with ⟨v, hv, -⟩ | ⟨E, hE, hr⟩
  · exact hv.elim
  · obtain rfl : E = th_NS := hE.2
    rw [if_pos rfl] at hr
    subst hr
    rcases h2 with ⟨-, hu⟩ | ⟨j, hj, -⟩
    · exact ⟨by rw [hu, ui_s], fun z => absurd z (by decide)⟩
    · exact absurd hj (Nat.not_lt_zero _)
theorem ag_count {I I2 : Nat → Nat → Int32} {D D2 : Nat → Nat → UInt64} (wh : Int32) (n : Nat) (hn : n < 32) (h4 : I 0 4 = nI n) (jd : Nat) (hjd : jd < 100) (h5 : I 0 5 = nI jd) {r : Int32} {u : (Nat → Int64) × (Nat → Nat → Int32)} {r2 : Int32} {u2 : Nat → Nat → Int32} (e0 : I 0 3 = I2 0 1) (e3 : I 0 0 = I2 0 4) (e4 : I 0 6 = I2 0 5) (e5 : I 0 7 = I2 0 6) (h1 : (fun r (u : (Nat → Int64) × (Nat → Nat → Int32)) => (∃ v : Int32, (fun r (u : Nat → Nat → Int32) => ∃ q, 0 ≤ q ∧ q ≤ 6 ∧ wh = nI q ∧ r = dc_ct I q) v u.2 ∧ r = nI 0 ∧ u.1 0 = v.toInt64) ∨ (∃ E, (fun E (u : Nat → Nat → Int32) => u = I ∧ E = th_IA ∧ ¬ ∃ q, 0 ≤ q ∧ q ≤ 6 ∧ wh = nI q) E u.2 ∧ r = nI 1)) r u) (h2 : (fun r (u : Nat → Nat → Int32) => ((¬ ∃ q, 0 ≤ q ∧ q ≤ 6 ∧ wh = nI q) ∧ u = ui (ui I2 0 0 (nI 0)) 0 0 (nI 1)) ∨ (∃ q, 0 ≤ q ∧ q ≤ 6 ∧ wh = nI q ∧ u = ui I2 0 0 (nI 0) ∧ r = mo_ct I2 (D2 1) (D2 0 0) n q)) r2 u2) : u2 0 0 = r ∧ (r = nI 0 → u.1 0 = r2.toInt64) := by
  rcases h1 with ⟨v, ⟨q, q1, q2, rfl, rfl⟩, hr, ho⟩ | ⟨E, ⟨-, -, hn9⟩, hr⟩
  · subst hr
    rcases h2 with ⟨hn8, -⟩ | ⟨q', p1, p2, pe, hu, hr2⟩
    · exact absurd ⟨q, q1, q2, rfl⟩ hn8
    · obtain rfl : q = q' := (nI_eq (by omega) (by omega)).mp pe
      refine ⟨by rw [hu, ui_s], fun _ => ?_⟩
      rw [ho, hr2]
      congr 1
      rcases (show q = 0 ∨ q = 1 ∨ q = 2 ∨ q = 3 ∨ q = 4 ∨ q = 5 ∨ q = 6 by omega) with rfl | rfl | rfl | rfl | rfl | rfl | rfl
      · exact e0
      · exact h4
      · show nI 0 = nI (hd_nf n)
        rw [nf0 hn]
      · exact e3
      · exact e4
      · exact e5
      · show nI 0 = nI (ld_cnt _ _ (hd_nf n))
        rw [nf0 hn]
        rfl
  · subst hr
    rcases h2 with ⟨-, hu⟩ | ⟨q', p1, p2, pe, -⟩
    · exact ⟨by rw [hu, ui_s], fun z => absurd z (by decide)⟩
    · exact absurd ⟨q', p1, p2, pe⟩ hn9
