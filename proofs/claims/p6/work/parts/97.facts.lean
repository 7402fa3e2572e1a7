-- what holds at the start: the classes, the array classes, the words beside the words
theorem la_K {sb : Nat} {s : State} (hts : ∀ w ∈ lw_tbl, w.before #[Value.ref sb] s = true) : ∃ (dC : Nat → ClassId) (dI : Nat → Nat → Nat) (k : Nat → ClassId), va_K (dC, dI) vwCl (la_ty k) s := by
  have hts0 : ∀ w ∈ W0, w.before #[Value.ref sb] s = true := fun w h => hts w (W0_ok w h)
  obtain ⟨c0, i0, K0⟩ := u_known (C := RCi) (T := TCi) (N := 3) (n := 3) hts0 inCi (hts0 _ tw_43)
  obtain ⟨c1, i1, K1⟩ := u_known (C := RPa) (T := TPa) (N := 3) (n := 3) hts0 inPa (hts0 _ tw_108)
  obtain ⟨c2, i2, K2⟩ := u_known (C := RBo) (T := TBo) (N := 3) (n := 3) hts0 inBo (hts0 _ tw_101)
  obtain ⟨c3, i3, K3⟩ := u_known (C := RSo) (T := TSo) (N := 7) (n := 7) hts0 inSo (hts0 _ tw_69)
  obtain ⟨c4, i4, K4⟩ := u_known (C := RFi) (T := TFi) (N := 2) (n := 2) hts0 inFi (hts0 _ tw_28)
  obtain ⟨c5, i5, K5⟩ := u_known (C := RWo) (T := TWo) (N := 5) (n := 5) hts0 inWo (hts0 _ tw_151)
  obtain ⟨c6, i6, K6⟩ := u_known (C := RLi) (T := TLi) (N := 2) (n := 2) hts0 inLi (hts0 _ tw_144)
  obtain ⟨c7, i7, K7⟩ := u_known (C := RDe) (T := TDe) (N := 10) (n := 10) hts0 inDe (hts0 _ tw_20)
  obtain ⟨c8, i8, K8⟩ := u_known (C := RMo) (T := TMo) (N := 27) (n := 27) hts0 inMo (hts0 _ tw_639)
  obtain ⟨a0, k0, p0, x0, y0, z0⟩ := Cond.arrayClass_spec (show (Cond.arrayClass .int).holds #[Value.ref sb] s none s [] = true from hts0 _ tw_41)
  obtain ⟨a1, k1, p1, x1, y1, z1⟩ := Cond.arrayClass_spec (show (Cond.arrayClass .double).holds #[Value.ref sb] s none s [] = true from hts0 _ tw_67)
  obtain ⟨a4, k4, p4, x4, y4, z4⟩ := Cond.arrayClass_spec (show (Cond.arrayClass .long).holds #[Value.ref sb] s none s [] = true from hts0 _ tw_874)
  obtain ⟨p2, a2, k2, x2, -, y2, z2, w2⟩ := Cond.arrayOver_spec (show (Cond.arrayOver (.object "HearingDesk$Pattern")).holds #[Value.ref sb] s none s [] = true from hts _ tt_107)
  obtain ⟨p3, a3, k3, x3, -, y3, z3, w3⟩ := Cond.arrayOver_spec (show (Cond.arrayOver (.object "HearingDesk$Word")).holds #[Value.ref sb] s none s [] = true from hts _ tt_150)
  refine ⟨fun n => ([c0, c1, c2, c3, c4, c5, c6, c7, c8] : List ClassId).getD n 0, fun n => ([i0, i1, i2, i3, i4, i5, i6, i7, i8] : List (Nat → Nat)).getD n (fun _ => 0), fun n => ([a0, a1, a2, a3, a4] : List ClassId).getD n 0, ?_, ?_⟩
  · intro n q hq
    match n, hq with
    | 0, hq => cases hq; exact K0
    | 1, hq => cases hq; exact K1
    | 2, hq => cases hq; exact K2
    | 3, hq => cases hq; exact K3
    | 4, hq => cases hq; exact K4
    | 5, hq => cases hq; exact K5
    | 6, hq => cases hq; exact K6
    | 7, hq => cases hq; exact K7
    | 8, hq => cases hq; exact K8
    | n + 9, hq => cases hq
  · intro n q hq
    match n, hq with
    | 0, hq => cases hq; exact ⟨fun _ _ => ⟨fun _ h => (by cases h), k0, y0, p0, z0⟩, x0⟩
    | 1, hq => cases hq; exact ⟨fun _ _ => ⟨fun _ h => (by cases h), k1, y1, p1, z1⟩, x1⟩
    | 2, hq => cases hq; exact ⟨fun _ _ => ⟨fun _ h => (by cases h), k2, y2, p2, z2⟩, k2, p2, y2, z2, x2, w2⟩
    | 3, hq => cases hq; exact ⟨fun _ _ => ⟨fun _ h => (by cases h), k3, y3, p3, z3⟩, k3, p3, y3, z3, x3, w3⟩
    | 4, hq => cases hq; exact ⟨fun _ _ => ⟨fun _ h => (by cases h), k4, y4, p4, z4⟩, x4⟩
    | n + 5, hq => cases hq
theorem la_E {sb : Nat} {s : State} (hts : ∀ w ∈ lw_tbl, w.before #[Value.ref sb] s = true) (hgv : (Jvm.Cond.and given_1 narrow_1).before #[Value.ref sb] s = true) : ev_L s ∧ ev_A s := by
  have hg := flat_of_before _ hgv
  refine ⟨⟨⟨fun w hw => ?_, fun w hw ht => th_vm (u := s) rfl ht (hts w hw), ?_⟩, ?_⟩, ?_⟩
  · have h2 : evK w = true := (List.mem_filter.mp hw).2
    have h1 := hts w (List.mem_filter.mp hw).1
    cases w <;> first | (exact absurd (show false = true from h2) Bool.false_ne_true) | (exact va_Nw.of rfl h1)
  · have w1 := hts _ tt_275
    have w2 := hts _ tt_277
    have w3 : st_w3.before #[Value.ref sb] s = true := hg _ (by decide +kernel)
    have w4 : st_w4.before #[Value.ref sb] s = true := hg _ (by decide +kernel)
    exact ⟨st_lays rfl (fun _ _ h _ => h) w1, st_lays rfl (fun _ _ h _ => h) w2, st_ref rfl (fun _ _ h _ => h) w1 w3, st_ref rfl (fun _ _ h _ => h) w2 w4⟩
  · exact ⟨va_Nc.of (args := #[Value.ref sb]) (hg _ (by decide +kernel)), va_Nc.of (args := #[Value.ref sb]) (hg _ (by decide +kernel)), va_Nc.of (args := #[Value.ref sb]) (hg _ (by decide +kernel)), va_Nc.of (args := #[Value.ref sb]) (hg _ (by decide +kernel))⟩
  · exact ⟨va_AO.of (A := #[Value.ref sb]) (hts _ tt_107), va_AO.of (A := #[Value.ref sb]) (hts _ tt_150)⟩
