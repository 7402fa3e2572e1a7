set_option maxHeartbeats 4000000 in
set_option maxRecDepth 100000 in
theorem hLa_octets (l : Launch) (hln : l.stackTraces = false) (dC : Nat → ClassId) (dI : Nat → Nat → Nat) (k : Nat → ClassId) (b P : Nat → Nat) (I : Nat → Nat → Int32) (D : Nat → Nat → UInt64) (sz : Nat) (ob : Nat) (o0 : (Nat → Int64)) (n : Int32) (Wv f : Nat) (hW : Wv < 2 ^ 64) (hf : f ≤ 400) (h3 : I 0 3 = nI f) : Met l yLa_octets (Cond.codeWith yLa_octets cLa_octets 6 (some .int) [(0, 11, 14, 13), (0, 11, 18, 15)] :: W0) ({ frames := 8, cells := 1, slots := 6, locals := 240 }) (va_Pc [.ref (b 0), .int n, .long (lN Wv), .ref ob] (ct_pre (dC, dI) (la_ty k) ev_L ((ob, .inl (k 4, 1, .inr (.inl o0))) :: wd k b P I D) sz)) (va_Qi (fun r (u : (Nat → Int64) × (Nat → Nat → Int32)) => (∃ v : Int32, (fun r (u : Nat → Nat → Int32) => ∃ q, 1 ≤ q ∧ q ≤ 8 ∧ n = nI q ∧ f + q ≤ 400 ∧ r = nI (f + q) ∧ u = ui (fi_wr I 1 f Wv q) 0 3 (nI (f + q))) v u.2 ∧ r = nI 0 ∧ u.1 0 = v.toInt64) ∨ (∃ E, (fun E (u : Nat → Nat → Int32) => u = I ∧ ((E = th_IA ∧ ¬ ∃ q, 1 ≤ q ∧ q ≤ 8 ∧ n = nI q) ∨ (E = th_IO ∧ ∃ q, 1 ≤ q ∧ q ≤ 8 ∧ n = nI q ∧ 400 < f + q))) E u.2 ∧ r = (if E = th_IA then nI 1 else nI 2))) (fun u t => ct_at (dC, dI) (va_A ((ob, .inl (k 4, 1, .inr (.inl o0))) :: wd k b P I D) sz) ((fun (u : (Nat → Int64) × (Nat → Nat → Int32)) => (ob, .inl (k 4, 1, .inr (.inl u.1))) :: wd k b P u.2 D) u) t) (va_A ((ob, .inl (k 4, 1, .inr (.inl o0))) :: wd k b P I D) sz)) 1 6 (va_A ((ob, .inl (k 4, 1, .inr (.inl o0))) :: wd k b P I D) sz) := by
  refine ex_metW (cc := cLa_octets) (maxL := 6) (ret := some .int) (hh := [(0, 11, 14, 13), (0, 11, 18, 15)]) (by decide) rfl ?_
  intro p e s m args below meth c s₁ B hml htab hv
  obtain ⟨rfl, hsz, hP, hK, hD0, hE⟩ := hv
  have hx := B.exec
  have hb := B.bytes
  have hr := B.returns
  have hts : ∀ w ∈ W0, w.before [.ref (b 0), .int n, .long (lN Wv), .ref ob].toArray s = true := fun w h => atoms_spec (ws := (Cond.codeWith yLa_octets cLa_octets 6 (some .int) [(0, 11, 14, 13), (0, 11, 18, 15)] :: W0)) B.pre w (List.mem_cons_of_mem _ h)
  have hown : s.vm.findClass RLa = some m.cls := findClass_of_methodNamed B.named
  have hlocks := B.notSynchronized
  subst hsz
  have hD := hD0.self (sz := s.heap.size)
  generalize hAe : va_A ((ob, .inl (k 4, 1, .inr (.inl o0))) :: wd k b P I D) s.heap.size = A at hD ⊢
  have hA : ∀ q : Nat, s.heap.size ≤ q → A q := fun q h => by rw [← hAe]; exact Or.inr h
  have hS : va_S A s.heap s.heap [] := va_S.rf
  have hl := lv_entry ([.ref (b 0), .int n, .long (lN Wv), .ref ob]) (n := 6) (Nat.le_of_ble_eq_true rfl)
  rw [lg_entry_eq]
  generalize (lg_sl ([.ref (b 0), .int n, .long (lN Wv), .ref ob]) ++ List.replicate (6 - (lg_sl ([.ref (b 0), .int n, .long (lN Wv), .ref ob])).length) Slot.unset).toArray = ls at hl ⊢
  have hl : lv_has ls 6 [(0, .ref (b 0)), (1, .int n), (2, .long (lN Wv)), (4, .ref ob)] := hl
  have hP : va_P (dC, dI) vwCl ([(ob, .inl (k 4, 1, .inr (.inl o0)))] ++ (wd k b P I D ++ [])) s.heap := by rw [List.append_nil]; exact hP
  have hD : va_D A ([(ob, .inl (k 4, 1, .inr (.inl o0)))] ++ (wd k b P I D ++ [])) := by rw [List.append_nil]; exact hD
  refine lv_aload hx hb dLa_octets_0 (lv_at hl 3 rfl) ?_
  refine lv_iconst (v := nI 0) hx hb dLa_octets_2 (by decide +kernel) ?_
  refine lv_aload_n hx hb dLa_octets_3 rfl (lv_at hl 0 rfl) ?_
  refine lv_iload_n hx hb dLa_octets_4 rfl (lv_at hl 1 rfl) ?_
  refine lv_lload_n hx hb dLa_octets_5 rfl (lv_at hl 2 rfl) ?_
  refine eg_i (C := "HearingDesk") (As := [.int n, .long (lN Wv)]) (rest := [.int (nI 0), .ref ob]) ⟨hx, hb, hml, hown, hts⟩ (kDe_octets l hln dC dI k b P I D _ n Wv f hW hf h3) (cwV 2 hts (gw_V tw_244 tw_245 tw_246 tw_1 tw_247) rfl rfl rfl (by decide +kernel) ⟨Nat.le_of_ble_eq_true rfl, Nat.le_of_ble_eq_true rfl⟩) ⟨ct_blind (ev := ev_D) ev_D.blind, va_recv hK (sg_Pc hP) (ci := 7) (q0 := 0) rfl rfl, ct_now (A := A) (ev := ev_D) (fun U hU hW => hE.1.to hW (fun a cell h1 _ => by rw [hU]; exact h1)) (sg_Pc hP) (hK.sub (tys' := de_ty k) [0, 1, 2, 3] rfl) (sg_Dc hD)⟩ rfl hl.1 rfl (Nat.le_of_ble_eq_true rfl) dLa_octets_6 ⟨Nat.le_of_ble_eq_true rfl, Nat.le_of_ble_eq_true rfl⟩ hP hD hS hA (fun v u H locs hw hP hD hS => ?_) (fun E ce q u H locs hxp hP hD hS h1 h2 h3 => ?_)
  · have hP : va_P (dC, dI) vwCl ((ob, .inl (k 4, 1, .inr (.inl o0))) :: wd k b P u D) H := by rw [List.append_nil] at hP; exact hP
    have hD : va_D A ((ob, .inl (k 4, 1, .inr (.inl o0))) :: wd k b P u D) := by rw [List.append_nil] at hD; exact hD
    refine lv_i2l (v := v.toInt64) hx hb dLa_octets_9 rfl ?_
    refine rw_ast_l hx hb hK hP hD hS 0 4 rfl rfl (by decide) (by decide) dLa_octets_10 (fun H locs hP hD hS => ?_)
    have hP : va_P (dC, dI) vwCl ((ob, .inl (k 4, 1, .inr (.inl (vp_updL o0 0 v.toInt64)))) :: wd k b P u D) H := hP
    have hD : va_D A ((ob, .inl (k 4, 1, .inr (.inl (vp_updL o0 0 v.toInt64)))) :: wd k b P u D) := hD
    refine lv_goto (tgt := 22) hx hb dLa_octets_11 (by decide) ?_
    refine lv_iconst (v := nI 0) hx hb dLa_octets_22 (by decide +kernel) ?_
    exact ct_ri hx hb hr hlocks (vp_updL o0 0 v.toInt64, u) (Or.inl ⟨v, hw, rfl, rfl⟩) hP hD hS (Nat.le_refl _) (Nat.le_refl _) dLa_octets_23
  · have hEx : E = th_IA ∨ E = th_IO := hxp.2.elim (fun z => Or.inl z.1) (fun z => Or.inr z.1)
    have hP : va_P (dC, dI) vwCl ((ob, .inl (k 4, 1, .inr (.inl o0))) :: wd k b P u D) H := by rw [List.append_nil] at hP; exact hP
    have hD : va_D A ((ob, .inl (k 4, 1, .inr (.inl o0))) :: wd k b P u D) := by rw [List.append_nil] at hD; exact hD
    rcases hEx with rfl | rfl
    · refine ex_catch (own := RLa) (E := th_IA) (h := 14) hown htab ⟨by decide, by decide, by decide, th_IA, hts _ tw_242, Or.inl ⟨va_Nw.use rfl (hE.1.1 _ en_250), rfl⟩⟩ h1 h2 h3 ?_
      refine lv_astore (lv' := [(5, .ref q), (0, .ref (b 0)), (1, .int n), (2, .long (lN Wv)), (4, .ref ob)]) hx hb dLa_octets_14 hl (by decide) rfl (fun ls hl => ?_)
      refine lv_iconst (v := nI 1) hx hb dLa_octets_16 (by decide +kernel) ?_
      exact ct_ri hx hb hr hlocks (o0, u) (Or.inr ⟨th_IA, hxp, (if_pos rfl).symm⟩) hP hD hS (Nat.le_refl _) (Nat.le_refl _) dLa_octets_17
    · refine ex_catch (own := RLa) (E := th_IO) (h := 18) hown htab ⟨by decide, by decide, by decide, th_IA, hts _ tw_242, Or.inr ⟨hE.2.1, ⟨by decide, by decide, by decide, th_IO, hts _ tw_243, Or.inl ⟨va_Nw.use rfl (hE.1.1 _ en_319), rfl⟩⟩⟩⟩ h1 h2 h3 ?_
      refine lv_astore (lv' := [(5, .ref q), (0, .ref (b 0)), (1, .int n), (2, .long (lN Wv)), (4, .ref ob)]) hx hb dLa_octets_18 hl (by decide) rfl (fun ls hl => ?_)
      refine lv_iconst (v := nI 2) hx hb dLa_octets_20 (by decide +kernel) ?_
      exact ct_ri hx hb hr hlocks (o0, u) (Or.inr ⟨th_IO, hxp, (if_neg (by decide)).symm⟩) hP hD hS (Nat.le_refl _) (Nat.le_refl _) dLa_octets_21
set_option maxHeartbeats 4000000 in
set_option maxRecDepth 100000 in
theorem hLa_read (l : Launch) (hln : l.stackTraces = false) (dC : Nat → ClassId) (dI : Nat → Nat → Nat) (k : Nat → ClassId) (b P : Nat → Nat) (I : Nat → Nat → Int32) (D : Nat → Nat → UInt64) (sz : Nat) (ob : Nat) (o0 : (Nat → Int64)) (n : Nat) (hn : n ≤ 400) (h3 : I 0 3 = nI n) (oc : Nat → Nat) (ho : ∀ j, j < 400 → I 1 j = nI (oc j) ∧ oc j < 256) : Met l yLa_read (Cond.codeWith yLa_read cLa_read 3 (some .int) [(0, 8, 11, 13), (0, 8, 14, 15)] :: W0) ({ frames := 8, cells := 1, slots := 6, locals := 240 }) (va_Pc [.ref (b 0), .ref ob] (ct_pre (dC, dI) (la_ty k) ev_L ((ob, .inl (k 4, 1, .inr (.inl o0))) :: wd k b P I D) sz)) (va_Qi (fun r (u : (Nat → Int64) × ((Nat → Nat → Int32) × (Nat → UInt64))) => (∃ v : Int32, (fun r (u : (Nat → Nat → Int32) × (Nat → UInt64)) => fi_ok oc n ∧ fi_n oc n ≤ 320 ∧ r = nI (fi_n oc n) ∧ (∀ i, i < fi_n oc n → u.2 i = fi_sa oc i) ∧ (∀ c, c ≠ 0 → u.1 c = I c) ∧ (∀ z, z ≠ 0 → z ≠ 1 → z ≠ 3 → z ≠ 4 → z ≠ 5 → z ≠ 7 → u.1 0 z = I 0 z) ∧ u.1 0 0 = nI (nu oc 24 4) ∧ u.1 0 3 = nI 0 ∧ u.1 0 4 = nI (fi_n oc n) ∧ u.1 0 5 = nI 0 ∧ u.1 0 7 = nI 0) v u.2 ∧ r = nI 0 ∧ u.1 0 = v.toInt64) ∨ (∃ E, (fun E (u : (Nat → Nat → Int32) × (Nat → UInt64)) => u.2 = D 1 ∧ (∃ x, u.1 = ui (ui I 0 1 x) 0 3 (nI 0)) ∧ ((E = th_IA ∧ ¬ fi_ok oc n) ∨ (E = th_IO ∧ fi_ok oc n ∧ 320 < fi_n oc n))) E u.2 ∧ r = (if E = th_IA then nI 1 else nI 2))) (fun u t => ct_at (dC, dI) (va_A ((ob, .inl (k 4, 1, .inr (.inl o0))) :: wd k b P I D) sz) ((fun (u : (Nat → Int64) × ((Nat → Nat → Int32) × (Nat → UInt64))) => (ob, .inl (k 4, 1, .inr (.inl u.1))) :: wd k b P u.2.1 (us D 1 u.2.2)) u) t) (va_A ((ob, .inl (k 4, 1, .inr (.inl o0))) :: wd k b P I D) sz)) 1 6 (va_A ((ob, .inl (k 4, 1, .inr (.inl o0))) :: wd k b P I D) sz) := by
  refine ex_metW (cc := cLa_read) (maxL := 3) (ret := some .int) (hh := [(0, 8, 11, 13), (0, 8, 14, 15)]) (by decide) rfl ?_
  intro p e s m args below meth c s₁ B hml htab hv
  obtain ⟨rfl, hsz, hP, hK, hD0, hE⟩ := hv
  have hx := B.exec
  have hb := B.bytes
  have hr := B.returns
  have hts : ∀ w ∈ W0, w.before [.ref (b 0), .ref ob].toArray s = true := fun w h => atoms_spec (ws := (Cond.codeWith yLa_read cLa_read 3 (some .int) [(0, 8, 11, 13), (0, 8, 14, 15)] :: W0)) B.pre w (List.mem_cons_of_mem _ h)
  have hown : s.vm.findClass RLa = some m.cls := findClass_of_methodNamed B.named
  have hlocks := B.notSynchronized
  subst hsz
  have hD := hD0.self (sz := s.heap.size)
  generalize hAe : va_A ((ob, .inl (k 4, 1, .inr (.inl o0))) :: wd k b P I D) s.heap.size = A at hD ⊢
  have hA : ∀ q : Nat, s.heap.size ≤ q → A q := fun q h => by rw [← hAe]; exact Or.inr h
  have hS : va_S A s.heap s.heap [] := va_S.rf
  have hl := lv_entry ([.ref (b 0), .ref ob]) (n := 3) (Nat.le_of_ble_eq_true rfl)
  rw [lg_entry_eq]
  generalize (lg_sl ([.ref (b 0), .ref ob]) ++ List.replicate (3 - (lg_sl ([.ref (b 0), .ref ob])).length) Slot.unset).toArray = ls at hl ⊢
  have hl : lv_has ls 3 [(0, .ref (b 0)), (1, .ref ob)] := hl
  have hP : va_P (dC, dI) vwCl ([(ob, .inl (k 4, 1, .inr (.inl o0)))] ++ (wd k b P I D ++ [])) s.heap := by rw [List.append_nil]; exact hP
  have hD : va_D A ([(ob, .inl (k 4, 1, .inr (.inl o0)))] ++ (wd k b P I D ++ [])) := by rw [List.append_nil]; exact hD
  refine lv_aload_n hx hb dLa_read_0 rfl (lv_at hl 1 rfl) ?_
  refine lv_iconst (v := nI 0) hx hb dLa_read_1 (by decide +kernel) ?_
  refine lv_aload_n hx hb dLa_read_2 rfl (lv_at hl 0 rfl) ?_
  refine eg_i (C := "HearingDesk") (As := []) (rest := [.int (nI 0), .ref ob]) ⟨hx, hb, hml, hown, hts⟩ (kDe_read l hln dC dI k b P I D _ n hn h3 oc ho) (cwV 0 hts (gw_V tw_340 tw_341 tw_342 tw_1 tw_343) rfl rfl rfl (by decide +kernel) ⟨Nat.le_of_ble_eq_true rfl, Nat.le_of_ble_eq_true rfl⟩) ⟨ct_blind (ev := ev_D) ev_D.blind, va_recv hK (sg_Pc hP) (ci := 7) (q0 := 0) rfl rfl, ct_now (A := A) (ev := ev_D) (fun U hU hW => hE.1.to hW (fun a cell h1 _ => by rw [hU]; exact h1)) (sg_Pc hP) (hK.sub (tys' := de_ty k) [0, 1, 2, 3] rfl) (sg_Dc hD)⟩ rfl hl.1 rfl (Nat.le_of_ble_eq_true rfl) dLa_read_3 ⟨Nat.le_of_ble_eq_true rfl, Nat.le_of_ble_eq_true rfl⟩ hP hD hS hA (fun v u H locs hw hP hD hS => ?_) (fun E ce q u H locs hxp hP hD hS h1 h2 h3 => ?_)
  · have hP : va_P (dC, dI) vwCl ((ob, .inl (k 4, 1, .inr (.inl o0))) :: wd k b P u.1 (us D 1 u.2)) H := by rw [List.append_nil] at hP; exact hP
    have hD : va_D A ((ob, .inl (k 4, 1, .inr (.inl o0))) :: wd k b P u.1 (us D 1 u.2)) := by rw [List.append_nil] at hD; exact hD
    refine lv_i2l (v := v.toInt64) hx hb dLa_read_6 rfl ?_
    refine rw_ast_l hx hb hK hP hD hS 0 4 rfl rfl (by decide) (by decide) dLa_read_7 (fun H locs hP hD hS => ?_)
    have hP : va_P (dC, dI) vwCl ((ob, .inl (k 4, 1, .inr (.inl (vp_updL o0 0 v.toInt64)))) :: wd k b P u.1 (us D 1 u.2)) H := hP
    have hD : va_D A ((ob, .inl (k 4, 1, .inr (.inl (vp_updL o0 0 v.toInt64)))) :: wd k b P u.1 (us D 1 u.2)) := hD
    refine lv_goto (tgt := 17) hx hb dLa_read_8 (by decide) ?_
    refine lv_iconst (v := nI 0) hx hb dLa_read_17 (by decide +kernel) ?_
    exact ct_ri hx hb hr hlocks (vp_updL o0 0 v.toInt64, u) (Or.inl ⟨v, hw, rfl, rfl⟩) hP hD hS (Nat.le_refl _) (Nat.le_refl _) dLa_read_18
  · have hEx : E = th_IA ∨ E = th_IO := hxp.2.2.elim (fun z => Or.inl z.1) (fun z => Or.inr z.1)
    have hP : va_P (dC, dI) vwCl ((ob, .inl (k 4, 1, .inr (.inl o0))) :: wd k b P u.1 (us D 1 u.2)) H := by rw [List.append_nil] at hP; exact hP
    have hD : va_D A ((ob, .inl (k 4, 1, .inr (.inl o0))) :: wd k b P u.1 (us D 1 u.2)) := by rw [List.append_nil] at hD; exact hD
    rcases hEx with rfl | rfl
    · refine ex_catch (own := RLa) (E := th_IA) (h := 11) hown htab ⟨by decide, by decide, by decide, th_IA, hts _ tw_242, Or.inl ⟨va_Nw.use rfl (hE.1.1 _ en_250), rfl⟩⟩ h1 h2 h3 ?_
      refine lv_astore_n (lv' := [(2, .ref q), (0, .ref (b 0)), (1, .ref ob)]) hx hb dLa_read_11 rfl hl (by decide) rfl (fun ls hl => ?_)
      refine lv_iconst (v := nI 1) hx hb dLa_read_12 (by decide +kernel) ?_
      exact ct_ri hx hb hr hlocks (o0, u) (Or.inr ⟨th_IA, hxp, (if_pos rfl).symm⟩) hP hD hS (Nat.le_refl _) (Nat.le_refl _) dLa_read_13
    · refine ex_catch (own := RLa) (E := th_IO) (h := 14) hown htab ⟨by decide, by decide, by decide, th_IA, hts _ tw_242, Or.inr ⟨hE.2.1, ⟨by decide, by decide, by decide, th_IO, hts _ tw_243, Or.inl ⟨va_Nw.use rfl (hE.1.1 _ en_319), rfl⟩⟩⟩⟩ h1 h2 h3 ?_
      refine lv_astore_n (lv' := [(2, .ref q), (0, .ref (b 0)), (1, .ref ob)]) hx hb dLa_read_14 rfl hl (by decide) rfl (fun ls hl => ?_)
      refine lv_iconst (v := nI 2) hx hb dLa_read_15 (by decide +kernel) ?_
      exact ct_ri hx hb hr hlocks (o0, u) (Or.inr ⟨th_IO, hxp, (if_neg (by decide)).symm⟩) hP hD hS (Nat.le_refl _) (Nat.le_refl _) dLa_read_16
set_option maxHeartbeats 4000000 in
set_option maxRecDepth 100000 in
theorem hLa_wave (l : Launch) (hln : l.stackTraces = false) (dC : Nat → ClassId) (dI : Nat → Nat → Nat) (k : Nat → ClassId) (b P : Nat → Nat) (I : Nat → Nat → Int32) (D : Nat → Nat → UInt64) (sz : Nat) (ob : Nat) (o0 : (Nat → Int64)) (n st : Int32) (a : UInt64) (ha : fb_ 1055 a) (ns : Nat) (hn : ns ≤ 320) (h4 : I 0 4 = nI ns) (hc : ∀ j, j < 32 → D 5 j = hd_C j) : Met l yLa_wave (Cond.codeWith yLa_wave cLa_wave 7 (some .int) [(0, 12, 15, 13), (0, 12, 19, 15)] :: W0) ({ frames := 8, cells := 1, slots := 6, locals := 240 }) (va_Pc [.ref (b 0), .int n, .int st, .double a, .ref ob] (ct_pre (dC, dI) (la_ty k) ev_L ((ob, .inl (k 4, 1, .inr (.inl o0))) :: wd k b P I D) sz)) (va_Qi (fun r (u : (Nat → Int64) × ((Nat → Nat → Int32) × (Nat → Nat → UInt64))) => (∃ v : Int32, (fun r (u : (Nat → Nat → Int32) × (Nat → Nat → UInt64)) => ∃ q, 1 ≤ q ∧ q ≤ 64 ∧ n = nI q ∧ ∃ sp, 0 ≤ sp ∧ sp ≤ 31 ∧ st = nI sp ∧ ns + q ≤ 320 ∧ r = nI (ns + q) ∧ u = (ui I 0 4 (nI (ns + q)), hd_wr D 1 ns sp a q)) v u.2 ∧ r = nI 0 ∧ u.1 0 = v.toInt64) ∨ (∃ E, (fun E (u : (Nat → Nat → Int32) × (Nat → Nat → UInt64)) => u = (I, D) ∧ ((E = th_IA ∧ ¬ ((∃ q, 1 ≤ q ∧ q ≤ 64 ∧ n = nI q) ∧ ∃ sp, 0 ≤ sp ∧ sp ≤ 31 ∧ st = nI sp)) ∨ (E = th_IO ∧ ∃ q, 1 ≤ q ∧ q ≤ 64 ∧ n = nI q ∧ (∃ sp, 0 ≤ sp ∧ sp ≤ 31 ∧ st = nI sp) ∧ 320 < ns + q))) E u.2 ∧ r = (if E = th_IA then nI 1 else nI 2))) (fun u t => ct_at (dC, dI) (va_A ((ob, .inl (k 4, 1, .inr (.inl o0))) :: wd k b P I D) sz) ((fun (u : (Nat → Int64) × ((Nat → Nat → Int32) × (Nat → Nat → UInt64))) => (ob, .inl (k 4, 1, .inr (.inl u.1))) :: wd k b P u.2.1 u.2.2) u) t) (va_A ((ob, .inl (k 4, 1, .inr (.inl o0))) :: wd k b P I D) sz)) 1 6 (va_A ((ob, .inl (k 4, 1, .inr (.inl o0))) :: wd k b P I D) sz) := by
  refine ex_metW (cc := cLa_wave) (maxL := 7) (ret := some .int) (hh := [(0, 12, 15, 13), (0, 12, 19, 15)]) (by decide) rfl ?_
  intro p e s m args below meth c s₁ B hml htab hv
  obtain ⟨rfl, hsz, hP, hK, hD0, hE⟩ := hv
  have hx := B.exec
  have hb := B.bytes
  have hr := B.returns
  have hts : ∀ w ∈ W0, w.before [.ref (b 0), .int n, .int st, .double a, .ref ob].toArray s = true := fun w h => atoms_spec (ws := (Cond.codeWith yLa_wave cLa_wave 7 (some .int) [(0, 12, 15, 13), (0, 12, 19, 15)] :: W0)) B.pre w (List.mem_cons_of_mem _ h)
  have hown : s.vm.findClass RLa = some m.cls := findClass_of_methodNamed B.named
  have hlocks := B.notSynchronized
  subst hsz
  have hD := hD0.self (sz := s.heap.size)
  generalize hAe : va_A ((ob, .inl (k 4, 1, .inr (.inl o0))) :: wd k b P I D) s.heap.size = A at hD ⊢
  have hA : ∀ q : Nat, s.heap.size ≤ q → A q := fun q h => by rw [← hAe]; exact Or.inr h
  have hS : va_S A s.heap s.heap [] := va_S.rf
  have hl := lv_entry ([.ref (b 0), .int n, .int st, .double a, .ref ob]) (n := 7) (Nat.le_of_ble_eq_true rfl)
  rw [lg_entry_eq]
  generalize (lg_sl ([.ref (b 0), .int n, .int st, .double a, .ref ob]) ++ List.replicate (7 - (lg_sl ([.ref (b 0), .int n, .int st, .double a, .ref ob])).length) Slot.unset).toArray = ls at hl ⊢
  have hl : lv_has ls 7 [(0, .ref (b 0)), (1, .int n), (2, .int st), (3, .double a), (5, .ref ob)] := hl
  have hP : va_P (dC, dI) vwCl ([(ob, .inl (k 4, 1, .inr (.inl o0)))] ++ (wd k b P I D ++ [])) s.heap := by rw [List.append_nil]; exact hP
  have hD : va_D A ([(ob, .inl (k 4, 1, .inr (.inl o0)))] ++ (wd k b P I D ++ [])) := by rw [List.append_nil]; exact hD
  refine lv_aload hx hb dLa_wave_0 (lv_at hl 4 rfl) ?_
  refine lv_iconst (v := nI 0) hx hb dLa_wave_2 (by decide +kernel) ?_
  refine lv_aload_n hx hb dLa_wave_3 rfl (lv_at hl 0 rfl) ?_
  refine lv_iload_n hx hb dLa_wave_4 rfl (lv_at hl 1 rfl) ?_
  refine lv_iload_n hx hb dLa_wave_5 rfl (lv_at hl 2 rfl) ?_
  refine lv_dload_n hx hb dLa_wave_6 rfl (lv_at hl 3 rfl) ?_
  refine eg_i (C := "HearingDesk") (As := [.int n, .int st, .double a]) (rest := [.int (nI 0), .ref ob]) ⟨hx, hb, hml, hown, hts⟩ (kDe_wave l hln dC dI k b P I D _ n st a ha ns hn h4 hc) (cwV 3 hts (gw_V tw_418 tw_419 tw_420 tw_1 tw_421) rfl rfl rfl (by decide +kernel) ⟨Nat.le_of_ble_eq_true rfl, Nat.le_of_ble_eq_true rfl⟩) ⟨ct_blind (ev := ev_D) ev_D.blind, va_recv hK (sg_Pc hP) (ci := 7) (q0 := 0) rfl rfl, ct_now (A := A) (ev := ev_D) (fun U hU hW => hE.1.to hW (fun a cell h1 _ => by rw [hU]; exact h1)) (sg_Pc hP) (hK.sub (tys' := de_ty k) [0, 1, 2, 3] rfl) (sg_Dc hD)⟩ rfl hl.1 rfl (Nat.le_of_ble_eq_true rfl) dLa_wave_7 ⟨Nat.le_of_ble_eq_true rfl, Nat.le_of_ble_eq_true rfl⟩ hP hD hS hA (fun v u H locs hw hP hD hS => ?_) (fun E ce q u H locs hxp hP hD hS h1 h2 h3 => ?_)
  · have hP : va_P (dC, dI) vwCl ((ob, .inl (k 4, 1, .inr (.inl o0))) :: wd k b P u.1 u.2) H := by rw [List.append_nil] at hP; exact hP
    have hD : va_D A ((ob, .inl (k 4, 1, .inr (.inl o0))) :: wd k b P u.1 u.2) := by rw [List.append_nil] at hD; exact hD
    refine lv_i2l (v := v.toInt64) hx hb dLa_wave_10 rfl ?_
    refine rw_ast_l hx hb hK hP hD hS 0 4 rfl rfl (by decide) (by decide) dLa_wave_11 (fun H locs hP hD hS => ?_)
    have hP : va_P (dC, dI) vwCl ((ob, .inl (k 4, 1, .inr (.inl (vp_updL o0 0 v.toInt64)))) :: wd k b P u.1 u.2) H := hP
    have hD : va_D A ((ob, .inl (k 4, 1, .inr (.inl (vp_updL o0 0 v.toInt64)))) :: wd k b P u.1 u.2) := hD
    refine lv_goto (tgt := 23) hx hb dLa_wave_12 (by decide) ?_
    refine lv_iconst (v := nI 0) hx hb dLa_wave_23 (by decide +kernel) ?_
    exact ct_ri hx hb hr hlocks (vp_updL o0 0 v.toInt64, u) (Or.inl ⟨v, hw, rfl, rfl⟩) hP hD hS (Nat.le_refl _) (Nat.le_refl _) dLa_wave_24
  · have hEx : E = th_IA ∨ E = th_IO := hxp.2.elim (fun z => Or.inl z.1) (fun z => Or.inr z.1)
    have hP : va_P (dC, dI) vwCl ((ob, .inl (k 4, 1, .inr (.inl o0))) :: wd k b P u.1 u.2) H := by rw [List.append_nil] at hP; exact hP
    have hD : va_D A ((ob, .inl (k 4, 1, .inr (.inl o0))) :: wd k b P u.1 u.2) := by rw [List.append_nil] at hD; exact hD
    rcases hEx with rfl | rfl
    · refine ex_catch (own := RLa) (E := th_IA) (h := 15) hown htab ⟨by decide, by decide, by decide, th_IA, hts _ tw_242, Or.inl ⟨va_Nw.use rfl (hE.1.1 _ en_250), rfl⟩⟩ h1 h2 h3 ?_
      refine lv_astore (lv' := [(6, .ref q), (0, .ref (b 0)), (1, .int n), (2, .int st), (3, .double a), (5, .ref ob)]) hx hb dLa_wave_15 hl (by decide) rfl (fun ls hl => ?_)
      refine lv_iconst (v := nI 1) hx hb dLa_wave_17 (by decide +kernel) ?_
      exact ct_ri hx hb hr hlocks (o0, u) (Or.inr ⟨th_IA, hxp, (if_pos rfl).symm⟩) hP hD hS (Nat.le_refl _) (Nat.le_refl _) dLa_wave_18
    · refine ex_catch (own := RLa) (E := th_IO) (h := 19) hown htab ⟨by decide, by decide, by decide, th_IA, hts _ tw_242, Or.inr ⟨hE.2.1, ⟨by decide, by decide, by decide, th_IO, hts _ tw_243, Or.inl ⟨va_Nw.use rfl (hE.1.1 _ en_319), rfl⟩⟩⟩⟩ h1 h2 h3 ?_
      refine lv_astore (lv' := [(6, .ref q), (0, .ref (b 0)), (1, .int n), (2, .int st), (3, .double a), (5, .ref ob)]) hx hb dLa_wave_19 hl (by decide) rfl (fun ls hl => ?_)
      refine lv_iconst (v := nI 2) hx hb dLa_wave_21 (by decide +kernel) ?_
      exact ct_ri hx hb hr hlocks (o0, u) (Or.inr ⟨th_IO, hxp, (if_neg (by decide)).symm⟩) hP hD hS (Nat.le_refl _) (Nat.le_refl _) dLa_wave_22
set_option maxHeartbeats 4000000 in
set_option maxRecDepth 100000 in
theorem hLa_sample (l : Launch) (hln : l.stackTraces = false) (dC : Nat → ClassId) (dI : Nat → Nat → Nat) (k : Nat → ClassId) (b P : Nat → Nat) (I : Nat → Nat → Int32) (D : Nat → Nat → UInt64) (sz : Nat) (ob : Nat) (o0 : (Nat → UInt64)) (i : Int32) (ns : Nat) (hn : ns ≤ 320) (h4 : I 0 4 = nI ns) : Met l yLa_sample (Cond.codeWith yLa_sample cLa_sample 4 (some .int) [(0, 8, 11, 15)] :: W0) ({ frames := 8, cells := 1, slots := 6, locals := 240 }) (va_Pc [.ref (b 0), .int i, .ref ob] (ct_pre (dC, dI) (la_ty k) ev_L (wd k b P I D ++ [(ob, .inl (k 1, 1, wd_d o0))]) sz)) (va_Qi (fun r (u : (Nat → UInt64) × (Nat → Nat → Int32)) => (∃ v : UInt64, (fun r (u : Nat → Nat → Int32) => u = I ∧ ∃ j, j < ns ∧ i = nI j ∧ r = D 1 j) v u.2 ∧ r = nI 0 ∧ u.1 0 = v) ∨ (∃ E, (fun E (u : Nat → Nat → Int32) => u = I ∧ E = th_IO ∧ ¬ ∃ j, j < ns ∧ i = nI j) E u.2 ∧ r = nI 1)) (fun u t => ct_at (dC, dI) (va_A (wd k b P I D ++ [(ob, .inl (k 1, 1, wd_d o0))]) sz) ((fun (u : (Nat → UInt64) × (Nat → Nat → Int32)) => wd k b P u.2 D ++ [(ob, .inl (k 1, 1, wd_d u.1))]) u) t) (va_A (wd k b P I D ++ [(ob, .inl (k 1, 1, wd_d o0))]) sz)) 1 6 (va_A (wd k b P I D ++ [(ob, .inl (k 1, 1, wd_d o0))]) sz) := by
  refine ex_metW (cc := cLa_sample) (maxL := 4) (ret := some .int) (hh := [(0, 8, 11, 15)]) (by decide) rfl ?_
  intro p e s m args below meth c s₁ B hml htab hv
  obtain ⟨rfl, hsz, hP, hK, hD0, hE⟩ := hv
  have hx := B.exec
  have hb := B.bytes
  have hr := B.returns
  have hts : ∀ w ∈ W0, w.before [.ref (b 0), .int i, .ref ob].toArray s = true := fun w h => atoms_spec (ws := (Cond.codeWith yLa_sample cLa_sample 4 (some .int) [(0, 8, 11, 15)] :: W0)) B.pre w (List.mem_cons_of_mem _ h)
  have hown : s.vm.findClass RLa = some m.cls := findClass_of_methodNamed B.named
  have hlocks := B.notSynchronized
  subst hsz
  have hD := hD0.self (sz := s.heap.size)
  generalize hAe : va_A (wd k b P I D ++ [(ob, .inl (k 1, 1, wd_d o0))]) s.heap.size = A at hD ⊢
  have hA : ∀ q : Nat, s.heap.size ≤ q → A q := fun q h => by rw [← hAe]; exact Or.inr h
  have hS : va_S A s.heap s.heap [] := va_S.rf
  have hl := lv_entry ([.ref (b 0), .int i, .ref ob]) (n := 4) (Nat.le_of_ble_eq_true rfl)
  rw [lg_entry_eq]
  generalize (lg_sl ([.ref (b 0), .int i, .ref ob]) ++ List.replicate (4 - (lg_sl ([.ref (b 0), .int i, .ref ob])).length) Slot.unset).toArray = ls at hl ⊢
  have hl : lv_has ls 4 [(0, .ref (b 0)), (1, .int i), (2, .ref ob)] := hl
  have hP : va_P (dC, dI) vwCl ([] ++ (wd k b P I D ++ [(ob, .inl (k 1, 1, wd_d o0))])) s.heap := hP
  have hD : va_D A ([] ++ (wd k b P I D ++ [(ob, .inl (k 1, 1, wd_d o0))])) := hD
  refine lv_aload_n hx hb dLa_sample_0 rfl (lv_at hl 2 rfl) ?_
  refine lv_iconst (v := nI 0) hx hb dLa_sample_1 (by decide +kernel) ?_
  refine lv_aload_n hx hb dLa_sample_2 rfl (lv_at hl 0 rfl) ?_
  refine lv_iload_n hx hb dLa_sample_3 rfl (lv_at hl 1 rfl) ?_
  refine eg_d (C := "HearingDesk") (As := [.int i]) (rest := [.int (nI 0), .ref ob]) ⟨hx, hb, hml, hown, hts⟩ (kDe_sample l hln dC dI k b P I D _ i ns hn h4) (cwV 1 hts (gw_V tw_434 tw_435 tw_436 tw_1 tw_437) rfl rfl rfl (by decide +kernel) ⟨Nat.le_of_ble_eq_true rfl, Nat.le_of_ble_eq_true rfl⟩) ⟨ct_blind (ev := ev_D) ev_D.blind, va_recv hK (sg_Pc hP) (ci := 7) (q0 := 0) rfl rfl, ct_now (A := A) (ev := ev_D) (fun U hU hW => hE.1.to hW (fun a cell h1 _ => by rw [hU]; exact h1)) (sg_Pc hP) (hK.sub (tys' := de_ty k) [0, 1, 2, 3] rfl) (sg_Dc hD)⟩ rfl hl.1 rfl (Nat.le_of_ble_eq_true rfl) dLa_sample_4 ⟨Nat.le_of_ble_eq_true rfl, Nat.le_of_ble_eq_true rfl⟩ hP hD hS hA (fun v u H locs hw hP hD hS => ?_) (fun E ce q u H locs hxp hP hD hS h1 h2 h3 => ?_)
  · have hP : va_P (dC, dI) vwCl (wd k b P u D ++ [(ob, .inl (k 1, 1, wd_d o0))]) H := hP
    have hD : va_D A (wd k b P u D ++ [(ob, .inl (k 1, 1, wd_d o0))]) := hD
    refine rw_ast_d hx hb hK hP hD hS 48 1 rfl rfl (by decide) (by decide) dLa_sample_7 (fun H locs hP hD hS => ?_)
    have hP : va_P (dC, dI) vwCl (wd k b P u D ++ [(ob, .inl (k 1, 1, wd_d (vf_upd o0 0 v)))]) H := hP
    have hD : va_D A (wd k b P u D ++ [(ob, .inl (k 1, 1, wd_d (vf_upd o0 0 v)))]) := hD
    refine lv_goto (tgt := 14) hx hb dLa_sample_8 (by decide) ?_
    refine lv_iconst (v := nI 0) hx hb dLa_sample_14 (by decide +kernel) ?_
    exact ct_ri hx hb hr hlocks (vf_upd o0 0 v, u) (Or.inl ⟨v, hw, rfl, rfl⟩) hP hD hS (Nat.le_refl _) (Nat.le_refl _) dLa_sample_15
  · have hEx : E = th_IO := hxp.2.1
    have hP : va_P (dC, dI) vwCl (wd k b P u D ++ [(ob, .inl (k 1, 1, wd_d o0))]) H := hP
    have hD : va_D A (wd k b P u D ++ [(ob, .inl (k 1, 1, wd_d o0))]) := hD
    rcases hEx with rfl
    · refine ex_catch (own := RLa) (E := th_IO) (h := 11) hown htab ⟨by decide, by decide, by decide, th_IO, hts _ tw_243, Or.inl ⟨va_Nw.use rfl (hE.1.1 _ en_319), rfl⟩⟩ h1 h2 h3 ?_
      refine lv_astore_n (lv' := [(3, .ref q), (0, .ref (b 0)), (1, .int i), (2, .ref ob)]) hx hb dLa_sample_11 rfl hl (by decide) rfl (fun ls hl => ?_)
      refine lv_iconst (v := nI 1) hx hb dLa_sample_12 (by decide +kernel) ?_
      exact ct_ri hx hb hr hlocks (o0, u) (Or.inr ⟨th_IO, hxp, rfl⟩) hP hD hS (Nat.le_refl _) (Nat.le_refl _) dLa_sample_13
set_option maxHeartbeats 4000000 in
set_option maxRecDepth 100000 in
theorem hLa_power (l : Launch) (hln : l.stackTraces = false) (dC : Nat → ClassId) (dI : Nat → Nat → Nat) (k : Nat → ClassId) (b P : Nat → Nat) (I : Nat → Nat → Int32) (D : Nat → Nat → UInt64) (sz : Nat) (ob : Nat) (o0 : (Nat → UInt64)) (f9 k9 : Int32) (ns : Nat) (hn : ns ≤ 320) (h4 : I 0 4 = nI ns) (hsm : ∀ i, i < ns → fb_ 1057 (D 1 i)) (hc : ∀ j, j < 32 → D 5 j = hd_C j) (hsn : ∀ j, j < 32 → D 6 j = hd_S j) (hwi : ∀ j, j < 32 → D 7 j = hd_W j) : Met l yLa_power (Cond.codeWith yLa_power cLa_power 5 (some .int) [(0, 9, 12, 15), (0, 9, 16, 13)] :: W0) ({ frames := 8, cells := 1, slots := 6, locals := 240 }) (va_Pc [.ref (b 0), .int f9, .int k9, .ref ob] (ct_pre (dC, dI) (la_ty k) ev_L (wd k b P I D ++ [(ob, .inl (k 1, 1, wd_d o0))]) sz)) (va_Qi (fun r (u : (Nat → UInt64) × (Nat → UInt64)) => (∃ v : UInt64, (fun r (u : Nat → UInt64) => ∃ j, j < hd_nf ns ∧ f9 = nI j ∧ ∃ q, 0 ≤ q ∧ q ≤ 16 ∧ k9 = nI q ∧ r = hd_P (D 1) j q) v u.2 ∧ r = nI 0 ∧ u.1 0 = v) ∨ (∃ E, (fun E (u : Nat → UInt64) => u = D 2 ∧ ((E = th_IO ∧ ¬ ∃ j, j < hd_nf ns ∧ f9 = nI j) ∨ (E = th_IA ∧ (∃ j, j < hd_nf ns ∧ f9 = nI j) ∧ ¬ ∃ q, 0 ≤ q ∧ q ≤ 16 ∧ k9 = nI q))) E u.2 ∧ r = (if E = th_IO then nI 1 else nI 2))) (fun u t => ct_at (dC, dI) (va_A (wd k b P I D ++ [(ob, .inl (k 1, 1, wd_d o0))]) sz) ((fun (u : (Nat → UInt64) × (Nat → UInt64)) => wd k b P I (us D 2 u.2) ++ [(ob, .inl (k 1, 1, wd_d u.1))]) u) t) (va_A (wd k b P I D ++ [(ob, .inl (k 1, 1, wd_d o0))]) sz)) 1 6 (va_A (wd k b P I D ++ [(ob, .inl (k 1, 1, wd_d o0))]) sz) := by
  refine ex_metW (cc := cLa_power) (maxL := 5) (ret := some .int) (hh := [(0, 9, 12, 15), (0, 9, 16, 13)]) (by decide) rfl ?_
  intro p e s m args below meth c s₁ B hml htab hv
  obtain ⟨rfl, hsz, hP, hK, hD0, hE⟩ := hv
  have hx := B.exec
  have hb := B.bytes
  have hr := B.returns
  have hts : ∀ w ∈ W0, w.before [.ref (b 0), .int f9, .int k9, .ref ob].toArray s = true := fun w h => atoms_spec (ws := (Cond.codeWith yLa_power cLa_power 5 (some .int) [(0, 9, 12, 15), (0, 9, 16, 13)] :: W0)) B.pre w (List.mem_cons_of_mem _ h)
  have hown : s.vm.findClass RLa = some m.cls := findClass_of_methodNamed B.named
  have hlocks := B.notSynchronized
  subst hsz
  have hD := hD0.self (sz := s.heap.size)
  generalize hAe : va_A (wd k b P I D ++ [(ob, .inl (k 1, 1, wd_d o0))]) s.heap.size = A at hD ⊢
  have hA : ∀ q : Nat, s.heap.size ≤ q → A q := fun q h => by rw [← hAe]; exact Or.inr h
  have hS : va_S A s.heap s.heap [] := va_S.rf
  have hl := lv_entry ([.ref (b 0), .int f9, .int k9, .ref ob]) (n := 5) (Nat.le_of_ble_eq_true rfl)
  rw [lg_entry_eq]
  generalize (lg_sl ([.ref (b 0), .int f9, .int k9, .ref ob]) ++ List.replicate (5 - (lg_sl ([.ref (b 0), .int f9, .int k9, .ref ob])).length) Slot.unset).toArray = ls at hl ⊢
  have hl : lv_has ls 5 [(0, .ref (b 0)), (1, .int f9), (2, .int k9), (3, .ref ob)] := hl
  have hP : va_P (dC, dI) vwCl ([] ++ (wd k b P I D ++ [(ob, .inl (k 1, 1, wd_d o0))])) s.heap := hP
  have hD : va_D A ([] ++ (wd k b P I D ++ [(ob, .inl (k 1, 1, wd_d o0))])) := hD
  refine lv_aload_n hx hb dLa_power_0 rfl (lv_at hl 3 rfl) ?_
  refine lv_iconst (v := nI 0) hx hb dLa_power_1 (by decide +kernel) ?_
  refine lv_aload_n hx hb dLa_power_2 rfl (lv_at hl 0 rfl) ?_
  refine lv_iload_n hx hb dLa_power_3 rfl (lv_at hl 1 rfl) ?_
  refine lv_iload_n hx hb dLa_power_4 rfl (lv_at hl 2 rfl) ?_
  refine eg_d (C := "HearingDesk") (As := [.int f9, .int k9]) (rest := [.int (nI 0), .ref ob]) ⟨hx, hb, hml, hown, hts⟩ (kDe_power l hln dC dI k b P I D _ f9 k9 ns hn h4 hsm hc hsn hwi) (cwV 2 hts (gw_V tw_442 tw_443 tw_444 tw_1 tw_445) rfl rfl rfl (by decide +kernel) ⟨Nat.le_of_ble_eq_true rfl, Nat.le_of_ble_eq_true rfl⟩) ⟨ct_blind (ev := ev_D) ev_D.blind, va_recv hK (sg_Pc hP) (ci := 7) (q0 := 0) rfl rfl, ct_now (A := A) (ev := ev_D) (fun U hU hW => hE.1.to hW (fun a cell h1 _ => by rw [hU]; exact h1)) (sg_Pc hP) (hK.sub (tys' := de_ty k) [0, 1, 2, 3] rfl) (sg_Dc hD)⟩ rfl hl.1 rfl (Nat.le_of_ble_eq_true rfl) dLa_power_5 ⟨Nat.le_of_ble_eq_true rfl, Nat.le_of_ble_eq_true rfl⟩ hP hD hS hA (fun v u H locs hw hP hD hS => ?_) (fun E ce q u H locs hxp hP hD hS h1 h2 h3 => ?_)
  · have hP : va_P (dC, dI) vwCl (wd k b P I (us D 2 u) ++ [(ob, .inl (k 1, 1, wd_d o0))]) H := hP
    have hD : va_D A (wd k b P I (us D 2 u) ++ [(ob, .inl (k 1, 1, wd_d o0))]) := hD
    refine rw_ast_d hx hb hK hP hD hS 48 1 rfl rfl (by decide) (by decide) dLa_power_8 (fun H locs hP hD hS => ?_)
    have hP : va_P (dC, dI) vwCl (wd k b P I (us D 2 u) ++ [(ob, .inl (k 1, 1, wd_d (vf_upd o0 0 v)))]) H := hP
    have hD : va_D A (wd k b P I (us D 2 u) ++ [(ob, .inl (k 1, 1, wd_d (vf_upd o0 0 v)))]) := hD
    refine lv_goto (tgt := 20) hx hb dLa_power_9 (by decide) ?_
    refine lv_iconst (v := nI 0) hx hb dLa_power_20 (by decide +kernel) ?_
    exact ct_ri hx hb hr hlocks (vf_upd o0 0 v, u) (Or.inl ⟨v, hw, rfl, rfl⟩) hP hD hS (Nat.le_refl _) (Nat.le_refl _) dLa_power_21
  · have hEx : E = th_IO ∨ E = th_IA := hxp.2.elim (fun z => Or.inl z.1) (fun z => Or.inr z.1)
    have hP : va_P (dC, dI) vwCl (wd k b P I (us D 2 u) ++ [(ob, .inl (k 1, 1, wd_d o0))]) H := hP
    have hD : va_D A (wd k b P I (us D 2 u) ++ [(ob, .inl (k 1, 1, wd_d o0))]) := hD
    rcases hEx with rfl | rfl
    · refine ex_catch (own := RLa) (E := th_IO) (h := 12) hown htab ⟨by decide, by decide, by decide, th_IO, hts _ tw_243, Or.inl ⟨va_Nw.use rfl (hE.1.1 _ en_319), rfl⟩⟩ h1 h2 h3 ?_
      refine lv_astore (lv' := [(4, .ref q), (0, .ref (b 0)), (1, .int f9), (2, .int k9), (3, .ref ob)]) hx hb dLa_power_12 hl (by decide) rfl (fun ls hl => ?_)
      refine lv_iconst (v := nI 1) hx hb dLa_power_14 (by decide +kernel) ?_
      exact ct_ri hx hb hr hlocks (o0, u) (Or.inr ⟨th_IO, hxp, (if_pos rfl).symm⟩) hP hD hS (Nat.le_refl _) (Nat.le_refl _) dLa_power_15
    · refine ex_catch (own := RLa) (E := th_IA) (h := 16) hown htab ⟨by decide, by decide, by decide, th_IO, hts _ tw_243, Or.inr ⟨hE.2.2.1, ⟨by decide, by decide, by decide, th_IA, hts _ tw_242, Or.inl ⟨va_Nw.use rfl (hE.1.1 _ en_250), rfl⟩⟩⟩⟩ h1 h2 h3 ?_
      refine lv_astore (lv' := [(4, .ref q), (0, .ref (b 0)), (1, .int f9), (2, .int k9), (3, .ref ob)]) hx hb dLa_power_16 hl (by decide) rfl (fun ls hl => ?_)
      refine lv_iconst (v := nI 2) hx hb dLa_power_18 (by decide +kernel) ?_
      exact ct_ri hx hb hr hlocks (o0, u) (Or.inr ⟨th_IA, hxp, (if_neg (by decide)).symm⟩) hP hD hS (Nat.le_refl _) (Nat.le_refl _) dLa_power_19
set_option maxHeartbeats 4000000 in
set_option maxRecDepth 100000 in
theorem hLa_level (l : Launch) (hln : l.stackTraces = false) (dC : Nat → ClassId) (dI : Nat → Nat → Nat) (k : Nat → ClassId) (b P : Nat → Nat) (I : Nat → Nat → Int32) (D : Nat → Nat → UInt64) (sz : Nat) (ob : Nat) (o0 : (Nat → UInt64)) (f9 k9 : Int32) (ns : Nat) (hn : ns ≤ 320) (h4 : I 0 4 = nI ns) (hsm : ∀ i, i < ns → fb_ 1057 (D 1 i)) (hc : ∀ j, j < 32 → D 5 j = hd_C j) (hsn : ∀ j, j < 32 → D 6 j = hd_S j) (hwi : ∀ j, j < 32 → D 7 j = hd_W j) (jd9 : Nat) (hjd : jd9 ≤ hd_nf ns) (h5 : I 0 5 = nI jd9) (hj3 : ∀ q, q < 4 * jd9 → D 3 q = hw_su (D 1) q) (hj4 : ∀ q, q < 4 * jd9 → D 4 q = hw_lv (D 1) 0 q) : Met l yLa_level (Cond.codeWith yLa_level cLa_level 5 (some .int) [(0, 9, 12, 15), (0, 9, 16, 13)] :: W0) ({ frames := 8, cells := 1, slots := 6, locals := 240 }) (va_Pc [.ref (b 0), .int f9, .int k9, .ref ob] (ct_pre (dC, dI) (la_ty k) ev_L (wd k b P I D ++ [(ob, .inl (k 1, 1, wd_d o0))]) sz)) (va_Qi (fun r (u : (Nat → UInt64) × ((Nat → Nat → Int32) × (Nat → Nat → UInt64))) => (∃ v : UInt64, (fun r (u : (Nat → Nat → Int32) × (Nat → Nat → UInt64)) => (∃ j, j < hd_nf ns ∧ f9 = nI j ∧ ∃ q, 0 ≤ q ∧ q ≤ 3 ∧ k9 = nI q ∧ r = hd_lev (D 1) j q) ∧ u.1 = ui I 0 5 (nI (hd_nf ns)) ∧ (∀ c, c ≠ 2 → c ≠ 3 → c ≠ 4 → u.2 c = D c) ∧ (∀ q, q < 4 * hd_nf ns → u.2 3 q = hw_su (D 1) q) ∧ (∀ q, q < 4 * hd_nf ns → u.2 4 q = hw_lv (D 1) 0 q)) v u.2 ∧ r = nI 0 ∧ u.1 0 = v) ∨ (∃ E, (fun E (u : (Nat → Nat → Int32) × (Nat → Nat → UInt64)) => u = (I, D) ∧ ((E = th_IO ∧ ¬ ∃ j, j < hd_nf ns ∧ f9 = nI j) ∨ (E = th_IA ∧ (∃ j, j < hd_nf ns ∧ f9 = nI j) ∧ ¬ ∃ q, 0 ≤ q ∧ q ≤ 3 ∧ k9 = nI q))) E u.2 ∧ r = (if E = th_IO then nI 1 else nI 2))) (fun u t => ct_at (dC, dI) (va_A (wd k b P I D ++ [(ob, .inl (k 1, 1, wd_d o0))]) sz) ((fun (u : (Nat → UInt64) × ((Nat → Nat → Int32) × (Nat → Nat → UInt64))) => wd k b P u.2.1 u.2.2 ++ [(ob, .inl (k 1, 1, wd_d u.1))]) u) t) (va_A (wd k b P I D ++ [(ob, .inl (k 1, 1, wd_d o0))]) sz)) 1 6 (va_A (wd k b P I D ++ [(ob, .inl (k 1, 1, wd_d o0))]) sz) := by
  refine ex_metW (cc := cLa_level) (maxL := 5) (ret := some .int) (hh := [(0, 9, 12, 15), (0, 9, 16, 13)]) (by decide) rfl ?_
  intro p e s m args below meth c s₁ B hml htab hv
  obtain ⟨rfl, hsz, hP, hK, hD0, hE⟩ := hv
  have hx := B.exec
  have hb := B.bytes
  have hr := B.returns
  have hts : ∀ w ∈ W0, w.before [.ref (b 0), .int f9, .int k9, .ref ob].toArray s = true := fun w h => atoms_spec (ws := (Cond.codeWith yLa_level cLa_level 5 (some .int) [(0, 9, 12, 15), (0, 9, 16, 13)] :: W0)) B.pre w (List.mem_cons_of_mem _ h)
  have hown : s.vm.findClass RLa = some m.cls := findClass_of_methodNamed B.named
  have hlocks := B.notSynchronized
  subst hsz
  have hD := hD0.self (sz := s.heap.size)
  generalize hAe : va_A (wd k b P I D ++ [(ob, .inl (k 1, 1, wd_d o0))]) s.heap.size = A at hD ⊢
  have hA : ∀ q : Nat, s.heap.size ≤ q → A q := fun q h => by rw [← hAe]; exact Or.inr h
  have hS : va_S A s.heap s.heap [] := va_S.rf
  have hl := lv_entry ([.ref (b 0), .int f9, .int k9, .ref ob]) (n := 5) (Nat.le_of_ble_eq_true rfl)
  rw [lg_entry_eq]
  generalize (lg_sl ([.ref (b 0), .int f9, .int k9, .ref ob]) ++ List.replicate (5 - (lg_sl ([.ref (b 0), .int f9, .int k9, .ref ob])).length) Slot.unset).toArray = ls at hl ⊢
  have hl : lv_has ls 5 [(0, .ref (b 0)), (1, .int f9), (2, .int k9), (3, .ref ob)] := hl
  have hP : va_P (dC, dI) vwCl ([] ++ (wd k b P I D ++ [(ob, .inl (k 1, 1, wd_d o0))])) s.heap := hP
  have hD : va_D A ([] ++ (wd k b P I D ++ [(ob, .inl (k 1, 1, wd_d o0))])) := hD
  refine lv_aload_n hx hb dLa_level_0 rfl (lv_at hl 3 rfl) ?_
  refine lv_iconst (v := nI 0) hx hb dLa_level_1 (by decide +kernel) ?_
  refine lv_aload_n hx hb dLa_level_2 rfl (lv_at hl 0 rfl) ?_
  refine lv_iload_n hx hb dLa_level_3 rfl (lv_at hl 1 rfl) ?_
  refine lv_iload_n hx hb dLa_level_4 rfl (lv_at hl 2 rfl) ?_
  refine eg_d (C := "HearingDesk") (As := [.int f9, .int k9]) (rest := [.int (nI 0), .ref ob]) ⟨hx, hb, hml, hown, hts⟩ (kDe_level l hln dC dI k b P I D _ f9 k9 ns hn h4 hsm hc hsn hwi jd9 hjd h5 hj3 hj4) (cwV 2 hts (gw_V tw_464 tw_465 tw_466 tw_1 tw_467) rfl rfl rfl (by decide +kernel) ⟨Nat.le_of_ble_eq_true rfl, Nat.le_of_ble_eq_true rfl⟩) ⟨ct_blind (ev := ev_D) ev_D.blind, va_recv hK (sg_Pc hP) (ci := 7) (q0 := 0) rfl rfl, ct_now (A := A) (ev := ev_D) (fun U hU hW => hE.1.to hW (fun a cell h1 _ => by rw [hU]; exact h1)) (sg_Pc hP) (hK.sub (tys' := de_ty k) [0, 1, 2, 3] rfl) (sg_Dc hD)⟩ rfl hl.1 rfl (Nat.le_of_ble_eq_true rfl) dLa_level_5 ⟨Nat.le_of_ble_eq_true rfl, Nat.le_of_ble_eq_true rfl⟩ hP hD hS hA (fun v u H locs hw hP hD hS => ?_) (fun E ce q u H locs hxp hP hD hS h1 h2 h3 => ?_)
  · have hP : va_P (dC, dI) vwCl (wd k b P u.1 u.2 ++ [(ob, .inl (k 1, 1, wd_d o0))]) H := hP
    have hD : va_D A (wd k b P u.1 u.2 ++ [(ob, .inl (k 1, 1, wd_d o0))]) := hD
    refine rw_ast_d hx hb hK hP hD hS 48 1 rfl rfl (by decide) (by decide) dLa_level_8 (fun H locs hP hD hS => ?_)
    have hP : va_P (dC, dI) vwCl (wd k b P u.1 u.2 ++ [(ob, .inl (k 1, 1, wd_d (vf_upd o0 0 v)))]) H := hP
    have hD : va_D A (wd k b P u.1 u.2 ++ [(ob, .inl (k 1, 1, wd_d (vf_upd o0 0 v)))]) := hD
    refine lv_goto (tgt := 20) hx hb dLa_level_9 (by decide) ?_
    refine lv_iconst (v := nI 0) hx hb dLa_level_20 (by decide +kernel) ?_
    exact ct_ri hx hb hr hlocks (vf_upd o0 0 v, u) (Or.inl ⟨v, hw, rfl, rfl⟩) hP hD hS (Nat.le_refl _) (Nat.le_refl _) dLa_level_21
  · have hEx : E = th_IO ∨ E = th_IA := hxp.2.elim (fun z => Or.inl z.1) (fun z => Or.inr z.1)
    have hP : va_P (dC, dI) vwCl (wd k b P u.1 u.2 ++ [(ob, .inl (k 1, 1, wd_d o0))]) H := hP
    have hD : va_D A (wd k b P u.1 u.2 ++ [(ob, .inl (k 1, 1, wd_d o0))]) := hD
    rcases hEx with rfl | rfl
    · refine ex_catch (own := RLa) (E := th_IO) (h := 12) hown htab ⟨by decide, by decide, by decide, th_IO, hts _ tw_243, Or.inl ⟨va_Nw.use rfl (hE.1.1 _ en_319), rfl⟩⟩ h1 h2 h3 ?_
      refine lv_astore (lv' := [(4, .ref q), (0, .ref (b 0)), (1, .int f9), (2, .int k9), (3, .ref ob)]) hx hb dLa_level_12 hl (by decide) rfl (fun ls hl => ?_)
      refine lv_iconst (v := nI 1) hx hb dLa_level_14 (by decide +kernel) ?_
      exact ct_ri hx hb hr hlocks (o0, u) (Or.inr ⟨th_IO, hxp, (if_pos rfl).symm⟩) hP hD hS (Nat.le_refl _) (Nat.le_refl _) dLa_level_15
    · refine ex_catch (own := RLa) (E := th_IA) (h := 16) hown htab ⟨by decide, by decide, by decide, th_IO, hts _ tw_243, Or.inr ⟨hE.2.2.1, ⟨by decide, by decide, by decide, th_IA, hts _ tw_242, Or.inl ⟨va_Nw.use rfl (hE.1.1 _ en_250), rfl⟩⟩⟩⟩ h1 h2 h3 ?_
      refine lv_astore (lv' := [(4, .ref q), (0, .ref (b 0)), (1, .int f9), (2, .int k9), (3, .ref ob)]) hx hb dLa_level_16 hl (by decide) rfl (fun ls hl => ?_)
      refine lv_iconst (v := nI 2) hx hb dLa_level_18 (by decide +kernel) ?_
      exact ct_ri hx hb hr hlocks (o0, u) (Or.inr ⟨th_IA, hxp, (if_neg (by decide)).symm⟩) hP hD hS (Nat.le_refl _) (Nat.le_refl _) dLa_level_19
set_option maxHeartbeats 4000000 in
set_option maxRecDepth 100000 in
theorem hLa_ways (l : Launch) (hln : l.stackTraces = false) (dC : Nat → ClassId) (dI : Nat → Nat → Nat) (k : Nat → ClassId) (b P : Nat → Nat) (I : Nat → Nat → Int32) (D : Nat → Nat → UInt64) (sz : Nat) (th lm : UInt64) (gp : Int32) : Met l yLa_ways (Cond.codeWith yLa_ways cLa_ways 7 (some .int) [(0, 8, 11, 13)] :: W0) ({ frames := 8, cells := 1, slots := 6, locals := 240 }) (va_Pc [.ref (b 0), .double th, .int gp, .double lm] (ct_pre (dC, dI) (la_ty k) ev_L (wd k b P I D) sz)) (va_Qi (fun r (u : ((Nat → Nat → Int32) × (Nat → Nat → UInt64))) => ((fun (u : (Nat → Nat → Int32) × (Nat → Nat → UInt64)) => FP.dcmp th 0 = some .gt ∧ ¬ FP.dcmp lm 0 = some .lt ∧ ∃ g, 1 ≤ g ∧ g ≤ 4 ∧ gp = nI g ∧ u = (ui I 0 2 (nI g), ud (ud D 0 0 th) 0 1 lm)) u ∧ r = nI 0) ∨ (∃ E, (fun E (u : (Nat → Nat → Int32) × (Nat → Nat → UInt64)) => u = (I, D) ∧ E = th_IA ∧ ¬ (FP.dcmp th 0 = some .gt ∧ (∃ g, 1 ≤ g ∧ g ≤ 4 ∧ gp = nI g) ∧ ¬ FP.dcmp lm 0 = some .lt)) E u ∧ r = nI 1)) (fun u t => ct_at (dC, dI) (va_A (wd k b P I D) sz) ((fun (u : ((Nat → Nat → Int32) × (Nat → Nat → UInt64))) => wd k b P u.1 u.2) u) t) (va_A (wd k b P I D) sz)) 1 6 (va_A (wd k b P I D) sz) := by
  refine ex_metW (cc := cLa_ways) (maxL := 7) (ret := some .int) (hh := [(0, 8, 11, 13)]) (by decide) rfl ?_
  intro p e s m args below meth c s₁ B hml htab hv
  obtain ⟨rfl, hsz, hP, hK, hD0, hE⟩ := hv
  have hx := B.exec
  have hb := B.bytes
  have hr := B.returns
  have hts : ∀ w ∈ W0, w.before [.ref (b 0), .double th, .int gp, .double lm].toArray s = true := fun w h => atoms_spec (ws := (Cond.codeWith yLa_ways cLa_ways 7 (some .int) [(0, 8, 11, 13)] :: W0)) B.pre w (List.mem_cons_of_mem _ h)
  have hown : s.vm.findClass RLa = some m.cls := findClass_of_methodNamed B.named
  have hlocks := B.notSynchronized
  subst hsz
  have hD := hD0.self (sz := s.heap.size)
  generalize hAe : va_A (wd k b P I D) s.heap.size = A at hD ⊢
  have hA : ∀ q : Nat, s.heap.size ≤ q → A q := fun q h => by rw [← hAe]; exact Or.inr h
  have hS : va_S A s.heap s.heap [] := va_S.rf
  have hl := lv_entry ([.ref (b 0), .double th, .int gp, .double lm]) (n := 7) (Nat.le_of_ble_eq_true rfl)
  rw [lg_entry_eq]
  generalize (lg_sl ([.ref (b 0), .double th, .int gp, .double lm]) ++ List.replicate (7 - (lg_sl ([.ref (b 0), .double th, .int gp, .double lm])).length) Slot.unset).toArray = ls at hl ⊢
  have hl : lv_has ls 7 [(0, .ref (b 0)), (1, .double th), (3, .int gp), (4, .double lm)] := hl
  have hP : va_P (dC, dI) vwCl ([] ++ (wd k b P I D ++ [])) s.heap := by rw [List.append_nil]; exact hP
  have hD : va_D A ([] ++ (wd k b P I D ++ [])) := by rw [List.append_nil]; exact hD
  refine lv_aload_n hx hb dLa_ways_0 rfl (lv_at hl 0 rfl) ?_
  refine lv_dload_n hx hb dLa_ways_1 rfl (lv_at hl 1 rfl) ?_
  refine lv_iload_n hx hb dLa_ways_2 rfl (lv_at hl 2 rfl) ?_
  refine lv_dload hx hb dLa_ways_3 (lv_at hl 3 rfl) ?_
  refine eg_v (C := "HearingDesk") (As := [.double th, .int gp, .double lm]) (rest := []) ⟨hx, hb, hml, hown, hts⟩ (kDe_ways l hln dC dI k b P I D _ th lm gp) (cwV 3 hts (gw_V tw_491 tw_492 tw_493 tw_1 tw_494) rfl rfl rfl (by decide +kernel) ⟨Nat.le_of_ble_eq_true rfl, Nat.le_of_ble_eq_true rfl⟩) ⟨ct_blind (ev := ev_D) ev_D.blind, va_recv hK (sg_Pc hP) (ci := 7) (q0 := 0) rfl rfl, ct_now (A := A) (ev := ev_D) (fun U hU hW => hE.1.to hW (fun a cell h1 _ => by rw [hU]; exact h1)) (sg_Pc hP) (hK.sub (tys' := de_ty k) [0, 1, 2, 3] rfl) (sg_Dc hD)⟩ rfl hl.1 rfl (Nat.le_of_ble_eq_true rfl) dLa_ways_5 ⟨Nat.le_of_ble_eq_true rfl, Nat.le_of_ble_eq_true rfl⟩ hP hD hS hA (fun u H locs hw hP hD hS => ?_) (fun E ce q u H locs hxp hP hD hS h1 h2 h3 => ?_)
  · have hP : va_P (dC, dI) vwCl (wd k b P u.1 u.2) H := by rw [List.append_nil] at hP; exact hP
    have hD : va_D A (wd k b P u.1 u.2) := by rw [List.append_nil] at hD; exact hD
    refine lv_goto (tgt := 15) hx hb dLa_ways_8 (by decide) ?_
    refine lv_iconst (v := nI 0) hx hb dLa_ways_15 (by decide +kernel) ?_
    exact ct_ri hx hb hr hlocks u (Or.inl ⟨hw, rfl⟩) hP hD hS (Nat.le_refl _) (Nat.le_refl _) dLa_ways_16
  · have hEx : E = th_IA := hxp.2.1
    have hP : va_P (dC, dI) vwCl (wd k b P u.1 u.2) H := by rw [List.append_nil] at hP; exact hP
    have hD : va_D A (wd k b P u.1 u.2) := by rw [List.append_nil] at hD; exact hD
    rcases hEx with rfl
    · refine ex_catch (own := RLa) (E := th_IA) (h := 11) hown htab ⟨by decide, by decide, by decide, th_IA, hts _ tw_242, Or.inl ⟨va_Nw.use rfl (hE.1.1 _ en_250), rfl⟩⟩ h1 h2 h3 ?_
      refine lv_astore (lv' := [(6, .ref q), (0, .ref (b 0)), (1, .double th), (3, .int gp), (4, .double lm)]) hx hb dLa_ways_11 hl (by decide) rfl (fun ls hl => ?_)
      refine lv_iconst (v := nI 1) hx hb dLa_ways_13 (by decide +kernel) ?_
      exact ct_ri hx hb hr hlocks u (Or.inr ⟨th_IA, hxp, rfl⟩) hP hD hS (Nat.le_refl _) (Nat.le_refl _) dLa_ways_14
set_option maxHeartbeats 4000000 in
set_option maxRecDepth 100000 in
theorem hLa_learn (l : Launch) (hln : l.stackTraces = false) (dC : Nat → ClassId) (dI : Nat → Nat → Nat) (k : Nat → ClassId) (b P : Nat → Nat) (I : Nat → Nat → Int32) (D : Nat → Nat → UInt64) (sz : Nat) (ob : Nat) (o0 : (Nat → Int64)) (le f9 n9 : Int32) (ns : Nat) (hn : ns ≤ 320) (h4 : I 0 4 = nI ns) (hsm : ∀ i, i < ns → fb_ 1057 (D 1 i)) (hc : ∀ j, j < 32 → D 5 j = hd_C j) (hsn : ∀ j, j < 32 → D 6 j = hd_S j) (hwi : ∀ j, j < 32 → D 7 j = hd_W j) (jd9 : Nat) (hjd : jd9 ≤ hd_nf ns) (h5 : I 0 5 = nI jd9) (hj3 : ∀ q, q < 4 * jd9 → D 3 q = hw_su (D 1) q) (hj4 : ∀ q, q < 4 * jd9 → D 4 q = hw_lv (D 1) 0 q) (np : Nat) (hnp : np ≤ 6) (h6 : I 0 6 = nI np) (hp6 : ∀ j, j < 6 → P j < 6) : Met l yLa_learn (Cond.codeWith yLa_learn cLa_learn 6 (some .int) [(0, 12, 15, 13), (0, 12, 19, 15)] :: W0) ({ frames := 8, cells := 1, slots := 6, locals := 240 }) (va_Pc [.ref (b 0), .int le, .int f9, .int n9, .ref ob] (ct_pre (dC, dI) (la_ty k) ev_L ((ob, .inl (k 4, 1, .inr (.inl o0))) :: wd k b P I D) sz)) (va_Qi (fun r (u : (Nat → Int64) × ((Nat → Nat → Int32) × (Nat → Nat → UInt64))) => (∃ v : Int32, (fun r (u : (Nat → Nat → Int32) × (Nat → Nat → UInt64)) => (∃ q, 97 ≤ q ∧ q ≤ 122 ∧ le = nI q) ∧ ∃ q, 1 ≤ q ∧ q ≤ 8 ∧ n9 = nI q ∧ ∃ f, f + q ≤ hd_nf ns ∧ f9 = nI f ∧ np < 6 ∧ r = nI (np + 1) ∧ u.1 = ui (ui (ui (ui I 0 5 (nI (hd_nf ns))) 2 (P np) le) 3 (P np) (nI q)) 0 6 (nI (np + 1)) ∧ (∀ z, z < 4 * q → u.2 (10 + P np) z = hw_lv (D 1) f z) ∧ (∀ c, c ≠ 2 → c ≠ 3 → c ≠ 4 → c ≠ 10 + P np → u.2 c = D c) ∧ (∀ q, q < 4 * hd_nf ns → u.2 3 q = hw_su (D 1) q) ∧ (∀ q, q < 4 * hd_nf ns → u.2 4 q = hw_lv (D 1) 0 q)) v u.2 ∧ r = nI 0 ∧ u.1 0 = v.toInt64) ∨ (∃ E, (fun E (u : (Nat → Nat → Int32) × (Nat → Nat → UInt64)) => u = (I, D) ∧ ((E = th_IA ∧ ¬ ((∃ q, 97 ≤ q ∧ q ≤ 122 ∧ le = nI q) ∧ ∃ q, 1 ≤ q ∧ q ≤ 8 ∧ n9 = nI q)) ∨ (E = th_IO ∧ (∃ q, 97 ≤ q ∧ q ≤ 122 ∧ le = nI q) ∧ ∃ q, 1 ≤ q ∧ q ≤ 8 ∧ n9 = nI q ∧ ((¬ ∃ f, f + q ≤ hd_nf ns ∧ f9 = nI f) ∨ np = 6)))) E u.2 ∧ r = (if E = th_IA then nI 1 else nI 2))) (fun u t => ct_at (dC, dI) (va_A ((ob, .inl (k 4, 1, .inr (.inl o0))) :: wd k b P I D) sz) ((fun (u : (Nat → Int64) × ((Nat → Nat → Int32) × (Nat → Nat → UInt64))) => (ob, .inl (k 4, 1, .inr (.inl u.1))) :: wd k b P u.2.1 u.2.2) u) t) (va_A ((ob, .inl (k 4, 1, .inr (.inl o0))) :: wd k b P I D) sz)) 1 6 (va_A ((ob, .inl (k 4, 1, .inr (.inl o0))) :: wd k b P I D) sz) := by
  refine ex_metW (cc := cLa_learn) (maxL := 6) (ret := some .int) (hh := [(0, 12, 15, 13), (0, 12, 19, 15)]) (by decide) rfl ?_
  intro p e s m args below meth c s₁ B hml htab hv
  obtain ⟨rfl, hsz, hP, hK, hD0, hE⟩ := hv
  have hx := B.exec
  have hb := B.bytes
  have hr := B.returns
  have hts : ∀ w ∈ W0, w.before [.ref (b 0), .int le, .int f9, .int n9, .ref ob].toArray s = true := fun w h => atoms_spec (ws := (Cond.codeWith yLa_learn cLa_learn 6 (some .int) [(0, 12, 15, 13), (0, 12, 19, 15)] :: W0)) B.pre w (List.mem_cons_of_mem _ h)
  have hown : s.vm.findClass RLa = some m.cls := findClass_of_methodNamed B.named
  have hlocks := B.notSynchronized
  subst hsz
  have hD := hD0.self (sz := s.heap.size)
  generalize hAe : va_A ((ob, .inl (k 4, 1, .inr (.inl o0))) :: wd k b P I D) s.heap.size = A at hD ⊢
  have hA : ∀ q : Nat, s.heap.size ≤ q → A q := fun q h => by rw [← hAe]; exact Or.inr h
  have hS : va_S A s.heap s.heap [] := va_S.rf
  have hl := lv_entry ([.ref (b 0), .int le, .int f9, .int n9, .ref ob]) (n := 6) (Nat.le_of_ble_eq_true rfl)
  rw [lg_entry_eq]
  generalize (lg_sl ([.ref (b 0), .int le, .int f9, .int n9, .ref ob]) ++ List.replicate (6 - (lg_sl ([.ref (b 0), .int le, .int f9, .int n9, .ref ob])).length) Slot.unset).toArray = ls at hl ⊢
  have hl : lv_has ls 6 [(0, .ref (b 0)), (1, .int le), (2, .int f9), (3, .int n9), (4, .ref ob)] := hl
  have hP : va_P (dC, dI) vwCl ([(ob, .inl (k 4, 1, .inr (.inl o0)))] ++ (wd k b P I D ++ [])) s.heap := by rw [List.append_nil]; exact hP
  have hD : va_D A ([(ob, .inl (k 4, 1, .inr (.inl o0)))] ++ (wd k b P I D ++ [])) := by rw [List.append_nil]; exact hD
  refine lv_aload hx hb dLa_learn_0 (lv_at hl 4 rfl) ?_
  refine lv_iconst (v := nI 0) hx hb dLa_learn_2 (by decide +kernel) ?_
  refine lv_aload_n hx hb dLa_learn_3 rfl (lv_at hl 0 rfl) ?_
  refine lv_iload_n hx hb dLa_learn_4 rfl (lv_at hl 1 rfl) ?_
  refine lv_iload_n hx hb dLa_learn_5 rfl (lv_at hl 2 rfl) ?_
  refine lv_iload_n hx hb dLa_learn_6 rfl (lv_at hl 3 rfl) ?_
  refine eg_i (C := "HearingDesk") (As := [.int le, .int f9, .int n9]) (rest := [.int (nI 0), .ref ob]) ⟨hx, hb, hml, hown, hts⟩ (kDe_learn l hln dC dI k b P I D _ le f9 n9 ns hn h4 hsm hc hsn hwi jd9 hjd h5 hj3 hj4 np hnp h6 hp6) (cwV 3 hts (gw_V tw_499 tw_500 tw_501 tw_1 tw_502) rfl rfl rfl (by decide +kernel) ⟨Nat.le_of_ble_eq_true rfl, Nat.le_of_ble_eq_true rfl⟩) ⟨ct_blind (ev := ev_D) ev_D.blind, va_recv hK (sg_Pc hP) (ci := 7) (q0 := 0) rfl rfl, ct_now (A := A) (ev := ev_D) (fun U hU hW => hE.1.to hW (fun a cell h1 _ => by rw [hU]; exact h1)) (sg_Pc hP) (hK.sub (tys' := de_ty k) [0, 1, 2, 3] rfl) (sg_Dc hD)⟩ rfl hl.1 rfl (Nat.le_of_ble_eq_true rfl) dLa_learn_7 ⟨Nat.le_of_ble_eq_true rfl, Nat.le_of_ble_eq_true rfl⟩ hP hD hS hA (fun v u H locs hw hP hD hS => ?_) (fun E ce q u H locs hxp hP hD hS h1 h2 h3 => ?_)
  · have hP : va_P (dC, dI) vwCl ((ob, .inl (k 4, 1, .inr (.inl o0))) :: wd k b P u.1 u.2) H := by rw [List.append_nil] at hP; exact hP
    have hD : va_D A ((ob, .inl (k 4, 1, .inr (.inl o0))) :: wd k b P u.1 u.2) := by rw [List.append_nil] at hD; exact hD
    refine lv_i2l (v := v.toInt64) hx hb dLa_learn_10 rfl ?_
    refine rw_ast_l hx hb hK hP hD hS 0 4 rfl rfl (by decide) (by decide) dLa_learn_11 (fun H locs hP hD hS => ?_)
    have hP : va_P (dC, dI) vwCl ((ob, .inl (k 4, 1, .inr (.inl (vp_updL o0 0 v.toInt64)))) :: wd k b P u.1 u.2) H := hP
    have hD : va_D A ((ob, .inl (k 4, 1, .inr (.inl (vp_updL o0 0 v.toInt64)))) :: wd k b P u.1 u.2) := hD
    refine lv_goto (tgt := 23) hx hb dLa_learn_12 (by decide) ?_
    refine lv_iconst (v := nI 0) hx hb dLa_learn_23 (by decide +kernel) ?_
    exact ct_ri hx hb hr hlocks (vp_updL o0 0 v.toInt64, u) (Or.inl ⟨v, hw, rfl, rfl⟩) hP hD hS (Nat.le_refl _) (Nat.le_refl _) dLa_learn_24
  · have hEx : E = th_IA ∨ E = th_IO := hxp.2.elim (fun z => Or.inl z.1) (fun z => Or.inr z.1)
    have hP : va_P (dC, dI) vwCl ((ob, .inl (k 4, 1, .inr (.inl o0))) :: wd k b P u.1 u.2) H := by rw [List.append_nil] at hP; exact hP
    have hD : va_D A ((ob, .inl (k 4, 1, .inr (.inl o0))) :: wd k b P u.1 u.2) := by rw [List.append_nil] at hD; exact hD
    rcases hEx with rfl | rfl
    · refine ex_catch (own := RLa) (E := th_IA) (h := 15) hown htab ⟨by decide, by decide, by decide, th_IA, hts _ tw_242, Or.inl ⟨va_Nw.use rfl (hE.1.1 _ en_250), rfl⟩⟩ h1 h2 h3 ?_
      refine lv_astore (lv' := [(5, .ref q), (0, .ref (b 0)), (1, .int le), (2, .int f9), (3, .int n9), (4, .ref ob)]) hx hb dLa_learn_15 hl (by decide) rfl (fun ls hl => ?_)
      refine lv_iconst (v := nI 1) hx hb dLa_learn_17 (by decide +kernel) ?_
      exact ct_ri hx hb hr hlocks (o0, u) (Or.inr ⟨th_IA, hxp, (if_pos rfl).symm⟩) hP hD hS (Nat.le_refl _) (Nat.le_refl _) dLa_learn_18
    · refine ex_catch (own := RLa) (E := th_IO) (h := 19) hown htab ⟨by decide, by decide, by decide, th_IA, hts _ tw_242, Or.inr ⟨hE.2.1, ⟨by decide, by decide, by decide, th_IO, hts _ tw_243, Or.inl ⟨va_Nw.use rfl (hE.1.1 _ en_319), rfl⟩⟩⟩⟩ h1 h2 h3 ?_
      refine lv_astore (lv' := [(5, .ref q), (0, .ref (b 0)), (1, .int le), (2, .int f9), (3, .int n9), (4, .ref ob)]) hx hb dLa_learn_19 hl (by decide) rfl (fun ls hl => ?_)
      refine lv_iconst (v := nI 2) hx hb dLa_learn_21 (by decide +kernel) ?_
      exact ct_ri hx hb hr hlocks (o0, u) (Or.inr ⟨th_IO, hxp, (if_neg (by decide)).symm⟩) hP hD hS (Nat.le_refl _) (Nat.le_refl _) dLa_learn_22
set_option maxHeartbeats 4000000 in
set_option maxRecDepth 100000 in
theorem hLa_forget (l : Launch) (hln : l.stackTraces = false) (dC : Nat → ClassId) (dI : Nat → Nat → Nat) (k : Nat → ClassId) (b P : Nat → Nat) (I : Nat → Nat → Int32) (D : Nat → Nat → UInt64) (sz : Nat) (ob : Nat) (o0 : (Nat → Int64)) (k9 : Int32) (np : Nat) (hnp : np ≤ 6) (h6 : I 0 6 = nI np) (hp6 : ∀ j, j < 6 → P j < 6) : Met l yLa_forget (Cond.codeWith yLa_forget cLa_forget 4 (some .int) [(0, 9, 12, 48)] :: W0) ({ frames := 8, cells := 1, slots := 6, locals := 240 }) (va_Pc [.ref (b 0), .int k9, .ref ob] (ct_pre (dC, dI) (la_ty k) ev_L ((ob, .inl (k 4, 1, .inr (.inl o0))) :: wd k b P I D) sz)) (va_Qi (fun r (u : (Nat → Int64) × ((Nat → Nat → Int32) × (Nat → Nat))) => (∃ v : Int32, (fun r (u : (Nat → Nat → Int32) × (Nat → Nat)) => ∃ x, x < np ∧ k9 = nI x ∧ r = I 2 (P x) ∧ u.1 = ui I 0 6 (nI (np - 1)) ∧ ∀ z, u.2 z = if z = np - 1 then P x else if x ≤ z ∧ z < np - 1 then P (z + 1) else P z) v u.2 ∧ r = nI 0 ∧ u.1 0 = v.toInt64) ∨ (∃ E, (fun E (u : (Nat → Nat → Int32) × (Nat → Nat)) => u = (I, P) ∧ E = th_NS ∧ ¬ ∃ j, j < np ∧ k9 = nI j) E u.2 ∧ r = nI 1)) (fun u t => ct_at (dC, dI) (va_A ((ob, .inl (k 4, 1, .inr (.inl o0))) :: wd k b P I D) sz) ((fun (u : (Nat → Int64) × ((Nat → Nat → Int32) × (Nat → Nat))) => (ob, .inl (k 4, 1, .inr (.inl u.1))) :: wd k b u.2.2 u.2.1 D) u) t) (va_A ((ob, .inl (k 4, 1, .inr (.inl o0))) :: wd k b P I D) sz)) 1 6 (va_A ((ob, .inl (k 4, 1, .inr (.inl o0))) :: wd k b P I D) sz) := by
  refine ex_metW (cc := cLa_forget) (maxL := 4) (ret := some .int) (hh := [(0, 9, 12, 48)]) (by decide) rfl ?_
  intro p e s m args below meth c s₁ B hml htab hv
  obtain ⟨rfl, hsz, hP, hK, hD0, hE⟩ := hv
  have hx := B.exec
  have hb := B.bytes
  have hr := B.returns
  have hts : ∀ w ∈ W0, w.before [.ref (b 0), .int k9, .ref ob].toArray s = true := fun w h => atoms_spec (ws := (Cond.codeWith yLa_forget cLa_forget 4 (some .int) [(0, 9, 12, 48)] :: W0)) B.pre w (List.mem_cons_of_mem _ h)
  have hown : s.vm.findClass RLa = some m.cls := findClass_of_methodNamed B.named
  have hlocks := B.notSynchronized
  subst hsz
  have hD := hD0.self (sz := s.heap.size)
  generalize hAe : va_A ((ob, .inl (k 4, 1, .inr (.inl o0))) :: wd k b P I D) s.heap.size = A at hD ⊢
  have hA : ∀ q : Nat, s.heap.size ≤ q → A q := fun q h => by rw [← hAe]; exact Or.inr h
  have hS : va_S A s.heap s.heap [] := va_S.rf
  have hl := lv_entry ([.ref (b 0), .int k9, .ref ob]) (n := 4) (Nat.le_of_ble_eq_true rfl)
  rw [lg_entry_eq]
  generalize (lg_sl ([.ref (b 0), .int k9, .ref ob]) ++ List.replicate (4 - (lg_sl ([.ref (b 0), .int k9, .ref ob])).length) Slot.unset).toArray = ls at hl ⊢
  have hl : lv_has ls 4 [(0, .ref (b 0)), (1, .int k9), (2, .ref ob)] := hl
  have hP : va_P (dC, dI) vwCl ([(ob, .inl (k 4, 1, .inr (.inl o0)))] ++ (wd k b P I D ++ [])) s.heap := by rw [List.append_nil]; exact hP
  have hD : va_D A ([(ob, .inl (k 4, 1, .inr (.inl o0)))] ++ (wd k b P I D ++ [])) := by rw [List.append_nil]; exact hD
  refine lv_aload_n hx hb dLa_forget_0 rfl (lv_at hl 2 rfl) ?_
  refine lv_iconst (v := nI 0) hx hb dLa_forget_1 (by decide +kernel) ?_
  refine lv_aload_n hx hb dLa_forget_2 rfl (lv_at hl 0 rfl) ?_
  refine lv_iload_n hx hb dLa_forget_3 rfl (lv_at hl 1 rfl) ?_
  refine eg_i (C := "HearingDesk") (As := [.int k9]) (rest := [.int (nI 0), .ref ob]) ⟨hx, hb, hml, hown, hts⟩ (kDe_forget l hln dC dI k b P I D _ k9 np hnp h6 hp6) (cwV 1 hts (gw_V tw_516 tw_517 tw_518 tw_1 tw_519) rfl rfl rfl (by decide +kernel) ⟨Nat.le_of_ble_eq_true rfl, Nat.le_of_ble_eq_true rfl⟩) ⟨ct_blind (ev := ev_D) ev_D.blind, va_recv hK (sg_Pc hP) (ci := 7) (q0 := 0) rfl rfl, ct_now (A := A) (ev := ev_D) (fun U hU hW => hE.1.to hW (fun a cell h1 _ => by rw [hU]; exact h1)) (sg_Pc hP) (hK.sub (tys' := de_ty k) [0, 1, 2, 3] rfl) (sg_Dc hD)⟩ rfl hl.1 rfl (Nat.le_of_ble_eq_true rfl) dLa_forget_4 ⟨Nat.le_of_ble_eq_true rfl, Nat.le_of_ble_eq_true rfl⟩ hP hD hS hA (fun v u H locs hw hP hD hS => ?_) (fun E ce q u H locs hxp hP hD hS h1 h2 h3 => ?_)
  · have hP : va_P (dC, dI) vwCl ((ob, .inl (k 4, 1, .inr (.inl o0))) :: wd k b u.2 u.1 D) H := by rw [List.append_nil] at hP; exact hP
    have hD : va_D A ((ob, .inl (k 4, 1, .inr (.inl o0))) :: wd k b u.2 u.1 D) := by rw [List.append_nil] at hD; exact hD
    refine lv_i2l (v := v.toInt64) hx hb dLa_forget_7 rfl ?_
    refine rw_ast_l hx hb hK hP hD hS 0 4 rfl rfl (by decide) (by decide) dLa_forget_8 (fun H locs hP hD hS => ?_)
    have hP : va_P (dC, dI) vwCl ((ob, .inl (k 4, 1, .inr (.inl (vp_updL o0 0 v.toInt64)))) :: wd k b u.2 u.1 D) H := hP
    have hD : va_D A ((ob, .inl (k 4, 1, .inr (.inl (vp_updL o0 0 v.toInt64)))) :: wd k b u.2 u.1 D) := hD
    refine lv_goto (tgt := 15) hx hb dLa_forget_9 (by decide) ?_
    refine lv_iconst (v := nI 0) hx hb dLa_forget_15 (by decide +kernel) ?_
    exact ct_ri hx hb hr hlocks (vp_updL o0 0 v.toInt64, u) (Or.inl ⟨v, hw, rfl, rfl⟩) hP hD hS (Nat.le_refl _) (Nat.le_refl _) dLa_forget_16
  · have hEx : E = th_NS := hxp.2.1
    have hP : va_P (dC, dI) vwCl ((ob, .inl (k 4, 1, .inr (.inl o0))) :: wd k b u.2 u.1 D) H := by rw [List.append_nil] at hP; exact hP
    have hD : va_D A ((ob, .inl (k 4, 1, .inr (.inl o0))) :: wd k b u.2 u.1 D) := by rw [List.append_nil] at hD; exact hD
    rcases hEx with rfl
    · refine ex_catch (own := RLa) (E := th_NS) (h := 12) hown htab ⟨by decide, by decide, by decide, th_NS, hts _ tw_515, Or.inl ⟨va_Nw.use rfl (hE.1.1 _ en_522), rfl⟩⟩ h1 h2 h3 ?_
      refine lv_astore_n (lv' := [(3, .ref q), (0, .ref (b 0)), (1, .int k9), (2, .ref ob)]) hx hb dLa_forget_12 rfl hl (by decide) rfl (fun ls hl => ?_)
      refine lv_iconst (v := nI 1) hx hb dLa_forget_13 (by decide +kernel) ?_
      exact ct_ri hx hb hr hlocks (o0, u) (Or.inr ⟨th_NS, hxp, rfl⟩) hP hD hS (Nat.le_refl _) (Nat.le_refl _) dLa_forget_14
set_option maxHeartbeats 4000000 in
set_option maxRecDepth 100000 in
theorem hLa_warp (l : Launch) (hln : l.stackTraces = false) (dC : Nat → ClassId) (dI : Nat → Nat → Nat) (k : Nat → ClassId) (b P : Nat → Nat) (I : Nat → Nat → Int32) (D : Nat → Nat → UInt64) (sz : Nat) (ob : Nat) (o0 : (Nat → UInt64)) (k9 j9 : Int32) (np : Nat) (rw9 : Nat → Nat) (hnp : np ≤ 6) (h6 : I 0 6 = nI np) (hp6 : ∀ j, j < 6 → P j < 6) (hr9 : ∀ j, j < np → I 3 (P j) = nI (rw9 j) ∧ 1 ≤ rw9 j ∧ rw9 j ≤ 8) (hl9 : ∀ j, j < np → ∀ q, q < 4 * rw9 j → fb_ 1155 (D (10 + P j) q)) : Met l yLa_warp (Cond.codeWith yLa_warp cLa_warp 5 (some .int) [(0, 9, 12, 48)] :: W0) ({ frames := 8, cells := 1, slots := 6, locals := 240 }) (va_Pc [.ref (b 0), .int k9, .int j9, .ref ob] (ct_pre (dC, dI) (la_ty k) ev_L (wd k b P I D ++ [(ob, .inl (k 1, 1, wd_d o0))]) sz)) (va_Qi (fun r (u : (Nat → UInt64) × (Nat → UInt64)) => (∃ v : UInt64, (fun r (_ : Nat → UInt64) => ∃ x, x < np ∧ k9 = nI x ∧ ∃ y, y < np ∧ j9 = nI y ∧ r = hw_wa (D (10 + P x)) (D (10 + P y)) (rw9 x) (rw9 y)) v u.2 ∧ r = nI 0 ∧ u.1 0 = v) ∨ (∃ E, (fun E (u : Nat → UInt64) => u = D 8 ∧ E = th_NS ∧ ¬ ((∃ j, j < np ∧ k9 = nI j) ∧ ∃ j, j < np ∧ j9 = nI j)) E u.2 ∧ r = nI 1)) (fun u t => ct_at (dC, dI) (va_A (wd k b P I D ++ [(ob, .inl (k 1, 1, wd_d o0))]) sz) ((fun (u : (Nat → UInt64) × (Nat → UInt64)) => wd k b P I (us D 8 u.2) ++ [(ob, .inl (k 1, 1, wd_d u.1))]) u) t) (va_A (wd k b P I D ++ [(ob, .inl (k 1, 1, wd_d o0))]) sz)) 1 6 (va_A (wd k b P I D ++ [(ob, .inl (k 1, 1, wd_d o0))]) sz) := by
  refine ex_metW (cc := cLa_warp) (maxL := 5) (ret := some .int) (hh := [(0, 9, 12, 48)]) (by decide) rfl ?_
  intro p e s m args below meth c s₁ B hml htab hv
  obtain ⟨rfl, hsz, hP, hK, hD0, hE⟩ := hv
  have hx := B.exec
  have hb := B.bytes
  have hr := B.returns
  have hts : ∀ w ∈ W0, w.before [.ref (b 0), .int k9, .int j9, .ref ob].toArray s = true := fun w h => atoms_spec (ws := (Cond.codeWith yLa_warp cLa_warp 5 (some .int) [(0, 9, 12, 48)] :: W0)) B.pre w (List.mem_cons_of_mem _ h)
  have hown : s.vm.findClass RLa = some m.cls := findClass_of_methodNamed B.named
  have hlocks := B.notSynchronized
  subst hsz
  have hD := hD0.self (sz := s.heap.size)
  generalize hAe : va_A (wd k b P I D ++ [(ob, .inl (k 1, 1, wd_d o0))]) s.heap.size = A at hD ⊢
  have hA : ∀ q : Nat, s.heap.size ≤ q → A q := fun q h => by rw [← hAe]; exact Or.inr h
  have hS : va_S A s.heap s.heap [] := va_S.rf
  have hl := lv_entry ([.ref (b 0), .int k9, .int j9, .ref ob]) (n := 5) (Nat.le_of_ble_eq_true rfl)
  rw [lg_entry_eq]
  generalize (lg_sl ([.ref (b 0), .int k9, .int j9, .ref ob]) ++ List.replicate (5 - (lg_sl ([.ref (b 0), .int k9, .int j9, .ref ob])).length) Slot.unset).toArray = ls at hl ⊢
  have hl : lv_has ls 5 [(0, .ref (b 0)), (1, .int k9), (2, .int j9), (3, .ref ob)] := hl
  have hP : va_P (dC, dI) vwCl ([] ++ (wd k b P I D ++ [(ob, .inl (k 1, 1, wd_d o0))])) s.heap := hP
  have hD : va_D A ([] ++ (wd k b P I D ++ [(ob, .inl (k 1, 1, wd_d o0))])) := hD
  refine lv_aload_n hx hb dLa_warp_0 rfl (lv_at hl 3 rfl) ?_
  refine lv_iconst (v := nI 0) hx hb dLa_warp_1 (by decide +kernel) ?_
  refine lv_aload_n hx hb dLa_warp_2 rfl (lv_at hl 0 rfl) ?_
  refine lv_iload_n hx hb dLa_warp_3 rfl (lv_at hl 1 rfl) ?_
  refine lv_iload_n hx hb dLa_warp_4 rfl (lv_at hl 2 rfl) ?_
  refine eg_d (C := "HearingDesk") (As := [.int k9, .int j9]) (rest := [.int (nI 0), .ref ob]) ⟨hx, hb, hml, hown, hts⟩ (kDe_warp l hln dC dI k b P I D _ k9 j9 np rw9 hnp h6 hp6 hr9 hl9) (cwV 2 hts (gw_V tw_543 tw_544 tw_545 tw_1 tw_546) rfl rfl rfl (by decide +kernel) ⟨Nat.le_of_ble_eq_true rfl, Nat.le_of_ble_eq_true rfl⟩) ⟨ct_blind (ev := ev_D) ev_D.blind, va_recv hK (sg_Pc hP) (ci := 7) (q0 := 0) rfl rfl, ct_now (A := A) (ev := ev_D) (fun U hU hW => hE.1.to hW (fun a cell h1 _ => by rw [hU]; exact h1)) (sg_Pc hP) (hK.sub (tys' := de_ty k) [0, 1, 2, 3] rfl) (sg_Dc hD)⟩ rfl hl.1 rfl (Nat.le_of_ble_eq_true rfl) dLa_warp_5 ⟨Nat.le_of_ble_eq_true rfl, Nat.le_of_ble_eq_true rfl⟩ hP hD hS hA (fun v u H locs hw hP hD hS => ?_) (fun E ce q u H locs hxp hP hD hS h1 h2 h3 => ?_)
  · have hP : va_P (dC, dI) vwCl (wd k b P I (us D 8 u) ++ [(ob, .inl (k 1, 1, wd_d o0))]) H := hP
    have hD : va_D A (wd k b P I (us D 8 u) ++ [(ob, .inl (k 1, 1, wd_d o0))]) := hD
    refine rw_ast_d hx hb hK hP hD hS 48 1 rfl rfl (by decide) (by decide) dLa_warp_8 (fun H locs hP hD hS => ?_)
    have hP : va_P (dC, dI) vwCl (wd k b P I (us D 8 u) ++ [(ob, .inl (k 1, 1, wd_d (vf_upd o0 0 v)))]) H := hP
    have hD : va_D A (wd k b P I (us D 8 u) ++ [(ob, .inl (k 1, 1, wd_d (vf_upd o0 0 v)))]) := hD
    refine lv_goto (tgt := 16) hx hb dLa_warp_9 (by decide) ?_
    refine lv_iconst (v := nI 0) hx hb dLa_warp_16 (by decide +kernel) ?_
    exact ct_ri hx hb hr hlocks (vf_upd o0 0 v, u) (Or.inl ⟨v, hw, rfl, rfl⟩) hP hD hS (Nat.le_refl _) (Nat.le_refl _) dLa_warp_17
  · have hEx : E = th_NS := hxp.2.1
    have hP : va_P (dC, dI) vwCl (wd k b P I (us D 8 u) ++ [(ob, .inl (k 1, 1, wd_d o0))]) H := hP
    have hD : va_D A (wd k b P I (us D 8 u) ++ [(ob, .inl (k 1, 1, wd_d o0))]) := hD
    rcases hEx with rfl
    · refine ex_catch (own := RLa) (E := th_NS) (h := 12) hown htab ⟨by decide, by decide, by decide, th_NS, hts _ tw_515, Or.inl ⟨va_Nw.use rfl (hE.1.1 _ en_522), rfl⟩⟩ h1 h2 h3 ?_
      refine lv_astore (lv' := [(4, .ref q), (0, .ref (b 0)), (1, .int k9), (2, .int j9), (3, .ref ob)]) hx hb dLa_warp_12 hl (by decide) rfl (fun ls hl => ?_)
      refine lv_iconst (v := nI 1) hx hb dLa_warp_14 (by decide +kernel) ?_
      exact ct_ri hx hb hr hlocks (o0, u) (Or.inr ⟨th_NS, hxp, rfl⟩) hP hD hS (Nat.le_refl _) (Nat.le_refl _) dLa_warp_15
set_option maxHeartbeats 4000000 in
set_option maxRecDepth 100000 in
theorem hLa_hear (l : Launch) (hln : l.stackTraces = false) (dC : Nat → ClassId) (dI : Nat → Nat → Nat) (k : Nat → ClassId) (b P : Nat → Nat) (I : Nat → Nat → Int32) (D : Nat → Nat → UInt64) (sz : Nat) (ob : Nat) (o0 : (Nat → Int64)) (ns : Nat) (hn : ns ≤ 320) (h4 : I 0 4 = nI ns) (hsm : ∀ i, i < ns → fb_ 1057 (D 1 i)) (hc : ∀ j, j < 32 → D 5 j = hd_C j) (hsn : ∀ j, j < 32 → D 6 j = hd_S j) (hwi : ∀ j, j < 32 → D 7 j = hd_W j) (jd9 : Nat) (hjd : jd9 ≤ hd_nf ns) (h5 : I 0 5 = nI jd9) (hj3 : ∀ q, q < 4 * jd9 → D 3 q = hw_su (D 1) q) (hj4 : ∀ q, q < 4 * jd9 → D 4 q = hw_lv (D 1) 0 q) (np : Nat) (rw9 : Nat → Nat) (hnp : np ≤ 6) (h6 : I 0 6 = nI np) (hp6 : ∀ j, j < 6 → P j < 6) (hr9 : ∀ j, j < np → I 3 (P j) = nI (rw9 j) ∧ 1 ≤ rw9 j ∧ rw9 j ≤ 8) (hl9 : ∀ j, j < np → ∀ q, q < 4 * rw9 j → fb_ 1155 (D (10 + P j) q)) (gp : Nat) (hg1 : 1 ≤ gp) (hg4 : gp ≤ 4) (h2 : I 0 2 = nI gp) : Met l yLa_hear (Cond.codeWith yLa_hear cLa_hear 3 (some .int) [(0, 8, 11, 56)] :: W0) ({ frames := 8, cells := 1, slots := 6, locals := 240 }) (va_Pc [.ref (b 0), .ref ob] (ct_pre (dC, dI) (la_ty k) ev_L ((ob, .inl (k 4, 1, .inr (.inl o0))) :: wd k b P I D) sz)) (va_Qi (fun r (u : (Nat → Int64) × ((Nat → Nat → Int32) × (Nat → Nat → UInt64))) => (∃ v : Int32, (fun r (u : (Nat → Nat → Int32) × (Nat → Nat → UInt64)) => 0 < hd_nf ns ∧ ∃ L, L = hs_w (D 1) (D 0 0) (hd_nf ns) gp 20 0 ∧ L.length ≤ 19 ∧ r = nI L.length ∧ u.1 0 7 = nI L.length ∧ ((∀ z, z ≠ 5 → z ≠ 7 → u.1 0 z = I 0 z) ∧ (∀ c, c ≠ 0 → c < 4 → u.1 c = I c) ∧ (∀ c, c ≠ 2 → c ≠ 3 → c ≠ 4 → c ≠ 8 → c ≠ 9 → u.2 c = D c) ∧ u.1 0 5 = nI (hd_nf ns) ∧ (∀ q, q < 4 * hd_nf ns → u.2 3 q = hw_su (D 1) q) ∧ (∀ q, q < 4 * hd_nf ns → u.2 4 q = hw_lv (D 1) 0 q)) ∧ ∀ z9 f9 m9, L[z9]? = some (f9, m9) → u.1 4 z9 = nI f9 ∧ u.1 5 z9 = nI m9 ∧ u.1 6 z9 = hr_n (fun k9 => hw_wa (hw_lv (D 1) f9) (D (10 + P k9)) m9 (rw9 k9)) np ∧ u.1 7 z9 = hr_l (fun k9 => hw_wa (hw_lv (D 1) f9) (D (10 + P k9)) m9 (rw9 k9)) (fun k9 => I 2 (P k9)) (D 0 1) np ∧ u.2 9 z9 = (hr_p (fun k9 => hw_wa (hw_lv (D 1) f9) (D (10 + P k9)) m9 (rw9 k9)) np).2 ∧ f9 + m9 ≤ hd_nf ns ∧ 1 ≤ m9) v u.2 ∧ r = nI 0 ∧ u.1 0 = v.toInt64) ∨ (∃ E, (fun E (u : (Nat → Nat → Int32) × (Nat → Nat → UInt64)) => u = (I, D) ∧ E = th_IS ∧ hd_nf ns = 0) E u.2 ∧ r = nI 1)) (fun u t => ct_at (dC, dI) (va_A ((ob, .inl (k 4, 1, .inr (.inl o0))) :: wd k b P I D) sz) ((fun (u : (Nat → Int64) × ((Nat → Nat → Int32) × (Nat → Nat → UInt64))) => (ob, .inl (k 4, 1, .inr (.inl u.1))) :: wd k b P u.2.1 u.2.2) u) t) (va_A ((ob, .inl (k 4, 1, .inr (.inl o0))) :: wd k b P I D) sz)) 1 6 (va_A ((ob, .inl (k 4, 1, .inr (.inl o0))) :: wd k b P I D) sz) := by
  refine ex_metW (cc := cLa_hear) (maxL := 3) (ret := some .int) (hh := [(0, 8, 11, 56)]) (by decide) rfl ?_
  intro p e s m args below meth c s₁ B hml htab hv
  obtain ⟨rfl, hsz, hP, hK, hD0, hE⟩ := hv
  have hx := B.exec
  have hb := B.bytes
  have hr := B.returns
  have hts : ∀ w ∈ W0, w.before [.ref (b 0), .ref ob].toArray s = true := fun w h => atoms_spec (ws := (Cond.codeWith yLa_hear cLa_hear 3 (some .int) [(0, 8, 11, 56)] :: W0)) B.pre w (List.mem_cons_of_mem _ h)
  have hown : s.vm.findClass RLa = some m.cls := findClass_of_methodNamed B.named
  have hlocks := B.notSynchronized
  subst hsz
  have hD := hD0.self (sz := s.heap.size)
  generalize hAe : va_A ((ob, .inl (k 4, 1, .inr (.inl o0))) :: wd k b P I D) s.heap.size = A at hD ⊢
  have hA : ∀ q : Nat, s.heap.size ≤ q → A q := fun q h => by rw [← hAe]; exact Or.inr h
  have hS : va_S A s.heap s.heap [] := va_S.rf
  have hl := lv_entry ([.ref (b 0), .ref ob]) (n := 3) (Nat.le_of_ble_eq_true rfl)
  rw [lg_entry_eq]
  generalize (lg_sl ([.ref (b 0), .ref ob]) ++ List.replicate (3 - (lg_sl ([.ref (b 0), .ref ob])).length) Slot.unset).toArray = ls at hl ⊢
  have hl : lv_has ls 3 [(0, .ref (b 0)), (1, .ref ob)] := hl
  have hP : va_P (dC, dI) vwCl ([(ob, .inl (k 4, 1, .inr (.inl o0)))] ++ (wd k b P I D ++ [])) s.heap := by rw [List.append_nil]; exact hP
  have hD : va_D A ([(ob, .inl (k 4, 1, .inr (.inl o0)))] ++ (wd k b P I D ++ [])) := by rw [List.append_nil]; exact hD
  refine lv_aload_n hx hb dLa_hear_0 rfl (lv_at hl 1 rfl) ?_
  refine lv_iconst (v := nI 0) hx hb dLa_hear_1 (by decide +kernel) ?_
  refine lv_aload_n hx hb dLa_hear_2 rfl (lv_at hl 0 rfl) ?_
  refine eg_i (C := "HearingDesk") (As := []) (rest := [.int (nI 0), .ref ob]) ⟨hx, hb, hml, hown, hts⟩ (kDe_hear l hln dC dI k b P I D _ ns hn h4 hsm hc hsn hwi jd9 hjd h5 hj3 hj4 np rw9 hnp h6 hp6 hr9 hl9 gp hg1 hg4 h2) (cwV 0 hts (gw_V tw_565 tw_566 tw_567 tw_1 tw_568) rfl rfl rfl (by decide +kernel) ⟨Nat.le_of_ble_eq_true rfl, Nat.le_of_ble_eq_true rfl⟩) ⟨ct_blind (ev := ev_D) ev_D.blind, va_recv hK (sg_Pc hP) (ci := 7) (q0 := 0) rfl rfl, ct_now (A := A) (ev := ev_D) (fun U hU hW => hE.1.to hW (fun a cell h1 _ => by rw [hU]; exact h1)) (sg_Pc hP) (hK.sub (tys' := de_ty k) [0, 1, 2, 3] rfl) (sg_Dc hD)⟩ rfl hl.1 rfl (Nat.le_of_ble_eq_true rfl) dLa_hear_3 ⟨Nat.le_of_ble_eq_true rfl, Nat.le_of_ble_eq_true rfl⟩ hP hD hS hA (fun v u H locs hw hP hD hS => ?_) (fun E ce q u H locs hxp hP hD hS h1 h2 h3 => ?_)
  · have hP : va_P (dC, dI) vwCl ((ob, .inl (k 4, 1, .inr (.inl o0))) :: wd k b P u.1 u.2) H := by rw [List.append_nil] at hP; exact hP
    have hD : va_D A ((ob, .inl (k 4, 1, .inr (.inl o0))) :: wd k b P u.1 u.2) := by rw [List.append_nil] at hD; exact hD
    refine lv_i2l (v := v.toInt64) hx hb dLa_hear_6 rfl ?_
    refine rw_ast_l hx hb hK hP hD hS 0 4 rfl rfl (by decide) (by decide) dLa_hear_7 (fun H locs hP hD hS => ?_)
    have hP : va_P (dC, dI) vwCl ((ob, .inl (k 4, 1, .inr (.inl (vp_updL o0 0 v.toInt64)))) :: wd k b P u.1 u.2) H := hP
    have hD : va_D A ((ob, .inl (k 4, 1, .inr (.inl (vp_updL o0 0 v.toInt64)))) :: wd k b P u.1 u.2) := hD
    refine lv_goto (tgt := 14) hx hb dLa_hear_8 (by decide) ?_
    refine lv_iconst (v := nI 0) hx hb dLa_hear_14 (by decide +kernel) ?_
    exact ct_ri hx hb hr hlocks (vp_updL o0 0 v.toInt64, u) (Or.inl ⟨v, hw, rfl, rfl⟩) hP hD hS (Nat.le_refl _) (Nat.le_refl _) dLa_hear_15
  · have hEx : E = th_IS := hxp.2.1
    have hP : va_P (dC, dI) vwCl ((ob, .inl (k 4, 1, .inr (.inl o0))) :: wd k b P u.1 u.2) H := by rw [List.append_nil] at hP; exact hP
    have hD : va_D A ((ob, .inl (k 4, 1, .inr (.inl o0))) :: wd k b P u.1 u.2) := by rw [List.append_nil] at hD; exact hD
    rcases hEx with rfl
    · refine ex_catch (own := RLa) (E := th_IS) (h := 11) hown htab ⟨by decide, by decide, by decide, th_IS, hts _ tw_564, Or.inl ⟨va_Nw.use rfl (hE.1.1 _ en_571), rfl⟩⟩ h1 h2 h3 ?_
      refine lv_astore_n (lv' := [(2, .ref q), (0, .ref (b 0)), (1, .ref ob)]) hx hb dLa_hear_11 rfl hl (by decide) rfl (fun ls hl => ?_)
      refine lv_iconst (v := nI 1) hx hb dLa_hear_12 (by decide +kernel) ?_
      exact ct_ri hx hb hr hlocks (o0, u) (Or.inr ⟨th_IS, hxp, rfl⟩) hP hD hS (Nat.le_refl _) (Nat.le_refl _) dLa_hear_13
set_option maxHeartbeats 4000000 in
set_option maxRecDepth 100000 in
theorem hLa_word (l : Launch) (hln : l.stackTraces = false) (dC : Nat → ClassId) (dI : Nat → Nat → Nat) (k : Nat → ClassId) (b P : Nat → Nat) (I : Nat → Nat → Int32) (D : Nat → Nat → UInt64) (sz : Nat) (ob : Nat) (o0 : (Nat → Int64)) (k9 wh : Int32) (nw : Nat) (hnw : nw ≤ 19) (h7 : I 0 7 = nI nw) (hr0 : I 0 0 ≠ 0) : Met l yLa_word (Cond.codeWith yLa_word cLa_word 5 (some .int) [(0, 10, 13, 48), (0, 10, 17, 13)] :: W0) ({ frames := 8, cells := 1, slots := 6, locals := 240 }) (va_Pc [.ref (b 0), .int k9, .int wh, .ref ob] (ct_pre (dC, dI) (la_ty k) ev_L ((ob, .inl (k 4, 1, .inr (.inl o0))) :: wd k b P I D) sz)) (va_Qi (fun r (u : (Nat → Int64) × (Nat → Nat → Int32)) => (∃ v : Int32, (fun r (u : Nat → Nat → Int32) => u = I ∧ ∃ j, j < nw ∧ k9 = nI j ∧ ∃ q, 0 ≤ q ∧ q ≤ 5 ∧ wh = nI q ∧ r = dk_wd I j q) v u.2 ∧ r = nI 0 ∧ u.1 0 = v.toInt64) ∨ (∃ E, (fun E (u : Nat → Nat → Int32) => u = I ∧ ((E = th_NS ∧ ¬ ∃ j, j < nw ∧ k9 = nI j) ∨ (E = th_IA ∧ (∃ j, j < nw ∧ k9 = nI j) ∧ ¬ ∃ q, 0 ≤ q ∧ q ≤ 5 ∧ wh = nI q))) E u.2 ∧ r = (if E = th_NS then nI 1 else nI 2))) (fun u t => ct_at (dC, dI) (va_A ((ob, .inl (k 4, 1, .inr (.inl o0))) :: wd k b P I D) sz) ((fun (u : (Nat → Int64) × (Nat → Nat → Int32)) => (ob, .inl (k 4, 1, .inr (.inl u.1))) :: wd k b P u.2 D) u) t) (va_A ((ob, .inl (k 4, 1, .inr (.inl o0))) :: wd k b P I D) sz)) 1 6 (va_A ((ob, .inl (k 4, 1, .inr (.inl o0))) :: wd k b P I D) sz) := by
  refine ex_metW (cc := cLa_word) (maxL := 5) (ret := some .int) (hh := [(0, 10, 13, 48), (0, 10, 17, 13)]) (by decide) rfl ?_
  intro p e s m args below meth c s₁ B hml htab hv
  obtain ⟨rfl, hsz, hP, hK, hD0, hE⟩ := hv
  have hx := B.exec
  have hb := B.bytes
  have hr := B.returns
  have hts : ∀ w ∈ W0, w.before [.ref (b 0), .int k9, .int wh, .ref ob].toArray s = true := fun w h => atoms_spec (ws := (Cond.codeWith yLa_word cLa_word 5 (some .int) [(0, 10, 13, 48), (0, 10, 17, 13)] :: W0)) B.pre w (List.mem_cons_of_mem _ h)
  have hown : s.vm.findClass RLa = some m.cls := findClass_of_methodNamed B.named
  have hlocks := B.notSynchronized
  subst hsz
  have hD := hD0.self (sz := s.heap.size)
  generalize hAe : va_A ((ob, .inl (k 4, 1, .inr (.inl o0))) :: wd k b P I D) s.heap.size = A at hD ⊢
  have hA : ∀ q : Nat, s.heap.size ≤ q → A q := fun q h => by rw [← hAe]; exact Or.inr h
  have hS : va_S A s.heap s.heap [] := va_S.rf
  have hl := lv_entry ([.ref (b 0), .int k9, .int wh, .ref ob]) (n := 5) (Nat.le_of_ble_eq_true rfl)
  rw [lg_entry_eq]
  generalize (lg_sl ([.ref (b 0), .int k9, .int wh, .ref ob]) ++ List.replicate (5 - (lg_sl ([.ref (b 0), .int k9, .int wh, .ref ob])).length) Slot.unset).toArray = ls at hl ⊢
  have hl : lv_has ls 5 [(0, .ref (b 0)), (1, .int k9), (2, .int wh), (3, .ref ob)] := hl
  have hP : va_P (dC, dI) vwCl ([(ob, .inl (k 4, 1, .inr (.inl o0)))] ++ (wd k b P I D ++ [])) s.heap := by rw [List.append_nil]; exact hP
  have hD : va_D A ([(ob, .inl (k 4, 1, .inr (.inl o0)))] ++ (wd k b P I D ++ [])) := by rw [List.append_nil]; exact hD
  refine lv_aload_n hx hb dLa_word_0 rfl (lv_at hl 3 rfl) ?_
  refine lv_iconst (v := nI 0) hx hb dLa_word_1 (by decide +kernel) ?_
  refine lv_aload_n hx hb dLa_word_2 rfl (lv_at hl 0 rfl) ?_
  refine lv_iload_n hx hb dLa_word_3 rfl (lv_at hl 1 rfl) ?_
  refine lv_iload_n hx hb dLa_word_4 rfl (lv_at hl 2 rfl) ?_
  refine eg_i (C := "HearingDesk") (As := [.int k9, .int wh]) (rest := [.int (nI 0), .ref ob]) ⟨hx, hb, hml, hown, hts⟩ (kDe_word l hln dC dI k b P I D _ k9 wh nw hnw h7 hr0) (cwV 2 hts (gw_V tw_607 tw_608 tw_609 tw_1 tw_610) rfl rfl rfl (by decide +kernel) ⟨Nat.le_of_ble_eq_true rfl, Nat.le_of_ble_eq_true rfl⟩) ⟨ct_blind (ev := ev_D) ev_D.blind, va_recv hK (sg_Pc hP) (ci := 7) (q0 := 0) rfl rfl, ct_now (A := A) (ev := ev_D) (fun U hU hW => hE.1.to hW (fun a cell h1 _ => by rw [hU]; exact h1)) (sg_Pc hP) (hK.sub (tys' := de_ty k) [0, 1, 2, 3] rfl) (sg_Dc hD)⟩ rfl hl.1 rfl (Nat.le_of_ble_eq_true rfl) dLa_word_5 ⟨Nat.le_of_ble_eq_true rfl, Nat.le_of_ble_eq_true rfl⟩ hP hD hS hA (fun v u H locs hw hP hD hS => ?_) (fun E ce q u H locs hxp hP hD hS h1 h2 h3 => ?_)
  · have hP : va_P (dC, dI) vwCl ((ob, .inl (k 4, 1, .inr (.inl o0))) :: wd k b P u D) H := by rw [List.append_nil] at hP; exact hP
    have hD : va_D A ((ob, .inl (k 4, 1, .inr (.inl o0))) :: wd k b P u D) := by rw [List.append_nil] at hD; exact hD
    refine lv_i2l (v := v.toInt64) hx hb dLa_word_8 rfl ?_
    refine rw_ast_l hx hb hK hP hD hS 0 4 rfl rfl (by decide) (by decide) dLa_word_9 (fun H locs hP hD hS => ?_)
    have hP : va_P (dC, dI) vwCl ((ob, .inl (k 4, 1, .inr (.inl (vp_updL o0 0 v.toInt64)))) :: wd k b P u D) H := hP
    have hD : va_D A ((ob, .inl (k 4, 1, .inr (.inl (vp_updL o0 0 v.toInt64)))) :: wd k b P u D) := hD
    refine lv_goto (tgt := 21) hx hb dLa_word_10 (by decide) ?_
    refine lv_iconst (v := nI 0) hx hb dLa_word_21 (by decide +kernel) ?_
    exact ct_ri hx hb hr hlocks (vp_updL o0 0 v.toInt64, u) (Or.inl ⟨v, hw, rfl, rfl⟩) hP hD hS (Nat.le_refl _) (Nat.le_refl _) dLa_word_22
  · have hEx : E = th_NS ∨ E = th_IA := hxp.2.elim (fun z => Or.inl z.1) (fun z => Or.inr z.1)
    have hP : va_P (dC, dI) vwCl ((ob, .inl (k 4, 1, .inr (.inl o0))) :: wd k b P u D) H := by rw [List.append_nil] at hP; exact hP
    have hD : va_D A ((ob, .inl (k 4, 1, .inr (.inl o0))) :: wd k b P u D) := by rw [List.append_nil] at hD; exact hD
    rcases hEx with rfl | rfl
    · refine ex_catch (own := RLa) (E := th_NS) (h := 13) hown htab ⟨by decide, by decide, by decide, th_NS, hts _ tw_515, Or.inl ⟨va_Nw.use rfl (hE.1.1 _ en_522), rfl⟩⟩ h1 h2 h3 ?_
      refine lv_astore (lv' := [(4, .ref q), (0, .ref (b 0)), (1, .int k9), (2, .int wh), (3, .ref ob)]) hx hb dLa_word_13 hl (by decide) rfl (fun ls hl => ?_)
      refine lv_iconst (v := nI 1) hx hb dLa_word_15 (by decide +kernel) ?_
      exact ct_ri hx hb hr hlocks (o0, u) (Or.inr ⟨th_NS, hxp, (if_pos rfl).symm⟩) hP hD hS (Nat.le_refl _) (Nat.le_refl _) dLa_word_16
    · refine ex_catch (own := RLa) (E := th_IA) (h := 17) hown htab ⟨by decide, by decide, by decide, th_NS, hts _ tw_515, Or.inr ⟨hE.2.2.2.1, ⟨by decide, by decide, by decide, th_IA, hts _ tw_242, Or.inl ⟨va_Nw.use rfl (hE.1.1 _ en_250), rfl⟩⟩⟩⟩ h1 h2 h3 ?_
      refine lv_astore (lv' := [(4, .ref q), (0, .ref (b 0)), (1, .int k9), (2, .int wh), (3, .ref ob)]) hx hb dLa_word_17 hl (by decide) rfl (fun ls hl => ?_)
      refine lv_iconst (v := nI 2) hx hb dLa_word_19 (by decide +kernel) ?_
      exact ct_ri hx hb hr hlocks (o0, u) (Or.inr ⟨th_IA, hxp, (if_neg (by decide)).symm⟩) hP hD hS (Nat.le_refl _) (Nat.le_refl _) dLa_word_20
set_option maxHeartbeats 4000000 in
set_option maxRecDepth 100000 in
theorem hLa_cost (l : Launch) (hln : l.stackTraces = false) (dC : Nat → ClassId) (dI : Nat → Nat → Nat) (k : Nat → ClassId) (b P : Nat → Nat) (I : Nat → Nat → Int32) (D : Nat → Nat → UInt64) (sz : Nat) (ob : Nat) (o0 : (Nat → UInt64)) (k9 : Int32) (nw : Nat) (hnw : nw ≤ 19) (h7 : I 0 7 = nI nw) : Met l yLa_cost (Cond.codeWith yLa_cost cLa_cost 4 (some .int) [(0, 8, 11, 48), (0, 8, 14, 56)] :: W0) ({ frames := 8, cells := 1, slots := 6, locals := 240 }) (va_Pc [.ref (b 0), .int k9, .ref ob] (ct_pre (dC, dI) (la_ty k) ev_L (wd k b P I D ++ [(ob, .inl (k 1, 1, wd_d o0))]) sz)) (va_Qi (fun r (u : (Nat → UInt64) × (Nat → Nat → Int32)) => (∃ v : UInt64, (fun r (u : Nat → Nat → Int32) => u = I ∧ ∃ j, j < nw ∧ k9 = nI j ∧ I 6 j ≠ -1 ∧ r = D 9 j) v u.2 ∧ r = nI 0 ∧ u.1 0 = v) ∨ (∃ E, (fun E (u : Nat → Nat → Int32) => u = I ∧ ((E = th_NS ∧ ¬ ∃ j, j < nw ∧ k9 = nI j) ∨ (E = th_IS ∧ ∃ j, j < nw ∧ k9 = nI j ∧ I 6 j = -1))) E u.2 ∧ r = (if E = th_NS then nI 1 else nI 2))) (fun u t => ct_at (dC, dI) (va_A (wd k b P I D ++ [(ob, .inl (k 1, 1, wd_d o0))]) sz) ((fun (u : (Nat → UInt64) × (Nat → Nat → Int32)) => wd k b P u.2 D ++ [(ob, .inl (k 1, 1, wd_d u.1))]) u) t) (va_A (wd k b P I D ++ [(ob, .inl (k 1, 1, wd_d o0))]) sz)) 1 6 (va_A (wd k b P I D ++ [(ob, .inl (k 1, 1, wd_d o0))]) sz) := by
  refine ex_metW (cc := cLa_cost) (maxL := 4) (ret := some .int) (hh := [(0, 8, 11, 48), (0, 8, 14, 56)]) (by decide) rfl ?_
  intro p e s m args below meth c s₁ B hml htab hv
  obtain ⟨rfl, hsz, hP, hK, hD0, hE⟩ := hv
  have hx := B.exec
  have hb := B.bytes
  have hr := B.returns
  have hts : ∀ w ∈ W0, w.before [.ref (b 0), .int k9, .ref ob].toArray s = true := fun w h => atoms_spec (ws := (Cond.codeWith yLa_cost cLa_cost 4 (some .int) [(0, 8, 11, 48), (0, 8, 14, 56)] :: W0)) B.pre w (List.mem_cons_of_mem _ h)
  have hown : s.vm.findClass RLa = some m.cls := findClass_of_methodNamed B.named
  have hlocks := B.notSynchronized
  subst hsz
  have hD := hD0.self (sz := s.heap.size)
  generalize hAe : va_A (wd k b P I D ++ [(ob, .inl (k 1, 1, wd_d o0))]) s.heap.size = A at hD ⊢
  have hA : ∀ q : Nat, s.heap.size ≤ q → A q := fun q h => by rw [← hAe]; exact Or.inr h
  have hS : va_S A s.heap s.heap [] := va_S.rf
  have hl := lv_entry ([.ref (b 0), .int k9, .ref ob]) (n := 4) (Nat.le_of_ble_eq_true rfl)
  rw [lg_entry_eq]
  generalize (lg_sl ([.ref (b 0), .int k9, .ref ob]) ++ List.replicate (4 - (lg_sl ([.ref (b 0), .int k9, .ref ob])).length) Slot.unset).toArray = ls at hl ⊢
  have hl : lv_has ls 4 [(0, .ref (b 0)), (1, .int k9), (2, .ref ob)] := hl
  have hP : va_P (dC, dI) vwCl ([] ++ (wd k b P I D ++ [(ob, .inl (k 1, 1, wd_d o0))])) s.heap := hP
  have hD : va_D A ([] ++ (wd k b P I D ++ [(ob, .inl (k 1, 1, wd_d o0))])) := hD
  refine lv_aload_n hx hb dLa_cost_0 rfl (lv_at hl 2 rfl) ?_
  refine lv_iconst (v := nI 0) hx hb dLa_cost_1 (by decide +kernel) ?_
  refine lv_aload_n hx hb dLa_cost_2 rfl (lv_at hl 0 rfl) ?_
  refine lv_iload_n hx hb dLa_cost_3 rfl (lv_at hl 1 rfl) ?_
  refine eg_d (C := "HearingDesk") (As := [.int k9]) (rest := [.int (nI 0), .ref ob]) ⟨hx, hb, hml, hown, hts⟩ (kDe_cost l hln dC dI k b P I D _ k9 nw hnw h7) (cwV 1 hts (gw_V tw_620 tw_621 tw_622 tw_1 tw_623) rfl rfl rfl (by decide +kernel) ⟨Nat.le_of_ble_eq_true rfl, Nat.le_of_ble_eq_true rfl⟩) ⟨ct_blind (ev := ev_D) ev_D.blind, va_recv hK (sg_Pc hP) (ci := 7) (q0 := 0) rfl rfl, ct_now (A := A) (ev := ev_D) (fun U hU hW => hE.1.to hW (fun a cell h1 _ => by rw [hU]; exact h1)) (sg_Pc hP) (hK.sub (tys' := de_ty k) [0, 1, 2, 3] rfl) (sg_Dc hD)⟩ rfl hl.1 rfl (Nat.le_of_ble_eq_true rfl) dLa_cost_4 ⟨Nat.le_of_ble_eq_true rfl, Nat.le_of_ble_eq_true rfl⟩ hP hD hS hA (fun v u H locs hw hP hD hS => ?_) (fun E ce q u H locs hxp hP hD hS h1 h2 h3 => ?_)
  · have hP : va_P (dC, dI) vwCl (wd k b P u D ++ [(ob, .inl (k 1, 1, wd_d o0))]) H := hP
    have hD : va_D A (wd k b P u D ++ [(ob, .inl (k 1, 1, wd_d o0))]) := hD
    refine rw_ast_d hx hb hK hP hD hS 48 1 rfl rfl (by decide) (by decide) dLa_cost_7 (fun H locs hP hD hS => ?_)
    have hP : va_P (dC, dI) vwCl (wd k b P u D ++ [(ob, .inl (k 1, 1, wd_d (vf_upd o0 0 v)))]) H := hP
    have hD : va_D A (wd k b P u D ++ [(ob, .inl (k 1, 1, wd_d (vf_upd o0 0 v)))]) := hD
    refine lv_goto (tgt := 17) hx hb dLa_cost_8 (by decide) ?_
    refine lv_iconst (v := nI 0) hx hb dLa_cost_17 (by decide +kernel) ?_
    exact ct_ri hx hb hr hlocks (vf_upd o0 0 v, u) (Or.inl ⟨v, hw, rfl, rfl⟩) hP hD hS (Nat.le_refl _) (Nat.le_refl _) dLa_cost_18
  · have hEx : E = th_NS ∨ E = th_IS := hxp.2.elim (fun z => Or.inl z.1) (fun z => Or.inr z.1)
    have hP : va_P (dC, dI) vwCl (wd k b P u D ++ [(ob, .inl (k 1, 1, wd_d o0))]) H := hP
    have hD : va_D A (wd k b P u D ++ [(ob, .inl (k 1, 1, wd_d o0))]) := hD
    rcases hEx with rfl | rfl
    · refine ex_catch (own := RLa) (E := th_NS) (h := 11) hown htab ⟨by decide, by decide, by decide, th_NS, hts _ tw_515, Or.inl ⟨va_Nw.use rfl (hE.1.1 _ en_522), rfl⟩⟩ h1 h2 h3 ?_
      refine lv_astore_n (lv' := [(3, .ref q), (0, .ref (b 0)), (1, .int k9), (2, .ref ob)]) hx hb dLa_cost_11 rfl hl (by decide) rfl (fun ls hl => ?_)
      refine lv_iconst (v := nI 1) hx hb dLa_cost_12 (by decide +kernel) ?_
      exact ct_ri hx hb hr hlocks (o0, u) (Or.inr ⟨th_NS, hxp, (if_pos rfl).symm⟩) hP hD hS (Nat.le_refl _) (Nat.le_refl _) dLa_cost_13
    · refine ex_catch (own := RLa) (E := th_IS) (h := 14) hown htab ⟨by decide, by decide, by decide, th_NS, hts _ tw_515, Or.inr ⟨hE.2.2.2.2, ⟨by decide, by decide, by decide, th_IS, hts _ tw_564, Or.inl ⟨va_Nw.use rfl (hE.1.1 _ en_571), rfl⟩⟩⟩⟩ h1 h2 h3 ?_
      refine lv_astore_n (lv' := [(3, .ref q), (0, .ref (b 0)), (1, .int k9), (2, .ref ob)]) hx hb dLa_cost_14 rfl hl (by decide) rfl (fun ls hl => ?_)
      refine lv_iconst (v := nI 2) hx hb dLa_cost_15 (by decide +kernel) ?_
      exact ct_ri hx hb hr hlocks (o0, u) (Or.inr ⟨th_IS, hxp, (if_neg (by decide)).symm⟩) hP hD hS (Nat.le_refl _) (Nat.le_refl _) dLa_cost_16
set_option maxHeartbeats 4000000 in
set_option maxRecDepth 100000 in
theorem hLa_count (l : Launch) (hln : l.stackTraces = false) (dC : Nat → ClassId) (dI : Nat → Nat → Nat) (k : Nat → ClassId) (b P : Nat → Nat) (I : Nat → Nat → Int32) (D : Nat → Nat → UInt64) (sz : Nat) (ob : Nat) (o0 : (Nat → Int64)) (wh : Int32) (ns : Nat) (hn : ns ≤ 320) (h4 : I 0 4 = nI ns) (hsm : ∀ i, i < ns → fb_ 1057 (D 1 i)) (hc : ∀ j, j < 32 → D 5 j = hd_C j) (hsn : ∀ j, j < 32 → D 6 j = hd_S j) (hwi : ∀ j, j < 32 → D 7 j = hd_W j) (jd9 : Nat) (hjd : jd9 ≤ hd_nf ns) (h5 : I 0 5 = nI jd9) (hj3 : ∀ q, q < 4 * jd9 → D 3 q = hw_su (D 1) q) (hj4 : ∀ q, q < 4 * jd9 → D 4 q = hw_lv (D 1) 0 q) : Met l yLa_count (Cond.codeWith yLa_count cLa_count 4 (some .int) [(0, 9, 12, 13)] :: W0) ({ frames := 8, cells := 1, slots := 6, locals := 240 }) (va_Pc [.ref (b 0), .int wh, .ref ob] (ct_pre (dC, dI) (la_ty k) ev_L ((ob, .inl (k 4, 1, .inr (.inl o0))) :: wd k b P I D) sz)) (va_Qi (fun r (u : (Nat → Int64) × ((Nat → Nat → Int32) × (Nat → Nat → UInt64))) => (∃ v : Int32, (fun r (u : (Nat → Nat → Int32) × (Nat → Nat → UInt64)) => ∃ q, 0 ≤ q ∧ q ≤ 6 ∧ wh = nI q ∧ r = dk_ct I (D 1) (D 0 0) ns q ∧ (u = (I, D) ∨ (u.1 = ui I 0 5 (nI (hd_nf ns)) ∧ (∀ c, c ≠ 2 → c ≠ 3 → c ≠ 4 → u.2 c = D c) ∧ (∀ q, q < 4 * hd_nf ns → u.2 3 q = hw_su (D 1) q) ∧ (∀ q, q < 4 * hd_nf ns → u.2 4 q = hw_lv (D 1) 0 q)))) v u.2 ∧ r = nI 0 ∧ u.1 0 = v.toInt64) ∨ (∃ E, (fun E (u : (Nat → Nat → Int32) × (Nat → Nat → UInt64)) => u = (I, D) ∧ E = th_IA ∧ ¬ ∃ q, 0 ≤ q ∧ q ≤ 6 ∧ wh = nI q) E u.2 ∧ r = nI 1)) (fun u t => ct_at (dC, dI) (va_A ((ob, .inl (k 4, 1, .inr (.inl o0))) :: wd k b P I D) sz) ((fun (u : (Nat → Int64) × ((Nat → Nat → Int32) × (Nat → Nat → UInt64))) => (ob, .inl (k 4, 1, .inr (.inl u.1))) :: wd k b P u.2.1 u.2.2) u) t) (va_A ((ob, .inl (k 4, 1, .inr (.inl o0))) :: wd k b P I D) sz)) 1 6 (va_A ((ob, .inl (k 4, 1, .inr (.inl o0))) :: wd k b P I D) sz) := by
  refine ex_metW (cc := cLa_count) (maxL := 4) (ret := some .int) (hh := [(0, 9, 12, 13)]) (by decide) rfl ?_
  intro p e s m args below meth c s₁ B hml htab hv
  obtain ⟨rfl, hsz, hP, hK, hD0, hE⟩ := hv
  have hx := B.exec
  have hb := B.bytes
  have hr := B.returns
  have hts : ∀ w ∈ W0, w.before [.ref (b 0), .int wh, .ref ob].toArray s = true := fun w h => atoms_spec (ws := (Cond.codeWith yLa_count cLa_count 4 (some .int) [(0, 9, 12, 13)] :: W0)) B.pre w (List.mem_cons_of_mem _ h)
  have hown : s.vm.findClass RLa = some m.cls := findClass_of_methodNamed B.named
  have hlocks := B.notSynchronized
  subst hsz
  have hD := hD0.self (sz := s.heap.size)
  generalize hAe : va_A ((ob, .inl (k 4, 1, .inr (.inl o0))) :: wd k b P I D) s.heap.size = A at hD ⊢
  have hA : ∀ q : Nat, s.heap.size ≤ q → A q := fun q h => by rw [← hAe]; exact Or.inr h
  have hS : va_S A s.heap s.heap [] := va_S.rf
  have hl := lv_entry ([.ref (b 0), .int wh, .ref ob]) (n := 4) (Nat.le_of_ble_eq_true rfl)
  rw [lg_entry_eq]
  generalize (lg_sl ([.ref (b 0), .int wh, .ref ob]) ++ List.replicate (4 - (lg_sl ([.ref (b 0), .int wh, .ref ob])).length) Slot.unset).toArray = ls at hl ⊢
  have hl : lv_has ls 4 [(0, .ref (b 0)), (1, .int wh), (2, .ref ob)] := hl
  have hP : va_P (dC, dI) vwCl ([(ob, .inl (k 4, 1, .inr (.inl o0)))] ++ (wd k b P I D ++ [])) s.heap := by rw [List.append_nil]; exact hP
  have hD : va_D A ([(ob, .inl (k 4, 1, .inr (.inl o0)))] ++ (wd k b P I D ++ [])) := by rw [List.append_nil]; exact hD
  refine lv_aload_n hx hb dLa_count_0 rfl (lv_at hl 2 rfl) ?_
  refine lv_iconst (v := nI 0) hx hb dLa_count_1 (by decide +kernel) ?_
  refine lv_aload_n hx hb dLa_count_2 rfl (lv_at hl 0 rfl) ?_
  refine lv_iload_n hx hb dLa_count_3 rfl (lv_at hl 1 rfl) ?_
  refine eg_i (C := "HearingDesk") (As := [.int wh]) (rest := [.int (nI 0), .ref ob]) ⟨hx, hb, hml, hown, hts⟩ (kDe_count l hln dC dI k b P I D _ wh ns hn h4 hsm hc hsn hwi jd9 hjd h5 hj3 hj4) (cwV 1 hts (gw_V tw_628 tw_629 tw_630 tw_1 tw_631) rfl rfl rfl (by decide +kernel) ⟨Nat.le_of_ble_eq_true rfl, Nat.le_of_ble_eq_true rfl⟩) ⟨ct_blind (ev := ev_D) ev_D.blind, va_recv hK (sg_Pc hP) (ci := 7) (q0 := 0) rfl rfl, ct_now (A := A) (ev := ev_D) (fun U hU hW => hE.1.to hW (fun a cell h1 _ => by rw [hU]; exact h1)) (sg_Pc hP) (hK.sub (tys' := de_ty k) [0, 1, 2, 3] rfl) (sg_Dc hD)⟩ rfl hl.1 rfl (Nat.le_of_ble_eq_true rfl) dLa_count_4 ⟨Nat.le_of_ble_eq_true rfl, Nat.le_of_ble_eq_true rfl⟩ hP hD hS hA (fun v u H locs hw hP hD hS => ?_) (fun E ce q u H locs hxp hP hD hS h1 h2 h3 => ?_)
  · have hP : va_P (dC, dI) vwCl ((ob, .inl (k 4, 1, .inr (.inl o0))) :: wd k b P u.1 u.2) H := by rw [List.append_nil] at hP; exact hP
    have hD : va_D A ((ob, .inl (k 4, 1, .inr (.inl o0))) :: wd k b P u.1 u.2) := by rw [List.append_nil] at hD; exact hD
    refine lv_i2l (v := v.toInt64) hx hb dLa_count_7 rfl ?_
    refine rw_ast_l hx hb hK hP hD hS 0 4 rfl rfl (by decide) (by decide) dLa_count_8 (fun H locs hP hD hS => ?_)
    have hP : va_P (dC, dI) vwCl ((ob, .inl (k 4, 1, .inr (.inl (vp_updL o0 0 v.toInt64)))) :: wd k b P u.1 u.2) H := hP
    have hD : va_D A ((ob, .inl (k 4, 1, .inr (.inl (vp_updL o0 0 v.toInt64)))) :: wd k b P u.1 u.2) := hD
    refine lv_goto (tgt := 15) hx hb dLa_count_9 (by decide) ?_
    refine lv_iconst (v := nI 0) hx hb dLa_count_15 (by decide +kernel) ?_
    exact ct_ri hx hb hr hlocks (vp_updL o0 0 v.toInt64, u) (Or.inl ⟨v, hw, rfl, rfl⟩) hP hD hS (Nat.le_refl _) (Nat.le_refl _) dLa_count_16
  · have hEx : E = th_IA := hxp.2.1
    have hP : va_P (dC, dI) vwCl ((ob, .inl (k 4, 1, .inr (.inl o0))) :: wd k b P u.1 u.2) H := by rw [List.append_nil] at hP; exact hP
    have hD : va_D A ((ob, .inl (k 4, 1, .inr (.inl o0))) :: wd k b P u.1 u.2) := by rw [List.append_nil] at hD; exact hD
    rcases hEx with rfl
    · refine ex_catch (own := RLa) (E := th_IA) (h := 12) hown htab ⟨by decide, by decide, by decide, th_IA, hts _ tw_242, Or.inl ⟨va_Nw.use rfl (hE.1.1 _ en_250), rfl⟩⟩ h1 h2 h3 ?_
      refine lv_astore_n (lv' := [(3, .ref q), (0, .ref (b 0)), (1, .int wh), (2, .ref ob)]) hx hb dLa_count_12 rfl hl (by decide) rfl (fun ls hl => ?_)
      refine lv_iconst (v := nI 1) hx hb dLa_count_13 (by decide +kernel) ?_
      exact ct_ri hx hb hr hlocks (o0, u) (Or.inr ⟨th_IA, hxp, rfl⟩) hP hD hS (Nat.le_refl _) (Nat.le_refl _) dLa_count_14
