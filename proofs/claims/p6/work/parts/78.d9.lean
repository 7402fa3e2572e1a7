set_option maxHeartbeats 4000000 in
set_option maxRecDepth 100000 in
theorem kBo_lesser (l : Launch) (dC : Nat → ClassId) (dI : Nat → Nat → Nat) (k : Nat → ClassId) (b P : Nat → Nat) (I : Nat → Nat → Int32) (D : Nat → Nat → UInt64) (sz : Nat) (x y : UInt64) (hx9 : fb_ 1340 x ∧ po_ x) (hy9 : fb_ 1340 y ∧ po_ y) : Met l yBo_lesser wBo_lesser ({ frames := 0, cells := 0, slots := 0, locals := 0 }) (va_Pc [.double x, .double y] (ct_pre (dC, dI) (de_ty k) (fun _ => True) ([]) sz)) (va_Qd (fun r (_ : Unit) => r = mn_ x y) (fun u t => ct_at (dC, dI) (va_A ([]) sz) ((fun _ => []) u) t) (va_A ([]) sz)) 0 0 (va_A ([]) sz) := by
  refine Met.ofW (cc := cBo_lesser) (maxL := 4) (ret := (some .double)) (by decide) rfl ?_
  intro p e s m args below meth c s₁ B hml hv
  obtain ⟨rfl, hsz, hP, hK, hD0, hE⟩ := hv
  have hx := B.exec
  have hb := B.bytes
  have hr := B.returns
  have hts : ∀ w ∈ W0, w.before [.double x, .double y].toArray s = true := fun w h => atoms_spec (ws := wBo_lesser) B.pre w (List.mem_cons_of_mem _ h)
  have hown : s.vm.findClass RBo = some m.cls := findClass_of_methodNamed B.named
  have hlocks := B.notSynchronized
  subst hsz
  have hP0 := hP
  have hD := hD0.self (sz := s.heap.size)
  generalize hAe : va_A ([]) s.heap.size = A at hD ⊢
  have hA : ∀ q : Nat, s.heap.size ≤ q → A q := fun q h => by rw [← hAe]; exact Or.inr h
  have hS : va_S A s.heap s.heap [] := va_S.rf
  have hl := lv_entry ([.double x, .double y]) (n := 4) (Nat.le_of_ble_eq_true rfl)
  rw [lg_entry_eq]
  generalize (lg_sl ([.double x, .double y]) ++ List.replicate (4 - (lg_sl ([.double x, .double y])).length) Slot.unset).toArray = ls at hl ⊢
  have hl : lv_has ls 4 [(0, .double x), (2, .double y)] := hl
  refine lv_dload_n hx hb dBo_lesser_0 rfl (lv_at hl 1 rfl) ?_
  refine lv_dload_n hx hb dBo_lesser_1 rfl (lv_at hl 0 rfl) ?_
  refine lv_dcmp hx hb dBo_lesser_2 ?_
  refine lv_if_ge (tgt := 10) hx hb dBo_lesser_3 (by decide) (fun c3 => ?_) (fun c3 => ?_)
  · refine lv_dload_n hx hb dBo_lesser_10 rfl (lv_at hl 0 rfl) ?_
    exact ct_rd hx hb hr hlocks () ((if_neg (fun z => (fc_ge_g _).mp c3 ((fo_l hy9 hx9 (by decide)).mpr z))).symm) hP hD hS (Nat.le_refl _) (Nat.le_refl _) dBo_lesser_11
  · refine lv_dload_n hx hb dBo_lesser_6 rfl (lv_at hl 1 rfl) ?_
    refine lv_goto (tgt := 11) hx hb dBo_lesser_7 (by decide) ?_
    exact ct_rd hx hb hr hlocks () ((if_pos ((fo_l hy9 hx9 (by decide)).mp ((fc_lt_g _).mp (Int32.not_le.mp c3)))).symm) hP hD hS (Nat.le_refl _) (Nat.le_refl _) dBo_lesser_11
set_option maxHeartbeats 4000000 in
set_option maxRecDepth 100000 in
theorem kBo_far (l : Launch) (dC : Nat → ClassId) (dI : Nat → Nat → Nat) (k : Nat → ClassId) (b P : Nat → Nat) (I : Nat → Nat → Int32) (D : Nat → Nat → UInt64) (sz : Nat) (qa qb na nb i j : Nat) (ga gb : Nat → UInt64) (ea : (wd k b P I D)[qa]? = some (b qa, .inl (k 1, na, wd_d ga))) (eb : (wd k b P I D)[qb]? = some (b qb, .inl (k 1, nb, wd_d gb))) (hna : na < 2 ^ 31) (hnb : nb < 2 ^ 31) (hi : 4 * i + 4 ≤ na) (hj : 4 * j + 4 ≤ nb) (fa : ∀ q, q < 4 → fb_ 1155 (ga (4 * i + q))) (fb9 : ∀ q, q < 4 → fb_ 1155 (gb (4 * j + q))) : Met l yBo_far wBo_far ({ frames := 0, cells := 0, slots := 0, locals := 0 }) (va_Pc [.ref (b qa), .int (nI i), .ref (b qb), .int (nI j)] (ct_pre (dC, dI) (de_ty k) (fun _ => True) (wd k b P I D) sz)) (va_Qd (fun r (_ : Unit) => r = hd_far (fun q => ga (4 * i + q)) (fun q => gb (4 * j + q)) 4) (fun u t => ct_at (dC, dI) (va_A (wd k b P I D) sz) ((fun _ => wd k b P I D) u) t) (va_A (wd k b P I D) sz)) 0 0 (va_A (wd k b P I D) sz) := by
  refine Met.ofW (cc := cBo_far) (maxL := 9) (ret := (some .double)) (by decide) rfl ?_
  intro p e s m args below meth c s₁ B hml hv
  obtain ⟨rfl, hsz, hP, hK, hD0, hE⟩ := hv
  have hx := B.exec
  have hb := B.bytes
  have hr := B.returns
  have hts : ∀ w ∈ W0, w.before [.ref (b qa), .int (nI i), .ref (b qb), .int (nI j)].toArray s = true := fun w h => atoms_spec (ws := wBo_far) B.pre w (List.mem_cons_of_mem _ h)
  have hown : s.vm.findClass RBo = some m.cls := findClass_of_methodNamed B.named
  have hlocks := B.notSynchronized
  subst hsz
  have hP0 := hP
  have hD := hD0.self (sz := s.heap.size)
  generalize hAe : va_A (wd k b P I D) s.heap.size = A at hD ⊢
  have hA : ∀ q : Nat, s.heap.size ≤ q → A q := fun q h => by rw [← hAe]; exact Or.inr h
  have hS : va_S A s.heap s.heap [] := va_S.rf
  have hl := lv_entry ([.ref (b qa), .int (nI i), .ref (b qb), .int (nI j)]) (n := 9) (Nat.le_of_ble_eq_true rfl)
  rw [lg_entry_eq]
  generalize (lg_sl ([.ref (b qa), .int (nI i), .ref (b qb), .int (nI j)]) ++ List.replicate (9 - (lg_sl ([.ref (b qa), .int (nI i), .ref (b qb), .int (nI j)])).length) Slot.unset).toArray = ls at hl ⊢
  have hl : lv_has ls 9 [(0, .ref (b qa)), (1, .int (nI i)), (2, .ref (b qb)), (3, .int (nI j))] := hl
  refine lp_q (fun Q9 hQ9 => ?_)
  refine lv_dconst0 hx hb dBo_far_0 ?_
  refine rw_d (y := 0) rfl ?_
  refine lv_dstore (lv' := [(4, .double 0), (0, .ref (b qa)), (1, .int (nI i)), (2, .ref (b qb)), (3, .int (nI j))]) hx hb dBo_far_1 hl (by decide) rfl (fun ls hl => ?_)
  refine lv_iconst (v := nI 0) hx hb dBo_far_3 (by decide +kernel) ?_
  refine lv_istore (lv' := [(6, .int (nI 0)), (4, .double 0), (0, .ref (b qa)), (1, .int (nI i)), (2, .ref (b qb)), (3, .int (nI j))]) hx hb dBo_far_4 hl (by decide) rfl (fun ls hl => ?_)
  have L6 : ∀ (n6 : Nat) (bb : Nat), 4 - bb < n6 → bb ≤ 4 → ∀ (H : Heap) (locs : List Loc), va_P (dC, dI) vwCl (wd k b P I D) H → va_D A (wd k b P I D) → va_S A s.heap H locs → ∀ ls : Array Slot, lv_has ls 9 [(0, .ref (b qa)), (1, .int (nI i)), (2, .ref (b qb)), (3, .int (nI j)), (4, .double (hd_far (fun q => ga (4 * i + q)) (fun q => gb (4 * j + q)) bb)), (6, .int (nI bb))] → W p l e (headSpec wBo_far ({ frames := 0, cells := 0, slots := 0, locals := 0 })).room s m [.ref (b qa), .int (nI i), .ref (b qb), .int (nI j)].toArray below meth c H locs 0 0 Q9 (F0 m 6 ls []) := by
    intro n6
    induction n6 with
    | zero => intro bb hm; exact absurd hm (Nat.not_lt_zero _)
    | succ n6 ih6 =>
      intro bb hm6 hbb H locs hP hD hS ls hl
      refine lv_iload hx hb dBo_far_6 (lv_at hl 5 rfl) ?_
      refine lv_iconst (v := nI 4) hx hb dBo_far_8 (by decide +kernel) ?_
      refine lv_icmp_ge (tgt := 47) hx hb dBo_far_9 (by decide) (fun c9 => ?_) (fun c9 => ?_)
      · have c9 : 4 ≤ bb := (nI_leI (a := 4) (b := bb) (by omega) (by omega)).mp (show nI 4 ≤ nI bb from c9)
        obtain rfl : bb = 4 := by omega
        refine lv_dload hx hb dBo_far_47 (lv_at hl 4 rfl) ?_
        rw [hQ9]
        exact ct_rd hx hb hr hlocks () rfl hP hD hS (Nat.le_refl _) (Nat.le_refl _) dBo_far_49
      · have c9 : ¬ 4 ≤ bb := fun q9 => c9 (show nI 4 ≤ nI bb from (nI_leI (a := 4) (b := bb) (by omega) (by omega)).mpr q9)
        refine lv_aload_n hx hb dBo_far_12 rfl (lv_at hl 0 rfl) ?_
        refine lv_iload_n hx hb dBo_far_13 rfl (lv_at hl 1 rfl) ?_
        refine lv_iconst (v := nI 4) hx hb dBo_far_14 (by decide +kernel) ?_
        refine lv_imul hx hb dBo_far_15 ?_
        refine rw_i (y := nI (i * 4)) (pk_mul _ _) ?_
        refine lv_iload hx hb dBo_far_16 (lv_at hl 5 rfl) ?_
        refine lv_iadd hx hb dBo_far_18 ?_
        refine rw_i (y := nI ((i * 4) + bb)) (nI_add _ _) ?_
        refine rw_ald_d hx hb hK hP qa 1 ea rfl (by omega) hna dBo_far_19 ?_
        refine rw_d (y := ga (4 * i + bb)) (congrArg ga (by omega)) ?_
        refine lv_aload_n hx hb dBo_far_20 rfl (lv_at hl 2 rfl) ?_
        refine lv_iload_n hx hb dBo_far_21 rfl (lv_at hl 3 rfl) ?_
        refine lv_iconst (v := nI 4) hx hb dBo_far_22 (by decide +kernel) ?_
        refine lv_imul hx hb dBo_far_23 ?_
        refine rw_i (y := nI (j * 4)) (pk_mul _ _) ?_
        refine lv_iload hx hb dBo_far_24 (lv_at hl 5 rfl) ?_
        refine lv_iadd hx hb dBo_far_26 ?_
        refine rw_i (y := nI ((j * 4) + bb)) (nI_add _ _) ?_
        refine rw_ald_d hx hb hK hP qb 1 eb rfl (by omega) hnb dBo_far_27 ?_
        refine rw_d (y := gb (4 * j + bb)) (congrArg gb (by omega)) ?_
        refine lv_dsub hx hb dBo_far_28 (fb_n (hd_df_b (fa _ (by omega)) (fb9 _ (by omega))) (by decide)) ?_
        refine lv_dstore (lv' := [(7, .double (FP.dsub (ga (4 * i + bb)) (gb (4 * j + bb)))), (0, .ref (b qa)), (1, .int (nI i)), (2, .ref (b qb)), (3, .int (nI j)), (4, .double (hd_far (fun q => ga (4 * i + q)) (fun q => gb (4 * j + q)) bb)), (6, .int (nI bb))]) hx hb dBo_far_29 hl (by decide) rfl (fun ls hl => ?_)
        refine lv_dload hx hb dBo_far_31 (lv_at hl 5 rfl) ?_
        refine lv_dload hx hb dBo_far_33 (lv_at hl 0 rfl) ?_
        refine lv_dload hx hb dBo_far_35 (lv_at hl 0 rfl) ?_
        refine lv_dmul hx hb dBo_far_37 (fb_n (hd_dd_b (fa _ (by omega)) (fb9 _ (by omega))) (by decide)) ?_
        refine lv_dadd hx hb dBo_far_38 (fb_n (hd_far_b (a := fun q => ga (4 * i + q)) (b := fun q => gb (4 * j + q)) fa fb9 (bb + 1) (by omega)) (by omega)) ?_
        refine rw_d (y := hd_far (fun q => ga (4 * i + q)) (fun q => gb (4 * j + q)) (bb + 1)) rfl ?_
        refine lv_dstore (lv' := [(4, .double (hd_far (fun q => ga (4 * i + q)) (fun q => gb (4 * j + q)) (bb + 1))), (7, .double (FP.dsub (ga (4 * i + bb)) (gb (4 * j + bb)))), (0, .ref (b qa)), (1, .int (nI i)), (2, .ref (b qb)), (3, .int (nI j)), (6, .int (nI bb))]) hx hb dBo_far_39 hl (by decide) rfl (fun ls hl => ?_)
        refine lv_iinc (v := nI (bb + 1)) (lv' := [(6, .int (nI (bb + 1))), (4, .double (hd_far (fun q => ga (4 * i + q)) (fun q => gb (4 * j + q)) (bb + 1))), (7, .double (FP.dsub (ga (4 * i + bb)) (gb (4 * j + bb)))), (0, .ref (b qa)), (1, .int (nI i)), (2, .ref (b qb)), (3, .int (nI j))]) hx hb dBo_far_41 hl (k := 6) rfl (nI_1 _) (by decide) rfl (fun ls hl => ?_)
        refine lv_goto (tgt := 6) hx hb dBo_far_44 (by decide) ?_
        exact ih6 (bb + 1) (by omega) (by omega) _ _ hP hD hS ls (lv_sub hl [3, 4, 5, 6, 1, 0] rfl)
  exact L6 _ 0 (Nat.lt_succ_self _) (by omega) _ _ hP hD hS ls (lv_sub hl [2, 3, 4, 5, 1, 0] rfl)
set_option maxHeartbeats 4000000 in
set_option maxRecDepth 100000 in
theorem kBo_leastBefore (l : Launch) (dC : Nat → ClassId) (dI : Nat → Nat → Nat) (k : Nat → ClassId) (b P : Nat → Nat) (I : Nat → Nat → Int32) (D : Nat → Nat → UInt64) (sz : Nat) (i j nb : Nat) (G : Nat → Nat → UInt64) (hi : i ≤ 9) (hj : j < nb) (hnb : nb ≤ 8) (hv : ∀ a c, (a < i ∨ (a = i ∧ c < j)) → c < nb → D 8 (8 * a + c) = G a c) (hG : ∀ a c, a ≤ i → c < nb → fb_ 1340 (G a c) ∧ po_ (G a c)) : Met l yBo_leastBefore wBo_leastBefore ({ frames := 1, cells := 0, slots := 0, locals := 23 }) (va_Pc [.ref (b 12), .int (nI i), .int (nI j)] (ct_pre (dC, dI) (de_ty k) (fun _ => True) (wd k b P I D) sz)) (va_Qd (fun r (_ : Unit) => r = hw_lb G i j) (fun u t => ct_at (dC, dI) (va_A (wd k b P I D) sz) ((fun _ => wd k b P I D) u) t) (va_A (wd k b P I D) sz)) 0 0 (va_A (wd k b P I D) sz) := by
  refine Met.ofW (cc := cBo_leastBefore) (maxL := 6) (ret := (some .double)) (by decide) rfl ?_
  intro p e s m args below meth c s₁ B hml hv
  obtain ⟨rfl, hsz, hP, hK, hD0, hE⟩ := hv
  have hx := B.exec
  have hb := B.bytes
  have hr := B.returns
  have hts : ∀ w ∈ W0, w.before [.ref (b 12), .int (nI i), .int (nI j)].toArray s = true := fun w h => atoms_spec (ws := wBo_leastBefore) B.pre w (List.mem_cons_of_mem _ h)
  have hown : s.vm.findClass RBo = some m.cls := findClass_of_methodNamed B.named
  have hlocks := B.notSynchronized
  subst hsz
  have hP0 := hP
  have hD := hD0.self (sz := s.heap.size)
  generalize hAe : va_A (wd k b P I D) s.heap.size = A at hD ⊢
  have hA : ∀ q : Nat, s.heap.size ≤ q → A q := fun q h => by rw [← hAe]; exact Or.inr h
  have hS : va_S A s.heap s.heap [] := va_S.rf
  have hl := lv_entry ([.ref (b 12), .int (nI i), .int (nI j)]) (n := 6) (Nat.le_of_ble_eq_true rfl)
  rw [lg_entry_eq]
  generalize (lg_sl ([.ref (b 12), .int (nI i), .int (nI j)]) ++ List.replicate (6 - (lg_sl ([.ref (b 12), .int (nI i), .int (nI j)])).length) Slot.unset).toArray = ls at hl ⊢
  have hl : lv_has ls 6 [(0, .ref (b 12)), (1, .int (nI i)), (2, .int (nI j))] := hl
  rcases Nat.eq_zero_or_pos i with zi | zi <;> rcases Nat.eq_zero_or_pos j with zj | zj
  · subst zi
    subst zj
    refine lv_iload_n hx hb dBo_leastBefore_0 rfl (lv_at hl 1 rfl) ?_
    refine lv_bipush (v := nI 8) hx hb dBo_leastBefore_1 (by decide +kernel) ?_
    refine lv_imul hx hb dBo_leastBefore_3 ?_
    refine rw_i (y := nI (0 * 8)) (pk_mul _ _) ?_
    refine lv_iload_n hx hb dBo_leastBefore_4 rfl (lv_at hl 2 rfl) ?_
    refine lv_iadd hx hb dBo_leastBefore_5 ?_
    refine rw_i (y := nI ((0 * 8) + 0)) (nI_add _ _) ?_
    refine lv_istore_n (lv' := [(3, .int (nI ((0 * 8) + 0))), (0, .ref (b 12)), (1, .int (nI 0)), (2, .int (nI 0))]) hx hb dBo_leastBefore_6 rfl hl (by decide) rfl (fun ls hl => ?_)
    refine lv_iload_n hx hb dBo_leastBefore_7 rfl (lv_at hl 2 rfl) ?_
    refine lv_if_ne (tgt := 28) hx hb dBo_leastBefore_8 (by decide) (fun c8 => ?_) (fun c8 => ?_)
    · have c8 : ¬ 0 = 0 := fun q9 => c8 (show nI 0 = nI 0 from (nI_eq (a := 0) (b := 0) (by omega) (by omega)).mpr q9)
      exact absurd (by decide) c8
    · have c8 : 0 = 0 := (nI_eq (a := 0) (b := 0) (by omega) (by omega)).mp (show nI 0 = nI 0 from c8)
      refine lv_iload_n hx hb dBo_leastBefore_11 rfl (lv_at hl 3 rfl) ?_
      refine lv_if_ne (tgt := 19) hx hb dBo_leastBefore_12 (by decide) (fun c12 => ?_) (fun c12 => ?_)
      · have c12 : ¬ 0 = 0 := fun q9 => c12 (show nI 0 = nI 0 from (nI_eq (a := 0) (b := 0) (by omega) (by omega)).mpr q9)
        exact absurd (by decide) c12
      · have c12 : 0 = 0 := (nI_eq (a := 0) (b := 0) (by omega) (by omega)).mp (show nI 0 = nI 0 from c12)
        refine lv_dconst0 hx hb dBo_leastBefore_15 ?_
        refine rw_d (y := 0) rfl ?_
        refine lv_goto (tgt := 27) hx hb dBo_leastBefore_16 (by decide) ?_
        exact ct_rd hx hb hr hlocks () rfl hP hD hS (Nat.le_refl _) (Nat.le_refl _) dBo_leastBefore_27
  · subst zi
    obtain ⟨jp, rfl⟩ : ∃ jp, j = jp + 1 := ⟨j - 1, by omega⟩
    refine lv_iload_n hx hb dBo_leastBefore_0 rfl (lv_at hl 1 rfl) ?_
    refine lv_bipush (v := nI 8) hx hb dBo_leastBefore_1 (by decide +kernel) ?_
    refine lv_imul hx hb dBo_leastBefore_3 ?_
    refine rw_i (y := nI (0 * 8)) (pk_mul _ _) ?_
    refine lv_iload_n hx hb dBo_leastBefore_4 rfl (lv_at hl 2 rfl) ?_
    refine lv_iadd hx hb dBo_leastBefore_5 ?_
    refine rw_i (y := nI ((0 * 8) + (jp + 1))) (nI_add _ _) ?_
    refine lv_istore_n (lv' := [(3, .int (nI ((0 * 8) + (jp + 1)))), (0, .ref (b 12)), (1, .int (nI 0)), (2, .int (nI (jp + 1)))]) hx hb dBo_leastBefore_6 rfl hl (by decide) rfl (fun ls hl => ?_)
    refine lv_iload_n hx hb dBo_leastBefore_7 rfl (lv_at hl 2 rfl) ?_
    refine lv_if_ne (tgt := 28) hx hb dBo_leastBefore_8 (by decide) (fun c8 => ?_) (fun c8 => ?_)
    · have c8 : ¬ 0 = 0 := fun q9 => c8 (show nI 0 = nI 0 from (nI_eq (a := 0) (b := 0) (by omega) (by omega)).mpr q9)
      exact absurd (by decide) c8
    · have c8 : 0 = 0 := (nI_eq (a := 0) (b := 0) (by omega) (by omega)).mp (show nI 0 = nI 0 from c8)
      refine lv_iload_n hx hb dBo_leastBefore_11 rfl (lv_at hl 3 rfl) ?_
      refine lv_if_ne (tgt := 19) hx hb dBo_leastBefore_12 (by decide) (fun c12 => ?_) (fun c12 => ?_)
      · have c12 : ¬ (jp + 1) = 0 := fun q9 => c12 (show nI (jp + 1) = nI 0 from (nI_eq (a := (jp + 1)) (b := 0) (by omega) (by omega)).mpr q9)
        refine lv_aload_n hx hb dBo_leastBefore_19 rfl (lv_at hl 1 rfl) ?_
        refine va_get (D := (dC, dI)) (ci := 2) (v := .ref (b 14)) (C := RBo) (T := TBo) (N := 3) hx hb hts inBo hown hK hP 12 rfl rfl 1 (by decide) (hts _ tw_132) (fun _ h9 => h9) rfl dBo_leastBefore_20 ?_
        refine lv_iload_n hx hb dBo_leastBefore_23 rfl (lv_at hl 0 rfl) ?_
        refine lv_iconst (v := nI 1) hx hb dBo_leastBefore_24 (by decide +kernel) ?_
        refine lv_isub hx hb dBo_leastBefore_25 ?_
        refine rw_i (y := nI (((0 * 8) + (jp + 1)) - 1)) (pk_sub (by omega)) ?_
        refine rw_ald_d hx hb hK hP 14 1 rfl rfl (by omega) (by decide) dBo_leastBefore_26 ?_
        refine rw_d (y := G 0 jp) ((congrArg (D 8) (by omega)).trans (hv 0 jp (by omega) (by omega))) ?_
        exact ct_rd hx hb hr hlocks () rfl hP hD hS (Nat.le_refl _) (Nat.le_refl _) dBo_leastBefore_27
      · have c12 : (jp + 1) = 0 := (nI_eq (a := (jp + 1)) (b := 0) (by omega) (by omega)).mp (show nI (jp + 1) = nI 0 from c12)
        exact absurd c12 (by omega)
  · obtain ⟨ip, rfl⟩ : ∃ ip, i = ip + 1 := ⟨i - 1, by omega⟩
    subst zj
    refine lv_iload_n hx hb dBo_leastBefore_0 rfl (lv_at hl 1 rfl) ?_
    refine lv_bipush (v := nI 8) hx hb dBo_leastBefore_1 (by decide +kernel) ?_
    refine lv_imul hx hb dBo_leastBefore_3 ?_
    refine rw_i (y := nI ((ip + 1) * 8)) (pk_mul _ _) ?_
    refine lv_iload_n hx hb dBo_leastBefore_4 rfl (lv_at hl 2 rfl) ?_
    refine lv_iadd hx hb dBo_leastBefore_5 ?_
    refine rw_i (y := nI (((ip + 1) * 8) + 0)) (nI_add _ _) ?_
    refine lv_istore_n (lv' := [(3, .int (nI (((ip + 1) * 8) + 0))), (0, .ref (b 12)), (1, .int (nI (ip + 1))), (2, .int (nI 0))]) hx hb dBo_leastBefore_6 rfl hl (by decide) rfl (fun ls hl => ?_)
    refine lv_iload_n hx hb dBo_leastBefore_7 rfl (lv_at hl 2 rfl) ?_
    refine lv_if_ne (tgt := 28) hx hb dBo_leastBefore_8 (by decide) (fun c8 => ?_) (fun c8 => ?_)
    · have c8 : ¬ (ip + 1) = 0 := fun q9 => c8 (show nI (ip + 1) = nI 0 from (nI_eq (a := (ip + 1)) (b := 0) (by omega) (by omega)).mpr q9)
      refine lv_aload_n hx hb dBo_leastBefore_28 rfl (lv_at hl 1 rfl) ?_
      refine va_get (D := (dC, dI)) (ci := 2) (v := .ref (b 14)) (C := RBo) (T := TBo) (N := 3) hx hb hts inBo hown hK hP 12 rfl rfl 1 (by decide) (hts _ tw_132) (fun _ h9 => h9) rfl dBo_leastBefore_29 ?_
      refine lv_iload_n hx hb dBo_leastBefore_32 rfl (lv_at hl 0 rfl) ?_
      refine lv_bipush (v := nI 8) hx hb dBo_leastBefore_33 (by decide +kernel) ?_
      refine lv_isub hx hb dBo_leastBefore_35 ?_
      refine rw_i (y := nI ((((ip + 1) * 8) + 0) - 8)) (pk_sub (by omega)) ?_
      refine rw_ald_d hx hb hK hP 14 1 rfl rfl (by omega) (by decide) dBo_leastBefore_36 ?_
      refine rw_d (y := G ip 0) ((congrArg (D 8) (by omega)).trans (hv ip 0 (by omega) (by omega))) ?_
      refine lv_dstore (lv' := [(4, .double (G ip 0)), (3, .int (nI (((ip + 1) * 8) + 0))), (0, .ref (b 12)), (1, .int (nI (ip + 1))), (2, .int (nI 0))]) hx hb dBo_leastBefore_37 hl (by decide) rfl (fun ls hl => ?_)
      refine lv_iload_n hx hb dBo_leastBefore_39 rfl (lv_at hl 4 rfl) ?_
      refine lv_if_le (tgt := 76) hx hb dBo_leastBefore_40 (by decide) (fun c40 => ?_) (fun c40 => ?_)
      · have c40 : 0 ≤ 0 := (nI_leI (a := 0) (b := 0) (by omega) (by omega)).mp (show nI 0 ≤ nI 0 from c40)
        refine lv_dload hx hb dBo_leastBefore_76 (lv_at hl 0 rfl) ?_
        exact ct_rd hx hb hr hlocks () rfl hP hD hS (Nat.le_refl _) (Nat.le_refl _) dBo_leastBefore_78
      · have c40 : ¬ 0 ≤ 0 := fun q9 => c40 (show nI 0 ≤ nI 0 from (nI_leI (a := 0) (b := 0) (by omega) (by omega)).mpr q9)
        exact absurd (by decide) c40
    · have c8 : (ip + 1) = 0 := (nI_eq (a := (ip + 1)) (b := 0) (by omega) (by omega)).mp (show nI (ip + 1) = nI 0 from c8)
      exact absurd c8 (by omega)
  · obtain ⟨ip, rfl⟩ : ∃ ip, i = ip + 1 := ⟨i - 1, by omega⟩
    obtain ⟨jp, rfl⟩ : ∃ jp, j = jp + 1 := ⟨j - 1, by omega⟩
    refine lv_iload_n hx hb dBo_leastBefore_0 rfl (lv_at hl 1 rfl) ?_
    refine lv_bipush (v := nI 8) hx hb dBo_leastBefore_1 (by decide +kernel) ?_
    refine lv_imul hx hb dBo_leastBefore_3 ?_
    refine rw_i (y := nI ((ip + 1) * 8)) (pk_mul _ _) ?_
    refine lv_iload_n hx hb dBo_leastBefore_4 rfl (lv_at hl 2 rfl) ?_
    refine lv_iadd hx hb dBo_leastBefore_5 ?_
    refine rw_i (y := nI (((ip + 1) * 8) + (jp + 1))) (nI_add _ _) ?_
    refine lv_istore_n (lv' := [(3, .int (nI (((ip + 1) * 8) + (jp + 1)))), (0, .ref (b 12)), (1, .int (nI (ip + 1))), (2, .int (nI (jp + 1)))]) hx hb dBo_leastBefore_6 rfl hl (by decide) rfl (fun ls hl => ?_)
    refine lv_iload_n hx hb dBo_leastBefore_7 rfl (lv_at hl 2 rfl) ?_
    refine lv_if_ne (tgt := 28) hx hb dBo_leastBefore_8 (by decide) (fun c8 => ?_) (fun c8 => ?_)
    · have c8 : ¬ (ip + 1) = 0 := fun q9 => c8 (show nI (ip + 1) = nI 0 from (nI_eq (a := (ip + 1)) (b := 0) (by omega) (by omega)).mpr q9)
      refine lv_aload_n hx hb dBo_leastBefore_28 rfl (lv_at hl 1 rfl) ?_
      refine va_get (D := (dC, dI)) (ci := 2) (v := .ref (b 14)) (C := RBo) (T := TBo) (N := 3) hx hb hts inBo hown hK hP 12 rfl rfl 1 (by decide) (hts _ tw_132) (fun _ h9 => h9) rfl dBo_leastBefore_29 ?_
      refine lv_iload_n hx hb dBo_leastBefore_32 rfl (lv_at hl 0 rfl) ?_
      refine lv_bipush (v := nI 8) hx hb dBo_leastBefore_33 (by decide +kernel) ?_
      refine lv_isub hx hb dBo_leastBefore_35 ?_
      refine rw_i (y := nI ((((ip + 1) * 8) + (jp + 1)) - 8)) (pk_sub (by omega)) ?_
      refine rw_ald_d hx hb hK hP 14 1 rfl rfl (by omega) (by decide) dBo_leastBefore_36 ?_
      refine rw_d (y := G ip (jp + 1)) ((congrArg (D 8) (by omega)).trans (hv ip (jp + 1) (by omega) (by omega))) ?_
      refine lv_dstore (lv' := [(4, .double (G ip (jp + 1))), (3, .int (nI (((ip + 1) * 8) + (jp + 1)))), (0, .ref (b 12)), (1, .int (nI (ip + 1))), (2, .int (nI (jp + 1)))]) hx hb dBo_leastBefore_37 hl (by decide) rfl (fun ls hl => ?_)
      refine lv_iload_n hx hb dBo_leastBefore_39 rfl (lv_at hl 4 rfl) ?_
      refine lv_if_le (tgt := 76) hx hb dBo_leastBefore_40 (by decide) (fun c40 => ?_) (fun c40 => ?_)
      · have c40 : (jp + 1) ≤ 0 := (nI_leI (a := (jp + 1)) (b := 0) (by omega) (by omega)).mp (show nI (jp + 1) ≤ nI 0 from c40)
        exact absurd c40 (by omega)
      · have c40 : ¬ (jp + 1) ≤ 0 := fun q9 => c40 (show nI (jp + 1) ≤ nI 0 from (nI_leI (a := (jp + 1)) (b := 0) (by omega) (by omega)).mpr q9)
        refine lv_dload hx hb dBo_leastBefore_43 (lv_at hl 0 rfl) ?_
        refine lv_aload_n hx hb dBo_leastBefore_45 rfl (lv_at hl 2 rfl) ?_
        refine va_get (D := (dC, dI)) (ci := 2) (v := .ref (b 14)) (C := RBo) (T := TBo) (N := 3) hx hb hts inBo hown hK hP 12 rfl rfl 1 (by decide) (hts _ tw_132) (fun _ h9 => h9) rfl dBo_leastBefore_46 ?_
        refine lv_iload_n hx hb dBo_leastBefore_49 rfl (lv_at hl 1 rfl) ?_
        refine lv_iconst (v := nI 1) hx hb dBo_leastBefore_50 (by decide +kernel) ?_
        refine lv_isub hx hb dBo_leastBefore_51 ?_
        refine rw_i (y := nI ((((ip + 1) * 8) + (jp + 1)) - 1)) (pk_sub (by omega)) ?_
        refine rw_ald_d hx hb hK hP 14 1 rfl rfl (by omega) (by decide) dBo_leastBefore_52 ?_
        refine rw_d (y := G (ip + 1) jp) ((congrArg (D 8) (by omega)).trans (hv (ip + 1) jp (by omega) (by omega))) ?_
        have hP : va_P (dC, dI) vwCl ([] ++ ([] ++ (wd k b P I D))) _ := hP
        have hD : va_D A ([] ++ ([] ++ (wd k b P I D))) := hD
        refine sg_d (va_runS (As := [.double (G ip (jp + 1)), .double (G (ip + 1) jp)]) (rest := []) ⟨hx, hb, hml, hown, hts⟩ (kBo_lesser l dC dI k b P I D _ (G ip (jp + 1)) (G (ip + 1) jp) (hG _ _ (by omega) (by omega)) (hG _ _ (by omega) (by omega))) (va_cwS 2 hts (gw_S tw_558 tw_559 tw_5 tw_560) rfl rfl rfl (by decide +kernel) ⟨Nat.le_of_ble_eq_true rfl, Nat.le_of_ble_eq_true rfl⟩) ⟨ct_blind (ev := fun _ => True) (fun _ _ _ _ h => h), ct_now (A := A) (ev := fun _ => True) (fun _ _ _ => trivial) (sg_Pc hP) hK (sg_Dc hD)⟩ rfl rfl hl.1 rfl (lv_room (Nat.le_of_ble_eq_true rfl)) dBo_leastBefore_53 ⟨Nat.le_of_ble_eq_true rfl, Nat.le_of_ble_eq_true rfl⟩) hP hD hS hA (fun r1 u1 H locs hw1 hP hD hS => ?_)
        have hP : va_P (dC, dI) vwCl (wd k b P I D) H := hP
        have hD : va_D A (wd k b P I D) := hD
        subst hw1
        refine lv_dstore (lv' := [(4, .double (mn_ (G ip (jp + 1)) (G (ip + 1) jp))), (3, .int (nI (((ip + 1) * 8) + (jp + 1)))), (0, .ref (b 12)), (1, .int (nI (ip + 1))), (2, .int (nI (jp + 1)))]) hx hb dBo_leastBefore_56 hl (by decide) rfl (fun ls hl => ?_)
        refine lv_dload hx hb dBo_leastBefore_58 (lv_at hl 0 rfl) ?_
        refine lv_aload_n hx hb dBo_leastBefore_60 rfl (lv_at hl 2 rfl) ?_
        refine va_get (D := (dC, dI)) (ci := 2) (v := .ref (b 14)) (C := RBo) (T := TBo) (N := 3) hx hb hts inBo hown hK hP 12 rfl rfl 1 (by decide) (hts _ tw_132) (fun _ h9 => h9) rfl dBo_leastBefore_61 ?_
        refine lv_iload_n hx hb dBo_leastBefore_64 rfl (lv_at hl 1 rfl) ?_
        refine lv_bipush (v := nI 8) hx hb dBo_leastBefore_65 (by decide +kernel) ?_
        refine lv_isub hx hb dBo_leastBefore_67 ?_
        refine rw_i (y := nI ((((ip + 1) * 8) + (jp + 1)) - 8)) (pk_sub (by omega)) ?_
        refine lv_iconst (v := nI 1) hx hb dBo_leastBefore_68 (by decide +kernel) ?_
        refine lv_isub hx hb dBo_leastBefore_69 ?_
        refine rw_i (y := nI (((((ip + 1) * 8) + (jp + 1)) - 8) - 1)) (pk_sub (by omega)) ?_
        refine rw_ald_d hx hb hK hP 14 1 rfl rfl (by omega) (by decide) dBo_leastBefore_70 ?_
        refine rw_d (y := G ip jp) ((congrArg (D 8) (by omega)).trans (hv ip jp (by omega) (by omega))) ?_
        have hP : va_P (dC, dI) vwCl ([] ++ ([] ++ (wd k b P I D))) _ := hP
        have hD : va_D A ([] ++ ([] ++ (wd k b P I D))) := hD
        refine sg_d (va_runS (As := [.double (mn_ (G ip (jp + 1)) (G (ip + 1) jp)), .double (G ip jp)]) (rest := []) ⟨hx, hb, hml, hown, hts⟩ (kBo_lesser l dC dI k b P I D _ (mn_ (G ip (jp + 1)) (G (ip + 1) jp)) (G ip jp) (mn_b (hG _ _ (by omega) (by omega)) (hG _ _ (by omega) (by omega))) (hG _ _ (by omega) (by omega))) (va_cwS 2 hts (gw_S tw_558 tw_559 tw_5 tw_560) rfl rfl rfl (by decide +kernel) ⟨Nat.le_of_ble_eq_true rfl, Nat.le_of_ble_eq_true rfl⟩) ⟨ct_blind (ev := fun _ => True) (fun _ _ _ _ h => h), ct_now (A := A) (ev := fun _ => True) (fun _ _ _ => trivial) (sg_Pc hP) hK (sg_Dc hD)⟩ rfl rfl hl.1 rfl (lv_room (Nat.le_of_ble_eq_true rfl)) dBo_leastBefore_71 ⟨Nat.le_of_ble_eq_true rfl, Nat.le_of_ble_eq_true rfl⟩) hP hD hS hA (fun r2 u2 H locs hw2 hP hD hS => ?_)
        have hP : va_P (dC, dI) vwCl (wd k b P I D) H := hP
        have hD : va_D A (wd k b P I D) := hD
        subst hw2
        refine lv_dstore (lv' := [(4, .double (mn_ (mn_ (G ip (jp + 1)) (G (ip + 1) jp)) (G ip jp))), (3, .int (nI (((ip + 1) * 8) + (jp + 1)))), (0, .ref (b 12)), (1, .int (nI (ip + 1))), (2, .int (nI (jp + 1)))]) hx hb dBo_leastBefore_74 hl (by decide) rfl (fun ls hl => ?_)
        refine lv_dload hx hb dBo_leastBefore_76 (lv_at hl 0 rfl) ?_
        exact ct_rd hx hb hr hlocks () rfl hP hD hS (Nat.le_refl _) (Nat.le_refl _) dBo_leastBefore_78
    · have c8 : (ip + 1) = 0 := (nI_eq (a := (ip + 1)) (b := 0) (by omega) (by omega)).mp (show nI (ip + 1) = nI 0 from c8)
      exact absurd c8 (by omega)
set_option maxHeartbeats 4000000 in
set_option maxRecDepth 100000 in
theorem kBo_distance (l : Launch) (dC : Nat → ClassId) (dI : Nat → Nat → Nat) (k : Nat → ClassId) (b P : Nat → Nat) (I : Nat → Nat → Int32) (D : Nat → Nat → UInt64) (sz : Nat) (qa na f n9 px m9 : Nat) (ga : Nat → UInt64) (ea : ∀ v, (wd k b P I (us D 8 v))[qa]? = some (b qa, .inl (k 1, na, wd_d ga))) (hna : na < 2 ^ 31) (hfn : 4 * (f + n9) ≤ na) (hpx : px < 6) (hpr : I 3 px = nI m9) (g1 : 1 ≤ n9) (g2 : n9 ≤ 10) (g3 : 1 ≤ m9) (g4 : m9 ≤ 8) (fa : ∀ q, q < 4 * n9 → fb_ 1155 (ga (4 * f + q))) (fb9 : ∀ q, q < 4 * m9 → fb_ 1155 (D (10 + px) q)) : Met l yBo_distance wBo_distance ({ frames := 2, cells := 0, slots := 0, locals := 48 }) (va_Pc [.ref (b 12), .ref (b qa), .int (nI f), .int (nI n9), .ref (b (17 + px))] (ct_pre (dC, dI) (de_ty k) ev_N (wd k b P I D) sz)) (va_Qd (fun r (_ : Nat → UInt64) => r = hw_wa (fun q => ga (4 * f + q)) (D (10 + px)) n9 m9) (fun u t => ct_at (dC, dI) (va_A (wd k b P I D) sz) ((fun u => wd k b P I (us D 8 u)) u) t) (va_A (wd k b P I D) sz)) 0 0 (va_A (wd k b P I D) sz) := by
  refine Met.ofW (cc := cBo_distance) (maxL := 8) (ret := (some .double)) (by decide) rfl ?_
  intro p e s m args below meth c s₁ B hml hv
  obtain ⟨rfl, hsz, hP, hK, hD0, hE⟩ := hv
  have hx := B.exec
  have hb := B.bytes
  have hr := B.returns
  have hts : ∀ w ∈ W0, w.before [.ref (b 12), .ref (b qa), .int (nI f), .int (nI n9), .ref (b (17 + px))].toArray s = true := fun w h => atoms_spec (ws := wBo_distance) B.pre w (List.mem_cons_of_mem _ h)
  have hown : s.vm.findClass RBo = some m.cls := findClass_of_methodNamed B.named
  have hlocks := B.notSynchronized
  subst hsz
  have hP0 := hP
  have hD := hD0.self (sz := s.heap.size)
  generalize hAe : va_A (wd k b P I D) s.heap.size = A at hD ⊢
  have hA : ∀ q : Nat, s.heap.size ≤ q → A q := fun q h => by rw [← hAe]; exact Or.inr h
  have hS : va_S A s.heap s.heap [] := va_S.rf
  have hl := lv_entry ([.ref (b 12), .ref (b qa), .int (nI f), .int (nI n9), .ref (b (17 + px))]) (n := 8) (Nat.le_of_ble_eq_true rfl)
  rw [lg_entry_eq]
  generalize (lg_sl ([.ref (b 12), .ref (b qa), .int (nI f), .int (nI n9), .ref (b (17 + px))]) ++ List.replicate (8 - (lg_sl ([.ref (b 12), .ref (b qa), .int (nI f), .int (nI n9), .ref (b (17 + px))])).length) Slot.unset).toArray = ls at hl ⊢
  have hl : lv_has ls 8 [(0, .ref (b 12)), (1, .ref (b qa)), (2, .int (nI f)), (3, .int (nI n9)), (4, .ref (b (17 + px)))] := hl
  refine lp_q (fun Q9 hQ9 => ?_)
  refine lv_aload hx hb dBo_distance_0 (lv_at hl 4 rfl) ?_
  refine va_getN (D := (dC, dI)) (ci := 1) (v := .int (I 3 px)) (C := RPa) (T := TPa) (N := 3) hx hb hts inPa hown hK hP (17 + px) (wd_pa hpx) rfl 2 (by decide) (va_Nw.use rfl (hE _ en_120)) (fun _ h9 => h9) rfl dBo_distance_2 ?_
  refine rw_i (y := nI m9) hpr ?_
  refine lv_istore (lv' := [(5, .int (nI m9)), (0, .ref (b 12)), (1, .ref (b qa)), (2, .int (nI f)), (3, .int (nI n9)), (4, .ref (b (17 + px)))]) hx hb dBo_distance_5 hl (by decide) rfl (fun ls hl => ?_)
  refine lv_iconst (v := nI 0) hx hb dBo_distance_7 (by decide +kernel) ?_
  refine lv_istore (lv' := [(6, .int (nI 0)), (5, .int (nI m9)), (0, .ref (b 12)), (1, .ref (b qa)), (2, .int (nI f)), (3, .int (nI n9)), (4, .ref (b (17 + px)))]) hx hb dBo_distance_8 hl (by decide) rfl (fun ls hl => ?_)
  rw [← us_id D 8] at hP hD
  have L10 : ∀ (n10 : Nat) (i : Nat) (v : Nat → UInt64), n9 - i < n10 → i ≤ n9 → (∀ a c, (a < i ∨ (a = i ∧ c < 0)) → c < m9 → v (8 * a + c) = hw_dd (fun q => ga (4 * f + q)) (D (10 + px)) a c) → ∀ (H : Heap) (locs : List Loc), va_P (dC, dI) vwCl (wd k b P I (us D 8 v)) H → va_D A (wd k b P I (us D 8 v)) → va_S A s.heap H locs → ∀ ls : Array Slot, lv_has ls 8 [(0, .ref (b 12)), (1, .ref (b qa)), (2, .int (nI f)), (3, .int (nI n9)), (4, .ref (b (17 + px))), (5, .int (nI m9)), (6, .int (nI i))] → W p l e (headSpec wBo_distance ({ frames := 2, cells := 0, slots := 0, locals := 48 })).room s m [.ref (b 12), .ref (b qa), .int (nI f), .int (nI n9), .ref (b (17 + px))].toArray below meth c H locs 0 0 Q9 (F0 m 10 ls []) := by
    intro n10
    induction n10 with
    | zero => intro i v hm; exact absurd hm (Nat.not_lt_zero _)
    | succ n10 ih10 =>
      intro i v hm10 hi hv H locs hP hD hS ls hl
      refine lv_iload hx hb dBo_distance_10 (lv_at hl 6 rfl) ?_
      refine lv_iload_n hx hb dBo_distance_12 rfl (lv_at hl 3 rfl) ?_
      refine lv_icmp_ge (tgt := 75) hx hb dBo_distance_13 (by decide) (fun c13 => ?_) (fun c13 => ?_)
      · have c13 : n9 ≤ i := (nI_leI (a := n9) (b := i) (by omega) (by omega)).mp (show nI n9 ≤ nI i from c13)
        refine lv_aload_n hx hb dBo_distance_75 rfl (lv_at hl 0 rfl) ?_
        refine va_get (D := (dC, dI)) (ci := 2) (v := .ref (b 14)) (C := RBo) (T := TBo) (N := 3) hx hb hts inBo hown hK hP 12 rfl rfl 1 (by decide) (hts _ tw_132) (fun _ h9 => h9) rfl dBo_distance_76 ?_
        refine lv_iload_n hx hb dBo_distance_79 rfl (lv_at hl 3 rfl) ?_
        refine lv_iconst (v := nI 1) hx hb dBo_distance_80 (by decide +kernel) ?_
        refine lv_isub hx hb dBo_distance_81 ?_
        refine rw_i (y := nI (n9 - 1)) (pk_sub (by omega)) ?_
        refine lv_bipush (v := nI 8) hx hb dBo_distance_82 (by decide +kernel) ?_
        refine lv_imul hx hb dBo_distance_84 ?_
        refine rw_i (y := nI ((n9 - 1) * 8)) (pk_mul _ _) ?_
        refine lv_iload hx hb dBo_distance_85 (lv_at hl 5 rfl) ?_
        refine lv_iadd hx hb dBo_distance_87 ?_
        refine rw_i (y := nI (((n9 - 1) * 8) + m9)) (nI_add _ _) ?_
        refine lv_iconst (v := nI 1) hx hb dBo_distance_88 (by decide +kernel) ?_
        refine lv_isub hx hb dBo_distance_89 ?_
        refine rw_i (y := nI ((((n9 - 1) * 8) + m9) - 1)) (pk_sub (by omega)) ?_
        refine rw_ald_d hx hb hK hP 14 1 rfl rfl (by omega) (by decide) dBo_distance_90 ?_
        refine rw_d (y := hw_dd (fun q => ga (4 * f + q)) (D (10 + px)) (n9 - 1) (m9 - 1)) (by rw [us_c]; exact (congrArg v (by omega)).trans (hv (n9 - 1) (m9 - 1) (by omega) (by omega))) ?_
        refine lv_iload_n hx hb dBo_distance_91 rfl (lv_at hl 3 rfl) ?_
        refine lv_iload hx hb dBo_distance_92 (lv_at hl 5 rfl) ?_
        refine lv_iadd hx hb dBo_distance_94 ?_
        refine rw_i (y := nI (n9 + m9)) (nI_add _ _) ?_
        refine lv_i2d hx hb dBo_distance_95 ?_
        refine lv_ddiv hx hb dBo_distance_96 (fb_n (hw_wa_b fa fb9 g2 g4 g1 g3) (by decide)) ?_
        refine rw_d (y := hw_wa (fun q => ga (4 * f + q)) (D (10 + px)) n9 m9) rfl ?_
        rw [hQ9]
        exact ct_rd hx hb hr hlocks v rfl hP hD hS (Nat.le_refl _) (Nat.le_refl _) dBo_distance_97
      · have c13 : ¬ n9 ≤ i := fun q9 => c13 (show nI n9 ≤ nI i from (nI_leI (a := n9) (b := i) (by omega) (by omega)).mpr q9)
        refine lv_iconst (v := nI 0) hx hb dBo_distance_16 (by decide +kernel) ?_
        refine lv_istore (lv' := [(7, .int (nI 0)), (0, .ref (b 12)), (1, .ref (b qa)), (2, .int (nI f)), (3, .int (nI n9)), (4, .ref (b (17 + px))), (5, .int (nI m9)), (6, .int (nI i))]) hx hb dBo_distance_17 hl (by decide) rfl (fun ls hl => ?_)
        have L19 : ∀ (n19 : Nat) (j : Nat) (v : Nat → UInt64), m9 - j < n19 → j ≤ m9 → (∀ a c, (a < i ∨ (a = i ∧ c < j)) → c < m9 → v (8 * a + c) = hw_dd (fun q => ga (4 * f + q)) (D (10 + px)) a c) → ∀ (H : Heap) (locs : List Loc), va_P (dC, dI) vwCl (wd k b P I (us D 8 v)) H → va_D A (wd k b P I (us D 8 v)) → va_S A s.heap H locs → ∀ ls : Array Slot, lv_has ls 8 [(0, .ref (b 12)), (1, .ref (b qa)), (2, .int (nI f)), (3, .int (nI n9)), (4, .ref (b (17 + px))), (5, .int (nI m9)), (6, .int (nI i)), (7, .int (nI j))] → W p l e (headSpec wBo_distance ({ frames := 2, cells := 0, slots := 0, locals := 48 })).room s m [.ref (b 12), .ref (b qa), .int (nI f), .int (nI n9), .ref (b (17 + px))].toArray below meth c H locs 0 0 Q9 (F0 m 19 ls []) := by
          intro n19
          induction n19 with
          | zero => intro j v hm; exact absurd hm (Nat.not_lt_zero _)
          | succ n19 ih19 =>
            intro j v hm19 hj hv H locs hP hD hS ls hl
            refine lv_iload hx hb dBo_distance_19 (lv_at hl 7 rfl) ?_
            refine lv_iload hx hb dBo_distance_21 (lv_at hl 5 rfl) ?_
            refine lv_icmp_ge (tgt := 69) hx hb dBo_distance_23 (by decide) (fun c23 => ?_) (fun c23 => ?_)
            · have c23 : m9 ≤ j := (nI_leI (a := m9) (b := j) (by omega) (by omega)).mp (show nI m9 ≤ nI j from c23)
              refine lv_iinc (v := nI (i + 1)) (lv' := [(6, .int (nI (i + 1))), (0, .ref (b 12)), (1, .ref (b qa)), (2, .int (nI f)), (3, .int (nI n9)), (4, .ref (b (17 + px))), (5, .int (nI m9)), (7, .int (nI j))]) hx hb dBo_distance_69 hl (k := 6) rfl (nI_1 _) (by decide) rfl (fun ls hl => ?_)
              refine lv_goto (tgt := 10) hx hb dBo_distance_72 (by decide) ?_
              exact ih10 (i + 1) v (by omega) (by omega) (fun a c h hc => hv a c (by omega) hc) _ _ hP hD hS ls (lv_sub hl [1, 2, 3, 4, 5, 6, 0] rfl)
            · have c23 : ¬ m9 ≤ j := fun q9 => c23 (show nI m9 ≤ nI j from (nI_leI (a := m9) (b := j) (by omega) (by omega)).mpr q9)
              refine lv_aload_n hx hb dBo_distance_26 rfl (lv_at hl 0 rfl) ?_
              refine va_get (D := (dC, dI)) (ci := 2) (v := .ref (b 14)) (C := RBo) (T := TBo) (N := 3) hx hb hts inBo hown hK hP 12 rfl rfl 1 (by decide) (hts _ tw_132) (fun _ h9 => h9) rfl dBo_distance_27 ?_
              refine lv_iload hx hb dBo_distance_30 (lv_at hl 6 rfl) ?_
              refine lv_bipush (v := nI 8) hx hb dBo_distance_32 (by decide +kernel) ?_
              refine lv_imul hx hb dBo_distance_34 ?_
              refine rw_i (y := nI (i * 8)) (pk_mul _ _) ?_
              refine lv_iload hx hb dBo_distance_35 (lv_at hl 7 rfl) ?_
              refine lv_iadd hx hb dBo_distance_37 ?_
              refine rw_i (y := nI ((i * 8) + j)) (nI_add _ _) ?_
              refine lv_aload_n hx hb dBo_distance_38 rfl (lv_at hl 1 rfl) ?_
              refine lv_iload_n hx hb dBo_distance_39 rfl (lv_at hl 2 rfl) ?_
              refine lv_iload hx hb dBo_distance_40 (lv_at hl 6 rfl) ?_
              refine lv_iadd hx hb dBo_distance_42 ?_
              refine rw_i (y := nI (f + i)) (nI_add _ _) ?_
              refine lv_aload hx hb dBo_distance_43 (lv_at hl 4 rfl) ?_
              refine va_getN (D := (dC, dI)) (ci := 1) (v := .ref (b (23 + px))) (C := RPa) (T := TPa) (N := 3) hx hb hts inPa hown hK hP (17 + px) (wd_pa hpx) rfl 0 (by decide) (va_Nw.use rfl (hE _ en_114)) (fun _ h9 => h9) rfl dBo_distance_45 ?_
              refine lv_iload hx hb dBo_distance_48 (lv_at hl 7 rfl) ?_
              refine ct_d (va_runS (As := [.ref (b qa), .int (nI (f + i)), .ref (b (23 + px)), .int (nI j)]) (rest := [.int (nI ((i * 8) + j)), .ref (b 14)]) ⟨hx, hb, hml, hown, hts⟩ (kBo_far l dC dI k b P I (us D 8 v) _ qa (23 + px) na 32 (f + i) j ga ((us D 8 v) (10 + px)) (ea v) (wd_pl hpx) hna (by decide) (by omega) (by omega) (fun q hq => by rw [show 4 * (f + i) + q = 4 * f + (4 * i + q) by omega]; exact fa _ (by omega)) (fun q hq => by rw [us_o _ _ (by omega)]; exact fb9 _ (by omega))) (va_cwS 4 hts (gw_S tw_551 tw_552 tw_5 tw_553) rfl rfl rfl (by decide +kernel) ⟨Nat.le_of_ble_eq_true rfl, Nat.le_of_ble_eq_true rfl⟩) ⟨ct_blind (ev := (fun _ => True)) (fun _ _ _ _ h => h), ct_now (ev := (fun _ => True)) (fun _ _ _ => trivial) hP hK hD⟩ rfl rfl hl.1 rfl (lv_room (Nat.le_of_ble_eq_true rfl)) dBo_distance_50 ⟨Nat.le_of_ble_eq_true rfl, Nat.le_of_ble_eq_true rfl⟩) hD hS hA (fun r1 u1 H locs hw1 hP hD hS => ?_)
              rw [us_o _ _ (by omega), far_sh] at hw1
              subst hw1
              refine lv_aload_n hx hb dBo_distance_53 rfl (lv_at hl 0 rfl) ?_
              refine lv_iload hx hb dBo_distance_54 (lv_at hl 6 rfl) ?_
              refine lv_iload hx hb dBo_distance_56 (lv_at hl 7 rfl) ?_
              refine ct_d (va_runV (As := [.int (nI i), .int (nI j)]) (rest := [.double (hw_F (fun q => ga (4 * f + q)) (D (10 + px)) i j), .int (nI ((i * 8) + j)), .ref (b 14)]) ⟨hx, hb, hml, hown, hts⟩ (kBo_leastBefore l dC dI k b P I (us D 8 v) _ i j m9 (hw_dd (fun q => ga (4 * f + q)) (D (10 + px))) (by omega) (by omega) g4 (fun a c h hc => by rw [us_c]; exact hv a c h hc) (fun a c h hc => hw_dd_c fa fb9 g2 g4 (by omega) hc)) (cwV 2 hts (gw_V tw_554 tw_556 sl_Bo_leastBefore tw_5 tw_557) rfl rfl rfl (by decide +kernel) ⟨Nat.le_of_ble_eq_true rfl, Nat.le_of_ble_eq_true rfl⟩) ⟨ct_blind (ev := (fun _ => True)) (fun _ _ _ _ h => h), va_recv hK hP (ci := 2) (q0 := 12) rfl rfl, ct_now (ev := (fun _ => True)) (fun _ _ _ => trivial) hP hK hD⟩ rfl rfl hl.1 rfl (lv_room (Nat.le_of_ble_eq_true rfl)) dBo_distance_58 ⟨Nat.le_of_ble_eq_true rfl, Nat.le_of_ble_eq_true rfl⟩) hD hS hA (fun r2 u2 H locs hw2 hP hD hS => ?_)
              subst hw2
              refine lv_dadd hx hb dBo_distance_61 (hw_lb_e fa fb9 (i := i) (j := j) (by omega) (by omega) ▸ fb_n (hw_dd_c fa fb9 g2 g4 (i := i) (j := j) (by omega) (by omega)).1 (by decide)) ?_
              refine rw_d (y := hw_dd (fun q => ga (4 * f + q)) (D (10 + px)) i j) (hw_lb_e fa fb9 (by omega) (by omega)) ?_
              refine rw_ast_d hx hb hK hP hD hS 14 1 rfl rfl (by omega) (by decide) dBo_distance_62 (fun H locs hP hD hS => ?_)
              rw [wd_a14] at hP hD
              obtain ⟨D3, eD3⟩ : ∃ z, z = ud (us D 8 v) 8 ((i * 8) + j) (hw_dd (fun q => ga (4 * f + q)) (D (10 + px)) i j) := ⟨_, rfl⟩
              rw [← eD3] at hP hD
              refine lv_iinc (v := nI (j + 1)) (lv' := [(7, .int (nI (j + 1))), (0, .ref (b 12)), (1, .ref (b qa)), (2, .int (nI f)), (3, .int (nI n9)), (4, .ref (b (17 + px))), (5, .int (nI m9)), (6, .int (nI i))]) hx hb dBo_distance_63 hl (k := 7) rfl (nI_1 _) (by decide) rfl (fun ls hl => ?_)
              refine lv_goto (tgt := 19) hx hb dBo_distance_66 (by decide) ?_
              rw [eD3] at hP hD
              rw [ud_us] at hP hD
              have hv2 : ∀ a c, (a < i ∨ (a = i ∧ c < j + 1)) → c < m9 → vf_upd v (i * 8 + j) (hw_dd (fun q => ga (4 * f + q)) (D (10 + px)) i j) (8 * a + c) = hw_dd (fun q => ga (4 * f + q)) (D (10 + px)) a c := fun a c h hc => by
                by_cases e9 : 8 * a + c = i * 8 + j
                · obtain ⟨rfl, rfl⟩ : a = i ∧ c = j := ⟨by omega, by omega⟩
                  rw [e9, vu_s]
                · rw [vu_n _ _ e9]; exact hv a c (by omega) hc
              exact ih19 (j + 1) (vf_upd v (i * 8 + j) (hw_dd (fun q => ga (4 * f + q)) (D (10 + px)) i j)) (by omega) (by omega) hv2 _ _ hP hD hS ls (lv_sub hl [1, 2, 3, 4, 5, 6, 7, 0] rfl)
        exact L19 _ 0 v (Nat.lt_succ_self _) (by omega) (fun a c h hc => hv a c (by omega) hc) _ _ hP hD hS ls (lv_sub hl [1, 2, 3, 4, 5, 6, 7, 0] rfl)
  exact L10 _ 0 (D 8) (Nat.lt_succ_self _) (by omega) (fun a c h hc => by omega) _ _ hP hD hS ls (lv_sub hl [2, 3, 4, 5, 6, 1, 0] rfl)
