-- the law's world: an array for a long, the class's, an array for a double, the reference's
def lw (k : Nat → ClassId) (b P : Nat → Nat) (I : Nat → Nat → Int32) (D : Nat → Nat → UInt64) (b2 : Nat → Nat) (I2 : Nat → Nat → Int32) (D2 : Nat → Nat → UInt64) (ob : Nat) (o : Nat → Int64) (od : Nat) (q : Nat → UInt64) : va_W :=
  [(ob, .inl (k 4, 1, .inr (.inl o)))] ++ (wd k b P I D ++ ([(od, .inl (k 1, 1, wd_d q))] ++ wm k b2 I2 D2))
section LW
variable {k : Nat → ClassId} {b P : Nat → Nat} {I : Nat → Nat → Int32} {D : Nat → Nat → UInt64} {b2 : Nat → Nat} {I2 : Nat → Nat → Int32} {D2 : Nat → Nat → UInt64} {ob : Nat} {o : Nat → Int64} {od : Nat} {q : Nat → UInt64}
theorem lw_L : lw k b P I D b2 I2 D2 ob o od q = [] ++ (((ob, .inl (k 4, 1, .inr (.inl o))) :: wd k b P I D) ++ ([(od, .inl (k 1, 1, wd_d q))] ++ wm k b2 I2 D2)) := rfl
theorem lw_C : lw k b P I D b2 I2 D2 ob o od q = [(ob, .inl (k 4, 1, .inr (.inl o)))] ++ (wd k b P I D ++ ([(od, .inl (k 1, 1, wd_d q))] ++ wm k b2 I2 D2)) := rfl
theorem lw_D : lw k b P I D b2 I2 D2 ob o od q = [(ob, .inl (k 4, 1, .inr (.inl o)))] ++ ((wd k b P I D ++ [(od, .inl (k 1, 1, wd_d q))]) ++ wm k b2 I2 D2) := by
  unfold lw
  rw [List.append_assoc (wd k b P I D)]
theorem lw_M : lw k b P I D b2 I2 D2 ob o od q = ([(ob, .inl (k 4, 1, .inr (.inl o)))] ++ (wd k b P I D ++ [(od, .inl (k 1, 1, wd_d q))])) ++ (wm k b2 I2 D2 ++ []) := by
  rw [lw_D, List.append_nil, List.append_assoc [_] (wd k b P I D ++ _)]
end LW
def la_cx (p : Program) (l : Launch) (s : State) (m : MethodId) (c : Code) (sb L : Nat) (xs : Nat → Int32) (dC : Nat → ClassId) (dI : Nat → Nat → Nat) (k : Nat → ClassId) : Prop :=
  p.tables.exec = Jvm.exec ∧ c.code = code ∧ c.maxLocals = 9 ∧ s.vm.findClass RLa = some m.cls ∧ (∀ w ∈ W0, w.before #[Value.ref sb] s = true) ∧ va_X sb L xs s s.heap ∧ sb < s.heap.size ∧ va_K (dC, dI) vwCl (la_ty k) s ∧ ev_L s ∧ l.stackTraces = false
def la_fx (X D2 : Nat → Nat → UInt64) : Prop := (∀ j, j < 32 → X 5 j = hd_C j ∧ X 6 j = hd_S j ∧ X 7 j = hd_W j) ∧ ∀ j, j < 32 → D2 7 j = hd_C j ∧ D2 8 j = hd_S j
theorem st_law {s U : State} {H : Heap} {locs : List Loc} (hS : va_S (fun q : Nat => s.heap.size ≤ q) s.heap H locs) (hU : U.heap = H) : st_same s U := by
  intro a cell h1 _
  have hlt := (Array.getElem?_eq_some_iff.mp h1).1
  rw [hU, hS.2.1 a hlt (Nat.not_le.mpr hlt)]
  exact h1
theorem fb_w8 (x : Int32) : fb_ 1055 (FP.dmul (FP.i2d x) 4593671619917905920) := fb_mono (fb_mul (L := 1021) (fb_i2d x) (by unfold fb_; decide) (by decide) (by decide)) (by decide)
theorem ln_of (x : Int64) : ∃ Wv, Wv < 2 ^ 64 ∧ x = lN Wv := by
  refine ⟨x.toBitVec.toNat, x.toBitVec.isLt, ?_⟩
  apply Int64.toBitVec_inj.mp
  show x.toBitVec = BitVec.ofNat 64 x.toBitVec.toNat
  rw [BitVec.ofNat_toNat, BitVec.setWidth_eq]
section RS
variable {p : Program} {l : Launch} {e : Env} {R : Room} {s : State} {m : MethodId} {args : Array Value} {below : List Frame} {meth : Method} {c : Code} {H : Heap} {locs : List Loc} {cells slots : Nat} {Q : State → Prop}
variable {cc : ByteArray} {pc : Nat} {ls : Array Slot} {rest : List Value} {A : Nat → Prop} {H0 : Heap}
theorem rw_sld (hexec : p.tables.exec = Jvm.exec) (hb : c.code = cc) {sb L : Nat} {xs : Nat → Int32} (hX : va_X sb L xs s H0) (hbl : sb < H0.size) (hbA : ¬ A sb) (hS : va_S A H0 H locs) {k : Nat} (hk : k < L) (hL : L < 2 ^ 31) (hdg : decode cc pc = .ok (.iaload, 1))
    (kk : W p l e R s m args below meth c H locs cells slots Q (F0 m (pc + 1) ls (.int (xs k) :: rest))) : W p l e R s m args below meth c H locs cells slots Q (F0 m pc ls (.int (nI k) :: .ref sb :: rest)) := by
  refine va_sld hexec hb hX hbl hbA hS (vp_in_nI hk hL) hdg ?_
  rw [nI_clamp (by omega)]
  exact kk
end RS
theorem rx_new {X D2 : Nat → Nat → UInt64} (FX : la_fx X D2) (h0 : D2 0 = de_d0) : rx (fun j => j) de_I0 (de_D0 X) mo_I0 D2 := by
  refine ⟨0, fun _ => 0, 0, 2, 0, fun _ => 0, 0, 0, ⟨by decide, rfl, rfl, fun j _ => ⟨rfl, Nat.zero_lt_succ _⟩, fun j _ => ⟨rfl, Nat.zero_lt_succ _⟩⟩, ⟨by decide, rfl, rfl, fun i hi => absurd hi (Nat.not_lt_zero _), fun i hi => absurd hi (Nat.not_lt_zero _)⟩, ⟨rfl, by decide, by decide, by decide, rfl, rfl, by rw [h0]; rfl, by rw [h0]; rfl⟩, ⟨by decide, rfl, rfl, fun j hj => hj, fun i _ j _ h => h, fun j hj => absurd hj (Nat.not_lt_zero _), fun j hj => absurd hj (Nat.not_lt_zero _), fun j hj => absurd hj (Nat.not_lt_zero _), fun j hj => absurd hj (Nat.not_lt_zero _), fun j hj => absurd hj (Nat.not_lt_zero _)⟩, ⟨by decide, rfl, rfl, fun k hk => absurd hk (Nat.not_lt_zero _)⟩, ⟨Nat.zero_le _, rfl, fun q hq => absurd hq (Nat.not_lt_zero _), fun q hq => absurd hq (Nat.not_lt_zero _)⟩, fun j hj => (FX.1 j hj).1, fun j hj => (FX.1 j hj).2.1, fun j hj => (FX.1 j hj).2.2, fun j hj => (FX.2 j hj).1, fun j hj => (FX.2 j hj).2⟩
