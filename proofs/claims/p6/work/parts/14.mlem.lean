-- small rows for the reference's methods
theorem in_lt {v x : Int64} (h : ¬ lg_cmp v x < 0) : x ≤ v := by rw [lg_cmp_lt] at h; exact Int64.not_lt.mp h
theorem in_gt {v y : Int64} (h : ¬ 0 < lg_cmp v y) : v ≤ y := by rw [lg_cmp_gt] at h; exact Int64.not_lt.mp h
theorem in_nlt {v x : Int64} (h : lg_cmp v x < 0) : ¬ x ≤ v := by rw [lg_cmp_lt] at h; exact Int64.not_le.mpr h
theorem in_ngt {v y : Int64} (h : 0 < lg_cmp v y) : ¬ v ≤ y := by rw [lg_cmp_gt] at h; exact Int64.not_le.mpr h
theorem in_post_1 {v x y : Int64} (h : x ≤ v ∧ v ≤ y) : nI 1 = if x ≤ v ∧ v ≤ y then 1 else 0 := by rw [if_pos h]; rfl
theorem in_post_0 {v x y : Int64} (h : ¬ (x ≤ v ∧ v ≤ y)) : nI 0 = if x ≤ v ∧ v ≤ y then 1 else 0 := by rw [if_neg h]; rfl
def hd_nf (n : Nat) : Nat := if n < 32 then 0 else (n - 32) / 16 + 1
section LPQ
variable {p : Program} {l : Launch} {e : Env} {R : Room} {s : State} {m : MethodId} {args : Array Value} {below : List Frame} {meth : Method} {c : Code} {H : Heap} {locs : List Loc} {cells slots : Nat} {Q : State → Prop} {g : JFrame}
theorem lp_q (h : ∀ Q9 : State → Prop, Q9 = Q → W p l e R s m args below meth c H locs cells slots Q9 g) : W p l e R s m args below meth c H locs cells slots Q g := h Q rfl
end LPQ
-- the FILE by its octets
def fi_2 (oc : Nat → Nat) (j : Nat) : Nat := oc j + 256 * oc (j + 1)
def fi_4 (oc : Nat → Nat) (j : Nat) : Nat := fi_2 oc j + 65536 * fi_2 oc (j + 2)
abbrev fi_sp (oc : Nat → Nat) (j a b c d : Nat) : Prop := oc j = a ∧ oc (j + 1) = b ∧ oc (j + 2) = c ∧ oc (j + 3) = d
theorem sp_post_1 {P : Prop} {h9 : Decidable P} (h : P) : nI 1 = if P then 1 else 0 := by rw [if_pos h]; rfl
theorem sp_post_0 {P : Prop} {h9 : Decidable P} (h : ¬ P) : nI 0 = if P then 1 else 0 := by rw [if_neg h]; rfl
