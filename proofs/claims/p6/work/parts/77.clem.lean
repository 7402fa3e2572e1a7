-- patterns and words by their numbers
theorem wd_pa {k : Nat → ClassId} {b P : Nat → Nat} {I : Nat → Nat → Int32} {D : Nat → Nat → UInt64} {x : Nat} (hx : x < 6) : (wd k b P I D)[17 + x]? = some (b (17 + x), .inr (1, pa_f x b I D)) := by
  rcases (show x = 0 ∨ x = 1 ∨ x = 2 ∨ x = 3 ∨ x = 4 ∨ x = 5 by omega) with rfl | rfl | rfl | rfl | rfl | rfl <;> rfl
theorem wd_pl {k : Nat → ClassId} {b P : Nat → Nat} {I : Nat → Nat → Int32} {D : Nat → Nat → UInt64} {x : Nat} (hx : x < 6) : (wd k b P I D)[23 + x]? = some (b (23 + x), .inl (k 1, 32, wd_d (D (10 + x)))) := by
  rcases (show x = 0 ∨ x = 1 ∨ x = 2 ∨ x = 3 ∨ x = 4 ∨ x = 5 by omega) with rfl | rfl | rfl | rfl | rfl | rfl <;> rfl
theorem wd_wo {k : Nat → ClassId} {b P : Nat → Nat} {I : Nat → Nat → Int32} {D : Nat → Nat → UInt64} {x : Nat} (hx : x < 19) : (wd k b P I D)[29 + x]? = some (b (29 + x), .inr (5, wo_f x b I D)) := by
  rcases (show x = 0 ∨ x = 1 ∨ x = 2 ∨ x = 3 ∨ x = 4 ∨ x = 5 ∨ x = 6 ∨ x = 7 ∨ x = 8 ∨ x = 9 ∨ x = 10 ∨ x = 11 ∨ x = 12 ∨ x = 13 ∨ x = 14 ∨ x = 15 ∨ x = 16 ∨ x = 17 ∨ x = 18 by omega) with rfl | rfl | rfl | rfl | rfl | rfl | rfl | rfl | rfl | rfl | rfl | rfl | rfl | rfl | rfl | rfl | rfl | rfl | rfl <;> rfl
theorem wd_pp1 {k : Nat → ClassId} {b P : Nat → Nat} {I : Nat → Nat → Int32} {D : Nat → Nat → UInt64} {x : Nat} {v : Int32} (hx : x < 6) : (wd k b P I D).set (17 + x) (b (17 + x), .inr (1, (pa_f x b I D).set 1 (.int v))) = wd k b P (ui I 2 x v) D := by
  rcases (show x = 0 ∨ x = 1 ∨ x = 2 ∨ x = 3 ∨ x = 4 ∨ x = 5 by omega) with rfl | rfl | rfl | rfl | rfl | rfl <;> rfl
theorem wd_pp2 {k : Nat → ClassId} {b P : Nat → Nat} {I : Nat → Nat → Int32} {D : Nat → Nat → UInt64} {x : Nat} {v : Int32} (hx : x < 6) : (wd k b P I D).set (17 + x) (b (17 + x), .inr (1, (pa_f x b I D).set 2 (.int v))) = wd k b P (ui I 3 x v) D := by
  rcases (show x = 0 ∨ x = 1 ∨ x = 2 ∨ x = 3 ∨ x = 4 ∨ x = 5 by omega) with rfl | rfl | rfl | rfl | rfl | rfl <;> rfl
theorem wd_pw0 {k : Nat → ClassId} {b P : Nat → Nat} {I : Nat → Nat → Int32} {D : Nat → Nat → UInt64} {x : Nat} {v : Int32} (hx : x < 19) : (wd k b P I D).set (29 + x) (b (29 + x), .inr (5, (wo_f x b I D).set 0 (.int v))) = wd k b P (ui I 4 x v) D := by
  rcases (show x = 0 ∨ x = 1 ∨ x = 2 ∨ x = 3 ∨ x = 4 ∨ x = 5 ∨ x = 6 ∨ x = 7 ∨ x = 8 ∨ x = 9 ∨ x = 10 ∨ x = 11 ∨ x = 12 ∨ x = 13 ∨ x = 14 ∨ x = 15 ∨ x = 16 ∨ x = 17 ∨ x = 18 by omega) with rfl | rfl | rfl | rfl | rfl | rfl | rfl | rfl | rfl | rfl | rfl | rfl | rfl | rfl | rfl | rfl | rfl | rfl | rfl <;> rfl
theorem wd_pw1 {k : Nat → ClassId} {b P : Nat → Nat} {I : Nat → Nat → Int32} {D : Nat → Nat → UInt64} {x : Nat} {v : Int32} (hx : x < 19) : (wd k b P I D).set (29 + x) (b (29 + x), .inr (5, (wo_f x b I D).set 1 (.int v))) = wd k b P (ui I 5 x v) D := by
  rcases (show x = 0 ∨ x = 1 ∨ x = 2 ∨ x = 3 ∨ x = 4 ∨ x = 5 ∨ x = 6 ∨ x = 7 ∨ x = 8 ∨ x = 9 ∨ x = 10 ∨ x = 11 ∨ x = 12 ∨ x = 13 ∨ x = 14 ∨ x = 15 ∨ x = 16 ∨ x = 17 ∨ x = 18 by omega) with rfl | rfl | rfl | rfl | rfl | rfl | rfl | rfl | rfl | rfl | rfl | rfl | rfl | rfl | rfl | rfl | rfl | rfl | rfl <;> rfl
theorem wd_pw2 {k : Nat → ClassId} {b P : Nat → Nat} {I : Nat → Nat → Int32} {D : Nat → Nat → UInt64} {x : Nat} {v : Int32} (hx : x < 19) : (wd k b P I D).set (29 + x) (b (29 + x), .inr (5, (wo_f x b I D).set 2 (.int v))) = wd k b P (ui I 6 x v) D := by
  rcases (show x = 0 ∨ x = 1 ∨ x = 2 ∨ x = 3 ∨ x = 4 ∨ x = 5 ∨ x = 6 ∨ x = 7 ∨ x = 8 ∨ x = 9 ∨ x = 10 ∨ x = 11 ∨ x = 12 ∨ x = 13 ∨ x = 14 ∨ x = 15 ∨ x = 16 ∨ x = 17 ∨ x = 18 by omega) with rfl | rfl | rfl | rfl | rfl | rfl | rfl | rfl | rfl | rfl | rfl | rfl | rfl | rfl | rfl | rfl | rfl | rfl | rfl <;> rfl
theorem wd_pw3 {k : Nat → ClassId} {b P : Nat → Nat} {I : Nat → Nat → Int32} {D : Nat → Nat → UInt64} {x : Nat} {v : Int32} (hx : x < 19) : (wd k b P I D).set (29 + x) (b (29 + x), .inr (5, (wo_f x b I D).set 3 (.int v))) = wd k b P (ui I 7 x v) D := by
  rcases (show x = 0 ∨ x = 1 ∨ x = 2 ∨ x = 3 ∨ x = 4 ∨ x = 5 ∨ x = 6 ∨ x = 7 ∨ x = 8 ∨ x = 9 ∨ x = 10 ∨ x = 11 ∨ x = 12 ∨ x = 13 ∨ x = 14 ∨ x = 15 ∨ x = 16 ∨ x = 17 ∨ x = 18 by omega) with rfl | rfl | rfl | rfl | rfl | rfl | rfl | rfl | rfl | rfl | rfl | rfl | rfl | rfl | rfl | rfl | rfl | rfl | rfl <;> rfl
theorem wd_pw4 {k : Nat → ClassId} {b P : Nat → Nat} {I : Nat → Nat → Int32} {D : Nat → Nat → UInt64} {x : Nat} {v : UInt64} (hx : x < 19) : (wd k b P I D).set (29 + x) (b (29 + x), .inr (5, (wo_f x b I D).set 4 (.double v))) = wd k b P I (ud D 9 x v) := by
  rcases (show x = 0 ∨ x = 1 ∨ x = 2 ∨ x = 3 ∨ x = 4 ∨ x = 5 ∨ x = 6 ∨ x = 7 ∨ x = 8 ∨ x = 9 ∨ x = 10 ∨ x = 11 ∨ x = 12 ∨ x = 13 ∨ x = 14 ∨ x = 15 ∨ x = 16 ∨ x = 17 ∨ x = 18 by omega) with rfl | rfl | rfl | rfl | rfl | rfl | rfl | rfl | rfl | rfl | rfl | rfl | rfl | rfl | rfl | rfl | rfl | rfl | rfl <;> rfl
theorem wd_al {k : Nat → ClassId} {b P : Nat → Nat} {I : Nat → Nat → Int32} {D : Nat → Nat → UInt64} {x : Nat} {g : Nat → UInt64} (hx : x < 6) : (wd k b P I D).set (23 + x) (b (23 + x), .inl (k 1, 32, .inr (.inr (.inr (.inl g))))) = wd k b P I (us D (10 + x) g) := by
  rcases (show x = 0 ∨ x = 1 ∨ x = 2 ∨ x = 3 ∨ x = 4 ∨ x = 5 by omega) with rfl | rfl | rfl | rfl | rfl | rfl <;> rfl
def un (P : Nat → Nat) (j y : Nat) : Nat → Nat := fun i => if i = j then y else P i
theorem wd_ar {k : Nat → ClassId} {b P : Nat → Nat} {I : Nat → Nat → Int32} {D : Nat → Nat → UInt64} {j y : Nat} (hj : j < 6) : (wd k b P I D).set 13 (b 13, .inl (k 2, 6, .inr (.inr (.inr (.inr (va_up (fun j => if j < 6 then some (b (17 + P j)) else none) j (some (b (17 + y)))))))) ) = wd k b (un P j y) I D := by
  have h : va_up (fun j => if j < 6 then some (b (17 + P j)) else none) j (some (b (17 + y))) = fun i => if i < 6 then some (b (17 + un P j y i)) else none := by
    funext i
    unfold va_up un
    by_cases e : i = j
    · subst e; rw [if_pos rfl, if_pos hj, if_pos rfl]
    · rw [if_neg e, if_neg e]
  rw [h]
  rfl
theorem po_0 {a : UInt64} (h : fb_ 1300 a ∧ po_ a) : FP.dadd a 0 = a := po_zero (fb_fin h.1 (by decide)) h.2
def hw_lb (G : Nat → Nat → UInt64) : Nat → Nat → UInt64
  | 0, 0 => 0
  | 0, j + 1 => G 0 j
  | i + 1, 0 => G i 0
  | i + 1, j + 1 => mn_ (mn_ (G i (j + 1)) (G (i + 1) j)) (G i j)
theorem hw_lb_e {x y : Nat → UInt64} {n m : Nat} (hx : ∀ q, q < 4 * n → fb_ 1155 (x q)) (hy : ∀ q, q < 4 * m → fb_ 1155 (y q)) {i j : Nat} (hi : i < n) (hj : j < m) : FP.dadd (hw_F x y i j) (hw_lb (hw_dd x y) i j) = hw_dd x y i j := by
  match i, j, hi, hj with
  | 0, 0, hi, hj => exact po_0 (hw_F_b hx hy hi hj)
  | 0, j + 1, _, _ => rfl
  | i + 1, 0, _, _ => rfl
  | i + 1, j + 1, _, _ => rfl
theorem far_sh (g : Nat → UInt64) (a : Nat → UInt64) (f i j : Nat) : hd_far (fun q => g (4 * (f + i) + q)) (fun q => a (4 * j + q)) 4 = hw_F (fun q => g (4 * f + q)) a i j := by
  unfold hw_F
  exact hd_far_g 4 (fun k _ => congrArg g (by omega)) (fun k _ => rfl)
theorem gw_N {y : MethodName} {b : ByteArray} {n : Nat} {r : Option FieldType} (h5 : Cond.code y b n r ∈ W0) : GoodIn W0 (Cond.code y b n r :: W0) := by
  intro w h
  have key : w ∈ W0 := by
    rcases List.mem_cons.mp h with rfl | h
    · exact h5
    · exact h
  exact ⟨key, W0_good key⟩
