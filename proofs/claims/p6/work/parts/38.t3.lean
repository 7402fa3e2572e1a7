-- the words of a throw: its class, its text
set_option maxRecDepth 100000 in
theorem t3_67_69 : [Cond.classLink "HearingDesk" 67 th_IA, Cond.initialized th_IA, Cond.stringRef "HearingDesk" 69 "1 to 8 octets come at once"].all thG = true := by decide +kernel
set_option maxRecDepth 100000 in
theorem t3_77_79 : [Cond.classLink "HearingDesk" 77 th_IO, Cond.initialized th_IO, Cond.stringRef "HearingDesk" 79 "a file has up to 400 octets"].all thG = true := by decide +kernel
set_option maxRecDepth 100000 in
theorem t3_67_93 : [Cond.classLink "HearingDesk" 67 th_IA, Cond.initialized th_IA, Cond.stringRef "HearingDesk" 93 "this is no file of samples"].all thG = true := by decide +kernel
set_option maxRecDepth 100000 in
theorem t3_77_98 : [Cond.classLink "HearingDesk" 77 th_IO, Cond.initialized th_IO, Cond.stringRef "HearingDesk" 98 "there are up to 320 samples"].all thG = true := by decide +kernel
set_option maxRecDepth 100000 in
theorem t3_67_113 : [Cond.classLink "HearingDesk" 67 th_IA, Cond.initialized th_IA, Cond.stringRef "HearingDesk" 113 "a wave has 1 to 64 samples and a step of 0 to 31"].all thG = true := by decide +kernel
set_option maxRecDepth 100000 in
theorem t3_77_126 : [Cond.classLink "HearingDesk" 77 th_IO, Cond.initialized th_IO, Cond.stringRef "HearingDesk" 126 "there is no such sample"].all thG = true := by decide +kernel
set_option maxRecDepth 100000 in
theorem t3_77_134 : [Cond.classLink "HearingDesk" 77 th_IO, Cond.initialized th_IO, Cond.stringRef "HearingDesk" 134 "there is no such frame"].all thG = true := by decide +kernel
set_option maxRecDepth 100000 in
theorem t3_67_136 : [Cond.classLink "HearingDesk" 67 th_IA, Cond.initialized th_IA, Cond.stringRef "HearingDesk" 136 "frequencies are 0 to 16"].all thG = true := by decide +kernel
set_option maxRecDepth 100000 in
theorem t3_67_144 : [Cond.classLink "HearingDesk" 67 th_IA, Cond.initialized th_IA, Cond.stringRef "HearingDesk" 144 "bands are 0 to 3"].all thG = true := by decide +kernel
set_option maxRecDepth 100000 in
theorem t3_67_152 : [Cond.classLink "HearingDesk" 67 th_IA, Cond.initialized th_IA, Cond.stringRef "HearingDesk" 152 "the threshold is above 0.0, the gap 1 to 4, the limit not below 0.0"].all thG = true := by decide +kernel
set_option maxRecDepth 100000 in
theorem t3_67_154 : [Cond.classLink "HearingDesk" 67 th_IA, Cond.initialized th_IA, Cond.stringRef "HearingDesk" 154 "letters are 97 to 122, a pattern has 1 to 8 rows"].all thG = true := by decide +kernel
set_option maxRecDepth 100000 in
theorem t3_77_157 : [Cond.classLink "HearingDesk" 77 th_IO, Cond.initialized th_IO, Cond.stringRef "HearingDesk" 157 "a frame is not there, or there are 6 patterns"].all thG = true := by decide +kernel
set_option maxRecDepth 100000 in
theorem t3_162_164 : [Cond.classLink "HearingDesk" 162 th_NS, Cond.initialized th_NS, Cond.stringRef "HearingDesk" 164 "there is no such pattern"].all thG = true := by decide +kernel
set_option maxRecDepth 100000 in
theorem t3_185_187 : [Cond.classLink "HearingDesk" 185 th_IS, Cond.initialized th_IS, Cond.stringRef "HearingDesk" 187 "there is no frame"].all thG = true := by decide +kernel
set_option maxRecDepth 100000 in
theorem t3_162_205 : [Cond.classLink "HearingDesk" 162 th_NS, Cond.initialized th_NS, Cond.stringRef "HearingDesk" 205 "there is no such word"].all thG = true := by decide +kernel
set_option maxRecDepth 100000 in
theorem t3_67_221 : [Cond.classLink "HearingDesk" 67 th_IA, Cond.initialized th_IA, Cond.stringRef "HearingDesk" 221 "0 to 5 can be asked of a word"].all thG = true := by decide +kernel
set_option maxRecDepth 100000 in
theorem t3_185_223 : [Cond.classLink "HearingDesk" 185 th_IS, Cond.initialized th_IS, Cond.stringRef "HearingDesk" 223 "there were no patterns"].all thG = true := by decide +kernel
set_option maxRecDepth 100000 in
theorem t3_67_231 : [Cond.classLink "HearingDesk" 67 th_IA, Cond.initialized th_IA, Cond.stringRef "HearingDesk" 231 "0 to 6 can be counted"].all thG = true := by decide +kernel
-- ints between bounds
theorem dn_in {n : Int32} {a c : Nat} (ha : a < 2 ^ 31) (hc : c < 2 ^ 31) (h1 : ¬ n < nI a) (h2 : n ≤ nI c) : ∃ q, a ≤ q ∧ q ≤ c ∧ n = nI q := by
  have h1 := Int32.le_iff_toInt_le.mp (Int32.not_lt.mp h1)
  have h2 := Int32.le_iff_toInt_le.mp h2
  rw [nI_toInt ha] at h1
  rw [nI_toInt hc] at h2
  obtain ⟨j, hj, rfl⟩ := nI_of (x := n) (by rw [Int32.lt_iff_toInt_lt]; have : (0 : Int32).toInt = 0 := (by decide); omega)
  rw [nI_toInt hj] at h1 h2
  exact ⟨j, by omega, by omega, rfl⟩
theorem dn_lo {n : Int32} {a c : Nat} (ha : a < 2 ^ 31) (hc : c < 2 ^ 31) (h : n < nI a) : ¬ ∃ q, a ≤ q ∧ q ≤ c ∧ n = nI q := by
  rintro ⟨q, h1, h2, rfl⟩
  have := (nI_ltI (by omega) ha).mp h
  omega
theorem dn_hi {n : Int32} {a c : Nat} (hc : c < 2 ^ 31) (h : ¬ n ≤ nI c) : ¬ ∃ q, a ≤ q ∧ q ≤ c ∧ n = nI q := by
  rintro ⟨q, h1, h2, rfl⟩
  exact h ((nI_leI (by omega) hc).mpr h2)
theorem dj_in {n : Int32} {c : Nat} (hc : c < 2 ^ 31) (h1 : ¬ n < 0) (h2 : n < nI c) : ∃ q, q < c ∧ n = nI q := by
  obtain ⟨j, hj, rfl⟩ := nI_of h1
  exact ⟨j, (nI_ltI hj hc).mp h2, rfl⟩
theorem dj_lo {n : Int32} {c : Nat} (hc : c < 2 ^ 31) (h : n < 0) : ¬ ∃ q, q < c ∧ n = nI q := by
  rintro ⟨q, h1, rfl⟩
  have := (nI_ltI (a := q) (b := 0) (by omega) (by decide)).mp h
  omega
theorem dj_hi {n : Int32} {c : Nat} (hc : c < 2 ^ 31) (h : ¬ n < nI c) : ¬ ∃ q, q < c ∧ n = nI q := by
  rintro ⟨q, h1, rfl⟩
  exact h ((nI_ltI (by omega) hc).mpr h1)
theorem ui_id {I : Nat → Nat → Int32} {c j : Nat} {x : Int32} (h : I c j = x) : ui I c j x = I := by
  funext c' i
  by_cases hc : c' = c
  · subst hc
    by_cases hi : i = j
    · subst hi; rw [ui_s, h]
    · rw [ui_n _ _ _ hi]
  · rw [ui_o _ _ _ hc]
theorem ui_ov (I : Nat → Nat → Int32) {c j c2 j2 : Nat} (x y z : Int32) (h : c ≠ c2) : ui (ui (ui I c j x) c2 j2 y) c j z = ui (ui I c2 j2 y) c j z := by
  funext c' i
  by_cases hc : c' = c
  · subst hc
    by_cases hi : i = j
    · subst hi; rw [ui_s, ui_s]
    · rw [ui_n _ _ _ hi, ui_n _ _ _ hi, ui_o _ _ _ h, ui_o _ _ _ h, ui_n _ _ _ hi]
  · rw [ui_o _ _ _ hc, ui_o _ _ _ hc]
    by_cases h2 : c' = c2
    · subst h2
      by_cases hi : i = j2
      · subst hi; rw [ui_s, ui_s]
      · rw [ui_n _ _ _ hi, ui_n _ _ _ hi, ui_o _ _ _ hc]
    · rw [ui_o _ _ _ h2, ui_o _ _ _ h2, ui_o _ _ _ hc]
theorem ui_ww (I : Nat → Nat → Int32) (c j : Nat) (x z : Int32) : ui (ui I c j x) c j z = ui I c j z := by
  funext c' i
  by_cases hc : c' = c
  · subst hc
    by_cases hi : i = j
    · subst hi; rw [ui_s, ui_s]
    · rw [ui_n _ _ _ hi, ui_n _ _ _ hi, ui_n _ _ _ hi]
  · rw [ui_o _ _ _ hc, ui_o _ _ _ hc, ui_o _ _ _ hc]
theorem oc_i {W j : Nat} : nI (W / 2 ^ (8 * j)) &&& nI 255 = nI (oc_w W j) := by
  rw [pk_and (nI (W / 2 ^ (8 * j))) (m := nI 255) 8 (by decide)]
  unfold oc_w
  congr 1
  show (BitVec.ofNat 32 (W / 2 ^ (8 * j))).toNat % 2 ^ 8 = _
  rw [BitVec.toNat_ofNat]
  exact Nat.mod_mod_of_dvd _ (by decide)
theorem ff_gt {x : UInt64} (h : fb_ 2047 x) : FP.dcmp x 9218868437227405311 ≠ some .gt := by
  intro hc
  have hc := (FP.Core.dcmp_gt_key (fb_nn h (by decide)) (by decide +kernel)).mp hc
  have e : FP.Core.dkey 9218868437227405311 = 9218868437227405311 := by decide +kernel
  rw [e] at hc
  unfold FP.Core.dkey at hc
  unfold fb_ at h
  split at hc <;> omega
theorem ff_lt {x : UInt64} (h : fb_ 2047 x) : FP.dcmp x 18442240474082181119 ≠ some .lt := by
  intro hc
  have hc := (FP.Core.dcmp_lt_key (fb_nn h (by decide)) (by decide +kernel)).mp hc
  have e : FP.Core.dkey 18442240474082181119 = -9218868437227405311 := by decide +kernel
  have h9 := x.toNat_lt
  rw [e] at hc
  unfold FP.Core.dkey at hc
  unfold fb_ at h
  split at hc <;> omega
theorem ff_eq {x : UInt64} (h : fb_ 2047 x) : FP.dcmp x x = some .eq := FP.Core.dcmp_self (fb_nn h (by decide))
theorem rd_ne {n : Nat} (h : n < 2 ^ 31) : nI n ≠ -1 := by
  intro e
  have h1 := nI_toInt h
  rw [e] at h1
  have h2 : (-1 : Int32).toInt = -1 := by decide
  omega
theorem dn_pred {n : Int32} (h : n < nI 32) : n ≤ nI 31 := by
  rw [Int32.le_iff_toInt_le]
  rw [Int32.lt_iff_toInt_lt] at h
  have h1 : (nI 32).toInt = 32 := by decide
  have h2 : (nI 31).toInt = 31 := by decide
  omega
theorem dn_succ {n : Int32} (h : n ≤ nI 31) : n < nI 32 := by
  rw [Int32.le_iff_toInt_le] at h
  rw [Int32.lt_iff_toInt_lt]
  have h1 : (nI 32).toInt = 32 := by decide
  have h2 : (nI 31).toInt = 31 := by decide
  omega
