/-! pure facts: naturals below a bound, the pending bits as an array, one bit by a shift -/
def tk_lt (m : Nat) (x : Int32) : Prop := ∃ n : Nat, n < m ∧ x = nI n
theorem tk_mk {m n : Nat} (h : n < m) : tk_lt m (nI n) := ⟨n, h, rfl⟩
theorem tk_0 {m : Nat} (h : 0 < m) : tk_lt m 0 := ⟨0, h, nI_0.symm⟩
theorem tk_le {m k : Nat} {x : Int32} (h : tk_lt m x) (hk : m ≤ k) : tk_lt k x := by
  obtain ⟨n, hn, e⟩ := h
  exact ⟨n, Nat.lt_of_lt_of_le hn hk, e⟩
theorem tk_b (x : Int32) : tk_lt 256 (x &&& 255) := by
  obtain ⟨j, hj, e⟩ := pk_andE x (m := 255) 8 (by decide)
  exact ⟨j, hj, e⟩
theorem tk_7 (x : Int32) : tk_lt 8 (x &&& 7) := by
  obtain ⟨j, hj, e⟩ := pk_andE x (m := 7) 3 (by decide)
  exact ⟨j, hj, e⟩
theorem tk_31 (x : Int32) : tk_lt 32 (x &&& 31) := by
  obtain ⟨j, hj, e⟩ := pk_andE x (m := 31) 5 (by decide)
  exact ⟨j, hj, e⟩
theorem tk_in {m : Nat} {x : Int32} (h : tk_lt m x) (hm : m < 2 ^ 31) : vp_in x m := by
  obtain ⟨n, hn, rfl⟩ := h
  exact vp_in_nI hn hm
theorem tk_upd {m k : Nat} {f : Nat → Int32} {x : Int32} (h : ∀ j, tk_lt m (f j)) (hx : tk_lt m x) : ∀ j, tk_lt m (upd f k x j) := by
  intro j
  unfold upd
  by_cases e : j = k
  · rw [if_pos e]; exact hx
  · rw [if_neg e]; exact h j
theorem tk_or (a b : Nat) : nI a ||| nI b = nI (a ||| b) := by
  apply Int32.toBitVec_inj.1
  show BitVec.ofNat 32 a ||| BitVec.ofNat 32 b = BitVec.ofNat 32 (a ||| b)
  apply BitVec.eq_of_getLsbD_eq
  intro i hi
  simp [hi]
theorem tk_255 {x : Int32} (h : tk_lt 256 x) : x &&& 255 = x := by
  obtain ⟨n, hn, rfl⟩ := h
  rw [pk_andN (by omega) (m := 255) 8 (by decide), Nat.mod_eq_of_lt hn]
theorem tk_and2 {x y : Int32} (h : tk_lt 256 x) : (x &&& y) &&& 255 = x &&& y := by
  rw [Int32.and_assoc, Int32.and_comm y, ← Int32.and_assoc, tk_255 h]
theorem tk_andB {x y : Int32} (h : tk_lt 256 x) : tk_lt 256 (x &&& y) := by
  rw [← tk_and2 h]; exact tk_b _
theorem tk_xorB {x y : Int32} (h : tk_lt 256 x) (h' : tk_lt 256 y) : tk_lt 256 (x ^^^ y) := by
  obtain ⟨a, ha, rfl⟩ := h
  obtain ⟨b, hb, rfl⟩ := h'
  rw [nx_xor]
  exact ⟨_, Nat.xor_lt_two_pow (n := 8) ha hb, rfl⟩
theorem tk_shr {x : Int32} (h : tk_lt 256 x) : tk_lt 256 (x >>> ((1 : Int32) &&& 31)) := by
  obtain ⟨a, ha, rfl⟩ := h
  rw [pk_shrN (by omega) _ 1 (by decide)]
  exact ⟨_, by omega, rfl⟩
/-! the pending array of the reference, as the bits of a number -/
def tk_q (n : Nat) : Nat → Int32 := fun k => if n.testBit k then 1 else 0
theorem tk_q0 : tk_q 0 = fun _ => 0 := by
  funext k
  simp [tk_q]
theorem tk_q01 (n k : Nat) : tk_q n k = 0 ∨ tk_q n k = 1 := by
  unfold tk_q
  cases n.testBit k
  · exact Or.inl rfl
  · exact Or.inr rfl
theorem tk_qt {n k : Nat} (h : n.testBit k = true) : tk_q n k = 1 := by unfold tk_q; rw [if_pos h]
theorem tk_qf {n k : Nat} (h : n.testBit k = false) : tk_q n k = 0 := by unfold tk_q; rw [h]; rfl
theorem tk_set (n k : Nat) : upd (tk_q n) k 1 = tk_q (n ||| 2 ^ k) := by
  funext j
  unfold upd tk_q
  rw [Nat.testBit_or, Nat.testBit_two_pow]
  by_cases h : j = k
  · subst h; simp
  · have h' : ¬ k = j := fun e => h e.symm
    simp [h, h']
theorem tk_setlt {n k : Nat} (hn : n < 512) (hk : k < 9) : n ||| 2 ^ k < 512 := Nat.or_lt_two_pow (n := 9) hn (Nat.pow_lt_pow_right (by decide) hk)
theorem tk_tb : ∀ a, a < 512 → ∀ j, j < 9 → (511 - a).testBit j = !(a.testBit j) := by decide +kernel
theorem tk_hi {n j : Nat} (hn : n < 512) (hj : 9 ≤ j) : n.testBit j = false := Nat.testBit_lt_two_pow (Nat.lt_of_lt_of_le hn (Nat.pow_le_pow_right (n := 2) (by decide) hj))
theorem tk_clr {n a : Nat} (hn : n < 512) (ha : a < 512) (j : Nat) : tk_q (n &&& (511 - a)) j = if a.testBit j = true then 0 else tk_q n j := by
  unfold tk_q
  rw [Nat.testBit_and]
  by_cases hj : j < 9
  · rw [tk_tb a ha j hj]
    cases a.testBit j <;> cases n.testBit j <;> rfl
  · rw [tk_hi hn (by omega)]
    cases a.testBit j <;> rfl
theorem tk_clrlt {n a : Nat} (hn : n < 512) : n &&& (511 - a) < 512 := Nat.lt_of_le_of_lt Nat.and_le_left hn
theorem tk_unset {n k : Nat} (hn : n < 512) (hk : k < 9) : upd (tk_q n) k 0 = tk_q (n &&& (511 - 2 ^ k)) := by
  funext j
  rw [tk_clr hn (show 2 ^ k < 2 ^ 9 from Nat.pow_lt_pow_right (by decide) hk), Nat.testBit_two_pow]
  unfold upd
  by_cases h : j = k
  · subst h; simp
  · have h' : ¬ k = j := fun e => h e.symm
    simp [h, h']
theorem tk_n511 {n : Nat} (h : n < 512) (x : Int32) : nI n &&& x = nI n &&& (nI 511 &&& x) := by
  have e : nI n &&& nI 511 = nI n := by
    rw [nx_and, show (511 : Nat) = 2 ^ 9 - 1 from rfl, Nat.and_two_pow_sub_one_eq_mod, Nat.mod_eq_of_lt h]
  rw [← Int32.and_assoc, e]
theorem tk_cv : ∀ a, a < 256 → nI 511 &&& (nI a ^^^ (-1)) = nI (511 - a) := by decide +kernel
theorem tk_ck : ∀ k, k < 9 → nI 511 &&& (((1 : Int32) <<< (nI k &&& 31)) ^^^ (-1)) = nI (511 - 2 ^ k) := by decide +kernel
theorem tk_clrV {n a : Nat} (hn : n < 512) (ha : a < 256) : nI n &&& (nI a ^^^ (-1)) = nI (n &&& (511 - a)) := by
  rw [tk_n511 hn, tk_cv a ha, nx_and]
theorem tk_clrK {n k : Nat} (hn : n < 512) (hk : k < 9) : nI n &&& (((1 : Int32) <<< (nI k &&& 31)) ^^^ (-1)) = nI (n &&& (511 - 2 ^ k)) := by
  rw [tk_n511 hn, tk_ck k hk, nx_and]
theorem tk_shr1 {a k : Nat} (ha : a < 2 ^ 31) (hk : k < 32) : (nI a >>> (nI k &&& 31)) &&& 1 = tk_q a k := by
  have hd : a / 2 ^ k ≤ a := Nat.div_le_self a (2 ^ k)
  rw [pk_shrN ha _ k (s_l k hk), pk_andN (by omega) (m := 1) 1 (by decide)]
  unfold tk_q
  rw [Nat.testBit_eq_decide_div_mod_eq]
  generalize a / 2 ^ k = z
  rcases (by omega : z % 2 = 0 ∨ z % 2 = 1) with h | h
  · rw [show z % 2 ^ 1 = 0 from h]; rfl
  · rw [show z % 2 ^ 1 = 1 from h]; rfl
theorem tk_xor (o v k : Nat) : tk_q (o ^^^ v) k = if tk_q v k = tk_q o k then 0 else 1 := by
  unfold tk_q
  rw [Nat.testBit_xor]
  cases o.testBit k <;> cases v.testBit k <;> rfl
theorem tk_least (r : Nat) : ∀ m, (∀ j, j < m → r.testBit j = false) ∨ ∃ k, k < m ∧ r.testBit k = true ∧ ∀ j, j < k → r.testBit j = false := by
  intro m
  induction m with
  | zero => exact Or.inl (fun j hj => absurd hj (Nat.not_lt_zero j))
  | succ m ih =>
    rcases ih with h | ⟨k, hk, h1, h2⟩
    · cases e : r.testBit m
      · refine Or.inl (fun j hj => ?_)
        rcases (by omega : j < m ∨ j = m) with z | z
        · exact h j z
        · rw [z]; exact e
      · exact Or.inr ⟨m, Nat.lt_succ_self m, e, h⟩
    · exact Or.inr ⟨k, by omega, h1, h2⟩
theorem tk_none {r : Nat} (h : r < 512) (hz : ∀ j, j < 9 → r.testBit j = false) : r = 0 := by
  apply Nat.eq_of_testBit_eq
  intro i
  rw [Nat.zero_testBit]
  by_cases hi : i < 9
  · exact hz i hi
  · exact tk_hi h (by omega)
theorem tk_some {r k : Nat} (h : r.testBit k = true) : r ≠ 0 := by
  intro e
  rw [e, Nat.zero_testBit] at h
  cases h
theorem tk_sum (n i : Nat) : n % 2 ^ (i + 1) = n % 2 ^ i + (if n.testBit i = true then 2 ^ i else 0) := by
  rw [Nat.testBit_eq_decide_div_mod_eq, Nat.mod_pow_succ]
  generalize n / 2 ^ i = z
  rcases (by omega : z % 2 = 0 ∨ z % 2 = 1) with h | h
  · rw [h]; simp
  · rw [h]; simp
/-! the enabled interrupts as one number -/
def tk_E (a b c d e f : Nat) : Nat := a / 8 % 4 + 4 * (b / 8 % 4) + 16 * (c / 8 % 4) + 64 * (d / 8 % 2) + 128 * (e / 8 % 2) + 256 * f
theorem tk_s3 : ∀ x, x < 256 → (nI x >>> ((3 : Int32) &&& 31)) &&& 3 = nI (x / 8 % 4) := by decide +kernel
theorem tk_s1 : ∀ x, x < 256 → (nI x >>> ((3 : Int32) &&& 31)) &&& 1 = nI (x / 8 % 2) := by decide +kernel
theorem tk_s41 : ∀ x, x < 256 → (nI x >>> ((4 : Int32) &&& 31)) &&& 1 = nI (x / 8 % 4 / 2) := by decide +kernel
theorem tk_s31 : ∀ x, x < 256 → (nI x >>> ((3 : Int32) &&& 31)) &&& 1 = nI (x / 8 % 4 % 2) := by decide +kernel
theorem tk_s8 : ∀ x, x < 256 → ((nI x &&& 8 = 0) ↔ x / 8 % 2 = 0) := by decide +kernel
theorem tk_or5 : ∀ a, a < 4 → ∀ b, b < 4 → ∀ c, c < 4 → ∀ d, d < 2 → ∀ e, e < 2 → (((nI a ||| (nI b <<< ((2 : Int32) &&& 31))) ||| (nI c <<< ((4 : Int32) &&& 31))) ||| (nI d <<< ((6 : Int32) &&& 31))) ||| (nI e <<< ((7 : Int32) &&& 31)) = nI (a + 4 * b + 16 * c + 64 * d + 128 * e) := by decide +kernel
theorem tk_or6 : ∀ r, r < 256 → nI r ||| 256 = nI (r + 256) := by decide +kernel
theorem tk_E0 {a b c d e f : Nat} (ha : a < 4) (hb : b < 4) (hc : c < 4) (hd : d < 2) (he : e < 2) (hf : f < 2) : (a + 4 * b + 16 * c + 64 * d + 128 * e + 256 * f).testBit 0 = decide (a % 2 = 1) := by
  rw [Nat.testBit_eq_decide_div_mod_eq]
  exact decide_eq_decide.mpr (by omega)
theorem tk_E1 {a b c d e f : Nat} (ha : a < 4) (hb : b < 4) (hc : c < 4) (hd : d < 2) (he : e < 2) (hf : f < 2) : (a + 4 * b + 16 * c + 64 * d + 128 * e + 256 * f).testBit 1 = decide (a / 2 = 1) := by
  rw [Nat.testBit_eq_decide_div_mod_eq]
  exact decide_eq_decide.mpr (by omega)
theorem tk_E2 {a b c d e f : Nat} (ha : a < 4) (hb : b < 4) (hc : c < 4) (hd : d < 2) (he : e < 2) (hf : f < 2) : (a + 4 * b + 16 * c + 64 * d + 128 * e + 256 * f).testBit 2 = decide (b % 2 = 1) := by
  rw [Nat.testBit_eq_decide_div_mod_eq]
  exact decide_eq_decide.mpr (by omega)
theorem tk_E3 {a b c d e f : Nat} (ha : a < 4) (hb : b < 4) (hc : c < 4) (hd : d < 2) (he : e < 2) (hf : f < 2) : (a + 4 * b + 16 * c + 64 * d + 128 * e + 256 * f).testBit 3 = decide (b / 2 = 1) := by
  rw [Nat.testBit_eq_decide_div_mod_eq]
  exact decide_eq_decide.mpr (by omega)
theorem tk_E4 {a b c d e f : Nat} (ha : a < 4) (hb : b < 4) (hc : c < 4) (hd : d < 2) (he : e < 2) (hf : f < 2) : (a + 4 * b + 16 * c + 64 * d + 128 * e + 256 * f).testBit 4 = decide (c % 2 = 1) := by
  rw [Nat.testBit_eq_decide_div_mod_eq]
  exact decide_eq_decide.mpr (by omega)
theorem tk_E5 {a b c d e f : Nat} (ha : a < 4) (hb : b < 4) (hc : c < 4) (hd : d < 2) (he : e < 2) (hf : f < 2) : (a + 4 * b + 16 * c + 64 * d + 128 * e + 256 * f).testBit 5 = decide (c / 2 = 1) := by
  rw [Nat.testBit_eq_decide_div_mod_eq]
  exact decide_eq_decide.mpr (by omega)
theorem tk_E6 {a b c d e f : Nat} (ha : a < 4) (hb : b < 4) (hc : c < 4) (hd : d < 2) (he : e < 2) (hf : f < 2) : (a + 4 * b + 16 * c + 64 * d + 128 * e + 256 * f).testBit 6 = decide (d = 1) := by
  rw [Nat.testBit_eq_decide_div_mod_eq]
  exact decide_eq_decide.mpr (by omega)
theorem tk_E7 {a b c d e f : Nat} (ha : a < 4) (hb : b < 4) (hc : c < 4) (hd : d < 2) (he : e < 2) (hf : f < 2) : (a + 4 * b + 16 * c + 64 * d + 128 * e + 256 * f).testBit 7 = decide (e = 1) := by
  rw [Nat.testBit_eq_decide_div_mod_eq]
  exact decide_eq_decide.mpr (by omega)
theorem tk_E8 {a b c d e f : Nat} (ha : a < 4) (hb : b < 4) (hc : c < 4) (hd : d < 2) (he : e < 2) (hf : f < 2) : (a + 4 * b + 16 * c + 64 * d + 128 * e + 256 * f).testBit 8 = decide (f = 1) := by
  rw [Nat.testBit_eq_decide_div_mod_eq]
  exact decide_eq_decide.mpr (by omega)
/-! counting and the converter's port -/
theorem tk_inc : ∀ c, c < 256 → (nI c + 1) &&& 255 = nI ((c + 1) % 256) := by decide +kernel
theorem tk_cm4 : ∀ c, c < 256 → ∃ m, m < 252 ∧ nI c &&& (-5) = nI m := by
  intro c hc
  exact ⟨c - c / 4 % 2 * 4, (by decide +kernel : ∀ c, c < 256 → c - c / 4 % 2 * 4 < 252) c hc, (by decide +kernel : ∀ c, c < 256 → nI c &&& (-5) = nI (c - c / 4 % 2 * 4)) c hc⟩
theorem tk_cm3 : ∀ c, c < 256 → (nI c &&& (-5)) &&& 3 = nI c &&& 3 := by decide +kernel
theorem tk_cm8 : ∀ c, c < 256 → (nI c &&& (-5)) &&& 8 = nI c &&& 8 := by decide +kernel
theorem tk_24 : ∀ c, c < 256 → nI c &&& 24 = nI (c / 8 % 4 * 8) := by decide +kernel
theorem tk_15 : ∀ c, c < 256 → nI c &&& 15 = nI (c % 16) := by decide +kernel
theorem tk_a8 : ∀ c, c < 256 → nI c &&& 8 = nI (c / 8 % 2 * 8) := by decide +kernel
theorem tk_pins {a v c : Int32} (hc : c &&& 255 = c) : (a ^^^ (v &&& 255)) &&& c = ((a ^^^ v) &&& c) &&& 255 := by
  apply b_ext
  intro i _
  have h := congrArg (fun z => bt z i) hc
  simp only [b_and, b_xor] at h ⊢
  revert h
  cases bt a i <;> cases bt v i <;> cases bt c i <;> cases bt 255 i <;> simp
