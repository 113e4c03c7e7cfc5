section
/-! rows taken from the rows to paste -/
theorem pk_us {f : Nat → Int32} {k : Nat} {x : Int32} : upd f k x k = x := if_pos rfl
theorem pk_un {f : Nat → Int32} {k j : Nat} {x : Int32} (h : j ≠ k) : upd f k x j = f j := if_neg h
theorem pk_sub {a b : Nat} (h : b ≤ a) : nI a - nI b = nI (a - b) := by
  obtain ⟨c, rfl⟩ : ∃ c, a = c + b := ⟨a - b, by omega⟩
  rw [← nI_add, Int32.add_sub_cancel, Nat.add_sub_cancel]
theorem pk_m1 (n : Nat) : nI (n + 1) + (-1) = nI n := by
  rw [← nI_1, Int32.add_assoc, show (1 : Int32) + (-1) = 0 from rfl, Int32.add_zero]
theorem pk_mul (a b : Nat) : nI a * nI b = nI (a * b) := (Int32.ofNat_mul a b).symm
theorem pk_div {a d : Nat} (ha : a < 2 ^ 31) (h0 : 0 < d) (hd : d < 2 ^ 31) : nI a / nI d = nI (a / d) := by
  apply Int32.toInt_inj.mp
  rw [lg_idiv_nonneg (by rw [nI_toInt ha]; omega) (by rw [nI_toInt hd]; omega), nI_toInt ha, nI_toInt hd, nI_toInt (Nat.lt_of_le_of_lt (Nat.div_le_self a d) ha)]
  first | rfl | exact (Int.natCast_ediv _ _).symm
theorem pk_rem {a d : Nat} (ha : a < 2 ^ 31) (h0 : 0 < d) (hd : d < 2 ^ 31) : nI a - nI a / nI d * nI d = nI (a % d) := by
  rw [pk_div ha h0 hd, pk_mul, pk_sub (Nat.div_mul_le_self a d)]
  exact congrArg nI (by have := Nat.div_add_mod' a d; omega)
theorem pk_ix (x : Int32) {n : Nat} (hn : n < 2 ^ 31) : x < 0 ∨ nI n ≤ x ∨ ∃ j : Nat, j < n ∧ x = nI j := by
  by_cases h : x < 0
  · exact Or.inl h
  · obtain ⟨j, hj, rfl⟩ := nI_of h
    by_cases h2 : j < n
    · exact Or.inr (Or.inr ⟨j, h2, rfl⟩)
    · exact Or.inr (Or.inl (nI_le (by omega) hj))
theorem pk_le {x y : Int32} {A B : Prop} (a b : Nat) (f : a ≤ b → A) (g : b < a → B) (hx : x = nI a := by rfl) (hy : y = nI b := by rfl) (ha : a < 2 ^ 31 := by omega) (hb : b < 2 ^ 31 := by omega) : (x ≤ y → A) ∧ (¬ x ≤ y → B) := by
  subst hx hy
  rw [nI_leI ha hb]
  exact ⟨f, fun z => g (by omega)⟩
theorem pk_lt {x y : Int32} {A B : Prop} (a b : Nat) (f : a < b → A) (g : b ≤ a → B) (hx : x = nI a := by rfl) (hy : y = nI b := by rfl) (ha : a < 2 ^ 31 := by omega) (hb : b < 2 ^ 31 := by omega) : (x < y → A) ∧ (¬ x < y → B) := by
  subst hx hy
  rw [nI_ltI ha hb]
  exact ⟨f, fun z => g (by omega)⟩
theorem pk_eq {x y : Int32} {A B : Prop} (a b : Nat) (f : a = b → A) (g : a ≠ b → B) (hx : x = nI a := by rfl) (hy : y = nI b := by rfl) (ha : a < 2 ^ 31 := by omega) (hb : b < 2 ^ 31 := by omega) : (x = y → A) ∧ (¬ x = y → B) := by
  subst hx hy
  rw [nI_eq ha hb]
  exact ⟨f, g⟩
theorem pk_in {x : Int32} (n N : Nat) (h : n < N) (hx : x = nI n := by rfl) (hN : N < 2 ^ 31 := by omega) : vp_in x N := by
  subst hx
  exact vp_in_nI h hN
theorem pk_cl {x : Int32} (n : Nat) (hx : x = nI n := by rfl) (h : n < 2 ^ 31 := by omega) : x.toNatClampNeg = n := by
  subst hx
  exact nI_clamp h
theorem pk_tn {n : Nat} (h : n < 2 ^ 32) : (nI n).toBitVec.toNat = n := Nat.mod_eq_of_lt h
theorem pk_and (x : Int32) {m : Int32} (k : Nat) (hm : m.toBitVec.toNat = 2 ^ k - 1) : x &&& m = nI (x.toBitVec.toNat % 2 ^ k) := by
  apply Int32.toBitVec_inj.mp
  apply BitVec.eq_of_toNat_eq
  rw [Int32.toBitVec_and, BitVec.toNat_and, hm, Nat.and_two_pow_sub_one_eq_mod]
  show _ = (BitVec.ofNat 32 _).toNat
  rw [BitVec.toNat_ofNat]
  exact (Nat.mod_eq_of_lt (Nat.lt_of_le_of_lt (Nat.mod_le _ _) x.toBitVec.isLt)).symm
theorem pk_andN {n : Nat} (h : n < 2 ^ 32) {m : Int32} (k : Nat) (hm : m.toBitVec.toNat = 2 ^ k - 1) : nI n &&& m = nI (n % 2 ^ k) := by
  rw [pk_and _ k hm, pk_tn h]
theorem pk_andE (x : Int32) {m : Int32} (k : Nat) (hm : m.toBitVec.toNat = 2 ^ k - 1) : ∃ j : Nat, j < 2 ^ k ∧ x &&& m = nI j := ⟨_, Nat.mod_lt _ (Nat.two_pow_pos k), pk_and x k hm⟩
theorem pk_andIn (x : Int32) {m : Int32} (k : Nat) (hm : m.toBitVec.toNat = 2 ^ k - 1) (hk : k ≤ 30) : vp_in (x &&& m) (2 ^ k) := by
  obtain ⟨j, hj, e⟩ := pk_andE x k hm
  rw [e]
  exact vp_in_nI hj (Nat.lt_of_le_of_lt (Nat.pow_le_pow_right (by decide) hk) (by decide))
theorem pk_shl (a s : Int32) (k : Nat) (hs : (s.toBitVec.smod 32).toNat = k) : (a <<< s).toBitVec.toNat = a.toBitVec.toNat * 2 ^ k % 2 ^ 32 := by
  show (a.toBitVec <<< (s.toBitVec.smod 32).toNat).toNat = _
  rw [hs, BitVec.toNat_shiftLeft, Nat.shiftLeft_eq]
theorem pk_shlN {n : Nat} (s : Int32) (k : Nat) (hs : (s.toBitVec.smod 32).toNat = k) (h : n * 2 ^ k < 2 ^ 32) : nI n <<< s = nI (n * 2 ^ k) := by
  apply Int32.toBitVec_inj.mp
  apply BitVec.eq_of_toNat_eq
  have hn : n < 2 ^ 32 := Nat.lt_of_le_of_lt (Nat.le_mul_of_pos_right n (Nat.two_pow_pos k)) h
  rw [pk_shl _ _ k hs, pk_tn hn, pk_tn h, Nat.mod_eq_of_lt h]
theorem pk_shr (a s : Int32) (k : Nat) (hs : (s.toBitVec.smod 32).toNat = k) : (a >>> s).toInt = a.toInt >>> k := by
  show (a.toBitVec.sshiftRight (s.toBitVec.smod 32).toNat).toInt = _
  rw [hs, BitVec.toInt_sshiftRight]
  rfl
theorem pk_shrN {n : Nat} (h : n < 2 ^ 31) (s : Int32) (k : Nat) (hs : (s.toBitVec.smod 32).toNat = k) : nI n >>> s = nI (n / 2 ^ k) := by
  apply Int32.toInt_inj.mp
  have h2 : n / 2 ^ k ≤ n := Nat.div_le_self _ _
  rw [pk_shr _ _ k hs, nI_toInt h, nI_toInt (by omega), Int.shiftRight_eq_div_pow]
  rfl
def bt (x : Int32) (i : Nat) : Bool := x.toBitVec.getLsbD i
theorem b_ext {x y : Int32} (h : ∀ i, i < 32 → bt x i = bt y i) : x = y := Int32.toBitVec_inj.mp (BitVec.eq_of_getLsbD_eq (fun i hi => h i hi))
theorem b_or (x y : Int32) (i : Nat) : bt (x ||| y) i = (bt x i || bt y i) := by unfold bt; rw [Int32.toBitVec_or, BitVec.getLsbD_or]
theorem b_and (x y : Int32) (i : Nat) : bt (x &&& y) i = (bt x i && bt y i) := by unfold bt; rw [Int32.toBitVec_and, BitVec.getLsbD_and]
theorem b_xor (x y : Int32) (i : Nat) : bt (x ^^^ y) i = (bt x i ^^ bt y i) := by unfold bt; rw [Int32.toBitVec_xor, BitVec.getLsbD_xor]
theorem b_big {x : Int32} {i : Nat} (h : 32 ≤ i) : bt x i = false := BitVec.getLsbD_of_ge _ _ h
theorem b_255 (i : Nat) : bt 255 i = decide (i < 8) := by
  rcases Nat.lt_or_ge i 32 with h | h
  · exact (by decide +kernel : ∀ i, i < 32 → bt 255 i = decide (i < 8)) i h
  · rw [b_big h, decide_eq_false (by omega)]
theorem s_l : ∀ n, n < 32 → ((nI n &&& 31).toBitVec.smod 32).toNat = n := by decide +kernel
theorem nx_and (a b : Nat) : nI a &&& nI b = nI (a &&& b) := by
  apply Int32.toBitVec_inj.1
  show BitVec.ofNat 32 a &&& BitVec.ofNat 32 b = BitVec.ofNat 32 (a &&& b)
  apply BitVec.eq_of_getLsbD_eq
  intro i hi
  simp [hi]
theorem nx_xor (a b : Nat) : nI a ^^^ nI b = nI (a ^^^ b) := by
  apply Int32.toBitVec_inj.1
  show BitVec.ofNat 32 a ^^^ BitVec.ofNat 32 b = BitVec.ofNat 32 (a ^^^ b)
  apply BitVec.eq_of_getLsbD_eq
  intro i hi
  simp [hi]
end
section
/-! pure facts: naturals below a bound, the pending bits as an array, one bit by a shift -/
def tk_lt (m : Nat) (x : Int32) : Prop := ∃ n : Nat, n < m ∧ x = nI n
theorem tk_mk {m n : Nat} (h : n < m) : tk_lt m (nI n) := ⟨n, h, rfl⟩
theorem tk_0 {m : Nat} (h : 0 < m) : tk_lt m 0 := ⟨0, h, nI_0.symm⟩
theorem tk_le {m k : Nat} {x : Int32} (h : tk_lt m x) (hk : m ≤ k) : tk_lt k x := by
  obtain ⟨n, hn, e⟩ := h
  exact ⟨n, Nat.lt_of_lt_of_le hn hk, e⟩
theorem tk_b (x : Int32) : tk_lt 256 (x &&& 255) := by
  obtain ⟨j, hj, e⟩ := pk_andE x (m := 255) 8 (by decide)
  exact ⟨j, hj, e⟩
theorem tk_7 (x : Int32) : tk_lt 8 (x &&& 7) := by
  obtain ⟨j, hj, e⟩ := pk_andE x (m := 7) 3 (by decide)
  exact ⟨j, hj, e⟩
theorem tk_31 (x : Int32) : tk_lt 32 (x &&& 31) := by
  obtain ⟨j, hj, e⟩ := pk_andE x (m := 31) 5 (by decide)
  exact ⟨j, hj, e⟩
theorem tk_in {m : Nat} {x : Int32} (h : tk_lt m x) (hm : m < 2 ^ 31) : vp_in x m := by
  obtain ⟨n, hn, rfl⟩ := h
  exact vp_in_nI hn hm
theorem tk_upd {m k : Nat} {f : Nat → Int32} {x : Int32} (h : ∀ j, tk_lt m (f j)) (hx : tk_lt m x) : ∀ j, tk_lt m (upd f k x j) := by
  intro j
  unfold upd
  by_cases e : j = k
  · rw [if_pos e]; exact hx
  · rw [if_neg e]; exact h j
theorem tk_or (a b : Nat) : nI a ||| nI b = nI (a ||| b) := by
  apply Int32.toBitVec_inj.1
  show BitVec.ofNat 32 a ||| BitVec.ofNat 32 b = BitVec.ofNat 32 (a ||| b)
  apply BitVec.eq_of_getLsbD_eq
  intro i hi
  simp [hi]
theorem tk_255 {x : Int32} (h : tk_lt 256 x) : x &&& 255 = x := by
  obtain ⟨n, hn, rfl⟩ := h
  rw [pk_andN (by omega) (m := 255) 8 (by decide), Nat.mod_eq_of_lt hn]
theorem tk_and2 {x y : Int32} (h : tk_lt 256 x) : (x &&& y) &&& 255 = x &&& y := by
  rw [Int32.and_assoc, Int32.and_comm y, ← Int32.and_assoc, tk_255 h]
theorem tk_andB {x y : Int32} (h : tk_lt 256 x) : tk_lt 256 (x &&& y) := by
  rw [← tk_and2 h]; exact tk_b _
theorem tk_xorB {x y : Int32} (h : tk_lt 256 x) (h' : tk_lt 256 y) : tk_lt 256 (x ^^^ y) := by
  obtain ⟨a, ha, rfl⟩ := h
  obtain ⟨b, hb, rfl⟩ := h'
  rw [nx_xor]
  exact ⟨_, Nat.xor_lt_two_pow (n := 8) ha hb, rfl⟩
theorem tk_shr {x : Int32} (h : tk_lt 256 x) : tk_lt 256 (x >>> ((1 : Int32) &&& 31)) := by
  obtain ⟨a, ha, rfl⟩ := h
  rw [pk_shrN (by omega) _ 1 (by decide)]
  exact ⟨_, by omega, rfl⟩
/-! the pending array of the reference, as the bits of a number -/
def tk_q (n : Nat) : Nat → Int32 := fun k => if n.testBit k then 1 else 0
theorem tk_q0 : tk_q 0 = fun _ => 0 := by
  funext k
  simp [tk_q]
theorem tk_q01 (n k : Nat) : tk_q n k = 0 ∨ tk_q n k = 1 := by
  unfold tk_q
  cases n.testBit k
  · exact Or.inl rfl
  · exact Or.inr rfl
theorem tk_qt {n k : Nat} (h : n.testBit k = true) : tk_q n k = 1 := by unfold tk_q; rw [if_pos h]
theorem tk_qf {n k : Nat} (h : n.testBit k = false) : tk_q n k = 0 := by unfold tk_q; rw [h]; rfl
theorem tk_set (n k : Nat) : upd (tk_q n) k 1 = tk_q (n ||| 2 ^ k) := by
  funext j
  unfold upd tk_q
  rw [Nat.testBit_or, Nat.testBit_two_pow]
  by_cases h : j = k
  · subst h; simp
  · have h' : ¬ k = j := fun e => h e.symm
    simp [h, h']
theorem tk_setlt {n k : Nat} (hn : n < 512) (hk : k < 9) : n ||| 2 ^ k < 512 := Nat.or_lt_two_pow (n := 9) hn (Nat.pow_lt_pow_right (by decide) hk)
theorem tk_tb : ∀ a, a < 512 → ∀ j, j < 9 → (511 - a).testBit j = !(a.testBit j) := by decide +kernel
theorem tk_hi {n j : Nat} (hn : n < 512) (hj : 9 ≤ j) : n.testBit j = false := Nat.testBit_lt_two_pow (Nat.lt_of_lt_of_le hn (Nat.pow_le_pow_right (n := 2) (by decide) hj))
theorem tk_clr {n a : Nat} (hn : n < 512) (ha : a < 512) (j : Nat) : tk_q (n &&& (511 - a)) j = if a.testBit j = true then 0 else tk_q n j := by
  unfold tk_q
  rw [Nat.testBit_and]
  by_cases hj : j < 9
  · rw [tk_tb a ha j hj]
    cases a.testBit j <;> cases n.testBit j <;> rfl
  · rw [tk_hi hn (by omega)]
    cases a.testBit j <;> rfl
theorem tk_clrlt {n a : Nat} (hn : n < 512) : n &&& (511 - a) < 512 := Nat.lt_of_le_of_lt Nat.and_le_left hn
theorem tk_unset {n k : Nat} (hn : n < 512) (hk : k < 9) : upd (tk_q n) k 0 = tk_q (n &&& (511 - 2 ^ k)) := by
  funext j
  rw [tk_clr hn (show 2 ^ k < 2 ^ 9 from Nat.pow_lt_pow_right (by decide) hk), Nat.testBit_two_pow]
  unfold upd
  by_cases h : j = k
  · subst h; simp
  · have h' : ¬ k = j := fun e => h e.symm
    simp [h, h']
theorem tk_n511 {n : Nat} (h : n < 512) (x : Int32) : nI n &&& x = nI n &&& (nI 511 &&& x) := by
  have e : nI n &&& nI 511 = nI n := by
    rw [nx_and, show (511 : Nat) = 2 ^ 9 - 1 from rfl, Nat.and_two_pow_sub_one_eq_mod, Nat.mod_eq_of_lt h]
  rw [← Int32.and_assoc, e]
theorem tk_cv : ∀ a, a < 256 → nI 511 &&& (nI a ^^^ (-1)) = nI (511 - a) := by decide +kernel
theorem tk_ck : ∀ k, k < 9 → nI 511 &&& (((1 : Int32) <<< (nI k &&& 31)) ^^^ (-1)) = nI (511 - 2 ^ k) := by decide +kernel
theorem tk_clrV {n a : Nat} (hn : n < 512) (ha : a < 256) : nI n &&& (nI a ^^^ (-1)) = nI (n &&& (511 - a)) := by
  rw [tk_n511 hn, tk_cv a ha, nx_and]
theorem tk_clrK {n k : Nat} (hn : n < 512) (hk : k < 9) : nI n &&& (((1 : Int32) <<< (nI k &&& 31)) ^^^ (-1)) = nI (n &&& (511 - 2 ^ k)) := by
  rw [tk_n511 hn, tk_ck k hk, nx_and]
theorem tk_shr1 {a k : Nat} (ha : a < 2 ^ 31) (hk : k < 32) : (nI a >>> (nI k &&& 31)) &&& 1 = tk_q a k := by
  have hd : a / 2 ^ k ≤ a := Nat.div_le_self a (2 ^ k)
  rw [pk_shrN ha _ k (s_l k hk), pk_andN (by omega) (m := 1) 1 (by decide)]
  unfold tk_q
  rw [Nat.testBit_eq_decide_div_mod_eq]
  generalize a / 2 ^ k = z
  rcases (by omega : z % 2 = 0 ∨ z % 2 = 1) with h | h
  · rw [show z % 2 ^ 1 = 0 from h]; rfl
  · rw [show z % 2 ^ 1 = 1 from h]; rfl
theorem tk_xor (o v k : Nat) : tk_q (o ^^^ v) k = if tk_q v k = tk_q o k then 0 else 1 := by
  unfold tk_q
  rw [Nat.testBit_xor]
  cases o.testBit k <;> cases v.testBit k <;> rfl
theorem tk_least (r : Nat) : ∀ m, (∀ j, j < m → r.testBit j = false) ∨ ∃ k, k < m ∧ r.testBit k = true ∧ ∀ j, j < k → r.testBit j = false := by
  intro m
  induction m with
  | zero => exact Or.inl (fun j hj => absurd hj (Nat.not_lt_zero j))
  | succ m ih =>
    rcases ih with h | ⟨k, hk, h1, h2⟩
    · cases e : r.testBit m
      · refine Or.inl (fun j hj => ?_)
        rcases (by omega : j < m ∨ j = m) with z | z
        · exact h j z
        · rw [z]; exact e
      · exact Or.inr ⟨m, Nat.lt_succ_self m, e, h⟩
    · exact Or.inr ⟨k, by omega, h1, h2⟩
theorem tk_none {r : Nat} (h : r < 512) (hz : ∀ j, j < 9 → r.testBit j = false) : r = 0 := by
  apply Nat.eq_of_testBit_eq
  intro i
  rw [Nat.zero_testBit]
  by_cases hi : i < 9
  · exact hz i hi
  · exact tk_hi h (by omega)
theorem tk_some {r k : Nat} (h : r.testBit k = true) : r ≠ 0 := by
  intro e
  rw [e, Nat.zero_testBit] at h
  cases h
theorem tk_sum (n i : Nat) : n % 2 ^ (i + 1) = n % 2 ^ i + (if n.testBit i = true then 2 ^ i else 0) := by
  rw [Nat.testBit_eq_decide_div_mod_eq, Nat.mod_pow_succ]
  generalize n / 2 ^ i = z
  rcases (by omega : z % 2 = 0 ∨ z % 2 = 1) with h | h
  · rw [h]; simp
  · rw [h]; simp
/-! the enabled interrupts as one number -/
def tk_E (a b c d e f : Nat) : Nat := a / 8 % 4 + 4 * (b / 8 % 4) + 16 * (c / 8 % 4) + 64 * (d / 8 % 2) + 128 * (e / 8 % 2) + 256 * f
theorem tk_s3 : ∀ x, x < 256 → (nI x >>> ((3 : Int32) &&& 31)) &&& 3 = nI (x / 8 % 4) := by decide +kernel
theorem tk_s1 : ∀ x, x < 256 → (nI x >>> ((3 : Int32) &&& 31)) &&& 1 = nI (x / 8 % 2) := by decide +kernel
theorem tk_s41 : ∀ x, x < 256 → (nI x >>> ((4 : Int32) &&& 31)) &&& 1 = nI (x / 8 % 4 / 2) := by decide +kernel
theorem tk_s31 : ∀ x, x < 256 → (nI x >>> ((3 : Int32) &&& 31)) &&& 1 = nI (x / 8 % 4 % 2) := by decide +kernel
theorem tk_s8 : ∀ x, x < 256 → ((nI x &&& 8 = 0) ↔ x / 8 % 2 = 0) := by decide +kernel
theorem tk_or5 : ∀ a, a < 4 → ∀ b, b < 4 → ∀ c, c < 4 → ∀ d, d < 2 → ∀ e, e < 2 → (((nI a ||| (nI b <<< ((2 : Int32) &&& 31))) ||| (nI c <<< ((4 : Int32) &&& 31))) ||| (nI d <<< ((6 : Int32) &&& 31))) ||| (nI e <<< ((7 : Int32) &&& 31)) = nI (a + 4 * b + 16 * c + 64 * d + 128 * e) := by decide +kernel
theorem tk_or6 : ∀ r, r < 256 → nI r ||| 256 = nI (r + 256) := by decide +kernel
theorem tk_E0 {a b c d e f : Nat} (ha : a < 4) (hb : b < 4) (hc : c < 4) (hd : d < 2) (he : e < 2) (hf : f < 2) : (a + 4 * b + 16 * c + 64 * d + 128 * e + 256 * f).testBit 0 = decide (a % 2 = 1) := by
  rw [Nat.testBit_eq_decide_div_mod_eq]
  exact decide_eq_decide.mpr (by omega)
theorem tk_E1 {a b c d e f : Nat} (ha : a < 4) (hb : b < 4) (hc : c < 4) (hd : d < 2) (he : e < 2) (hf : f < 2) : (a + 4 * b + 16 * c + 64 * d + 128 * e + 256 * f).testBit 1 = decide (a / 2 = 1) := by
  rw [Nat.testBit_eq_decide_div_mod_eq]
  exact decide_eq_decide.mpr (by omega)
theorem tk_E2 {a b c d e f : Nat} (ha : a < 4) (hb : b < 4) (hc : c < 4) (hd : d < 2) (he : e < 2) (hf : f < 2) : (a + 4 * b + 16 * c + 64 * d + 128 * e + 256 * f).testBit 2 = decide (b % 2 = 1) := by
  rw [Nat.testBit_eq_decide_div_mod_eq]
  exact decide_eq_decide.mpr (by omega)
theorem tk_E3 {a b c d e f : Nat} (ha : a < 4) (hb : b < 4) (hc : c < 4) (hd : d < 2) (he : e < 2) (hf : f < 2) : (a + 4 * b + 16 * c + 64 * d + 128 * e + 256 * f).testBit 3 = decide (b / 2 = 1) := by
  rw [Nat.testBit_eq_decide_div_mod_eq]
  exact decide_eq_decide.mpr (by omega)
theorem tk_E4 {a b c d e f : Nat} (ha : a < 4) (hb : b < 4) (hc : c < 4) (hd : d < 2) (he : e < 2) (hf : f < 2) : (a + 4 * b + 16 * c + 64 * d + 128 * e + 256 * f).testBit 4 = decide (c % 2 = 1) := by
  rw [Nat.testBit_eq_decide_div_mod_eq]
  exact decide_eq_decide.mpr (by omega)
theorem tk_E5 {a b c d e f : Nat} (ha : a < 4) (hb : b < 4) (hc : c < 4) (hd : d < 2) (he : e < 2) (hf : f < 2) : (a + 4 * b + 16 * c + 64 * d + 128 * e + 256 * f).testBit 5 = decide (c / 2 = 1) := by
  rw [Nat.testBit_eq_decide_div_mod_eq]
  exact decide_eq_decide.mpr (by omega)
theorem tk_E6 {a b c d e f : Nat} (ha : a < 4) (hb : b < 4) (hc : c < 4) (hd : d < 2) (he : e < 2) (hf : f < 2) : (a + 4 * b + 16 * c + 64 * d + 128 * e + 256 * f).testBit 6 = decide (d = 1) := by
  rw [Nat.testBit_eq_decide_div_mod_eq]
  exact decide_eq_decide.mpr (by omega)
theorem tk_E7 {a b c d e f : Nat} (ha : a < 4) (hb : b < 4) (hc : c < 4) (hd : d < 2) (he : e < 2) (hf : f < 2) : (a + 4 * b + 16 * c + 64 * d + 128 * e + 256 * f).testBit 7 = decide (e = 1) := by
  rw [Nat.testBit_eq_decide_div_mod_eq]
  exact decide_eq_decide.mpr (by omega)
theorem tk_E8 {a b c d e f : Nat} (ha : a < 4) (hb : b < 4) (hc : c < 4) (hd : d < 2) (he : e < 2) (hf : f < 2) : (a + 4 * b + 16 * c + 64 * d + 128 * e + 256 * f).testBit 8 = decide (f = 1) := by
  rw [Nat.testBit_eq_decide_div_mod_eq]
  exact decide_eq_decide.mpr (by omega)
/-! counting and the converter's port -/
theorem tk_inc : ∀ c, c < 256 → (nI c + 1) &&& 255 = nI ((c + 1) % 256) := by decide +kernel
theorem tk_cm4 : ∀ c, c < 256 → ∃ m, m < 252 ∧ nI c &&& (-5) = nI m := by
  intro c hc
  exact ⟨c - c / 4 % 2 * 4, (by decide +kernel : ∀ c, c < 256 → c - c / 4 % 2 * 4 < 252) c hc, (by decide +kernel : ∀ c, c < 256 → nI c &&& (-5) = nI (c - c / 4 % 2 * 4)) c hc⟩
theorem tk_cm3 : ∀ c, c < 256 → (nI c &&& (-5)) &&& 3 = nI c &&& 3 := by decide +kernel
theorem tk_cm8 : ∀ c, c < 256 → (nI c &&& (-5)) &&& 8 = nI c &&& 8 := by decide +kernel
theorem tk_24 : ∀ c, c < 256 → nI c &&& 24 = nI (c / 8 % 4 * 8) := by decide +kernel
theorem tk_15 : ∀ c, c < 256 → nI c &&& 15 = nI (c % 16) := by decide +kernel
theorem tk_a8 : ∀ c, c < 256 → nI c &&& 8 = nI (c / 8 % 2 * 8) := by decide +kernel
theorem tk_pins {a v c : Int32} (hc : c &&& 255 = c) : (a ^^^ (v &&& 255)) &&& c = ((a ^^^ v) &&& c) &&& 255 := by
  apply b_ext
  intro i _
  have h := congrArg (fun z => bt z i) hc
  simp only [b_and, b_xor] at h ⊢
  revert h
  cases bt a i <;> cases bt v i <;> cases bt c i <;> cases bt 255 i <;> simp
end
section
/-! the relation: both states as functions of shared names; what holds of them -/
def tk_d (P : Nat → Int32) (i : Nat) : Nat → Int32 := fun j => if j = 0 then P i else if j = 1 then P (i + 3) else 0
theorem tk_d0 (P : Nat → Int32) (i : Nat) (x : Int32) : upd (tk_d P i) 0 x = tk_d (upd P i x) i := by
  funext j
  by_cases h : j = 0
  · subst h
    show x = upd P i x i
    exact pk_us.symm
  · rw [pk_un h]
    unfold tk_d
    rw [if_neg h, if_neg h, pk_un (by omega : i + 3 ≠ i)]
theorem tk_d1 (P : Nat → Int32) (i : Nat) (x : Int32) : upd (tk_d P i) 1 x = tk_d (upd P (i + 3) x) i := by
  funext j
  by_cases h : j = 1
  · subst h
    show x = upd P (i + 3) x (i + 3)
    exact pk_us.symm
  · rw [pk_un h]
    unfold tk_d
    by_cases h0 : j = 0
    · rw [if_pos h0, if_pos h0, pk_un (by omega : i ≠ i + 3)]
    · rw [if_neg h0, if_neg h, if_neg h0, if_neg h]
def tk_I1 (len : Int32) (ops ve an : Nat → Int32) : Prop := tk_lt 49 len ∧ (∀ j, tk_lt 27 (ops j)) ∧ (∀ j, tk_lt 48 (ve j)) ∧ (∀ j, tk_lt 256 (an j))
def tk_I2 (pc dp : Int32) (rg me st : Nat → Int32) : Prop := tk_lt 256 pc ∧ tk_lt 17 dp ∧ (∀ j, tk_lt 256 (rg j)) ∧ (∀ j, tk_lt 256 (me j)) ∧ (∀ j, tk_lt 256 (st j))
def tk_I3 (cv : Int32) (P : Nat → Int32) : Prop := tk_lt 256 cv ∧ P 9 = cv &&& (-5) ∧ (∀ j, tk_lt 256 (P j)) ∧ tk_lt 32 (P 7) ∧ tk_lt 16 (P 16) ∧ tk_lt 16 (P 18)
def tk_I4 (n S T : Nat) (rx ov sl cl yb ya yl : Int32) (so : Nat → Int32) : Prop := n < 512 ∧ S ≤ T ∧ tk_lt 2 rx ∧ tk_lt 2 ov ∧ tk_lt 2049 sl ∧ tk_lt 53 cl ∧ tk_lt 256 yb ∧ tk_lt 16 ya ∧ tk_lt 41 yl ∧ (∀ j, tk_lt 256 (so j))
def tk_W (x w s : Int32) : Prop := x &&& 7 = 0 ∨ (w = s ∧ ∃ L m : Nat, 0 < L ∧ L < 8 ∧ x &&& 7 = nI L ∧ m < 2 ^ (L + 4) ∧ w = nI m)
def tk_R (T : Nat) (pa ha : Int32) (u : SX) (v : SY) : Prop := ∃ (n S : Nat) (len pc z c al dp sp re ta ed rx ov sb sl cl yb ya yl w cv si : Int32) (ops oa ob ve rg me st an so li P : Nat → Int32), u = (len, pc, z, c, al, dp, sp, ha, nI T, re, ta, ed, nI n, rx, ov, sb, sl, nI S, cl, yb, ya, yl, w, ops, oa, ob, ve, rg, me, st, an, so, li, P) ∧ v = (len, P 13, z, c, al, sp, ha, dp, pc, nI T, pa, ta, re, ed, nI S, P 6, P 7, P 8, cv, P 10, P 12, P 14, P 16, P 18, P 19, si, rx, ov, sl, sb, cl, yl, yb, ya, ops, oa, ob, ve, an, so, rg, me, st, li, tk_q n, tk_d P 0, tk_d P 1, tk_d P 2) ∧ tk_I1 len ops ve an ∧ tk_I2 pc dp rg me st ∧ tk_I3 cv P ∧ tk_I4 n S T rx ov sl cl yb ya yl so ∧ tk_W (P 14) w si
def i_Rel (_ : Nat) (u : SX) (v : SY) : Prop := ∃ (T : Nat) (pa ha : Int32), T ≤ 1000003002 ∧ tk_R T pa ha u v
end
section
/-! the output pins, and the timers -/
section
variable {n T S : Nat} {len pc z c al dp sp ha re ta ed rx ov sb sl cl yb ya yl w pa cv si : Int32} {ops oa ob ve rg me st an so li P : Nat → Int32}
theorem tk_nb1 : vp_nar .boolean 1 = 1 := by decide
theorem tk_nb0 : vp_nar .boolean 0 = 0 := by decide
theorem tk_setN (n k : Nat) : upd (tk_q n) k (vp_nar .boolean 1) = tk_q (n ||| 2 ^ k) := by rw [tk_nb1, tk_set]
theorem sh_loop {o v : Nat} (ho : o < 256) (hv : v < 256) (hP : P 12 = nI o) : ∀ (d j : Nat) (ed : Int32), j + d = 8 → ∃ ed' : Int32,
    (∀ post : SX → Prop, post (len, pc, z, c, al, dp, sp, ha, nI T, re, ta, ed', nI n, rx, ov, sb, sl, nI S, cl, yb, ya, yl, w, ops, oa, ob, ve, rg, me, st, an, so, li, upd P 12 (nI v)) → wX_setOutputPins_12 post (nI v) (nI (o ^^^ v)) len pc z c al dp sp ha (nI T) re ta (nI n) rx ov sb sl (nI S) cl yb ya yl w ops oa ob ve rg me st an so li P (d + 1) (nI j) ed) ∧
    (∀ post : SY → Prop, post (len, (upd P 12 (nI v)) 13, z, c, al, sp, ha, dp, pc, nI T, pa, ta, re, ed', nI S, (upd P 12 (nI v)) 6, (upd P 12 (nI v)) 7, (upd P 12 (nI v)) 8, cv, (upd P 12 (nI v)) 10, (upd P 12 (nI v)) 12, (upd P 12 (nI v)) 14, (upd P 12 (nI v)) 16, (upd P 12 (nI v)) 18, (upd P 12 (nI v)) 19, si, rx, ov, sl, sb, cl, yl, yb, ya, ops, oa, ob, ve, an, so, rg, me, st, li, tk_q n, tk_d (upd P 12 (nI v)) 0, tk_d (upd P 12 (nI v)) 1, tk_d (upd P 12 (nI v)) 2) → wY_show_2 post (nI v) len (P 13) z c al sp ha dp pc (nI T) pa ta re (nI S) (P 6) (P 7) (P 8) cv (P 10) (P 12) (P 14) (P 16) (P 18) (P 19) si rx ov sl sb cl yl yb ya ops oa ob ve an so rg me st li (tk_q n) (tk_d P 0) (tk_d P 1) (tk_d P 2) (d + 1) (nI j) ed) := by
  intro d
  induction d with
  | zero =>
    intro j ed hj
    have h : (8 : Int32) ≤ nI j := nI_le (a := 8) (by omega) (by omega)
    exact ⟨ed, fun post hp => br_t h (nm_e hp), fun post hp => br_t h hp⟩
  | succ d ih =>
    intro j ed hj
    have h : ¬ (8 : Int32) ≤ nI j := nI_ge (b := 8) (by omega) (by decide)
    have bX : (nI (o ^^^ v) >>> (nI j &&& 31)) &&& 1 = tk_q (o ^^^ v) j := tk_shr1 (Nat.lt_trans (Nat.xor_lt_two_pow (n := 8) ho hv) (by decide)) (by omega)
    have bV : (nI v >>> (nI j &&& 31)) &&& 1 = tk_q v j := tk_shr1 (by omega) (by omega)
    have bO : (P 12 >>> (nI j &&& 31)) &&& 1 = tk_q o j := by rw [hP]; exact tk_shr1 (by omega) (by omega)
    by_cases e : tk_q v j = tk_q o j
    · have bx : ed + ((nI (o ^^^ v) >>> (nI j &&& 31)) &&& 1) = ed := by rw [bX, tk_xor, if_pos e, Int32.add_zero]
      obtain ⟨ed', hX, hY⟩ := ih (j + 1) ed (by omega)
      exact ⟨ed', fun post hp => br_f h (nm_r bx (nm_r (nI_1 j) (hX post hp))), fun post hp => br_f h (br_t (bV.trans (e.trans bO.symm)) (nm_r (nI_1 j) (hY post hp)))⟩
    · have bx : ed + ((nI (o ^^^ v) >>> (nI j &&& 31)) &&& 1) = ed + 1 := by rw [bX, tk_xor, if_neg e]
      obtain ⟨ed', hX, hY⟩ := ih (j + 1) (ed + 1) (by omega)
      exact ⟨ed', fun post hp => br_f h (nm_r bx (nm_r (nI_1 j) (hX post hp))), fun post hp => br_f h (br_f (fun q => e (bV.symm.trans (q.trans bO))) (nm_e (nm_r (nI_1 j) (hY post hp))))⟩
theorem sh_pins {o v : Nat} (ho : o < 256) (hv : v < 256) (hP : P 12 = nI o) : ∃ ed' : Int32,
    (∀ post : SX → Prop, post (len, pc, z, c, al, dp, sp, ha, nI T, re, ta, ed', nI n, rx, ov, sb, sl, nI S, cl, yb, ya, yl, w, ops, oa, ob, ve, rg, me, st, an, so, li, upd P 12 (nI v)) → wpX_setOutputPins post (len, pc, z, c, al, dp, sp, ha, nI T, re, ta, ed, nI n, rx, ov, sb, sl, nI S, cl, yb, ya, yl, w, ops, oa, ob, ve, rg, me, st, an, so, li, P) (nI v)) ∧
    (∀ post : SY → Prop, post (len, (upd P 12 (nI v)) 13, z, c, al, sp, ha, dp, pc, nI T, pa, ta, re, ed', nI S, (upd P 12 (nI v)) 6, (upd P 12 (nI v)) 7, (upd P 12 (nI v)) 8, cv, (upd P 12 (nI v)) 10, (upd P 12 (nI v)) 12, (upd P 12 (nI v)) 14, (upd P 12 (nI v)) 16, (upd P 12 (nI v)) 18, (upd P 12 (nI v)) 19, si, rx, ov, sl, sb, cl, yl, yb, ya, ops, oa, ob, ve, an, so, rg, me, st, li, tk_q n, tk_d (upd P 12 (nI v)) 0, tk_d (upd P 12 (nI v)) 1, tk_d (upd P 12 (nI v)) 2) → wpY_show post (len, P 13, z, c, al, sp, ha, dp, pc, nI T, pa, ta, re, ed, nI S, P 6, P 7, P 8, cv, P 10, P 12, P 14, P 16, P 18, P 19, si, rx, ov, sl, sb, cl, yl, yb, ya, ops, oa, ob, ve, an, so, rg, me, st, li, tk_q n, tk_d P 0, tk_d P 1, tk_d P 2) (nI v)) := by
  obtain ⟨ed', hX, hY⟩ := sh_loop (n := n) (T := T) (S := S) (len := len) (pc := pc) (z := z) (c := c) (al := al) (dp := dp) (sp := sp) (ha := ha) (re := re) (ta := ta) (rx := rx) (ov := ov) (sb := sb) (sl := sl) (cl := cl) (yb := yb) (ya := ya) (yl := yl) (w := w) (pa := pa) (cv := cv) (si := si) (ops := ops) (oa := oa) (ob := ob) (ve := ve) (rg := rg) (me := me) (st := st) (an := an) (so := so) (li := li) (P := P) ho hv hP 8 0 ed rfl
  refine ⟨ed', fun post hp => ?_, fun post hp => ?_⟩
  · unfold wpX_setOutputPins
    exact nm_r (by rw [hP, nx_xor]) ⟨9, hX post hp⟩
  · unfold wpY_show
    exact ⟨9, hY post hp⟩
end
end
section
/-! the timers -/
section
variable {n T S : Nat} {len pc z c al dp sp ha re ta ed rx ov sb sl cl yb ya yl w pa cv si : Int32} {ops oa ob ve rg me st an so li P : Nat → Int32}
theorem tk_3up (h : tk_I3 cv P) {k : Nat} {x : Int32} (h7 : 7 ≠ k) (h9 : 9 ≠ k) (h16 : 16 ≠ k) (h18 : 18 ≠ k) (hx : tk_lt 256 x) : tk_I3 cv (upd P k x) :=
  ⟨h.1, by rw [pk_un h9]; exact h.2.1, tk_upd h.2.2.1 hx, by rw [pk_un h7]; exact h.2.2.2.1, by rw [pk_un h16]; exact h.2.2.2.2.1, by rw [pk_un h18]; exact h.2.2.2.2.2⟩
theorem tk_uu (P : Nat → Int32) (k : Nat) (x y : Int32) : upd (upd P k x) k y = upd P k y := by
  funext j
  unfold upd
  by_cases h : j = k
  · rw [if_pos h, if_pos h]
  · rw [if_neg h, if_neg h, if_neg h]
theorem te_0 (h3 : tk_I3 cv P) (hn : n < 512) : ∃ (n' : Nat) (ed' : Int32) (P' : Nat → Int32), n' < 512 ∧ tk_I3 cv P' ∧ P' 14 = P 14 ∧
    (∀ post : SX → Prop, post (len, pc, z, c, al, dp, sp, ha, nI T, re, ta, ed', nI n', rx, ov, sb, sl, nI S, cl, yb, ya, yl, w, ops, oa, ob, ve, rg, me, st, an, so, li, P') → wX_passTimer_102 post 0 0 (P 1) (P 2) len pc z c al dp sp ha (nI T) re ta ed (nI n) rx ov sb sl (nI S) cl yb ya yl w ops oa ob ve rg me st an so li P) ∧
    (∀ post : SY → Prop, post (len, P' 13, z, c, al, sp, ha, dp, pc, nI T, pa, ta, re, ed', nI S, P' 6, P' 7, P' 8, cv, P' 10, P' 12, P' 14, P' 16, P' 18, P' 19, si, rx, ov, sl, sb, cl, yl, yb, ya, ops, oa, ob, ve, an, so, rg, me, st, li, tk_q n', tk_d P' 0, tk_d P' 1, tk_d P' 2) → wY_timer_119 post 0 len (P 13) z c al sp ha dp pc (nI T) pa ta re ed (nI S) (P 6) (P 7) (P 8) cv (P 10) (P 12) (P 14) (P 16) (P 18) (P 19) si rx ov sl sb cl yl yb ya ops oa ob ve an so rg me st li (tk_q n) (tk_d P 0) (tk_d P 1) (tk_d P 2)) := by
  have pe : nI n ||| ((1 : Int32) <<< ((2 * 0) &&& 31)) = nI (n ||| 2 ^ 0) := by
    rw [show ((1 : Int32) <<< ((2 * 0) &&& 31)) = nI (2 ^ 0) from by decide]
    exact tk_or n (2 ^ 0)
  have hk : n ||| 2 ^ 0 < 512 := tk_setlt hn (by decide)
  by_cases e : P 0 = P 2
  · by_cases b : P 1 &&& 32 = 0
    · exact ⟨n ||| 2 ^ 0, ed, P, hk, h3, rfl, fun post hp => ⟨(vp_in_iff.mpr (by decide)), br_t e (nm_r pe (br_t b hp))⟩, fun post hp => ⟨(vp_in_iff.mpr (by decide)), (vp_in_iff.mpr (by decide)), br_t e ⟨(vp_in_iff.mpr (by decide)), nm_r (tk_setN n 0) ⟨(vp_in_iff.mpr (by decide)), br_t b hp⟩⟩⟩⟩
    · obtain ⟨o, ho, eo⟩ := h3.2.2.1 12
      have hx : P 12 ^^^ ((1 : Int32) <<< ((0 : Int32) &&& 31)) = nI (o ^^^ 2 ^ 0) := by
        rw [eo, show ((1 : Int32) <<< ((0 : Int32) &&& 31)) = nI (2 ^ 0) from by decide, nx_xor]
      have hv : o ^^^ 2 ^ 0 < 256 := Nat.xor_lt_two_pow (n := 8) ho (by decide)
      obtain ⟨ed', hX, hY⟩ := sh_pins (n := n ||| 2 ^ 0) (T := T) (S := S) (len := len) (pc := pc) (z := z) (c := c) (al := al) (dp := dp) (sp := sp) (ha := ha) (re := re) (ta := ta) (ed := ed) (rx := rx) (ov := ov) (sb := sb) (sl := sl) (cl := cl) (yb := yb) (ya := ya) (yl := yl) (w := w) (pa := pa) (cv := cv) (si := si) (ops := ops) (oa := oa) (ob := ob) (ve := ve) (rg := rg) (me := me) (st := st) (an := an) (so := so) (li := li) (P := P) ho hv eo
      refine ⟨n ||| 2 ^ 0, ed', upd P 12 (nI (o ^^^ 2 ^ 0)), hk, tk_3up h3 (by decide) (by decide) (by decide) (by decide) (tk_mk hv), rfl, fun post hp => ⟨(vp_in_iff.mpr (by decide)), br_t e (nm_r pe (br_f b ?_))⟩, fun post hp => ⟨(vp_in_iff.mpr (by decide)), (vp_in_iff.mpr (by decide)), br_t e ⟨(vp_in_iff.mpr (by decide)), nm_r (tk_setN n 0) ⟨(vp_in_iff.mpr (by decide)), br_f b ?_⟩⟩⟩⟩
      · rw [hx]; exact hX _ hp
      · rw [hx]; exact hY _ hp
  · exact ⟨n, ed, P, hn, h3, rfl, fun post hp => ⟨(vp_in_iff.mpr (by decide)), br_f e hp⟩, fun post hp => ⟨(vp_in_iff.mpr (by decide)), (vp_in_iff.mpr (by decide)), br_f e hp⟩⟩
theorem tt_0 : ((∀ post : Int32 → Prop, post 0 → wpX_ticksNow post (len, pc, z, c, al, dp, sp, ha, nI T, re, ta, ed, nI n, rx, ov, sb, sl, nI S, cl, yb, ya, yl, w, ops, oa, ob, ve, rg, me, st, an, so, li, P) (P 1 &&& 3)) ∧ (∀ post : SY → Prop, post (len, P 13, z, c, al, sp, ha, dp, pc, nI T, pa, ta, re, ed, nI S, P 6, P 7, P 8, cv, P 10, P 12, P 14, P 16, P 18, P 19, si, rx, ov, sl, sb, cl, yl, yb, ya, ops, oa, ob, ve, an, so, rg, me, st, li, tk_q n, tk_d P 0, tk_d P 1, tk_d P 2) → wpY_timer post (len, P 13, z, c, al, sp, ha, dp, pc, nI T, pa, ta, re, ed, nI S, P 6, P 7, P 8, cv, P 10, P 12, P 14, P 16, P 18, P 19, si, rx, ov, sl, sb, cl, yl, yb, ya, ops, oa, ob, ve, an, so, rg, me, st, li, tk_q n, tk_d P 0, tk_d P 1, tk_d P 2) 0)) ∨ ((∀ post : Int32 → Prop, post 1 → wpX_ticksNow post (len, pc, z, c, al, dp, sp, ha, nI T, re, ta, ed, nI n, rx, ov, sb, sl, nI S, cl, yb, ya, yl, w, ops, oa, ob, ve, rg, me, st, an, so, li, P) (P 1 &&& 3)) ∧ (∀ post : SY → Prop, wY_timer_43 post 0 len (P 13) z c al sp ha dp pc (nI T) pa ta re ed (nI S) (P 6) (P 7) (P 8) cv (P 10) (P 12) (P 14) (P 16) (P 18) (P 19) si rx ov sl sb cl yl yb ya ops oa ob ve an so rg me st li (tk_q n) (tk_d P 0) (tk_d P 1) (tk_d P 2) → wpY_timer post (len, P 13, z, c, al, sp, ha, dp, pc, nI T, pa, ta, re, ed, nI S, P 6, P 7, P 8, cv, P 10, P 12, P 14, P 16, P 18, P 19, si, rx, ov, sl, sb, cl, yl, yb, ya, ops, oa, ob, ve, an, so, rg, me, st, li, tk_q n, tk_d P 0, tk_d P 1, tk_d P 2) 0)) := by
  obtain ⟨h, hh, e⟩ := pk_andE (P 1) (m := 3) 2 (by decide)
  rcases (by omega : h = 0 ∨ h = 1 ∨ h = 2 ∨ h = 3) with z | z | z | z <;> subst z
  · refine Or.inl ⟨fun post hp => ?_, fun post hp => ?_⟩
    · rw [e]; exact br_t (by decide) hp
    · exact ⟨(vp_in_iff.mpr (by decide)), nm_r e (br_t (by decide) hp)⟩
  · refine Or.inr ⟨fun post hp => ?_, fun post hp => ?_⟩
    · rw [e]; exact br_f (by decide) (br_f (by decide) (br_t (by decide) hp))
    · exact ⟨(vp_in_iff.mpr (by decide)), nm_r e (br_f (by decide) (br_f (by decide) (br_f (by decide) hp)))⟩
  · by_cases q : nI T - nI T / 4 * 4 = 0
    · refine Or.inr ⟨fun post hp => ?_, fun post hp => ?_⟩
      · rw [e]; exact br_f (by decide) (br_f (by decide) (br_f (by decide) (br_t (by decide) ⟨by decide, br_t q hp⟩)))
      · exact ⟨(vp_in_iff.mpr (by decide)), nm_r e (br_f (by decide) (br_t (by decide) ⟨by decide, br_t q (br_f (by decide) hp)⟩))⟩
    · refine Or.inl ⟨fun post hp => ?_, fun post hp => ?_⟩
      · rw [e]; exact br_f (by decide) (br_f (by decide) (br_f (by decide) (br_t (by decide) ⟨by decide, br_f q hp⟩)))
      · exact ⟨(vp_in_iff.mpr (by decide)), nm_r e (br_f (by decide) (br_t (by decide) ⟨by decide, br_f q hp⟩))⟩
  · by_cases q : nI T - nI T / 16 * 16 = 0
    · refine Or.inr ⟨fun post hp => ?_, fun post hp => ?_⟩
      · rw [e]; exact br_f (by decide) (br_f (by decide) (br_f (by decide) (br_f (by decide) (br_t (by decide) ⟨by decide, br_t q hp⟩))))
      · exact ⟨(vp_in_iff.mpr (by decide)), nm_r e (br_f (by decide) (br_f (by decide) (br_t (by decide) ⟨by decide, br_t q hp⟩)))⟩
    · refine Or.inl ⟨fun post hp => ?_, fun post hp => ?_⟩
      · rw [e]; exact br_f (by decide) (br_f (by decide) (br_f (by decide) (br_f (by decide) (br_t (by decide) ⟨by decide, br_f q hp⟩))))
      · exact ⟨(vp_in_iff.mpr (by decide)), nm_r e (br_f (by decide) (br_f (by decide) (br_t (by decide) ⟨by decide, br_f q hp⟩)))⟩
theorem tm_0 (h3 : tk_I3 cv P) (hn : n < 512) : ∃ (n' : Nat) (ed' : Int32) (P' : Nat → Int32), n' < 512 ∧ tk_I3 cv P' ∧ P' 14 = P 14 ∧
    (∀ post : SX → Prop, post (len, pc, z, c, al, dp, sp, ha, nI T, re, ta, ed', nI n', rx, ov, sb, sl, nI S, cl, yb, ya, yl, w, ops, oa, ob, ve, rg, me, st, an, so, li, P') → wpX_passTimer post (len, pc, z, c, al, dp, sp, ha, nI T, re, ta, ed, nI n, rx, ov, sb, sl, nI S, cl, yb, ya, yl, w, ops, oa, ob, ve, rg, me, st, an, so, li, P) 0) ∧
    (∀ post : SY → Prop, post (len, P' 13, z, c, al, sp, ha, dp, pc, nI T, pa, ta, re, ed', nI S, P' 6, P' 7, P' 8, cv, P' 10, P' 12, P' 14, P' 16, P' 18, P' 19, si, rx, ov, sl, sb, cl, yl, yb, ya, ops, oa, ob, ve, an, so, rg, me, st, li, tk_q n', tk_d P' 0, tk_d P' 1, tk_d P' 2) → wpY_timer post (len, P 13, z, c, al, sp, ha, dp, pc, nI T, pa, ta, re, ed, nI S, P 6, P 7, P 8, cv, P 10, P 12, P 14, P 16, P 18, P 19, si, rx, ov, sl, sb, cl, yl, yb, ya, ops, oa, ob, ve, an, so, rg, me, st, li, tk_q n, tk_d P 0, tk_d P 1, tk_d P 2) 0) := by
  have pe : nI n ||| ((2 : Int32) <<< ((2 * 0) &&& 31)) = nI (n ||| 2 ^ 1) := by
    rw [show ((2 : Int32) <<< ((2 * 0) &&& 31)) = nI (2 ^ 1) from by decide]
    exact tk_or n (2 ^ 1)
  have hk : n ||| 2 ^ 1 < 512 := tk_setlt hn (by decide)
  rcases tt_0 (n := n) (T := T) (S := S) (len := len) (pc := pc) (z := z) (c := c) (al := al) (dp := dp) (sp := sp) (ha := ha) (re := re) (ta := ta) (ed := ed) (rx := rx) (ov := ov) (sb := sb) (sl := sl) (cl := cl) (yb := yb) (ya := ya) (yl := yl) (w := w) (pa := pa) (cv := cv) (si := si) (ops := ops) (oa := oa) (ob := ob) (ve := ve) (rg := rg) (me := me) (st := st) (an := an) (so := so) (li := li) (P := P) with ⟨tX, tY⟩ | ⟨tX, tY⟩
  · refine ⟨n, ed, P, hn, h3, rfl, fun post hp => ?_, tY⟩
    · unfold wpX_passTimer
      refine nm_r (e' := 0) rfl ⟨(vp_in_iff.mpr (by decide)), nm_r (e' := P 1) rfl ⟨(vp_in_iff.mpr (by decide)), nm_r (e' := P 2) rfl ?_⟩⟩
      exact tX _ (br_t rfl hp)
  · have go : (¬ P 1 &&& 4 = 0 ∧ P 0 = P 2) ∨ (P 1 &&& 4 = 0 ∨ (¬ P 1 &&& 4 = 0 ∧ ¬ P 0 = P 2)) := by
      by_cases a : P 1 &&& 4 = 0
      · exact Or.inr (Or.inl a)
      · by_cases b : P 0 = P 2
        · exact Or.inl ⟨a, b⟩
        · exact Or.inr (Or.inr ⟨a, b⟩)
    rcases go with ⟨c4, e⟩ | go
    · obtain ⟨n', ed', P', a1, a2, a3, hX, hY⟩ := te_0 (n := n) (T := T) (S := S) (len := len) (pc := pc) (z := z) (c := c) (al := al) (dp := dp) (sp := sp) (ha := ha) (re := re) (ta := ta) (ed := ed) (rx := rx) (ov := ov) (sb := sb) (sl := sl) (cl := cl) (yb := yb) (ya := ya) (yl := yl) (w := w) (pa := pa) (cv := cv) (si := si) (ops := ops) (oa := oa) (ob := ob) (ve := ve) (rg := rg) (me := me) (st := st) (an := an) (so := so) (li := li) (P := upd P 0 0) (tk_3up (k := 0) (x := 0) h3 (by decide) (by decide) (by decide) (by decide) (tk_0 (by decide))) hn
      refine ⟨n', ed', P', a1, a2, a3, fun post hp => ?_, fun post hp => tY post ?_⟩
      · unfold wpX_passTimer
        refine nm_r (e' := 0) rfl ⟨(vp_in_iff.mpr (by decide)), nm_r (e' := P 1) rfl ⟨(vp_in_iff.mpr (by decide)), nm_r (e' := P 2) rfl ?_⟩⟩
        exact tX _ (br_f (by decide) (br_f c4 ⟨(vp_in_iff.mpr (by decide)), br_t e ⟨(vp_in_iff.mpr (by decide)), nm_e (hX post hp)⟩⟩))
      · exact ⟨(vp_in_iff.mpr (by decide)), br_f c4 ⟨(vp_in_iff.mpr (by decide)), (vp_in_iff.mpr (by decide)), br_t e ⟨(vp_in_iff.mpr (by decide)), nm_r (tk_d0 P 0 0) (hY post hp)⟩⟩⟩
    · obtain ⟨m, hm, em⟩ := h3.2.2.1 0
      by_cases m255 : m = 255
      · subst m255
        have hk0 : (P 0 + 1) &&& 255 = 0 := by rw [em]; decide
        have h256 : P 0 + 1 = 256 := by rw [em]; decide
        have hdd : upd (upd (tk_d P 0) 0 (P 0 + 1)) 0 0 = tk_d (upd P 0 0) 0 := by rw [tk_uu]; exact tk_d0 P 0 0
        obtain ⟨n', ed', P', a1, a2, a3, hX, hY⟩ := te_0 (n := n ||| 2 ^ 1) (T := T) (S := S) (len := len) (pc := pc) (z := z) (c := c) (al := al) (dp := dp) (sp := sp) (ha := ha) (re := re) (ta := ta) (ed := ed) (rx := rx) (ov := ov) (sb := sb) (sl := sl) (cl := cl) (yb := yb) (ya := ya) (yl := yl) (w := w) (pa := pa) (cv := cv) (si := si) (ops := ops) (oa := oa) (ob := ob) (ve := ve) (rg := rg) (me := me) (st := st) (an := an) (so := so) (li := li) (P := upd P 0 0) (tk_3up (k := 0) (x := 0) h3 (by decide) (by decide) (by decide) (by decide) (tk_0 (by decide))) hk
        refine ⟨n', ed', P', a1, a2, a3, fun post hp => ?_, fun post hp => tY post ?_⟩
        · unfold wpX_passTimer
          refine nm_r (e' := 0) rfl ⟨(vp_in_iff.mpr (by decide)), nm_r (e' := P 1) rfl ⟨(vp_in_iff.mpr (by decide)), nm_r (e' := P 2) rfl ?_⟩⟩
          rcases go with c4 | ⟨c4, e⟩
          · exact tX _ (br_f (by decide) (br_t c4 ⟨(vp_in_iff.mpr (by decide)), (vp_in_iff.mpr (by decide)), nm_r (congrArg (upd P 0) hk0) ⟨(vp_in_iff.mpr (by decide)), br_t (show nI 0 = 0 from rfl) (nm_r pe (hX post hp))⟩⟩))
          · exact tX _ (br_f (by decide) (br_f c4 ⟨(vp_in_iff.mpr (by decide)), br_f e ⟨(vp_in_iff.mpr (by decide)), (vp_in_iff.mpr (by decide)), nm_r (congrArg (upd P 0) hk0) ⟨(vp_in_iff.mpr (by decide)), br_t (show nI 0 = 0 from rfl) (nm_r pe (hX post hp))⟩⟩⟩))
        · rcases go with c4 | ⟨c4, e⟩
          · exact ⟨(vp_in_iff.mpr (by decide)), br_t c4 ⟨(vp_in_iff.mpr (by decide)), (vp_in_iff.mpr (by decide)), nm_e ⟨(vp_in_iff.mpr (by decide)), br_t h256 ⟨(vp_in_iff.mpr (by decide)), nm_r hdd ⟨(vp_in_iff.mpr (by decide)), nm_r (tk_setN n 1) (hY post hp)⟩⟩⟩⟩⟩
          · exact ⟨(vp_in_iff.mpr (by decide)), br_f c4 ⟨(vp_in_iff.mpr (by decide)), (vp_in_iff.mpr (by decide)), br_f e ⟨(vp_in_iff.mpr (by decide)), (vp_in_iff.mpr (by decide)), nm_e ⟨(vp_in_iff.mpr (by decide)), br_t h256 ⟨(vp_in_iff.mpr (by decide)), nm_r hdd ⟨(vp_in_iff.mpr (by decide)), nm_r (tk_setN n 1) (hY post hp)⟩⟩⟩⟩⟩⟩
      · have hk0 : (P 0 + 1) &&& 255 = nI (m + 1) := by rw [em, tk_inc m hm, Nat.mod_eq_of_lt (by omega)]
        have hz : ¬ nI (m + 1) = 0 := nI_ne0 (by omega) (by omega)
        have h256 : ¬ nI (m + 1) = 256 := fun q => by
          have := (nI_eq (a := m + 1) (b := 256) (by omega) (by decide)).mp q
          omega
        have hd1 : upd (tk_d P 0) 0 (P 0 + 1) = tk_d (upd P 0 (nI (m + 1))) 0 := by rw [em, nI_1]; exact tk_d0 P 0 (nI (m + 1))
        obtain ⟨n', ed', P', a1, a2, a3, hX, hY⟩ := te_0 (n := n) (T := T) (S := S) (len := len) (pc := pc) (z := z) (c := c) (al := al) (dp := dp) (sp := sp) (ha := ha) (re := re) (ta := ta) (ed := ed) (rx := rx) (ov := ov) (sb := sb) (sl := sl) (cl := cl) (yb := yb) (ya := ya) (yl := yl) (w := w) (pa := pa) (cv := cv) (si := si) (ops := ops) (oa := oa) (ob := ob) (ve := ve) (rg := rg) (me := me) (st := st) (an := an) (so := so) (li := li) (P := upd P 0 (nI (m + 1))) (tk_3up (k := 0) (x := nI (m + 1)) h3 (by decide) (by decide) (by decide) (by decide) (tk_mk (by omega))) hn
        refine ⟨n', ed', P', a1, a2, a3, fun post hp => ?_, fun post hp => tY post ?_⟩
        · unfold wpX_passTimer
          refine nm_r (e' := 0) rfl ⟨(vp_in_iff.mpr (by decide)), nm_r (e' := P 1) rfl ⟨(vp_in_iff.mpr (by decide)), nm_r (e' := P 2) rfl ?_⟩⟩
          rcases go with c4 | ⟨c4, e⟩
          · exact tX _ (br_f (by decide) (br_t c4 ⟨(vp_in_iff.mpr (by decide)), (vp_in_iff.mpr (by decide)), nm_r (congrArg (upd P 0) hk0) ⟨(vp_in_iff.mpr (by decide)), br_f hz (hX post hp)⟩⟩))
          · exact tX _ (br_f (by decide) (br_f c4 ⟨(vp_in_iff.mpr (by decide)), br_f e ⟨(vp_in_iff.mpr (by decide)), (vp_in_iff.mpr (by decide)), nm_r (congrArg (upd P 0) hk0) ⟨(vp_in_iff.mpr (by decide)), br_f hz (hX post hp)⟩⟩⟩))
        · rcases go with c4 | ⟨c4, e⟩
          · exact ⟨(vp_in_iff.mpr (by decide)), br_t c4 ⟨(vp_in_iff.mpr (by decide)), (vp_in_iff.mpr (by decide)), nm_r hd1 ⟨(vp_in_iff.mpr (by decide)), br_f h256 (hY post hp)⟩⟩⟩
          · exact ⟨(vp_in_iff.mpr (by decide)), br_f c4 ⟨(vp_in_iff.mpr (by decide)), (vp_in_iff.mpr (by decide)), br_f e ⟨(vp_in_iff.mpr (by decide)), (vp_in_iff.mpr (by decide)), nm_r hd1 ⟨(vp_in_iff.mpr (by decide)), br_f h256 (hY post hp)⟩⟩⟩⟩
theorem te_1 (h3 : tk_I3 cv P) (hn : n < 512) : ∃ (n' : Nat) (ed' : Int32) (P' : Nat → Int32), n' < 512 ∧ tk_I3 cv P' ∧ P' 14 = P 14 ∧
    (∀ post : SX → Prop, post (len, pc, z, c, al, dp, sp, ha, nI T, re, ta, ed', nI n', rx, ov, sb, sl, nI S, cl, yb, ya, yl, w, ops, oa, ob, ve, rg, me, st, an, so, li, P') → wX_passTimer_102 post 1 3 (P 4) (P 5) len pc z c al dp sp ha (nI T) re ta ed (nI n) rx ov sb sl (nI S) cl yb ya yl w ops oa ob ve rg me st an so li P) ∧
    (∀ post : SY → Prop, post (len, P' 13, z, c, al, sp, ha, dp, pc, nI T, pa, ta, re, ed', nI S, P' 6, P' 7, P' 8, cv, P' 10, P' 12, P' 14, P' 16, P' 18, P' 19, si, rx, ov, sl, sb, cl, yl, yb, ya, ops, oa, ob, ve, an, so, rg, me, st, li, tk_q n', tk_d P' 0, tk_d P' 1, tk_d P' 2) → wY_timer_119 post 1 len (P 13) z c al sp ha dp pc (nI T) pa ta re ed (nI S) (P 6) (P 7) (P 8) cv (P 10) (P 12) (P 14) (P 16) (P 18) (P 19) si rx ov sl sb cl yl yb ya ops oa ob ve an so rg me st li (tk_q n) (tk_d P 0) (tk_d P 1) (tk_d P 2)) := by
  have pe : nI n ||| ((1 : Int32) <<< ((2 * 1) &&& 31)) = nI (n ||| 2 ^ 2) := by
    rw [show ((1 : Int32) <<< ((2 * 1) &&& 31)) = nI (2 ^ 2) from by decide]
    exact tk_or n (2 ^ 2)
  have hk : n ||| 2 ^ 2 < 512 := tk_setlt hn (by decide)
  by_cases e : P 3 = P 5
  · by_cases b : P 4 &&& 32 = 0
    · exact ⟨n ||| 2 ^ 2, ed, P, hk, h3, rfl, fun post hp => ⟨(vp_in_iff.mpr (by decide)), br_t e (nm_r pe (br_t b hp))⟩, fun post hp => ⟨(vp_in_iff.mpr (by decide)), (vp_in_iff.mpr (by decide)), br_t e ⟨(vp_in_iff.mpr (by decide)), nm_r (tk_setN n 2) ⟨(vp_in_iff.mpr (by decide)), br_t b hp⟩⟩⟩⟩
    · obtain ⟨o, ho, eo⟩ := h3.2.2.1 12
      have hx : P 12 ^^^ ((1 : Int32) <<< ((1 : Int32) &&& 31)) = nI (o ^^^ 2 ^ 1) := by
        rw [eo, show ((1 : Int32) <<< ((1 : Int32) &&& 31)) = nI (2 ^ 1) from by decide, nx_xor]
      have hv : o ^^^ 2 ^ 1 < 256 := Nat.xor_lt_two_pow (n := 8) ho (by decide)
      obtain ⟨ed', hX, hY⟩ := sh_pins (n := n ||| 2 ^ 2) (T := T) (S := S) (len := len) (pc := pc) (z := z) (c := c) (al := al) (dp := dp) (sp := sp) (ha := ha) (re := re) (ta := ta) (ed := ed) (rx := rx) (ov := ov) (sb := sb) (sl := sl) (cl := cl) (yb := yb) (ya := ya) (yl := yl) (w := w) (pa := pa) (cv := cv) (si := si) (ops := ops) (oa := oa) (ob := ob) (ve := ve) (rg := rg) (me := me) (st := st) (an := an) (so := so) (li := li) (P := P) ho hv eo
      refine ⟨n ||| 2 ^ 2, ed', upd P 12 (nI (o ^^^ 2 ^ 1)), hk, tk_3up h3 (by decide) (by decide) (by decide) (by decide) (tk_mk hv), rfl, fun post hp => ⟨(vp_in_iff.mpr (by decide)), br_t e (nm_r pe (br_f b ?_))⟩, fun post hp => ⟨(vp_in_iff.mpr (by decide)), (vp_in_iff.mpr (by decide)), br_t e ⟨(vp_in_iff.mpr (by decide)), nm_r (tk_setN n 2) ⟨(vp_in_iff.mpr (by decide)), br_f b ?_⟩⟩⟩⟩
      · rw [hx]; exact hX _ hp
      · rw [hx]; exact hY _ hp
  · exact ⟨n, ed, P, hn, h3, rfl, fun post hp => ⟨(vp_in_iff.mpr (by decide)), br_f e hp⟩, fun post hp => ⟨(vp_in_iff.mpr (by decide)), (vp_in_iff.mpr (by decide)), br_f e hp⟩⟩
theorem tt_1 : ((∀ post : Int32 → Prop, post 0 → wpX_ticksNow post (len, pc, z, c, al, dp, sp, ha, nI T, re, ta, ed, nI n, rx, ov, sb, sl, nI S, cl, yb, ya, yl, w, ops, oa, ob, ve, rg, me, st, an, so, li, P) (P 4 &&& 3)) ∧ (∀ post : SY → Prop, post (len, P 13, z, c, al, sp, ha, dp, pc, nI T, pa, ta, re, ed, nI S, P 6, P 7, P 8, cv, P 10, P 12, P 14, P 16, P 18, P 19, si, rx, ov, sl, sb, cl, yl, yb, ya, ops, oa, ob, ve, an, so, rg, me, st, li, tk_q n, tk_d P 0, tk_d P 1, tk_d P 2) → wpY_timer post (len, P 13, z, c, al, sp, ha, dp, pc, nI T, pa, ta, re, ed, nI S, P 6, P 7, P 8, cv, P 10, P 12, P 14, P 16, P 18, P 19, si, rx, ov, sl, sb, cl, yl, yb, ya, ops, oa, ob, ve, an, so, rg, me, st, li, tk_q n, tk_d P 0, tk_d P 1, tk_d P 2) 1)) ∨ ((∀ post : Int32 → Prop, post 1 → wpX_ticksNow post (len, pc, z, c, al, dp, sp, ha, nI T, re, ta, ed, nI n, rx, ov, sb, sl, nI S, cl, yb, ya, yl, w, ops, oa, ob, ve, rg, me, st, an, so, li, P) (P 4 &&& 3)) ∧ (∀ post : SY → Prop, wY_timer_43 post 1 len (P 13) z c al sp ha dp pc (nI T) pa ta re ed (nI S) (P 6) (P 7) (P 8) cv (P 10) (P 12) (P 14) (P 16) (P 18) (P 19) si rx ov sl sb cl yl yb ya ops oa ob ve an so rg me st li (tk_q n) (tk_d P 0) (tk_d P 1) (tk_d P 2) → wpY_timer post (len, P 13, z, c, al, sp, ha, dp, pc, nI T, pa, ta, re, ed, nI S, P 6, P 7, P 8, cv, P 10, P 12, P 14, P 16, P 18, P 19, si, rx, ov, sl, sb, cl, yl, yb, ya, ops, oa, ob, ve, an, so, rg, me, st, li, tk_q n, tk_d P 0, tk_d P 1, tk_d P 2) 1)) := by
  obtain ⟨h, hh, e⟩ := pk_andE (P 4) (m := 3) 2 (by decide)
  rcases (by omega : h = 0 ∨ h = 1 ∨ h = 2 ∨ h = 3) with z | z | z | z <;> subst z
  · refine Or.inl ⟨fun post hp => ?_, fun post hp => ?_⟩
    · rw [e]; exact br_t (by decide) hp
    · exact ⟨(vp_in_iff.mpr (by decide)), nm_r e (br_t (by decide) hp)⟩
  · refine Or.inr ⟨fun post hp => ?_, fun post hp => ?_⟩
    · rw [e]; exact br_f (by decide) (br_f (by decide) (br_t (by decide) hp))
    · exact ⟨(vp_in_iff.mpr (by decide)), nm_r e (br_f (by decide) (br_f (by decide) (br_f (by decide) hp)))⟩
  · by_cases q : nI T - nI T / 4 * 4 = 0
    · refine Or.inr ⟨fun post hp => ?_, fun post hp => ?_⟩
      · rw [e]; exact br_f (by decide) (br_f (by decide) (br_f (by decide) (br_t (by decide) ⟨by decide, br_t q hp⟩)))
      · exact ⟨(vp_in_iff.mpr (by decide)), nm_r e (br_f (by decide) (br_t (by decide) ⟨by decide, br_t q (br_f (by decide) hp)⟩))⟩
    · refine Or.inl ⟨fun post hp => ?_, fun post hp => ?_⟩
      · rw [e]; exact br_f (by decide) (br_f (by decide) (br_f (by decide) (br_t (by decide) ⟨by decide, br_f q hp⟩)))
      · exact ⟨(vp_in_iff.mpr (by decide)), nm_r e (br_f (by decide) (br_t (by decide) ⟨by decide, br_f q hp⟩))⟩
  · by_cases q : nI T - nI T / 16 * 16 = 0
    · refine Or.inr ⟨fun post hp => ?_, fun post hp => ?_⟩
      · rw [e]; exact br_f (by decide) (br_f (by decide) (br_f (by decide) (br_f (by decide) (br_t (by decide) ⟨by decide, br_t q hp⟩))))
      · exact ⟨(vp_in_iff.mpr (by decide)), nm_r e (br_f (by decide) (br_f (by decide) (br_t (by decide) ⟨by decide, br_t q hp⟩)))⟩
    · refine Or.inl ⟨fun post hp => ?_, fun post hp => ?_⟩
      · rw [e]; exact br_f (by decide) (br_f (by decide) (br_f (by decide) (br_f (by decide) (br_t (by decide) ⟨by decide, br_f q hp⟩))))
      · exact ⟨(vp_in_iff.mpr (by decide)), nm_r e (br_f (by decide) (br_f (by decide) (br_t (by decide) ⟨by decide, br_f q hp⟩)))⟩
theorem tm_1 (h3 : tk_I3 cv P) (hn : n < 512) : ∃ (n' : Nat) (ed' : Int32) (P' : Nat → Int32), n' < 512 ∧ tk_I3 cv P' ∧ P' 14 = P 14 ∧
    (∀ post : SX → Prop, post (len, pc, z, c, al, dp, sp, ha, nI T, re, ta, ed', nI n', rx, ov, sb, sl, nI S, cl, yb, ya, yl, w, ops, oa, ob, ve, rg, me, st, an, so, li, P') → wpX_passTimer post (len, pc, z, c, al, dp, sp, ha, nI T, re, ta, ed, nI n, rx, ov, sb, sl, nI S, cl, yb, ya, yl, w, ops, oa, ob, ve, rg, me, st, an, so, li, P) 1) ∧
    (∀ post : SY → Prop, post (len, P' 13, z, c, al, sp, ha, dp, pc, nI T, pa, ta, re, ed', nI S, P' 6, P' 7, P' 8, cv, P' 10, P' 12, P' 14, P' 16, P' 18, P' 19, si, rx, ov, sl, sb, cl, yl, yb, ya, ops, oa, ob, ve, an, so, rg, me, st, li, tk_q n', tk_d P' 0, tk_d P' 1, tk_d P' 2) → wpY_timer post (len, P 13, z, c, al, sp, ha, dp, pc, nI T, pa, ta, re, ed, nI S, P 6, P 7, P 8, cv, P 10, P 12, P 14, P 16, P 18, P 19, si, rx, ov, sl, sb, cl, yl, yb, ya, ops, oa, ob, ve, an, so, rg, me, st, li, tk_q n, tk_d P 0, tk_d P 1, tk_d P 2) 1) := by
  have pe : nI n ||| ((2 : Int32) <<< ((2 * 1) &&& 31)) = nI (n ||| 2 ^ 3) := by
    rw [show ((2 : Int32) <<< ((2 * 1) &&& 31)) = nI (2 ^ 3) from by decide]
    exact tk_or n (2 ^ 3)
  have hk : n ||| 2 ^ 3 < 512 := tk_setlt hn (by decide)
  rcases tt_1 (n := n) (T := T) (S := S) (len := len) (pc := pc) (z := z) (c := c) (al := al) (dp := dp) (sp := sp) (ha := ha) (re := re) (ta := ta) (ed := ed) (rx := rx) (ov := ov) (sb := sb) (sl := sl) (cl := cl) (yb := yb) (ya := ya) (yl := yl) (w := w) (pa := pa) (cv := cv) (si := si) (ops := ops) (oa := oa) (ob := ob) (ve := ve) (rg := rg) (me := me) (st := st) (an := an) (so := so) (li := li) (P := P) with ⟨tX, tY⟩ | ⟨tX, tY⟩
  · refine ⟨n, ed, P, hn, h3, rfl, fun post hp => ?_, tY⟩
    · unfold wpX_passTimer
      refine nm_r (e' := 3) rfl ⟨(vp_in_iff.mpr (by decide)), nm_r (e' := P 4) rfl ⟨(vp_in_iff.mpr (by decide)), nm_r (e' := P 5) rfl ?_⟩⟩
      exact tX _ (br_t rfl hp)
  · have go : (¬ P 4 &&& 4 = 0 ∧ P 3 = P 5) ∨ (P 4 &&& 4 = 0 ∨ (¬ P 4 &&& 4 = 0 ∧ ¬ P 3 = P 5)) := by
      by_cases a : P 4 &&& 4 = 0
      · exact Or.inr (Or.inl a)
      · by_cases b : P 3 = P 5
        · exact Or.inl ⟨a, b⟩
        · exact Or.inr (Or.inr ⟨a, b⟩)
    rcases go with ⟨c4, e⟩ | go
    · obtain ⟨n', ed', P', a1, a2, a3, hX, hY⟩ := te_1 (n := n) (T := T) (S := S) (len := len) (pc := pc) (z := z) (c := c) (al := al) (dp := dp) (sp := sp) (ha := ha) (re := re) (ta := ta) (ed := ed) (rx := rx) (ov := ov) (sb := sb) (sl := sl) (cl := cl) (yb := yb) (ya := ya) (yl := yl) (w := w) (pa := pa) (cv := cv) (si := si) (ops := ops) (oa := oa) (ob := ob) (ve := ve) (rg := rg) (me := me) (st := st) (an := an) (so := so) (li := li) (P := upd P 3 0) (tk_3up (k := 3) (x := 0) h3 (by decide) (by decide) (by decide) (by decide) (tk_0 (by decide))) hn
      refine ⟨n', ed', P', a1, a2, a3, fun post hp => ?_, fun post hp => tY post ?_⟩
      · unfold wpX_passTimer
        refine nm_r (e' := 3) rfl ⟨(vp_in_iff.mpr (by decide)), nm_r (e' := P 4) rfl ⟨(vp_in_iff.mpr (by decide)), nm_r (e' := P 5) rfl ?_⟩⟩
        exact tX _ (br_f (by decide) (br_f c4 ⟨(vp_in_iff.mpr (by decide)), br_t e ⟨(vp_in_iff.mpr (by decide)), nm_e (hX post hp)⟩⟩))
      · exact ⟨(vp_in_iff.mpr (by decide)), br_f c4 ⟨(vp_in_iff.mpr (by decide)), (vp_in_iff.mpr (by decide)), br_t e ⟨(vp_in_iff.mpr (by decide)), nm_r (tk_d1 P 0 0) (hY post hp)⟩⟩⟩
    · obtain ⟨m, hm, em⟩ := h3.2.2.1 3
      by_cases m255 : m = 255
      · subst m255
        have hk0 : (P 3 + 1) &&& 255 = 0 := by rw [em]; decide
        have h256 : P 3 + 1 = 256 := by rw [em]; decide
        have hdd : upd (upd (tk_d P 0) 1 (P 3 + 1)) 1 0 = tk_d (upd P 3 0) 0 := by rw [tk_uu]; exact tk_d1 P 0 0
        obtain ⟨n', ed', P', a1, a2, a3, hX, hY⟩ := te_1 (n := n ||| 2 ^ 3) (T := T) (S := S) (len := len) (pc := pc) (z := z) (c := c) (al := al) (dp := dp) (sp := sp) (ha := ha) (re := re) (ta := ta) (ed := ed) (rx := rx) (ov := ov) (sb := sb) (sl := sl) (cl := cl) (yb := yb) (ya := ya) (yl := yl) (w := w) (pa := pa) (cv := cv) (si := si) (ops := ops) (oa := oa) (ob := ob) (ve := ve) (rg := rg) (me := me) (st := st) (an := an) (so := so) (li := li) (P := upd P 3 0) (tk_3up (k := 3) (x := 0) h3 (by decide) (by decide) (by decide) (by decide) (tk_0 (by decide))) hk
        refine ⟨n', ed', P', a1, a2, a3, fun post hp => ?_, fun post hp => tY post ?_⟩
        · unfold wpX_passTimer
          refine nm_r (e' := 3) rfl ⟨(vp_in_iff.mpr (by decide)), nm_r (e' := P 4) rfl ⟨(vp_in_iff.mpr (by decide)), nm_r (e' := P 5) rfl ?_⟩⟩
          rcases go with c4 | ⟨c4, e⟩
          · exact tX _ (br_f (by decide) (br_t c4 ⟨(vp_in_iff.mpr (by decide)), (vp_in_iff.mpr (by decide)), nm_r (congrArg (upd P 3) hk0) ⟨(vp_in_iff.mpr (by decide)), br_t (show nI 0 = 0 from rfl) (nm_r pe (hX post hp))⟩⟩))
          · exact tX _ (br_f (by decide) (br_f c4 ⟨(vp_in_iff.mpr (by decide)), br_f e ⟨(vp_in_iff.mpr (by decide)), (vp_in_iff.mpr (by decide)), nm_r (congrArg (upd P 3) hk0) ⟨(vp_in_iff.mpr (by decide)), br_t (show nI 0 = 0 from rfl) (nm_r pe (hX post hp))⟩⟩⟩))
        · rcases go with c4 | ⟨c4, e⟩
          · exact ⟨(vp_in_iff.mpr (by decide)), br_t c4 ⟨(vp_in_iff.mpr (by decide)), (vp_in_iff.mpr (by decide)), nm_e ⟨(vp_in_iff.mpr (by decide)), br_t h256 ⟨(vp_in_iff.mpr (by decide)), nm_r hdd ⟨(vp_in_iff.mpr (by decide)), nm_r (tk_setN n 3) (hY post hp)⟩⟩⟩⟩⟩
          · exact ⟨(vp_in_iff.mpr (by decide)), br_f c4 ⟨(vp_in_iff.mpr (by decide)), (vp_in_iff.mpr (by decide)), br_f e ⟨(vp_in_iff.mpr (by decide)), (vp_in_iff.mpr (by decide)), nm_e ⟨(vp_in_iff.mpr (by decide)), br_t h256 ⟨(vp_in_iff.mpr (by decide)), nm_r hdd ⟨(vp_in_iff.mpr (by decide)), nm_r (tk_setN n 3) (hY post hp)⟩⟩⟩⟩⟩⟩
      · have hk0 : (P 3 + 1) &&& 255 = nI (m + 1) := by rw [em, tk_inc m hm, Nat.mod_eq_of_lt (by omega)]
        have hz : ¬ nI (m + 1) = 0 := nI_ne0 (by omega) (by omega)
        have h256 : ¬ nI (m + 1) = 256 := fun q => by
          have := (nI_eq (a := m + 1) (b := 256) (by omega) (by decide)).mp q
          omega
        have hd1 : upd (tk_d P 0) 1 (P 3 + 1) = tk_d (upd P 3 (nI (m + 1))) 0 := by rw [em, nI_1]; exact tk_d1 P 0 (nI (m + 1))
        obtain ⟨n', ed', P', a1, a2, a3, hX, hY⟩ := te_1 (n := n) (T := T) (S := S) (len := len) (pc := pc) (z := z) (c := c) (al := al) (dp := dp) (sp := sp) (ha := ha) (re := re) (ta := ta) (ed := ed) (rx := rx) (ov := ov) (sb := sb) (sl := sl) (cl := cl) (yb := yb) (ya := ya) (yl := yl) (w := w) (pa := pa) (cv := cv) (si := si) (ops := ops) (oa := oa) (ob := ob) (ve := ve) (rg := rg) (me := me) (st := st) (an := an) (so := so) (li := li) (P := upd P 3 (nI (m + 1))) (tk_3up (k := 3) (x := nI (m + 1)) h3 (by decide) (by decide) (by decide) (by decide) (tk_mk (by omega))) hn
        refine ⟨n', ed', P', a1, a2, a3, fun post hp => ?_, fun post hp => tY post ?_⟩
        · unfold wpX_passTimer
          refine nm_r (e' := 3) rfl ⟨(vp_in_iff.mpr (by decide)), nm_r (e' := P 4) rfl ⟨(vp_in_iff.mpr (by decide)), nm_r (e' := P 5) rfl ?_⟩⟩
          rcases go with c4 | ⟨c4, e⟩
          · exact tX _ (br_f (by decide) (br_t c4 ⟨(vp_in_iff.mpr (by decide)), (vp_in_iff.mpr (by decide)), nm_r (congrArg (upd P 3) hk0) ⟨(vp_in_iff.mpr (by decide)), br_f hz (hX post hp)⟩⟩))
          · exact tX _ (br_f (by decide) (br_f c4 ⟨(vp_in_iff.mpr (by decide)), br_f e ⟨(vp_in_iff.mpr (by decide)), (vp_in_iff.mpr (by decide)), nm_r (congrArg (upd P 3) hk0) ⟨(vp_in_iff.mpr (by decide)), br_f hz (hX post hp)⟩⟩⟩))
        · rcases go with c4 | ⟨c4, e⟩
          · exact ⟨(vp_in_iff.mpr (by decide)), br_t c4 ⟨(vp_in_iff.mpr (by decide)), (vp_in_iff.mpr (by decide)), nm_r hd1 ⟨(vp_in_iff.mpr (by decide)), br_f h256 (hY post hp)⟩⟩⟩
          · exact ⟨(vp_in_iff.mpr (by decide)), br_f c4 ⟨(vp_in_iff.mpr (by decide)), (vp_in_iff.mpr (by decide)), br_f e ⟨(vp_in_iff.mpr (by decide)), (vp_in_iff.mpr (by decide)), nm_r hd1 ⟨(vp_in_iff.mpr (by decide)), br_f h256 (hY post hp)⟩⟩⟩⟩
end
end
section
/-! reset, serial line, converter, store, watchdog -/
section
variable {n T S : Nat} {len pc z c al dp sp ha re ta ed rx ov sb sl cl yb ya yl w pa cv si : Int32} {ops oa ob ve rg me st an so li P : Nat → Int32}
def tk_ri (P : Nat → Int32) (i : Nat) : Nat → Int32 := fun j => if j < i ∧ j ≠ 12 ∧ j ≠ 13 then 0 else P j
theorem tk_ri0 (P : Nat → Int32) : tk_ri P 0 = P := by
  funext j
  unfold tk_ri
  rw [if_neg (by omega)]
theorem tk_riK (P : Nat → Int32) {i : Nat} (h : i = 12 ∨ i = 13) : tk_ri P (i + 1) = tk_ri P i := by
  funext j
  unfold tk_ri
  by_cases z : j < i ∧ j ≠ 12 ∧ j ≠ 13
  · rw [if_pos z, if_pos (by omega)]
  · rw [if_neg z, if_neg (by omega)]
theorem tk_riS (P : Nat → Int32) {i : Nat} (h1 : i ≠ 12) (h2 : i ≠ 13) : upd (tk_ri P i) i 0 = tk_ri P (i + 1) := by
  funext j
  unfold upd tk_ri
  by_cases z : j = i
  · rw [if_pos z, if_pos (by omega)]
  · rw [if_neg z]
    by_cases y : j < i ∧ j ≠ 12 ∧ j ≠ 13
    · rw [if_pos y, if_pos (by omega)]
    · rw [if_neg y, if_neg (by omega)]
theorem tk_riB {P : Nat → Int32} (h : ∀ j, tk_lt 256 (P j)) (i : Nat) : ∀ j, tk_lt 256 (tk_ri P i j) := by
  intro j
  unfold tk_ri
  by_cases z : j < i ∧ j ≠ 12 ∧ j ≠ 13
  · rw [if_pos z]; exact tk_0 (by decide)
  · rw [if_neg z]; exact h j
def tk_qi (q : Nat → Int32) (i : Nat) : Nat → Int32 := fun j => if j < i then 0 else q j
theorem tk_qi0 (q : Nat → Int32) : tk_qi q 0 = q := by
  funext j
  unfold tk_qi
  rw [if_neg (by omega)]
theorem tk_qiS (q : Nat → Int32) (i : Nat) : upd (tk_qi q i) i 0 = tk_qi q (i + 1) := by
  funext j
  unfold upd tk_qi
  by_cases z : j = i
  · rw [if_pos z, if_pos (by omega)]
  · rw [if_neg z]
    by_cases y : j < i
    · rw [if_pos y, if_pos (by omega)]
    · rw [if_neg y, if_neg (by omega)]
theorem tk_qiB {q : Nat → Int32} {m : Nat} (hm : 0 < m) (h : ∀ j, tk_lt m (q j)) (i : Nat) : ∀ j, tk_lt m (tk_qi q i j) := by
  intro j
  unfold tk_qi
  by_cases z : j < i
  · rw [if_pos z]; exact tk_0 hm
  · rw [if_neg z]; exact h j
theorem tk_qi9 {n : Nat} (hn : n < 512) : tk_qi (tk_q n) 9 = tk_q 0 := by
  funext j
  rw [tk_q0]
  unfold tk_qi
  by_cases y : j < 9
  · rw [if_pos y]
  · rw [if_neg y]; exact tk_qf (tk_hi hn (by omega))
theorem tk_dz (P : Nat → Int32) (i : Nat) (hi : i < 3) : upd (upd (tk_d P i) 0 0) 1 0 = tk_d (tk_ri P 20) i := by
  funext j
  by_cases z : j = 1
  · subst z
    show (0 : Int32) = tk_ri P 20 (i + 3)
    unfold tk_ri
    rw [if_pos (by omega)]
  · rw [pk_un z]
    by_cases y : j = 0
    · subst y
      show (0 : Int32) = tk_ri P 20 i
      unfold tk_ri
      rw [if_pos (by omega)]
    · rw [pk_un y]
      unfold tk_d
      rw [if_neg y, if_neg z, if_neg y, if_neg z]
theorem rs_Xl (post : SX → Prop) (hp : post (len, 0, z, c, 0, 0, 0, ha, nI T, re, ta, ed, nI 0, 0, 0, sb, 0, nI S, 0, yb, ya, 0, 0, ops, oa, ob, ve, rg, me, st, an, so, li, tk_ri P 20)) : ∀ d i : Nat, i + d = 20 → wX_reset_22 post len 0 z c 0 0 0 ha (nI T) re ta ed (nI n) rx ov sb sl (nI S) cl yb ya yl w (d + 1) (nI i) ops oa ob ve rg me st an so li (tk_ri P i) := by
  intro d
  induction d with
  | zero =>
    intro i hi
    have e : i = 20 := by omega
    subst e
    exact br_t (by decide) hp
  | succ d ih =>
    intro i hi
    have h : ¬ (20 : Int32) ≤ nI i := nI_ge (b := 20) (by omega) (by decide)
    by_cases e12 : i = 12
    · have := ih (i + 1) (by omega)
      rw [tk_riK P (Or.inl e12)] at this
      exact br_f h (br_t (by rw [e12]; rfl) (nm_r (nI_1 i) this))
    · have f12 : ¬ nI i = 12 := fun q => e12 ((nI_eq (b := 12) (by omega) (by decide)).mp q)
      by_cases e13 : i = 13
      · have := ih (i + 1) (by omega)
        rw [tk_riK P (Or.inr e13)] at this
        exact br_f h (br_f f12 (br_t (by rw [e13]; rfl) (nm_r (nI_1 i) this)))
      · have f13 : ¬ nI i = 13 := fun q => e13 ((nI_eq (b := 13) (by omega) (by decide)).mp q)
        exact br_f h (br_f f12 (br_f f13 ⟨vp_in_nI (by omega) (by decide), nm_r (by rw [nI_clamp (by omega)]; exact tk_riS P e12 e13) (nm_r (nI_1 i) (ih (i + 1) (by omega)))⟩))
theorem rs_X (post : SX → Prop) (hp : post (len, 0, z, c, 0, 0, 0, ha, nI T, re, ta, ed, nI 0, 0, 0, sb, 0, nI S, 0, yb, ya, 0, 0, ops, oa, ob, ve, rg, me, st, an, so, li, tk_ri P 20)) : wpX_reset post (len, pc, z, c, al, dp, sp, ha, nI T, re, ta, ed, nI n, rx, ov, sb, sl, nI S, cl, yb, ya, yl, w, ops, oa, ob, ve, rg, me, st, an, so, li, P) := by
  unfold wpX_reset
  have := rs_Xl (n := n) (T := T) (S := S) (len := len) (z := z) (c := c) (ha := ha) (re := re) (ta := ta) (ed := ed) (rx := rx) (ov := ov) (sb := sb) (sl := sl) (cl := cl) (yb := yb) (ya := ya) (yl := yl) (w := w) (ops := ops) (oa := oa) (ob := ob) (ve := ve) (rg := rg) (me := me) (st := st) (an := an) (so := so) (li := li) (P := P) post hp 20 0 rfl
  rw [tk_ri0] at this
  exact ⟨21, this⟩
theorem rs_Yl (hn : n < 512) (post : SY → Prop) (hp : post (len, (tk_ri P 20) 13, z, c, 0, 0, ha, 0, 0, nI T, pa, ta, re, ed, nI S, (tk_ri P 20) 6, (tk_ri P 20) 7, (tk_ri P 20) 8, 0, (tk_ri P 20) 10, (tk_ri P 20) 12, (tk_ri P 20) 14, (tk_ri P 20) 16, (tk_ri P 20) 18, (tk_ri P 20) 19, 0, 0, 0, 0, sb, 0, 0, yb, ya, ops, oa, ob, ve, an, so, rg, me, st, li, tk_q 0, tk_d (tk_ri P 20) 0, tk_d (tk_ri P 20) 1, tk_d (tk_ri P 20) 2)) : ∀ d i : Nat, i + d = 9 → wY_reset_22 post len (P 13) z c 0 0 ha 0 0 (nI T) pa ta re ed (nI S) (P 6) (P 7) (P 8) cv (P 10) (P 12) (P 14) (P 16) (P 18) (P 19) si rx ov sl sb cl yl yb ya (d + 1) (nI i) ops oa ob ve an so rg me st li (tk_qi (tk_q n) i) (tk_d P 0) (tk_d P 1) (tk_d P 2) := by
  intro d
  induction d with
  | zero =>
    intro i hi
    have e : i = 9 := by omega
    subst e
    rw [tk_qi9 hn]
    exact br_t (by decide) ⟨3, br_f (by decide) ⟨(vp_in_iff.mpr (by decide)), nm_e ⟨(vp_in_iff.mpr (by decide)), nm_e ⟨(vp_in_iff.mpr (by decide)), nm_e (nm_r (e' := 1) rfl (br_f (by decide) ⟨(vp_in_iff.mpr (by decide)), nm_r (tk_dz P 0 (by decide)) ⟨(vp_in_iff.mpr (by decide)), nm_r (tk_dz P 1 (by decide)) ⟨(vp_in_iff.mpr (by decide)), nm_r (tk_dz P 2 (by decide)) (nm_r (e' := 2) rfl (br_t (by decide) hp))⟩⟩⟩))⟩⟩⟩⟩
  | succ d ih =>
    intro i hi
    have h : ¬ (9 : Int32) ≤ nI i := nI_ge (b := 9) (by omega) (by decide)
    exact br_f h ⟨vp_in_nI (by omega) (by decide), nm_r (by rw [nI_clamp (by omega), tk_nb0]; exact tk_qiS (tk_q n) i) (nm_r (nI_1 i) (ih (i + 1) (by omega)))⟩
theorem rs_Y (hn : n < 512) (post : SY → Prop) (hp : post (len, (tk_ri P 20) 13, z, c, 0, 0, ha, 0, 0, nI T, pa, ta, re, ed, nI S, (tk_ri P 20) 6, (tk_ri P 20) 7, (tk_ri P 20) 8, 0, (tk_ri P 20) 10, (tk_ri P 20) 12, (tk_ri P 20) 14, (tk_ri P 20) 16, (tk_ri P 20) 18, (tk_ri P 20) 19, 0, 0, 0, 0, sb, 0, 0, yb, ya, ops, oa, ob, ve, an, so, rg, me, st, li, tk_q 0, tk_d (tk_ri P 20) 0, tk_d (tk_ri P 20) 1, tk_d (tk_ri P 20) 2)) : wpY_reset post (len, P 13, z, c, al, sp, ha, dp, pc, nI T, pa, ta, re, ed, nI S, P 6, P 7, P 8, cv, P 10, P 12, P 14, P 16, P 18, P 19, si, rx, ov, sl, sb, cl, yl, yb, ya, ops, oa, ob, ve, an, so, rg, me, st, li, tk_q n, tk_d P 0, tk_d P 1, tk_d P 2) := by
  unfold wpY_reset
  have := rs_Yl (n := n) (T := T) (S := S) (len := len) (z := z) (c := c) (ha := ha) (re := re) (ta := ta) (ed := ed) (rx := rx) (ov := ov) (sb := sb) (sl := sl) (cl := cl) (yb := yb) (ya := ya) (yl := yl) (pa := pa) (cv := cv) (si := si) (ops := ops) (oa := oa) (ob := ob) (ve := ve) (rg := rg) (me := me) (st := st) (an := an) (so := so) (li := li) (P := P) hn post hp 9 0 rfl
  rw [tk_qi0] at this
  exact ⟨10, this⟩
theorem ps_ser (hn : n < 512) (hS : S < 2 ^ 30) (hl : tk_lt 2049 sl) : ∃ (n' S' : Nat) (sl' : Int32) (li' : Nat → Int32), n' < 512 ∧ S' ≤ S + 1 ∧ tk_lt 2049 sl' ∧
    (∀ post : SX → Prop, post (len, pc, z, c, al, dp, sp, ha, nI T, re, ta, ed, nI n', rx, ov, sb, sl', nI S', cl, yb, ya, yl, w, ops, oa, ob, ve, rg, me, st, an, so, li', P) → wpX_passSerial post (len, pc, z, c, al, dp, sp, ha, nI T, re, ta, ed, nI n, rx, ov, sb, sl, nI S, cl, yb, ya, yl, w, ops, oa, ob, ve, rg, me, st, an, so, li, P)) ∧
    (∀ post : SY → Prop, wY_cycle_103 post len (P 13) z c al sp ha dp pc (nI T) pa ta re ed (nI S') (P 6) (P 7) (P 8) cv (P 10) (P 12) (P 14) (P 16) (P 18) (P 19) si rx ov sl' sb cl yl yb ya ops oa ob ve an so rg me st li' (tk_q n') (tk_d P 0) (tk_d P 1) (tk_d P 2) → ((sl ≤ 0 → wY_cycle_103 post len (P 13) z c al sp ha dp pc (nI T) pa ta re ed (nI S) (P 6) (P 7) (P 8) cv (P 10) (P 12) (P 14) (P 16) (P 18) (P 19) si rx ov sl sb cl yl yb ya ops oa ob ve an so rg me st li (tk_q n) (tk_d P 0) (tk_d P 1) (tk_d P 2)) ∧ (¬ sl ≤ 0 → (∀ y : Int32, y = sl - 1 → ((y = 0 → ((32 ≤ nI S → wY_cycle_86 post len (P 13) z c al sp ha dp pc (nI T) pa ta re ed (nI S) (P 6) (P 7) (P 8) cv (P 10) (P 12) (P 14) (P 16) (P 18) (P 19) si rx ov y sb cl yl yb ya ops oa ob ve an so rg me st li (tk_q n) (tk_d P 0) (tk_d P 1) (tk_d P 2)) ∧ (¬ 32 ≤ nI S → (vp_in (nI S) 32 ∧ ∀ a : Nat → Int32, a = upd li (nI S).toNatClampNeg sb → wY_cycle_86 post len (P 13) z c al sp ha dp pc (nI T) pa ta re ed (nI S) (P 6) (P 7) (P 8) cv (P 10) (P 12) (P 14) (P 16) (P 18) (P 19) si rx ov y sb cl yl yb ya ops oa ob ve an so rg me st a (tk_q n) (tk_d P 0) (tk_d P 1) (tk_d P 2))))) ∧ (¬ y = 0 → wY_cycle_103 post len (P 13) z c al sp ha dp pc (nI T) pa ta re ed (nI S) (P 6) (P 7) (P 8) cv (P 10) (P 12) (P 14) (P 16) (P 18) (P 19) si rx ov y sb cl yl yb ya ops oa ob ve an so rg me st li (tk_q n) (tk_d P 0) (tk_d P 1) (tk_d P 2))))))) := by
  have hk : n ||| 2 ^ 5 < 512 := tk_setlt hn (by decide)
  obtain ⟨s, hs, rfl⟩ := hl
  rcases (by omega : s = 0 ∨ s = 1 ∨ 2 ≤ s) with z | z | z
  · subst z
    exact ⟨n, S, 0, li, hn, by omega, tk_0 (by decide), fun post hp => br_t (by decide) hp, fun post hp => br_t (by decide) hp⟩
  · subst z
    by_cases h32 : 32 ≤ S
    · have h : (32 : Int32) ≤ nI S := nI_le (a := 32) h32 (by omega)
      exact ⟨n ||| 2 ^ 5, S + 1, 0, li, hk, by omega, tk_0 (by decide), fun post hp => br_f (by decide) (nm_r (e' := 0) (by decide) (br_t rfl (br_t h (nm_r (nI_1 S) (nm_r (tk_or n 32) hp))))), fun post hp => br_f (by decide) (nm_r (e' := 0) (by decide) (br_t rfl (br_t h (nm_r (nI_1 S) (nm_r (tk_setN n 5) hp)))))⟩
    · have h : ¬ (32 : Int32) ≤ nI S := nI_ge (b := 32) (by omega) (by decide)
      have hi : vp_in (nI S) 32 := vp_in_nI (by omega) (by decide)
      exact ⟨n ||| 2 ^ 5, S + 1, 0, upd li (nI S).toNatClampNeg sb, hk, by omega, tk_0 (by decide), fun post hp => br_f (by decide) (nm_r (e' := 0) (by decide) (br_t rfl (br_f h ⟨hi, nm_e (nm_r (nI_1 S) (nm_r (tk_or n 32) hp))⟩))), fun post hp => br_f (by decide) (nm_r (e' := 0) (by decide) (br_t rfl (br_f h ⟨hi, nm_e (nm_r (nI_1 S) (nm_r (tk_setN n 5) hp))⟩)))⟩
  · obtain ⟨k, rfl⟩ : ∃ k, s = k + 2 := ⟨s - 2, by omega⟩
    have h1 : ¬ nI (k + 2) = 0 := nI_ne0 (by omega) (by omega)
    have h2 : ¬ nI (k + 2) ≤ 0 := nI_nle (by omega) (by omega)
    have h3 : ¬ nI (k + 1) = 0 := nI_ne0 (by omega) (by omega)
    exact ⟨n, S, nI (k + 1), li, hn, by omega, tk_mk (by omega), fun post hp => br_f h1 (nm_r (nI_pred (k + 1)) (br_f h3 hp)), fun post hp => br_f h2 (nm_r (nI_pred (k + 1)) (br_f h3 hp))⟩
theorem ps_conv (h3 : tk_I3 cv P) (hA : ∀ j, tk_lt 256 (an j)) (hn : n < 512) (hl : tk_lt 53 cl) : ∃ (n' : Nat) (cl' : Int32) (P' : Nat → Int32), n' < 512 ∧ tk_lt 53 cl' ∧ tk_I3 cv P' ∧ P' 14 = P 14 ∧
    (∀ post : SX → Prop, post (len, pc, z, c, al, dp, sp, ha, nI T, re, ta, ed, nI n', rx, ov, sb, sl, nI S, cl', yb, ya, yl, w, ops, oa, ob, ve, rg, me, st, an, so, li, P') → wpX_passConverter post (len, pc, z, c, al, dp, sp, ha, nI T, re, ta, ed, nI n, rx, ov, sb, sl, nI S, cl, yb, ya, yl, w, ops, oa, ob, ve, rg, me, st, an, so, li, P)) ∧
    (∀ post : SY → Prop, wY_cycle_150 post len (P' 13) z c al sp ha dp pc (nI T) pa ta re ed (nI S) (P' 6) (P' 7) (P' 8) cv (P' 10) (P' 12) (P' 14) (P' 16) (P' 18) (P' 19) si rx ov sl sb cl' yl yb ya ops oa ob ve an so rg me st li (tk_q n') (tk_d P' 0) (tk_d P' 1) (tk_d P' 2) → wY_cycle_103 post len (P 13) z c al sp ha dp pc (nI T) pa ta re ed (nI S) (P 6) (P 7) (P 8) cv (P 10) (P 12) (P 14) (P 16) (P 18) (P 19) si rx ov sl sb cl yl yb ya ops oa ob ve an so rg me st li (tk_q n) (tk_d P 0) (tk_d P 1) (tk_d P 2)) := by
  have hk : n ||| 2 ^ 6 < 512 := tk_setlt hn (by decide)
  obtain ⟨s, hs, rfl⟩ := hl
  rcases (by omega : s = 0 ∨ s = 1 ∨ 2 ≤ s) with z | z | z
  · subst z
    exact ⟨n, 0, P, hn, tk_0 (by decide), h3, rfl, fun post hp => br_t (by decide) hp, fun post hp => br_t (by decide) hp⟩
  · subst z
    have e9 : P 9 &&& 3 = cv &&& 3 := by
      obtain ⟨m, hm, em⟩ := h3.1
      rw [h3.2.1, em]
      exact tk_cm3 m hm
    have hi : vp_in (cv &&& 3) 4 := pk_andIn cv (m := 3) 2 (by decide) (by decide)
    refine ⟨n ||| 2 ^ 6, 0, upd P 10 (an (cv &&& 3).toNatClampNeg), hk, tk_0 (by decide), tk_3up h3 (by decide) (by decide) (by decide) (by decide) (hA _), rfl, fun post hp => br_f (by decide) (nm_r (e' := 0) (by decide) (br_t rfl ⟨by rw [e9]; exact hi, nm_r (by rw [e9]) (nm_r (tk_or n 64) hp)⟩)), fun post hp => br_f (by decide) (nm_r (e' := 0) (by decide) (br_t rfl ⟨hi, nm_e (nm_r (tk_setN n 6) hp)⟩))⟩
  · obtain ⟨k, rfl⟩ : ∃ k, s = k + 2 := ⟨s - 2, by omega⟩
    have h1 : ¬ nI (k + 2) = 0 := nI_ne0 (by omega) (by omega)
    have h2 : ¬ nI (k + 2) ≤ 0 := nI_nle (by omega) (by omega)
    have h4 : ¬ nI (k + 1) = 0 := nI_ne0 (by omega) (by omega)
    exact ⟨n, nI (k + 1), P, hn, tk_mk (by omega), h3, rfl, fun post hp => br_f h1 (nm_r (nI_pred (k + 1)) (br_f h4 hp)), fun post hp => br_f h2 (nm_r (nI_pred (k + 1)) (br_f h4 hp))⟩
theorem ps_store (hn : n < 512) (hl : tk_lt 41 yl) (hy : tk_lt 16 ya) (hb : tk_lt 256 yb) (hs : ∀ j, tk_lt 256 (so j)) : ∃ (n' : Nat) (yl' : Int32) (so' : Nat → Int32), n' < 512 ∧ tk_lt 41 yl' ∧ (∀ j, tk_lt 256 (so' j)) ∧
    (∀ post : SX → Prop, post (len, pc, z, c, al, dp, sp, ha, nI T, re, ta, ed, nI n', rx, ov, sb, sl, nI S, cl, yb, ya, yl', w, ops, oa, ob, ve, rg, me, st, an, so', li, P) → wpX_passStore post (len, pc, z, c, al, dp, sp, ha, nI T, re, ta, ed, nI n, rx, ov, sb, sl, nI S, cl, yb, ya, yl, w, ops, oa, ob, ve, rg, me, st, an, so, li, P)) ∧
    (∀ post : SY → Prop, wY_cycle_195 post len (P 13) z c al sp ha dp pc (nI T) pa ta re ed (nI S) (P 6) (P 7) (P 8) cv (P 10) (P 12) (P 14) (P 16) (P 18) (P 19) si rx ov sl sb cl yl' yb ya ops oa ob ve an so' rg me st li (tk_q n') (tk_d P 0) (tk_d P 1) (tk_d P 2) → wY_cycle_150 post len (P 13) z c al sp ha dp pc (nI T) pa ta re ed (nI S) (P 6) (P 7) (P 8) cv (P 10) (P 12) (P 14) (P 16) (P 18) (P 19) si rx ov sl sb cl yl yb ya ops oa ob ve an so rg me st li (tk_q n) (tk_d P 0) (tk_d P 1) (tk_d P 2)) := by
  have hk : n ||| 2 ^ 7 < 512 := tk_setlt hn (by decide)
  obtain ⟨s, hs', rfl⟩ := hl
  rcases (by omega : s = 0 ∨ s = 1 ∨ 2 ≤ s) with z | z | z
  · subst z
    exact ⟨n, 0, so, hn, tk_0 (by decide), hs, fun post hp => br_t (by decide) hp, fun post hp => br_t (by decide) hp⟩
  · subst z
    have hi : vp_in ya 16 := tk_in hy (by decide)
    exact ⟨n ||| 2 ^ 7, 0, upd so ya.toNatClampNeg yb, hk, tk_0 (by decide), tk_upd hs hb, fun post hp => br_f (by decide) (nm_r (e' := 0) (by decide) (br_t rfl ⟨hi, nm_e (nm_r (tk_or n 128) hp)⟩)), fun post hp => br_f (by decide) (nm_r (e' := 0) (by decide) (br_t rfl ⟨hi, nm_e (nm_r (tk_setN n 7) hp)⟩))⟩
  · obtain ⟨k, rfl⟩ : ∃ k, s = k + 2 := ⟨s - 2, by omega⟩
    have h1 : ¬ nI (k + 2) = 0 := nI_ne0 (by omega) (by omega)
    have h2 : ¬ nI (k + 2) ≤ 0 := nI_nle (by omega) (by omega)
    have h4 : ¬ nI (k + 1) = 0 := nI_ne0 (by omega) (by omega)
    exact ⟨n, nI (k + 1), so, hn, tk_mk (by omega), hs, fun post hp => br_f h1 (nm_r (nI_pred (k + 1)) (br_f h4 hp)), fun post hp => br_f h2 (nm_r (nI_pred (k + 1)) (br_f h4 hp))⟩
end
end
section
/-! the watchdog, and one cycle -/
section
variable {n T S : Nat} {len pc z c al dp sp ha re ta ed rx ov sb sl cl yb ya yl w pa cv si : Int32} {ops oa ob ve rg me st an so li P : Nat → Int32}
theorem tk_wX : ∀ L, L < 8 → (1 : Int32) <<< ((nI L + 4) &&& 31) = nI (2 ^ (L + 4)) := by decide +kernel
theorem tk_wY : ∀ L, L < 8 → (16 : Int32) <<< (nI L &&& 31) = nI (2 ^ (L + 4)) := by decide +kernel
theorem tk_r3 (h : ∀ j, tk_lt 256 (P j)) : tk_I3 0 (tk_ri P 20) := by
  have z16 : tk_lt 16 0 := tk_0 (by decide)
  have z32 : tk_lt 32 0 := tk_0 (by decide)
  have z9 : (0 : Int32) = 0 &&& (-5) := by decide
  exact ⟨tk_0 (by decide), z9, tk_riB h 20, z32, z16, z16⟩
theorem wd_all (hn : n < 512) (hW : tk_W (P 14) w si) :
    (∃ w' : Int32, tk_W (P 14) w' (si + 1) ∧ (∀ post : SX → Prop, post (len, pc, z, c, al, dp, sp, ha, nI T, re, ta, ed, nI n, rx, ov, sb, sl, nI S, cl, yb, ya, yl, w', ops, oa, ob, ve, rg, me, st, an, so, li, P) → wpX_passWatchdog post (len, pc, z, c, al, dp, sp, ha, nI T, re, ta, ed, nI n, rx, ov, sb, sl, nI S, cl, yb, ya, yl, w, ops, oa, ob, ve, rg, me, st, an, so, li, P)) ∧ (∀ post : SY → Prop, post (len, P 13, z, c, al, sp, ha, dp, pc, nI T, pa, ta, re, ed, nI S, P 6, P 7, P 8, cv, P 10, P 12, P 14, P 16, P 18, P 19, si + 1, rx, ov, sl, sb, cl, yl, yb, ya, ops, oa, ob, ve, an, so, rg, me, st, li, tk_q n, tk_d P 0, tk_d P 1, tk_d P 2) → wY_cycle_195 post len (P 13) z c al sp ha dp pc (nI T) pa ta re ed (nI S) (P 6) (P 7) (P 8) cv (P 10) (P 12) (P 14) (P 16) (P 18) (P 19) (si + 1) rx ov sl sb cl yl yb ya ops oa ob ve an so rg me st li (tk_q n) (tk_d P 0) (tk_d P 1) (tk_d P 2))) ∨
    ((∀ post : SX → Prop, post (len, 0, z, c, 0, 0, 0, ha, nI T, re + 1, ta, ed, nI 0, 0, 0, sb, 0, nI S, 0, yb, ya, 0, 0, ops, oa, ob, ve, rg, me, st, an, so, li, tk_ri P 20) → wpX_passWatchdog post (len, pc, z, c, al, dp, sp, ha, nI T, re, ta, ed, nI n, rx, ov, sb, sl, nI S, cl, yb, ya, yl, w, ops, oa, ob, ve, rg, me, st, an, so, li, P)) ∧ (∀ post : SY → Prop, post (len, (tk_ri P 20) 13, z, c, 0, 0, ha, 0, 0, nI T, pa, ta, re + 1, ed, nI S, (tk_ri P 20) 6, (tk_ri P 20) 7, (tk_ri P 20) 8, 0, (tk_ri P 20) 10, (tk_ri P 20) 12, (tk_ri P 20) 14, (tk_ri P 20) 16, (tk_ri P 20) 18, (tk_ri P 20) 19, 0, 0, 0, 0, sb, 0, 0, yb, ya, ops, oa, ob, ve, an, so, rg, me, st, li, tk_q 0, tk_d (tk_ri P 20) 0, tk_d (tk_ri P 20) 1, tk_d (tk_ri P 20) 2) → wY_cycle_195 post len (P 13) z c al sp ha dp pc (nI T) pa ta re ed (nI S) (P 6) (P 7) (P 8) cv (P 10) (P 12) (P 14) (P 16) (P 18) (P 19) (si + 1) rx ov sl sb cl yl yb ya ops oa ob ve an so rg me st li (tk_q n) (tk_d P 0) (tk_d P 1) (tk_d P 2))) := by
  rcases hW with h0 | ⟨rfl, L, m, hL0, hL8, eL, hm, rfl⟩
  · exact Or.inl ⟨w, Or.inl h0, fun post hp => nm_r h0 (br_t rfl hp), fun post hp => br_t (by rw [h0]; decide) hp⟩
  · have sX := tk_wX L hL8
    have sY := tk_wY L hL8
    have hB : 2 ^ (L + 4) ≤ 2 ^ 11 := Nat.pow_le_pow_right (by decide) (by omega)
    have e0 : ¬ nI L = 0 := nI_ne0 hL0 (by omega)
    have e1 : ¬ (P 14 &&& 7) ≤ 0 := by rw [eL]; exact nI_nle hL0 (by omega)
    by_cases hz : m + 1 < 2 ^ (L + 4)
    · have hx : nI (m + 1) < (1 : Int32) <<< ((nI L + 4) &&& 31) := by rw [sX]; exact nI_lt hz (by omega)
      have hy : ¬ nI m + 1 = (16 : Int32) <<< ((P 14 &&& 7) &&& 31) := by
        rw [eL, sY, nI_1]
        intro q
        have := (nI_eq (by omega) (by omega)).mp q
        omega
      exact Or.inl ⟨nI (m + 1), Or.inr ⟨(nI_1 m).symm, L, m + 1, hL0, hL8, eL, hz, rfl⟩, fun post hp => nm_r eL (br_f e0 (nm_r (nI_1 m) (br_t hx hp))), fun post hp => br_f e1 (br_f hy hp)⟩
    · have hx : ¬ nI (m + 1) < (1 : Int32) <<< ((nI L + 4) &&& 31) := by rw [sX]; exact nI_nlt (by omega) (by omega)
      have hy : nI m + 1 = (16 : Int32) <<< ((P 14 &&& 7) &&& 31) := by
        rw [eL, sY, nI_1, show m + 1 = 2 ^ (L + 4) from by omega]
      refine Or.inr ⟨fun post hp => nm_r eL (br_f e0 (nm_r (nI_1 m) (br_f hx ?_))), fun post hp => br_f e1 (br_t hy ?_)⟩
      · exact rs_X _ (nm_e hp)
      · exact rs_Y (P := P) hn _ (nm_e hp)
theorem cy_all {u : SX} {v : SY} (hR : tk_R T pa ha u v) (hT : T < 1073741000) : ∃ (u' : SX) (v' : SY), tk_R (T + 1) (pa + 1) ha u' v' ∧ (∀ post : SX → Prop, post u' → wpX_passCycle post u) ∧ (∀ post : SY → Prop, post v' → wpY_cycle post v) := by
  obtain ⟨n, S, len, pc, z, c, al, dp, sp, re, ta, ed, rx, ov, sb, sl, cl, yb, ya, yl, w, cv, si, ops, oa, ob, ve, rg, me, st, an, so, li, P, rfl, rfl, h1, h2, h3, h4, hW⟩ := hR
  obtain ⟨hn, hST, hrx, hov, hsl, hcl, hyb, hya, hyl, hso⟩ := h4
  obtain ⟨n1, ed1, P1, a1, b1, c1, t0X, t0Y⟩ := tm_0 (n := n) (T := T + 1) (S := S) (len := len) (pc := pc) (z := z) (c := c) (al := al) (dp := dp) (sp := sp) (ha := ha) (re := re) (ta := ta) (ed := ed) (rx := rx) (ov := ov) (sb := sb) (sl := sl) (cl := cl) (yb := yb) (ya := ya) (yl := yl) (w := w) (pa := pa + 1) (cv := cv) (si := si + 1) (ops := ops) (oa := oa) (ob := ob) (ve := ve) (rg := rg) (me := me) (st := st) (an := an) (so := so) (li := li) (P := P) h3 hn
  obtain ⟨n2, ed2, P2, a2, b2, c2, t1X, t1Y⟩ := tm_1 (n := n1) (T := T + 1) (S := S) (len := len) (pc := pc) (z := z) (c := c) (al := al) (dp := dp) (sp := sp) (ha := ha) (re := re) (ta := ta) (ed := ed1) (rx := rx) (ov := ov) (sb := sb) (sl := sl) (cl := cl) (yb := yb) (ya := ya) (yl := yl) (w := w) (pa := pa + 1) (cv := cv) (si := si + 1) (ops := ops) (oa := oa) (ob := ob) (ve := ve) (rg := rg) (me := me) (st := st) (an := an) (so := so) (li := li) (P := P1) b1 a1
  obtain ⟨n3, S3, sl3, li3, a3, d3, e3, sX, sY⟩ := ps_ser (n := n2) (T := T + 1) (S := S) (len := len) (pc := pc) (z := z) (c := c) (al := al) (dp := dp) (sp := sp) (ha := ha) (re := re) (ta := ta) (ed := ed2) (rx := rx) (ov := ov) (sb := sb) (sl := sl) (cl := cl) (yb := yb) (ya := ya) (yl := yl) (w := w) (pa := pa + 1) (cv := cv) (si := si + 1) (ops := ops) (oa := oa) (ob := ob) (ve := ve) (rg := rg) (me := me) (st := st) (an := an) (so := so) (li := li) (P := P2) a2 (by omega) hsl
  obtain ⟨n4, cl4, P4, a4, d4, b4, c4, cX, cY⟩ := ps_conv (n := n3) (T := T + 1) (S := S3) (len := len) (pc := pc) (z := z) (c := c) (al := al) (dp := dp) (sp := sp) (ha := ha) (re := re) (ta := ta) (ed := ed2) (rx := rx) (ov := ov) (sb := sb) (sl := sl3) (cl := cl) (yb := yb) (ya := ya) (yl := yl) (w := w) (pa := pa + 1) (cv := cv) (si := si + 1) (ops := ops) (oa := oa) (ob := ob) (ve := ve) (rg := rg) (me := me) (st := st) (an := an) (so := so) (li := li3) (P := P2) b2 h1.2.2.2 a3 hcl
  obtain ⟨n5, yl5, so5, a5, d5, e5, oX, oY⟩ := ps_store (n := n4) (T := T + 1) (S := S3) (len := len) (pc := pc) (z := z) (c := c) (al := al) (dp := dp) (sp := sp) (ha := ha) (re := re) (ta := ta) (ed := ed2) (rx := rx) (ov := ov) (sb := sb) (sl := sl3) (cl := cl4) (yb := yb) (ya := ya) (yl := yl) (w := w) (pa := pa + 1) (cv := cv) (si := si + 1) (ops := ops) (oa := oa) (ob := ob) (ve := ve) (rg := rg) (me := me) (st := st) (an := an) (so := so) (li := li3) (P := P4) a4 hyl hya hyb hso
  have hW5 : tk_W (P4 14) w si := by rw [c4, c2, c1]; exact hW
  rcases wd_all (n := n5) (T := T + 1) (S := S3) (len := len) (pc := pc) (z := z) (c := c) (al := al) (dp := dp) (sp := sp) (ha := ha) (re := re) (ta := ta) (ed := ed2) (rx := rx) (ov := ov) (sb := sb) (sl := sl3) (cl := cl4) (yb := yb) (ya := ya) (yl := yl5) (w := w) (pa := pa + 1) (cv := cv) (si := si) (ops := ops) (oa := oa) (ob := ob) (ve := ve) (rg := rg) (me := me) (st := st) (an := an) (so := so5) (li := li3) (P := P4) a5 hW5 with ⟨w6, hw, wX, wY⟩ | ⟨wX, wY⟩
  · refine ⟨_, _, ⟨n5, S3, len, pc, z, c, al, dp, sp, re, ta, ed2, rx, ov, sb, sl3, cl4, yb, ya, yl5, w6, cv, si + 1, ops, oa, ob, ve, rg, me, st, an, so5, li3, P4, rfl, rfl, h1, h2, b4, ⟨a5, by omega, hrx, hov, e3, d4, hyb, hya, d5, e5⟩, hw⟩, fun post hp => ?_, fun post hp => ?_⟩
    · unfold wpX_passCycle
      refine nm_r (nI_1 T) ?_
      refine t0X _ ?_
      refine t1X _ ?_
      refine sX _ ?_
      refine cX _ ?_
      refine oX _ ?_
      refine wX _ ?_
      exact hp
    · unfold wpY_cycle
      refine nm_e (nm_r (nI_1 T) (nm_e ?_))
      refine t0Y _ ?_
      refine t1Y _ ?_
      refine sY _ ?_
      refine cY _ ?_
      refine oY _ ?_
      refine wY _ ?_
      exact hp
  · refine ⟨_, _, ⟨0, S3, len, 0, z, c, 0, 0, 0, re + 1, ta, ed2, 0, 0, sb, 0, 0, yb, ya, 0, 0, 0, 0, ops, oa, ob, ve, rg, me, st, an, so5, li3, tk_ri P4 20, rfl, rfl, h1, ⟨tk_0 (by decide), tk_0 (by decide), h2.2.2⟩, tk_r3 b4.2.2.1, ⟨by decide, by omega, tk_0 (by decide), tk_0 (by decide), tk_0 (by decide), tk_0 (by decide), hyb, hya, tk_0 (by decide), e5⟩, Or.inl (by decide : (0 : Int32) &&& 7 = 0)⟩, fun post hp => ?_, fun post hp => ?_⟩
    · unfold wpX_passCycle
      refine nm_r (nI_1 T) ?_
      refine t0X _ ?_
      refine t1X _ ?_
      refine sX _ ?_
      refine cX _ ?_
      refine oX _ ?_
      refine wX _ ?_
      exact hp
    · unfold wpY_cycle
      refine nm_e (nm_r (nI_1 T) (nm_e ?_))
      refine t0Y _ ?_
      refine t1Y _ ?_
      refine sY _ ?_
      refine cY _ ?_
      refine oY _ ?_
      refine wY _ ?_
      exact hp
end
end
section
/-! reading a port -/
section
variable {n T S : Nat} {len pc z c al dp sp ha re ta ed rx ov sb sl cl yb ya yl w pa cv si : Int32} {ops oa ob ve rg me st an so li P : Nat → Int32}
theorem tk_pw : ∀ k, k < 9 → (1 : Int32) <<< (nI k &&& 31) = nI (2 ^ k) := by decide +kernel
theorem tk_ac (p a b c : Int32) : ((p + a) + b) + c = ((a + b) + c) + p := by ac_rfl
theorem rd_loop (hn : n < 512) (post : Int32 → Prop) (hp : post (nI (n % 256))) : ∀ d i : Nat, i + d = 8 → wY_read_207 post len (P 13) z c al sp ha dp pc (nI T) pa ta re ed (nI S) (P 6) (P 7) (P 8) cv (P 10) (P 12) (P 14) (P 16) (P 18) (P 19) si rx ov sl sb cl yl yb ya ops oa ob ve an so rg me st li (tk_q n) (tk_d P 0) (tk_d P 1) (tk_d P 2) (d + 1) (nI (n % 2 ^ i)) (nI i) := by
  intro d
  induction d with
  | zero =>
    intro i hi
    have e : i = 8 := by omega
    subst e
    exact br_t (by decide) hp
  | succ d ih =>
    intro i hi
    have h : ¬ (8 : Int32) ≤ nI i := nI_ge (b := 8) (by omega) (by decide)
    have hc : (nI i).toNatClampNeg = i := nI_clamp (by omega)
    have hv : vp_in (nI i) 9 := vp_in_nI (by omega) (by decide)
    have IH := ih (i + 1) (by omega)
    cases e : n.testBit i
    · rw [tk_sum, e, if_neg (by decide), Nat.add_zero] at IH
      exact br_f h ⟨hv, br_t (by rw [hc]; exact tk_qf e) (nm_r (nI_1 i) IH)⟩
    · have hs : nI (n % 2 ^ i) + ((1 : Int32) <<< (nI i &&& 31)) = nI (n % 2 ^ (i + 1)) := by
        rw [tk_pw i (by omega), nI_add, tk_sum, e, if_pos rfl]
      exact br_f h ⟨hv, br_f (by rw [hc, tk_qt e]; decide) (nm_r hs (nm_r (nI_1 i) IH))⟩
theorem rd_0 (h3 : tk_I3 cv P) (hn : n < 512) (hso : ∀ j, tk_lt 256 (so j)) : ∃ r : Int32, tk_lt 256 r ∧ (∀ post : Int32 → Prop, post r → wpX_readPort post (len, pc, z, c, al, dp, sp, ha, nI T, re, ta, ed, nI n, rx, ov, sb, sl, nI S, cl, yb, ya, yl, w, ops, oa, ob, ve, rg, me, st, an, so, li, P) 0) ∧ (∀ post : Int32 → Prop, post r → wpY_read post (len, P 13, z, c, al, sp, ha, dp, pc, nI T, pa, ta, re, ed, nI S, P 6, P 7, P 8, cv, P 10, P 12, P 14, P 16, P 18, P 19, si, rx, ov, sl, sb, cl, yl, yb, ya, ops, oa, ob, ve, an, so, rg, me, st, li, tk_q n, tk_d P 0, tk_d P 1, tk_d P 2) 0) := by
  exact ⟨P 0, h3.2.2.1 0, fun post hp => br_t (by decide) (br_f (by decide) ⟨(vp_in_iff.mpr (by decide)), hp⟩), fun post hp => br_f (by decide) (br_f (by decide) (br_t (by decide) (⟨(by decide), (vp_in_iff.mpr (by decide)), hp⟩)))⟩
theorem rd_1 (h3 : tk_I3 cv P) (hn : n < 512) (hso : ∀ j, tk_lt 256 (so j)) : ∃ r : Int32, tk_lt 256 r ∧ (∀ post : Int32 → Prop, post r → wpX_readPort post (len, pc, z, c, al, dp, sp, ha, nI T, re, ta, ed, nI n, rx, ov, sb, sl, nI S, cl, yb, ya, yl, w, ops, oa, ob, ve, rg, me, st, an, so, li, P) 1) ∧ (∀ post : Int32 → Prop, post r → wpY_read post (len, P 13, z, c, al, sp, ha, dp, pc, nI T, pa, ta, re, ed, nI S, P 6, P 7, P 8, cv, P 10, P 12, P 14, P 16, P 18, P 19, si, rx, ov, sl, sb, cl, yl, yb, ya, ops, oa, ob, ve, an, so, rg, me, st, li, tk_q n, tk_d P 0, tk_d P 1, tk_d P 2) 1) := by
  exact ⟨P 1, h3.2.2.1 1, fun post hp => br_t (by decide) (br_f (by decide) ⟨(vp_in_iff.mpr (by decide)), hp⟩), fun post hp => br_f (by decide) (br_f (by decide) (br_f (by decide) (br_t (by decide) (⟨(by decide), (vp_in_iff.mpr (by decide)), hp⟩))))⟩
theorem rd_2 (h3 : tk_I3 cv P) (hn : n < 512) (hso : ∀ j, tk_lt 256 (so j)) : ∃ r : Int32, tk_lt 256 r ∧ (∀ post : Int32 → Prop, post r → wpX_readPort post (len, pc, z, c, al, dp, sp, ha, nI T, re, ta, ed, nI n, rx, ov, sb, sl, nI S, cl, yb, ya, yl, w, ops, oa, ob, ve, rg, me, st, an, so, li, P) 2) ∧ (∀ post : Int32 → Prop, post r → wpY_read post (len, P 13, z, c, al, sp, ha, dp, pc, nI T, pa, ta, re, ed, nI S, P 6, P 7, P 8, cv, P 10, P 12, P 14, P 16, P 18, P 19, si, rx, ov, sl, sb, cl, yl, yb, ya, ops, oa, ob, ve, an, so, rg, me, st, li, tk_q n, tk_d P 0, tk_d P 1, tk_d P 2) 2) := by
  exact ⟨P 2, h3.2.2.1 2, fun post hp => br_t (by decide) (br_f (by decide) ⟨(vp_in_iff.mpr (by decide)), hp⟩), fun post hp => br_f (by decide) (br_f (by decide) (br_f (by decide) (br_f (by decide) (br_t (by decide) (⟨(by decide), (vp_in_iff.mpr (by decide)), hp⟩)))))⟩
theorem rd_3 (h3 : tk_I3 cv P) (hn : n < 512) (hso : ∀ j, tk_lt 256 (so j)) : ∃ r : Int32, tk_lt 256 r ∧ (∀ post : Int32 → Prop, post r → wpX_readPort post (len, pc, z, c, al, dp, sp, ha, nI T, re, ta, ed, nI n, rx, ov, sb, sl, nI S, cl, yb, ya, yl, w, ops, oa, ob, ve, rg, me, st, an, so, li, P) 3) ∧ (∀ post : Int32 → Prop, post r → wpY_read post (len, P 13, z, c, al, sp, ha, dp, pc, nI T, pa, ta, re, ed, nI S, P 6, P 7, P 8, cv, P 10, P 12, P 14, P 16, P 18, P 19, si, rx, ov, sl, sb, cl, yl, yb, ya, ops, oa, ob, ve, an, so, rg, me, st, li, tk_q n, tk_d P 0, tk_d P 1, tk_d P 2) 3) := by
  exact ⟨P 3, h3.2.2.1 3, fun post hp => br_t (by decide) (br_f (by decide) ⟨(vp_in_iff.mpr (by decide)), hp⟩), fun post hp => br_f (by decide) (br_f (by decide) (br_f (by decide) (br_f (by decide) (br_f (by decide) (br_t (by decide) (⟨(by decide), (vp_in_iff.mpr (by decide)), hp⟩))))))⟩
theorem rd_4 (h3 : tk_I3 cv P) (hn : n < 512) (hso : ∀ j, tk_lt 256 (so j)) : ∃ r : Int32, tk_lt 256 r ∧ (∀ post : Int32 → Prop, post r → wpX_readPort post (len, pc, z, c, al, dp, sp, ha, nI T, re, ta, ed, nI n, rx, ov, sb, sl, nI S, cl, yb, ya, yl, w, ops, oa, ob, ve, rg, me, st, an, so, li, P) 4) ∧ (∀ post : Int32 → Prop, post r → wpY_read post (len, P 13, z, c, al, sp, ha, dp, pc, nI T, pa, ta, re, ed, nI S, P 6, P 7, P 8, cv, P 10, P 12, P 14, P 16, P 18, P 19, si, rx, ov, sl, sb, cl, yl, yb, ya, ops, oa, ob, ve, an, so, rg, me, st, li, tk_q n, tk_d P 0, tk_d P 1, tk_d P 2) 4) := by
  exact ⟨P 4, h3.2.2.1 4, fun post hp => br_t (by decide) (br_f (by decide) ⟨(vp_in_iff.mpr (by decide)), hp⟩), fun post hp => br_f (by decide) (br_f (by decide) (br_f (by decide) (br_f (by decide) (br_f (by decide) (br_f (by decide) (br_t (by decide) (⟨(by decide), (vp_in_iff.mpr (by decide)), hp⟩)))))))⟩
theorem rd_5 (h3 : tk_I3 cv P) (hn : n < 512) (hso : ∀ j, tk_lt 256 (so j)) : ∃ r : Int32, tk_lt 256 r ∧ (∀ post : Int32 → Prop, post r → wpX_readPort post (len, pc, z, c, al, dp, sp, ha, nI T, re, ta, ed, nI n, rx, ov, sb, sl, nI S, cl, yb, ya, yl, w, ops, oa, ob, ve, rg, me, st, an, so, li, P) 5) ∧ (∀ post : Int32 → Prop, post r → wpY_read post (len, P 13, z, c, al, sp, ha, dp, pc, nI T, pa, ta, re, ed, nI S, P 6, P 7, P 8, cv, P 10, P 12, P 14, P 16, P 18, P 19, si, rx, ov, sl, sb, cl, yl, yb, ya, ops, oa, ob, ve, an, so, rg, me, st, li, tk_q n, tk_d P 0, tk_d P 1, tk_d P 2) 5) := by
  exact ⟨P 5, h3.2.2.1 5, fun post hp => br_t (by decide) (br_f (by decide) ⟨(vp_in_iff.mpr (by decide)), hp⟩), fun post hp => br_f (by decide) (br_f (by decide) (br_f (by decide) (br_f (by decide) (br_f (by decide) (br_f (by decide) (br_f (by decide) (br_t (by decide) (⟨(by decide), (vp_in_iff.mpr (by decide)), hp⟩))))))))⟩
theorem rd_6 (h3 : tk_I3 cv P) (hn : n < 512) (hso : ∀ j, tk_lt 256 (so j)) : ∃ r : Int32, tk_lt 256 r ∧ (∀ post : Int32 → Prop, post r → wpX_readPort post (len, pc, z, c, al, dp, sp, ha, nI T, re, ta, ed, nI n, rx, ov, sb, sl, nI S, cl, yb, ya, yl, w, ops, oa, ob, ve, rg, me, st, an, so, li, P) 6) ∧ (∀ post : Int32 → Prop, post r → wpY_read post (len, P 13, z, c, al, sp, ha, dp, pc, nI T, pa, ta, re, ed, nI S, P 6, P 7, P 8, cv, P 10, P 12, P 14, P 16, P 18, P 19, si, rx, ov, sl, sb, cl, yl, yb, ya, ops, oa, ob, ve, an, so, rg, me, st, li, tk_q n, tk_d P 0, tk_d P 1, tk_d P 2) 6) := by
  exact ⟨P 6, h3.2.2.1 6, fun post hp => br_t (by decide) (br_f (by decide) ⟨(vp_in_iff.mpr (by decide)), hp⟩), fun post hp => br_f (by decide) (br_f (by decide) (br_f (by decide) (br_f (by decide) (br_f (by decide) (br_f (by decide) (br_f (by decide) (br_f (by decide) (br_t (by decide) (hp)))))))))⟩
theorem rd_7 (h3 : tk_I3 cv P) (hn : n < 512) (hso : ∀ j, tk_lt 256 (so j)) : ∃ r : Int32, tk_lt 256 r ∧ (∀ post : Int32 → Prop, post r → wpX_readPort post (len, pc, z, c, al, dp, sp, ha, nI T, re, ta, ed, nI n, rx, ov, sb, sl, nI S, cl, yb, ya, yl, w, ops, oa, ob, ve, rg, me, st, an, so, li, P) 7) ∧ (∀ post : Int32 → Prop, post r → wpY_read post (len, P 13, z, c, al, sp, ha, dp, pc, nI T, pa, ta, re, ed, nI S, P 6, P 7, P 8, cv, P 10, P 12, P 14, P 16, P 18, P 19, si, rx, ov, sl, sb, cl, yl, yb, ya, ops, oa, ob, ve, an, so, rg, me, st, li, tk_q n, tk_d P 0, tk_d P 1, tk_d P 2) 7) := by
  obtain ⟨m, hm, em⟩ := h3.2.2.2.1
  by_cases e1 : sl = 0 <;> by_cases e2 : rx = 0 <;> by_cases e3 : ov = 0
  · exact ⟨((1 + 0) + 0) + P 7, ⟨1 + m, by omega, by rw [em]; exact nI_add 1 m⟩, fun post hp => br_f (by decide) (br_f (by decide) (br_t (by decide) (⟨(vp_in_iff.mpr (by decide)), br_t e1 (br_t e2 (br_t e3 (by rw [← tk_ac] at hp; exact hp)))⟩))), fun post hp => br_f (by decide) (br_f (by decide) (br_f (by decide) (br_f (by decide) (br_f (by decide) (br_f (by decide) (br_f (by decide) (br_f (by decide) (br_f (by decide) (br_t (by decide) (br_t e1 (br_t e2 (br_t e3 hp))))))))))))⟩
  · exact ⟨((1 + 0) + 4) + P 7, ⟨5 + m, by omega, by rw [em]; exact nI_add 5 m⟩, fun post hp => br_f (by decide) (br_f (by decide) (br_t (by decide) (⟨(vp_in_iff.mpr (by decide)), br_t e1 (br_t e2 (br_f e3 (by rw [← tk_ac] at hp; exact hp)))⟩))), fun post hp => br_f (by decide) (br_f (by decide) (br_f (by decide) (br_f (by decide) (br_f (by decide) (br_f (by decide) (br_f (by decide) (br_f (by decide) (br_f (by decide) (br_t (by decide) (br_t e1 (br_t e2 (br_f e3 hp))))))))))))⟩
  · exact ⟨((1 + 2) + 0) + P 7, ⟨3 + m, by omega, by rw [em]; exact nI_add 3 m⟩, fun post hp => br_f (by decide) (br_f (by decide) (br_t (by decide) (⟨(vp_in_iff.mpr (by decide)), br_t e1 (br_f e2 (br_t e3 (by rw [← tk_ac] at hp; exact hp)))⟩))), fun post hp => br_f (by decide) (br_f (by decide) (br_f (by decide) (br_f (by decide) (br_f (by decide) (br_f (by decide) (br_f (by decide) (br_f (by decide) (br_f (by decide) (br_t (by decide) (br_t e1 (br_f e2 (br_t e3 hp))))))))))))⟩
  · exact ⟨((1 + 2) + 4) + P 7, ⟨7 + m, by omega, by rw [em]; exact nI_add 7 m⟩, fun post hp => br_f (by decide) (br_f (by decide) (br_t (by decide) (⟨(vp_in_iff.mpr (by decide)), br_t e1 (br_f e2 (br_f e3 (by rw [← tk_ac] at hp; exact hp)))⟩))), fun post hp => br_f (by decide) (br_f (by decide) (br_f (by decide) (br_f (by decide) (br_f (by decide) (br_f (by decide) (br_f (by decide) (br_f (by decide) (br_f (by decide) (br_t (by decide) (br_t e1 (br_f e2 (br_f e3 hp))))))))))))⟩
  · exact ⟨((0 + 0) + 0) + P 7, ⟨0 + m, by omega, by rw [em]; exact nI_add 0 m⟩, fun post hp => br_f (by decide) (br_f (by decide) (br_t (by decide) (⟨(vp_in_iff.mpr (by decide)), br_f e1 (br_t e2 (br_t e3 (by rw [← tk_ac] at hp; exact hp)))⟩))), fun post hp => br_f (by decide) (br_f (by decide) (br_f (by decide) (br_f (by decide) (br_f (by decide) (br_f (by decide) (br_f (by decide) (br_f (by decide) (br_f (by decide) (br_t (by decide) (br_f e1 (br_t e2 (br_t e3 hp))))))))))))⟩
  · exact ⟨((0 + 0) + 4) + P 7, ⟨4 + m, by omega, by rw [em]; exact nI_add 4 m⟩, fun post hp => br_f (by decide) (br_f (by decide) (br_t (by decide) (⟨(vp_in_iff.mpr (by decide)), br_f e1 (br_t e2 (br_f e3 (by rw [← tk_ac] at hp; exact hp)))⟩))), fun post hp => br_f (by decide) (br_f (by decide) (br_f (by decide) (br_f (by decide) (br_f (by decide) (br_f (by decide) (br_f (by decide) (br_f (by decide) (br_f (by decide) (br_t (by decide) (br_f e1 (br_t e2 (br_f e3 hp))))))))))))⟩
  · exact ⟨((0 + 2) + 0) + P 7, ⟨2 + m, by omega, by rw [em]; exact nI_add 2 m⟩, fun post hp => br_f (by decide) (br_f (by decide) (br_t (by decide) (⟨(vp_in_iff.mpr (by decide)), br_f e1 (br_f e2 (br_t e3 (by rw [← tk_ac] at hp; exact hp)))⟩))), fun post hp => br_f (by decide) (br_f (by decide) (br_f (by decide) (br_f (by decide) (br_f (by decide) (br_f (by decide) (br_f (by decide) (br_f (by decide) (br_f (by decide) (br_t (by decide) (br_f e1 (br_f e2 (br_t e3 hp))))))))))))⟩
  · exact ⟨((0 + 2) + 4) + P 7, ⟨6 + m, by omega, by rw [em]; exact nI_add 6 m⟩, fun post hp => br_f (by decide) (br_f (by decide) (br_t (by decide) (⟨(vp_in_iff.mpr (by decide)), br_f e1 (br_f e2 (br_f e3 (by rw [← tk_ac] at hp; exact hp)))⟩))), fun post hp => br_f (by decide) (br_f (by decide) (br_f (by decide) (br_f (by decide) (br_f (by decide) (br_f (by decide) (br_f (by decide) (br_f (by decide) (br_f (by decide) (br_t (by decide) (br_f e1 (br_f e2 (br_f e3 hp))))))))))))⟩
theorem rd_8 (h3 : tk_I3 cv P) (hn : n < 512) (hso : ∀ j, tk_lt 256 (so j)) : ∃ r : Int32, tk_lt 256 r ∧ (∀ post : Int32 → Prop, post r → wpX_readPort post (len, pc, z, c, al, dp, sp, ha, nI T, re, ta, ed, nI n, rx, ov, sb, sl, nI S, cl, yb, ya, yl, w, ops, oa, ob, ve, rg, me, st, an, so, li, P) 8) ∧ (∀ post : Int32 → Prop, post r → wpY_read post (len, P 13, z, c, al, sp, ha, dp, pc, nI T, pa, ta, re, ed, nI S, P 6, P 7, P 8, cv, P 10, P 12, P 14, P 16, P 18, P 19, si, rx, ov, sl, sb, cl, yl, yb, ya, ops, oa, ob, ve, an, so, rg, me, st, li, tk_q n, tk_d P 0, tk_d P 1, tk_d P 2) 8) := by
  exact ⟨P 8, h3.2.2.1 8, fun post hp => br_f (by decide) (br_f (by decide) (br_f (by decide) (br_t (by decide) (br_f (by decide) ⟨(vp_in_iff.mpr (by decide)), hp⟩)))), fun post hp => br_f (by decide) (br_f (by decide) (br_f (by decide) (br_f (by decide) (br_f (by decide) (br_f (by decide) (br_f (by decide) (br_f (by decide) (br_f (by decide) (br_f (by decide) (br_t (by decide) (hp)))))))))))⟩
theorem rd_9 (h3 : tk_I3 cv P) (hn : n < 512) (hso : ∀ j, tk_lt 256 (so j)) : ∃ r : Int32, tk_lt 256 r ∧ (∀ post : Int32 → Prop, post r → wpX_readPort post (len, pc, z, c, al, dp, sp, ha, nI T, re, ta, ed, nI n, rx, ov, sb, sl, nI S, cl, yb, ya, yl, w, ops, oa, ob, ve, rg, me, st, an, so, li, P) 9) ∧ (∀ post : Int32 → Prop, post r → wpY_read post (len, P 13, z, c, al, sp, ha, dp, pc, nI T, pa, ta, re, ed, nI S, P 6, P 7, P 8, cv, P 10, P 12, P 14, P 16, P 18, P 19, si, rx, ov, sl, sb, cl, yl, yb, ya, ops, oa, ob, ve, an, so, rg, me, st, li, tk_q n, tk_d P 0, tk_d P 1, tk_d P 2) 9) := by
  obtain ⟨m0, hm0, em0⟩ := h3.1
  obtain ⟨m, hm, em⟩ := tk_cm4 m0 hm0
  rw [← em0, ← h3.2.1] at em
  by_cases e : cl ≤ 0
  · exact ⟨P 9 + 0, ⟨m + 0, by omega, by rw [em]; exact nI_add m 0⟩, fun post hp => br_f (by decide) (br_f (by decide) (br_f (by decide) (br_f (by decide) (br_t (by decide) (⟨(vp_in_iff.mpr (by decide)), br_t e hp⟩))))), fun post hp => br_f (by decide) (br_f (by decide) (br_f (by decide) (br_f (by decide) (br_f (by decide) (br_f (by decide) (br_f (by decide) (br_f (by decide) (br_f (by decide) (br_f (by decide) (br_f (by decide) (br_t (by decide) (br_t e (by rw [← h3.2.1]; exact hp)))))))))))))⟩
  · exact ⟨P 9 + 4, ⟨m + 4, by omega, by rw [em]; exact nI_add m 4⟩, fun post hp => br_f (by decide) (br_f (by decide) (br_f (by decide) (br_f (by decide) (br_t (by decide) (⟨(vp_in_iff.mpr (by decide)), br_f e hp⟩))))), fun post hp => br_f (by decide) (br_f (by decide) (br_f (by decide) (br_f (by decide) (br_f (by decide) (br_f (by decide) (br_f (by decide) (br_f (by decide) (br_f (by decide) (br_f (by decide) (br_f (by decide) (br_t (by decide) (br_f e (by rw [← h3.2.1]; exact hp)))))))))))))⟩
theorem rd_10 (h3 : tk_I3 cv P) (hn : n < 512) (hso : ∀ j, tk_lt 256 (so j)) : ∃ r : Int32, tk_lt 256 r ∧ (∀ post : Int32 → Prop, post r → wpX_readPort post (len, pc, z, c, al, dp, sp, ha, nI T, re, ta, ed, nI n, rx, ov, sb, sl, nI S, cl, yb, ya, yl, w, ops, oa, ob, ve, rg, me, st, an, so, li, P) 10) ∧ (∀ post : Int32 → Prop, post r → wpY_read post (len, P 13, z, c, al, sp, ha, dp, pc, nI T, pa, ta, re, ed, nI S, P 6, P 7, P 8, cv, P 10, P 12, P 14, P 16, P 18, P 19, si, rx, ov, sl, sb, cl, yl, yb, ya, ops, oa, ob, ve, an, so, rg, me, st, li, tk_q n, tk_d P 0, tk_d P 1, tk_d P 2) 10) := by
  exact ⟨P 10, h3.2.2.1 10, fun post hp => br_f (by decide) (br_f (by decide) (br_f (by decide) (br_f (by decide) (br_f (by decide) (br_t (by decide) (br_f (by decide) ⟨(vp_in_iff.mpr (by decide)), hp⟩)))))), fun post hp => br_f (by decide) (br_f (by decide) (br_f (by decide) (br_f (by decide) (br_f (by decide) (br_f (by decide) (br_f (by decide) (br_f (by decide) (br_f (by decide) (br_f (by decide) (br_f (by decide) (br_f (by decide) (br_t (by decide) (hp)))))))))))))⟩
theorem rd_11 (h3 : tk_I3 cv P) (hn : n < 512) (hso : ∀ j, tk_lt 256 (so j)) : ∃ r : Int32, tk_lt 256 r ∧ (∀ post : Int32 → Prop, post r → wpX_readPort post (len, pc, z, c, al, dp, sp, ha, nI T, re, ta, ed, nI n, rx, ov, sb, sl, nI S, cl, yb, ya, yl, w, ops, oa, ob, ve, rg, me, st, an, so, li, P) 11) ∧ (∀ post : Int32 → Prop, post r → wpY_read post (len, P 13, z, c, al, sp, ha, dp, pc, nI T, pa, ta, re, ed, nI S, P 6, P 7, P 8, cv, P 10, P 12, P 14, P 16, P 18, P 19, si, rx, ov, sl, sb, cl, yl, yb, ya, ops, oa, ob, ve, an, so, rg, me, st, li, tk_q n, tk_d P 0, tk_d P 1, tk_d P 2) 11) := by
  have e : nI n &&& 255 = nI (n % 256) := pk_andN (by omega) (m := 255) 8 (by decide)
  exact ⟨nI (n % 256), tk_mk (Nat.mod_lt _ (by decide)), fun post hp => br_f (by decide) (br_f (by decide) (br_f (by decide) (br_f (by decide) (br_f (by decide) (br_f (by decide) (br_t (by decide) (by rw [e]; exact hp))))))), fun post hp => br_f (by decide) (br_f (by decide) (br_f (by decide) (br_f (by decide) (br_f (by decide) (br_f (by decide) (br_f (by decide) (br_f (by decide) (br_f (by decide) (br_f (by decide) (br_f (by decide) (br_f (by decide) (br_f (by decide) (br_t (by decide) (⟨9, by have := rd_loop (n := n) (T := T) (S := S) (len := len) (pc := pc) (z := z) (c := c) (al := al) (dp := dp) (sp := sp) (ha := ha) (re := re) (ta := ta) (ed := ed) (rx := rx) (ov := ov) (sb := sb) (sl := sl) (cl := cl) (yb := yb) (ya := ya) (yl := yl) (pa := pa) (cv := cv) (si := si) (ops := ops) (oa := oa) (ob := ob) (ve := ve) (rg := rg) (me := me) (st := st) (an := an) (so := so) (li := li) (P := P) hn post hp 8 0 rfl; rw [Nat.pow_zero, Nat.mod_one] at this; exact this⟩))))))))))))))⟩
theorem rd_12 (h3 : tk_I3 cv P) (hn : n < 512) (hso : ∀ j, tk_lt 256 (so j)) : ∃ r : Int32, tk_lt 256 r ∧ (∀ post : Int32 → Prop, post r → wpX_readPort post (len, pc, z, c, al, dp, sp, ha, nI T, re, ta, ed, nI n, rx, ov, sb, sl, nI S, cl, yb, ya, yl, w, ops, oa, ob, ve, rg, me, st, an, so, li, P) 12) ∧ (∀ post : Int32 → Prop, post r → wpY_read post (len, P 13, z, c, al, sp, ha, dp, pc, nI T, pa, ta, re, ed, nI S, P 6, P 7, P 8, cv, P 10, P 12, P 14, P 16, P 18, P 19, si, rx, ov, sl, sb, cl, yl, yb, ya, ops, oa, ob, ve, an, so, rg, me, st, li, tk_q n, tk_d P 0, tk_d P 1, tk_d P 2) 12) := by
  exact ⟨P 12, h3.2.2.1 12, fun post hp => br_f (by decide) (br_f (by decide) (br_f (by decide) (br_f (by decide) (br_f (by decide) (br_f (by decide) (br_f (by decide) (br_t (by decide) (br_f (by decide) ⟨(vp_in_iff.mpr (by decide)), hp⟩)))))))), fun post hp => br_f (by decide) (br_f (by decide) (br_f (by decide) (br_f (by decide) (br_f (by decide) (br_f (by decide) (br_f (by decide) (br_f (by decide) (br_f (by decide) (br_f (by decide) (br_f (by decide) (br_f (by decide) (br_f (by decide) (br_f (by decide) (br_t (by decide) (hp)))))))))))))))⟩
theorem rd_13 (h3 : tk_I3 cv P) (hn : n < 512) (hso : ∀ j, tk_lt 256 (so j)) : ∃ r : Int32, tk_lt 256 r ∧ (∀ post : Int32 → Prop, post r → wpX_readPort post (len, pc, z, c, al, dp, sp, ha, nI T, re, ta, ed, nI n, rx, ov, sb, sl, nI S, cl, yb, ya, yl, w, ops, oa, ob, ve, rg, me, st, an, so, li, P) 13) ∧ (∀ post : Int32 → Prop, post r → wpY_read post (len, P 13, z, c, al, sp, ha, dp, pc, nI T, pa, ta, re, ed, nI S, P 6, P 7, P 8, cv, P 10, P 12, P 14, P 16, P 18, P 19, si, rx, ov, sl, sb, cl, yl, yb, ya, ops, oa, ob, ve, an, so, rg, me, st, li, tk_q n, tk_d P 0, tk_d P 1, tk_d P 2) 13) := by
  exact ⟨P 13, h3.2.2.1 13, fun post hp => br_f (by decide) (br_f (by decide) (br_f (by decide) (br_f (by decide) (br_f (by decide) (br_f (by decide) (br_f (by decide) (br_f (by decide) (br_t (by decide) (br_f (by decide) ⟨(vp_in_iff.mpr (by decide)), hp⟩))))))))), fun post hp => br_f (by decide) (br_f (by decide) (br_f (by decide) (br_f (by decide) (br_f (by decide) (br_f (by decide) (br_f (by decide) (br_f (by decide) (br_f (by decide) (br_f (by decide) (br_f (by decide) (br_f (by decide) (br_f (by decide) (br_f (by decide) (br_f (by decide) (br_t (by decide) (hp))))))))))))))))⟩
theorem rd_14 (h3 : tk_I3 cv P) (hn : n < 512) (hso : ∀ j, tk_lt 256 (so j)) : ∃ r : Int32, tk_lt 256 r ∧ (∀ post : Int32 → Prop, post r → wpX_readPort post (len, pc, z, c, al, dp, sp, ha, nI T, re, ta, ed, nI n, rx, ov, sb, sl, nI S, cl, yb, ya, yl, w, ops, oa, ob, ve, rg, me, st, an, so, li, P) 14) ∧ (∀ post : Int32 → Prop, post r → wpY_read post (len, P 13, z, c, al, sp, ha, dp, pc, nI T, pa, ta, re, ed, nI S, P 6, P 7, P 8, cv, P 10, P 12, P 14, P 16, P 18, P 19, si, rx, ov, sl, sb, cl, yl, yb, ya, ops, oa, ob, ve, an, so, rg, me, st, li, tk_q n, tk_d P 0, tk_d P 1, tk_d P 2) 14) := by
  exact ⟨P 14, h3.2.2.1 14, fun post hp => br_f (by decide) (br_f (by decide) (br_f (by decide) (br_f (by decide) (br_f (by decide) (br_f (by decide) (br_f (by decide) (br_f (by decide) (br_f (by decide) (br_t (by decide) (br_f (by decide) ⟨(vp_in_iff.mpr (by decide)), hp⟩)))))))))), fun post hp => br_f (by decide) (br_f (by decide) (br_f (by decide) (br_f (by decide) (br_f (by decide) (br_f (by decide) (br_f (by decide) (br_f (by decide) (br_f (by decide) (br_f (by decide) (br_f (by decide) (br_f (by decide) (br_f (by decide) (br_f (by decide) (br_f (by decide) (br_f (by decide) (br_t (by decide) (hp)))))))))))))))))⟩
theorem rd_15 (h3 : tk_I3 cv P) (hn : n < 512) (hso : ∀ j, tk_lt 256 (so j)) : ∃ r : Int32, tk_lt 256 r ∧ (∀ post : Int32 → Prop, post r → wpX_readPort post (len, pc, z, c, al, dp, sp, ha, nI T, re, ta, ed, nI n, rx, ov, sb, sl, nI S, cl, yb, ya, yl, w, ops, oa, ob, ve, rg, me, st, an, so, li, P) 15) ∧ (∀ post : Int32 → Prop, post r → wpY_read post (len, P 13, z, c, al, sp, ha, dp, pc, nI T, pa, ta, re, ed, nI S, P 6, P 7, P 8, cv, P 10, P 12, P 14, P 16, P 18, P 19, si, rx, ov, sl, sb, cl, yl, yb, ya, ops, oa, ob, ve, an, so, rg, me, st, li, tk_q n, tk_d P 0, tk_d P 1, tk_d P 2) 15) := by
  exact ⟨nI T &&& 255, tk_b _, fun post hp => br_f (by decide) (br_f (by decide) (br_f (by decide) (br_f (by decide) (br_f (by decide) (br_f (by decide) (br_f (by decide) (br_f (by decide) (br_f (by decide) (br_f (by decide) (br_t (by decide) (hp))))))))))), fun post hp => br_f (by decide) (br_f (by decide) (br_f (by decide) (br_f (by decide) (br_f (by decide) (br_f (by decide) (br_f (by decide) (br_f (by decide) (br_f (by decide) (br_f (by decide) (br_f (by decide) (br_f (by decide) (br_f (by decide) (br_f (by decide) (br_f (by decide) (br_f (by decide) (br_f (by decide) (br_t (by decide) (hp))))))))))))))))))⟩
theorem rd_16 (h3 : tk_I3 cv P) (hn : n < 512) (hso : ∀ j, tk_lt 256 (so j)) : ∃ r : Int32, tk_lt 256 r ∧ (∀ post : Int32 → Prop, post r → wpX_readPort post (len, pc, z, c, al, dp, sp, ha, nI T, re, ta, ed, nI n, rx, ov, sb, sl, nI S, cl, yb, ya, yl, w, ops, oa, ob, ve, rg, me, st, an, so, li, P) 16) ∧ (∀ post : Int32 → Prop, post r → wpY_read post (len, P 13, z, c, al, sp, ha, dp, pc, nI T, pa, ta, re, ed, nI S, P 6, P 7, P 8, cv, P 10, P 12, P 14, P 16, P 18, P 19, si, rx, ov, sl, sb, cl, yl, yb, ya, ops, oa, ob, ve, an, so, rg, me, st, li, tk_q n, tk_d P 0, tk_d P 1, tk_d P 2) 16) := by
  exact ⟨P 16, h3.2.2.1 16, fun post hp => br_f (by decide) (br_f (by decide) (br_f (by decide) (br_f (by decide) (br_f (by decide) (br_f (by decide) (br_f (by decide) (br_f (by decide) (br_f (by decide) (br_f (by decide) (br_f (by decide) (br_t (by decide) (br_f (by decide) ⟨(vp_in_iff.mpr (by decide)), hp⟩)))))))))))), fun post hp => br_f (by decide) (br_f (by decide) (br_f (by decide) (br_f (by decide) (br_f (by decide) (br_f (by decide) (br_f (by decide) (br_f (by decide) (br_f (by decide) (br_f (by decide) (br_f (by decide) (br_f (by decide) (br_f (by decide) (br_f (by decide) (br_f (by decide) (br_f (by decide) (br_f (by decide) (br_f (by decide) (br_t (by decide) (hp)))))))))))))))))))⟩
theorem rd_17 (h3 : tk_I3 cv P) (hn : n < 512) (hso : ∀ j, tk_lt 256 (so j)) : ∃ r : Int32, tk_lt 256 r ∧ (∀ post : Int32 → Prop, post r → wpX_readPort post (len, pc, z, c, al, dp, sp, ha, nI T, re, ta, ed, nI n, rx, ov, sb, sl, nI S, cl, yb, ya, yl, w, ops, oa, ob, ve, rg, me, st, an, so, li, P) 17) ∧ (∀ post : Int32 → Prop, post r → wpY_read post (len, P 13, z, c, al, sp, ha, dp, pc, nI T, pa, ta, re, ed, nI S, P 6, P 7, P 8, cv, P 10, P 12, P 14, P 16, P 18, P 19, si, rx, ov, sl, sb, cl, yl, yb, ya, ops, oa, ob, ve, an, so, rg, me, st, li, tk_q n, tk_d P 0, tk_d P 1, tk_d P 2) 17) := by
  exact ⟨so (P 16).toNatClampNeg, hso _, fun post hp => br_f (by decide) (br_f (by decide) (br_f (by decide) (br_f (by decide) (br_f (by decide) (br_f (by decide) (br_f (by decide) (br_f (by decide) (br_f (by decide) (br_f (by decide) (br_f (by decide) (br_f (by decide) (br_t (by decide) (⟨tk_in h3.2.2.2.2.1 (by decide), hp⟩))))))))))))), fun post hp => br_f (by decide) (br_f (by decide) (br_f (by decide) (br_f (by decide) (br_f (by decide) (br_f (by decide) (br_f (by decide) (br_f (by decide) (br_f (by decide) (br_f (by decide) (br_f (by decide) (br_f (by decide) (br_f (by decide) (br_f (by decide) (br_f (by decide) (br_f (by decide) (br_f (by decide) (br_f (by decide) (br_f (by decide) (br_t (by decide) (⟨tk_in h3.2.2.2.2.1 (by decide), hp⟩))))))))))))))))))))⟩
theorem rd_18 (h3 : tk_I3 cv P) (hn : n < 512) (hso : ∀ j, tk_lt 256 (so j)) : ∃ r : Int32, tk_lt 256 r ∧ (∀ post : Int32 → Prop, post r → wpX_readPort post (len, pc, z, c, al, dp, sp, ha, nI T, re, ta, ed, nI n, rx, ov, sb, sl, nI S, cl, yb, ya, yl, w, ops, oa, ob, ve, rg, me, st, an, so, li, P) 18) ∧ (∀ post : Int32 → Prop, post r → wpY_read post (len, P 13, z, c, al, sp, ha, dp, pc, nI T, pa, ta, re, ed, nI S, P 6, P 7, P 8, cv, P 10, P 12, P 14, P 16, P 18, P 19, si, rx, ov, sl, sb, cl, yl, yb, ya, ops, oa, ob, ve, an, so, rg, me, st, li, tk_q n, tk_d P 0, tk_d P 1, tk_d P 2) 18) := by
  obtain ⟨m, hm, em⟩ := h3.2.2.2.2.2
  by_cases e : yl = 0
  · exact ⟨P 18 + 1, ⟨m + 1, by omega, by rw [em]; exact nI_add m 1⟩, fun post hp => br_f (by decide) (br_f (by decide) (br_f (by decide) (br_f (by decide) (br_f (by decide) (br_f (by decide) (br_f (by decide) (br_f (by decide) (br_f (by decide) (br_f (by decide) (br_f (by decide) (br_f (by decide) (br_f (by decide) (br_t (by decide) (⟨(vp_in_iff.mpr (by decide)), br_t e hp⟩)))))))))))))), fun post hp => br_f (by decide) (br_f (by decide) (br_f (by decide) (br_f (by decide) (br_f (by decide) (br_f (by decide) (br_f (by decide) (br_f (by decide) (br_f (by decide) (br_f (by decide) (br_f (by decide) (br_f (by decide) (br_f (by decide) (br_f (by decide) (br_f (by decide) (br_f (by decide) (br_f (by decide) (br_f (by decide) (br_f (by decide) (br_f (by decide) (br_t (by decide) (br_t e hp)))))))))))))))))))))⟩
  · exact ⟨P 18 + 0, ⟨m + 0, by omega, by rw [em]; exact nI_add m 0⟩, fun post hp => br_f (by decide) (br_f (by decide) (br_f (by decide) (br_f (by decide) (br_f (by decide) (br_f (by decide) (br_f (by decide) (br_f (by decide) (br_f (by decide) (br_f (by decide) (br_f (by decide) (br_f (by decide) (br_f (by decide) (br_t (by decide) (⟨(vp_in_iff.mpr (by decide)), br_f e hp⟩)))))))))))))), fun post hp => br_f (by decide) (br_f (by decide) (br_f (by decide) (br_f (by decide) (br_f (by decide) (br_f (by decide) (br_f (by decide) (br_f (by decide) (br_f (by decide) (br_f (by decide) (br_f (by decide) (br_f (by decide) (br_f (by decide) (br_f (by decide) (br_f (by decide) (br_f (by decide) (br_f (by decide) (br_f (by decide) (br_f (by decide) (br_f (by decide) (br_t (by decide) (br_f e hp)))))))))))))))))))))⟩
theorem rd_19 (h3 : tk_I3 cv P) (hn : n < 512) (hso : ∀ j, tk_lt 256 (so j)) : ∃ r : Int32, tk_lt 256 r ∧ (∀ post : Int32 → Prop, post r → wpX_readPort post (len, pc, z, c, al, dp, sp, ha, nI T, re, ta, ed, nI n, rx, ov, sb, sl, nI S, cl, yb, ya, yl, w, ops, oa, ob, ve, rg, me, st, an, so, li, P) 19) ∧ (∀ post : Int32 → Prop, post r → wpY_read post (len, P 13, z, c, al, sp, ha, dp, pc, nI T, pa, ta, re, ed, nI S, P 6, P 7, P 8, cv, P 10, P 12, P 14, P 16, P 18, P 19, si, rx, ov, sl, sb, cl, yl, yb, ya, ops, oa, ob, ve, an, so, rg, me, st, li, tk_q n, tk_d P 0, tk_d P 1, tk_d P 2) 19) := by
  exact ⟨P 19, h3.2.2.1 19, fun post hp => br_f (by decide) (br_t (by decide) (br_f (by decide) ⟨(vp_in_iff.mpr (by decide)), hp⟩)), fun post hp => br_f (by decide) (br_f (by decide) (br_f (by decide) (br_f (by decide) (br_f (by decide) (br_f (by decide) (br_f (by decide) (br_f (by decide) (br_f (by decide) (br_f (by decide) (br_f (by decide) (br_f (by decide) (br_f (by decide) (br_f (by decide) (br_f (by decide) (br_f (by decide) (br_f (by decide) (br_f (by decide) (br_f (by decide) (br_f (by decide) (br_f (by decide) (br_t (by decide) (hp))))))))))))))))))))))⟩
theorem rd_20 (h3 : tk_I3 cv P) (hn : n < 512) (hso : ∀ j, tk_lt 256 (so j)) : ∃ r : Int32, tk_lt 256 r ∧ (∀ post : Int32 → Prop, post r → wpX_readPort post (len, pc, z, c, al, dp, sp, ha, nI T, re, ta, ed, nI n, rx, ov, sb, sl, nI S, cl, yb, ya, yl, w, ops, oa, ob, ve, rg, me, st, an, so, li, P) 20) ∧ (∀ post : Int32 → Prop, post r → wpY_read post (len, P 13, z, c, al, sp, ha, dp, pc, nI T, pa, ta, re, ed, nI S, P 6, P 7, P 8, cv, P 10, P 12, P 14, P 16, P 18, P 19, si, rx, ov, sl, sb, cl, yl, yb, ya, ops, oa, ob, ve, an, so, rg, me, st, li, tk_q n, tk_d P 0, tk_d P 1, tk_d P 2) 20) := by
  exact ⟨0, tk_0 (by decide), fun post hp => br_f (by decide) (br_t (by decide) (br_t (by decide) hp)), fun post hp => br_f (by decide) (br_t (by decide) (hp))⟩
theorem rd_21 (h3 : tk_I3 cv P) (hn : n < 512) (hso : ∀ j, tk_lt 256 (so j)) : ∃ r : Int32, tk_lt 256 r ∧ (∀ post : Int32 → Prop, post r → wpX_readPort post (len, pc, z, c, al, dp, sp, ha, nI T, re, ta, ed, nI n, rx, ov, sb, sl, nI S, cl, yb, ya, yl, w, ops, oa, ob, ve, rg, me, st, an, so, li, P) 21) ∧ (∀ post : Int32 → Prop, post r → wpY_read post (len, P 13, z, c, al, sp, ha, dp, pc, nI T, pa, ta, re, ed, nI S, P 6, P 7, P 8, cv, P 10, P 12, P 14, P 16, P 18, P 19, si, rx, ov, sl, sb, cl, yl, yb, ya, ops, oa, ob, ve, an, so, rg, me, st, li, tk_q n, tk_d P 0, tk_d P 1, tk_d P 2) 21) := by
  exact ⟨0, tk_0 (by decide), fun post hp => br_f (by decide) (br_t (by decide) (br_t (by decide) hp)), fun post hp => br_f (by decide) (br_t (by decide) (hp))⟩
theorem rd_22 (h3 : tk_I3 cv P) (hn : n < 512) (hso : ∀ j, tk_lt 256 (so j)) : ∃ r : Int32, tk_lt 256 r ∧ (∀ post : Int32 → Prop, post r → wpX_readPort post (len, pc, z, c, al, dp, sp, ha, nI T, re, ta, ed, nI n, rx, ov, sb, sl, nI S, cl, yb, ya, yl, w, ops, oa, ob, ve, rg, me, st, an, so, li, P) 22) ∧ (∀ post : Int32 → Prop, post r → wpY_read post (len, P 13, z, c, al, sp, ha, dp, pc, nI T, pa, ta, re, ed, nI S, P 6, P 7, P 8, cv, P 10, P 12, P 14, P 16, P 18, P 19, si, rx, ov, sl, sb, cl, yl, yb, ya, ops, oa, ob, ve, an, so, rg, me, st, li, tk_q n, tk_d P 0, tk_d P 1, tk_d P 2) 22) := by
  exact ⟨0, tk_0 (by decide), fun post hp => br_f (by decide) (br_t (by decide) (br_t (by decide) hp)), fun post hp => br_f (by decide) (br_t (by decide) (hp))⟩
theorem rd_23 (h3 : tk_I3 cv P) (hn : n < 512) (hso : ∀ j, tk_lt 256 (so j)) : ∃ r : Int32, tk_lt 256 r ∧ (∀ post : Int32 → Prop, post r → wpX_readPort post (len, pc, z, c, al, dp, sp, ha, nI T, re, ta, ed, nI n, rx, ov, sb, sl, nI S, cl, yb, ya, yl, w, ops, oa, ob, ve, rg, me, st, an, so, li, P) 23) ∧ (∀ post : Int32 → Prop, post r → wpY_read post (len, P 13, z, c, al, sp, ha, dp, pc, nI T, pa, ta, re, ed, nI S, P 6, P 7, P 8, cv, P 10, P 12, P 14, P 16, P 18, P 19, si, rx, ov, sl, sb, cl, yl, yb, ya, ops, oa, ob, ve, an, so, rg, me, st, li, tk_q n, tk_d P 0, tk_d P 1, tk_d P 2) 23) := by
  exact ⟨0, tk_0 (by decide), fun post hp => br_f (by decide) (br_t (by decide) (br_t (by decide) hp)), fun post hp => br_f (by decide) (br_t (by decide) (hp))⟩
theorem rd_24 (h3 : tk_I3 cv P) (hn : n < 512) (hso : ∀ j, tk_lt 256 (so j)) : ∃ r : Int32, tk_lt 256 r ∧ (∀ post : Int32 → Prop, post r → wpX_readPort post (len, pc, z, c, al, dp, sp, ha, nI T, re, ta, ed, nI n, rx, ov, sb, sl, nI S, cl, yb, ya, yl, w, ops, oa, ob, ve, rg, me, st, an, so, li, P) 24) ∧ (∀ post : Int32 → Prop, post r → wpY_read post (len, P 13, z, c, al, sp, ha, dp, pc, nI T, pa, ta, re, ed, nI S, P 6, P 7, P 8, cv, P 10, P 12, P 14, P 16, P 18, P 19, si, rx, ov, sl, sb, cl, yl, yb, ya, ops, oa, ob, ve, an, so, rg, me, st, li, tk_q n, tk_d P 0, tk_d P 1, tk_d P 2) 24) := by
  exact ⟨0, tk_0 (by decide), fun post hp => br_f (by decide) (br_t (by decide) (br_t (by decide) hp)), fun post hp => br_f (by decide) (br_t (by decide) (hp))⟩
theorem rd_25 (h3 : tk_I3 cv P) (hn : n < 512) (hso : ∀ j, tk_lt 256 (so j)) : ∃ r : Int32, tk_lt 256 r ∧ (∀ post : Int32 → Prop, post r → wpX_readPort post (len, pc, z, c, al, dp, sp, ha, nI T, re, ta, ed, nI n, rx, ov, sb, sl, nI S, cl, yb, ya, yl, w, ops, oa, ob, ve, rg, me, st, an, so, li, P) 25) ∧ (∀ post : Int32 → Prop, post r → wpY_read post (len, P 13, z, c, al, sp, ha, dp, pc, nI T, pa, ta, re, ed, nI S, P 6, P 7, P 8, cv, P 10, P 12, P 14, P 16, P 18, P 19, si, rx, ov, sl, sb, cl, yl, yb, ya, ops, oa, ob, ve, an, so, rg, me, st, li, tk_q n, tk_d P 0, tk_d P 1, tk_d P 2) 25) := by
  exact ⟨0, tk_0 (by decide), fun post hp => br_f (by decide) (br_t (by decide) (br_t (by decide) hp)), fun post hp => br_f (by decide) (br_t (by decide) (hp))⟩
theorem rd_26 (h3 : tk_I3 cv P) (hn : n < 512) (hso : ∀ j, tk_lt 256 (so j)) : ∃ r : Int32, tk_lt 256 r ∧ (∀ post : Int32 → Prop, post r → wpX_readPort post (len, pc, z, c, al, dp, sp, ha, nI T, re, ta, ed, nI n, rx, ov, sb, sl, nI S, cl, yb, ya, yl, w, ops, oa, ob, ve, rg, me, st, an, so, li, P) 26) ∧ (∀ post : Int32 → Prop, post r → wpY_read post (len, P 13, z, c, al, sp, ha, dp, pc, nI T, pa, ta, re, ed, nI S, P 6, P 7, P 8, cv, P 10, P 12, P 14, P 16, P 18, P 19, si, rx, ov, sl, sb, cl, yl, yb, ya, ops, oa, ob, ve, an, so, rg, me, st, li, tk_q n, tk_d P 0, tk_d P 1, tk_d P 2) 26) := by
  exact ⟨0, tk_0 (by decide), fun post hp => br_f (by decide) (br_t (by decide) (br_t (by decide) hp)), fun post hp => br_f (by decide) (br_t (by decide) (hp))⟩
theorem rd_27 (h3 : tk_I3 cv P) (hn : n < 512) (hso : ∀ j, tk_lt 256 (so j)) : ∃ r : Int32, tk_lt 256 r ∧ (∀ post : Int32 → Prop, post r → wpX_readPort post (len, pc, z, c, al, dp, sp, ha, nI T, re, ta, ed, nI n, rx, ov, sb, sl, nI S, cl, yb, ya, yl, w, ops, oa, ob, ve, rg, me, st, an, so, li, P) 27) ∧ (∀ post : Int32 → Prop, post r → wpY_read post (len, P 13, z, c, al, sp, ha, dp, pc, nI T, pa, ta, re, ed, nI S, P 6, P 7, P 8, cv, P 10, P 12, P 14, P 16, P 18, P 19, si, rx, ov, sl, sb, cl, yl, yb, ya, ops, oa, ob, ve, an, so, rg, me, st, li, tk_q n, tk_d P 0, tk_d P 1, tk_d P 2) 27) := by
  exact ⟨0, tk_0 (by decide), fun post hp => br_f (by decide) (br_t (by decide) (br_t (by decide) hp)), fun post hp => br_f (by decide) (br_t (by decide) (hp))⟩
theorem rd_28 (h3 : tk_I3 cv P) (hn : n < 512) (hso : ∀ j, tk_lt 256 (so j)) : ∃ r : Int32, tk_lt 256 r ∧ (∀ post : Int32 → Prop, post r → wpX_readPort post (len, pc, z, c, al, dp, sp, ha, nI T, re, ta, ed, nI n, rx, ov, sb, sl, nI S, cl, yb, ya, yl, w, ops, oa, ob, ve, rg, me, st, an, so, li, P) 28) ∧ (∀ post : Int32 → Prop, post r → wpY_read post (len, P 13, z, c, al, sp, ha, dp, pc, nI T, pa, ta, re, ed, nI S, P 6, P 7, P 8, cv, P 10, P 12, P 14, P 16, P 18, P 19, si, rx, ov, sl, sb, cl, yl, yb, ya, ops, oa, ob, ve, an, so, rg, me, st, li, tk_q n, tk_d P 0, tk_d P 1, tk_d P 2) 28) := by
  exact ⟨0, tk_0 (by decide), fun post hp => br_f (by decide) (br_t (by decide) (br_t (by decide) hp)), fun post hp => br_f (by decide) (br_t (by decide) (hp))⟩
theorem rd_29 (h3 : tk_I3 cv P) (hn : n < 512) (hso : ∀ j, tk_lt 256 (so j)) : ∃ r : Int32, tk_lt 256 r ∧ (∀ post : Int32 → Prop, post r → wpX_readPort post (len, pc, z, c, al, dp, sp, ha, nI T, re, ta, ed, nI n, rx, ov, sb, sl, nI S, cl, yb, ya, yl, w, ops, oa, ob, ve, rg, me, st, an, so, li, P) 29) ∧ (∀ post : Int32 → Prop, post r → wpY_read post (len, P 13, z, c, al, sp, ha, dp, pc, nI T, pa, ta, re, ed, nI S, P 6, P 7, P 8, cv, P 10, P 12, P 14, P 16, P 18, P 19, si, rx, ov, sl, sb, cl, yl, yb, ya, ops, oa, ob, ve, an, so, rg, me, st, li, tk_q n, tk_d P 0, tk_d P 1, tk_d P 2) 29) := by
  exact ⟨0, tk_0 (by decide), fun post hp => br_f (by decide) (br_t (by decide) (br_t (by decide) hp)), fun post hp => br_f (by decide) (br_t (by decide) (hp))⟩
theorem rd_30 (h3 : tk_I3 cv P) (hn : n < 512) (hso : ∀ j, tk_lt 256 (so j)) : ∃ r : Int32, tk_lt 256 r ∧ (∀ post : Int32 → Prop, post r → wpX_readPort post (len, pc, z, c, al, dp, sp, ha, nI T, re, ta, ed, nI n, rx, ov, sb, sl, nI S, cl, yb, ya, yl, w, ops, oa, ob, ve, rg, me, st, an, so, li, P) 30) ∧ (∀ post : Int32 → Prop, post r → wpY_read post (len, P 13, z, c, al, sp, ha, dp, pc, nI T, pa, ta, re, ed, nI S, P 6, P 7, P 8, cv, P 10, P 12, P 14, P 16, P 18, P 19, si, rx, ov, sl, sb, cl, yl, yb, ya, ops, oa, ob, ve, an, so, rg, me, st, li, tk_q n, tk_d P 0, tk_d P 1, tk_d P 2) 30) := by
  exact ⟨0, tk_0 (by decide), fun post hp => br_f (by decide) (br_t (by decide) (br_t (by decide) hp)), fun post hp => br_f (by decide) (br_t (by decide) (hp))⟩
theorem rd_31 (h3 : tk_I3 cv P) (hn : n < 512) (hso : ∀ j, tk_lt 256 (so j)) : ∃ r : Int32, tk_lt 256 r ∧ (∀ post : Int32 → Prop, post r → wpX_readPort post (len, pc, z, c, al, dp, sp, ha, nI T, re, ta, ed, nI n, rx, ov, sb, sl, nI S, cl, yb, ya, yl, w, ops, oa, ob, ve, rg, me, st, an, so, li, P) 31) ∧ (∀ post : Int32 → Prop, post r → wpY_read post (len, P 13, z, c, al, sp, ha, dp, pc, nI T, pa, ta, re, ed, nI S, P 6, P 7, P 8, cv, P 10, P 12, P 14, P 16, P 18, P 19, si, rx, ov, sl, sb, cl, yl, yb, ya, ops, oa, ob, ve, an, so, rg, me, st, li, tk_q n, tk_d P 0, tk_d P 1, tk_d P 2) 31) := by
  exact ⟨0, tk_0 (by decide), fun post hp => br_f (by decide) (br_t (by decide) (br_t (by decide) hp)), fun post hp => br_f (by decide) (br_t (by decide) (hp))⟩
theorem rd_all (h3 : tk_I3 cv P) (hn : n < 512) (hso : ∀ j, tk_lt 256 (so j)) : ∀ p : Nat, p < 32 → ∃ r : Int32, tk_lt 256 r ∧ (∀ post : Int32 → Prop, post r → wpX_readPort post (len, pc, z, c, al, dp, sp, ha, nI T, re, ta, ed, nI n, rx, ov, sb, sl, nI S, cl, yb, ya, yl, w, ops, oa, ob, ve, rg, me, st, an, so, li, P) (nI p)) ∧ (∀ post : Int32 → Prop, post r → wpY_read post (len, P 13, z, c, al, sp, ha, dp, pc, nI T, pa, ta, re, ed, nI S, P 6, P 7, P 8, cv, P 10, P 12, P 14, P 16, P 18, P 19, si, rx, ov, sl, sb, cl, yl, yb, ya, ops, oa, ob, ve, an, so, rg, me, st, li, tk_q n, tk_d P 0, tk_d P 1, tk_d P 2) (nI p))
  | 0, _ => rd_0 h3 hn hso
  | 1, _ => rd_1 h3 hn hso
  | 2, _ => rd_2 h3 hn hso
  | 3, _ => rd_3 h3 hn hso
  | 4, _ => rd_4 h3 hn hso
  | 5, _ => rd_5 h3 hn hso
  | 6, _ => rd_6 h3 hn hso
  | 7, _ => rd_7 h3 hn hso
  | 8, _ => rd_8 h3 hn hso
  | 9, _ => rd_9 h3 hn hso
  | 10, _ => rd_10 h3 hn hso
  | 11, _ => rd_11 h3 hn hso
  | 12, _ => rd_12 h3 hn hso
  | 13, _ => rd_13 h3 hn hso
  | 14, _ => rd_14 h3 hn hso
  | 15, _ => rd_15 h3 hn hso
  | 16, _ => rd_16 h3 hn hso
  | 17, _ => rd_17 h3 hn hso
  | 18, _ => rd_18 h3 hn hso
  | 19, _ => rd_19 h3 hn hso
  | 20, _ => rd_20 h3 hn hso
  | 21, _ => rd_21 h3 hn hso
  | 22, _ => rd_22 h3 hn hso
  | 23, _ => rd_23 h3 hn hso
  | 24, _ => rd_24 h3 hn hso
  | 25, _ => rd_25 h3 hn hso
  | 26, _ => rd_26 h3 hn hso
  | 27, _ => rd_27 h3 hn hso
  | 28, _ => rd_28 h3 hn hso
  | 29, _ => rd_29 h3 hn hso
  | 30, _ => rd_30 h3 hn hso
  | 31, _ => rd_31 h3 hn hso
  | p + 32, h => absurd h (by omega)
end
end
section
/-! writing a port -/
section
variable {n T S : Nat} {len pc z c al dp sp ha re ta ed rx ov sb sl cl yb ya yl w pa cv si : Int32} {ops oa ob ve rg me st an so li P : Nat → Int32}
def tk_ci (n a i : Nat) : Nat → Int32 := fun j => if j < i ∧ a.testBit j = true then 0 else tk_q n j
theorem tk_ci0 (n a : Nat) : tk_ci n a 0 = tk_q n := by
  funext j
  unfold tk_ci
  rw [if_neg (by omega)]
theorem tk_ciT {n a i : Nat} (h : a.testBit i = true) : upd (tk_ci n a i) i 0 = tk_ci n a (i + 1) := by
  funext j
  unfold upd tk_ci
  by_cases z : j = i
  · subst z
    rw [if_pos rfl, if_pos ⟨by omega, h⟩]
  · rw [if_neg z]
    by_cases y : j < i ∧ a.testBit j = true
    · rw [if_pos y, if_pos ⟨by omega, y.2⟩]
    · rw [if_neg y, if_neg (fun q => y ⟨by omega, q.2⟩)]
theorem tk_ciF {n a i : Nat} (h : a.testBit i = false) : tk_ci n a i = tk_ci n a (i + 1) := by
  funext j
  unfold tk_ci
  by_cases y : j < i ∧ a.testBit j = true
  · rw [if_pos y, if_pos ⟨by omega, y.2⟩]
  · have y' : ¬ (j < i + 1 ∧ a.testBit j = true) := by
      intro q
      rcases (by omega : j < i ∨ j = i) with z | z
      · exact y ⟨z, q.2⟩
      · have q2 := q.2
        rw [z, h] at q2
        cases q2
    rw [if_neg y, if_neg y']
theorem tk_ci8 {n a : Nat} (hn : n < 512) (hA : a < 256) : tk_ci n a 8 = tk_q (n &&& (511 - a)) := by
  funext j
  rw [tk_clr hn (by omega)]
  unfold tk_ci
  by_cases y : a.testBit j = true
  · have hj : j < 8 := by
      rcases Nat.lt_or_ge j 8 with z | z
      · exact z
      · have := Nat.testBit_lt_two_pow (Nat.lt_of_lt_of_le hA (Nat.pow_le_pow_right (by decide) z : 2 ^ 8 ≤ 2 ^ j))
        rw [this] at y
        cases y
    rw [if_pos ⟨hj, y⟩, if_pos y]
  · rw [if_neg (fun q => y q.2), if_neg y]
theorem ou_loop {a : Nat} (hA : a < 256) (hn : n < 512) (x1 : Int32) (post : SY → Prop) (hp : wY_out_178 post x1 (nI a) len (P 13) z c al sp ha dp pc (nI T) pa ta re ed (nI S) (P 6) (P 7) (P 8) cv (P 10) (P 12) (P 14) (P 16) (P 18) (P 19) si rx ov sl sb cl yl yb ya ops oa ob ve an so rg me st li (tk_q (n &&& (511 - a))) (tk_d P 0) (tk_d P 1) (tk_d P 2)) : ∀ d i : Nat, i + d = 8 → wY_out_150 post x1 (nI a) len (P 13) z c al sp ha dp pc (nI T) pa ta re ed (nI S) (P 6) (P 7) (P 8) cv (P 10) (P 12) (P 14) (P 16) (P 18) (P 19) si rx ov sl sb cl yl yb ya (d + 1) (nI i) ops oa ob ve an so rg me st li (tk_ci n a i) (tk_d P 0) (tk_d P 1) (tk_d P 2) := by
  intro d
  induction d with
  | zero =>
    intro i hi
    have e : i = 8 := by omega
    subst e
    rw [tk_ci8 hn hA]
    exact br_t (by decide) hp
  | succ d ih =>
    intro i hi
    have h : ¬ (8 : Int32) ≤ nI i := nI_ge (b := 8) (by omega) (by decide)
    have hb : (nI a >>> (nI i &&& 31)) &&& 1 = tk_q a i := tk_shr1 (by omega) (by omega)
    have IH := ih (i + 1) (by omega)
    cases e : a.testBit i
    · rw [← tk_ciF e] at IH
      exact br_f h (br_f (by rw [hb, tk_qf e]; decide) (nm_r (nI_1 i) IH))
    · exact br_f h (br_t (by rw [hb, tk_qt e]) ⟨vp_in_nI (by omega) (by decide), nm_r (by rw [nI_clamp (by omega), tk_nb0]; exact tk_ciT e) (nm_r (nI_1 i) IH)⟩)
theorem ou_0 {a : Nat} (hA : a < 256) (hn : n < 512) (hsl : tk_lt 2049 sl) (hcl : tk_lt 53 cl) (hyb : tk_lt 256 yb) (hya : tk_lt 16 ya) (hyl : tk_lt 41 yl) (h3 : tk_I3 cv P) (hW : tk_W (P 14) w si) : ∃ (n' : Nat) (ed' sb' sl' cl' yb' ya' yl' w' cv' si' : Int32) (P' : Nat → Int32), n' < 512 ∧ tk_lt 2049 sl' ∧ tk_lt 53 cl' ∧ tk_lt 256 yb' ∧ tk_lt 16 ya' ∧ tk_lt 41 yl' ∧ tk_I3 cv' P' ∧ tk_W (P' 14) w' si' ∧ (∀ post : SX → Prop, post (len, pc, z, c, al, dp, sp, ha, nI T, re, ta, ed', nI n', rx, ov, sb', sl', nI S, cl', yb', ya', yl', w', ops, oa, ob, ve, rg, me, st, an, so, li, P') → wpX_writePort post (len, pc, z, c, al, dp, sp, ha, nI T, re, ta, ed, nI n, rx, ov, sb, sl, nI S, cl, yb, ya, yl, w, ops, oa, ob, ve, rg, me, st, an, so, li, P) 0 (nI a)) ∧ (∀ post : SY → Prop, post (len, P' 13, z, c, al, sp, ha, dp, pc, nI T, pa, ta, re, ed', nI S, P' 6, P' 7, P' 8, cv', P' 10, P' 12, P' 14, P' 16, P' 18, P' 19, si', rx, ov, sl', sb', cl', yl', yb', ya', ops, oa, ob, ve, an, so, rg, me, st, li, tk_q n', tk_d P' 0, tk_d P' 1, tk_d P' 2) → wpY_out post (len, P 13, z, c, al, sp, ha, dp, pc, nI T, pa, ta, re, ed, nI S, P 6, P 7, P 8, cv, P 10, P 12, P 14, P 16, P 18, P 19, si, rx, ov, sl, sb, cl, yl, yb, ya, ops, oa, ob, ve, an, so, rg, me, st, li, tk_q n, tk_d P 0, tk_d P 1, tk_d P 2) 0 (nI a)) := by
  exact ⟨n, ed, sb, sl, cl, yb, ya, yl, w, cv, si, upd P 0 (nI a), hn, hsl, hcl, hyb, hya, hyl, tk_3up h3 (by decide) (by decide) (by decide) (by decide) (tk_mk hA), hW, fun post hp => br_t (by decide) (br_f (by decide) ⟨(vp_in_iff.mpr (by decide)), nm_e hp⟩), fun post hp => br_t (by decide) (⟨(by decide), (vp_in_iff.mpr (by decide)), nm_r (tk_d0 P 0 (nI a)) (br_f (by decide) (br_f (by decide) (br_f (by decide) (br_f (by decide) (br_f (by decide) (br_f (by decide) (br_f (by decide) (br_f (by decide) (br_f (by decide) (br_f (by decide) (br_f (by decide) (br_f (by decide) (br_f (by decide) (br_f (by decide) (br_f (by decide) (hp))))))))))))))))⟩)⟩
theorem ou_1 {a : Nat} (hA : a < 256) (hn : n < 512) (hsl : tk_lt 2049 sl) (hcl : tk_lt 53 cl) (hyb : tk_lt 256 yb) (hya : tk_lt 16 ya) (hyl : tk_lt 41 yl) (h3 : tk_I3 cv P) (hW : tk_W (P 14) w si) : ∃ (n' : Nat) (ed' sb' sl' cl' yb' ya' yl' w' cv' si' : Int32) (P' : Nat → Int32), n' < 512 ∧ tk_lt 2049 sl' ∧ tk_lt 53 cl' ∧ tk_lt 256 yb' ∧ tk_lt 16 ya' ∧ tk_lt 41 yl' ∧ tk_I3 cv' P' ∧ tk_W (P' 14) w' si' ∧ (∀ post : SX → Prop, post (len, pc, z, c, al, dp, sp, ha, nI T, re, ta, ed', nI n', rx, ov, sb', sl', nI S, cl', yb', ya', yl', w', ops, oa, ob, ve, rg, me, st, an, so, li, P') → wpX_writePort post (len, pc, z, c, al, dp, sp, ha, nI T, re, ta, ed, nI n, rx, ov, sb, sl, nI S, cl, yb, ya, yl, w, ops, oa, ob, ve, rg, me, st, an, so, li, P) 1 (nI a)) ∧ (∀ post : SY → Prop, post (len, P' 13, z, c, al, sp, ha, dp, pc, nI T, pa, ta, re, ed', nI S, P' 6, P' 7, P' 8, cv', P' 10, P' 12, P' 14, P' 16, P' 18, P' 19, si', rx, ov, sl', sb', cl', yl', yb', ya', ops, oa, ob, ve, an, so, rg, me, st, li, tk_q n', tk_d P' 0, tk_d P' 1, tk_d P' 2) → wpY_out post (len, P 13, z, c, al, sp, ha, dp, pc, nI T, pa, ta, re, ed, nI S, P 6, P 7, P 8, cv, P 10, P 12, P 14, P 16, P 18, P 19, si, rx, ov, sl, sb, cl, yl, yb, ya, ops, oa, ob, ve, an, so, rg, me, st, li, tk_q n, tk_d P 0, tk_d P 1, tk_d P 2) 1 (nI a)) := by
  exact ⟨n, ed, sb, sl, cl, yb, ya, yl, w, cv, si, upd P 1 (nI a), hn, hsl, hcl, hyb, hya, hyl, tk_3up h3 (by decide) (by decide) (by decide) (by decide) (tk_mk hA), hW, fun post hp => br_t (by decide) (br_f (by decide) ⟨(vp_in_iff.mpr (by decide)), nm_e hp⟩), fun post hp => br_f (by decide) (br_f (by decide) (br_t (by decide) (⟨(by decide), (vp_in_iff.mpr (by decide)), nm_r (tk_d0 P 1 (nI a)) (br_f (by decide) (br_f (by decide) (br_f (by decide) (br_f (by decide) (br_f (by decide) (br_f (by decide) (br_f (by decide) (br_f (by decide) (br_f (by decide) (br_f (by decide) (br_f (by decide) (br_f (by decide) (br_f (by decide) (hp))))))))))))))⟩)))⟩
theorem ou_2 {a : Nat} (hA : a < 256) (hn : n < 512) (hsl : tk_lt 2049 sl) (hcl : tk_lt 53 cl) (hyb : tk_lt 256 yb) (hya : tk_lt 16 ya) (hyl : tk_lt 41 yl) (h3 : tk_I3 cv P) (hW : tk_W (P 14) w si) : ∃ (n' : Nat) (ed' sb' sl' cl' yb' ya' yl' w' cv' si' : Int32) (P' : Nat → Int32), n' < 512 ∧ tk_lt 2049 sl' ∧ tk_lt 53 cl' ∧ tk_lt 256 yb' ∧ tk_lt 16 ya' ∧ tk_lt 41 yl' ∧ tk_I3 cv' P' ∧ tk_W (P' 14) w' si' ∧ (∀ post : SX → Prop, post (len, pc, z, c, al, dp, sp, ha, nI T, re, ta, ed', nI n', rx, ov, sb', sl', nI S, cl', yb', ya', yl', w', ops, oa, ob, ve, rg, me, st, an, so, li, P') → wpX_writePort post (len, pc, z, c, al, dp, sp, ha, nI T, re, ta, ed, nI n, rx, ov, sb, sl, nI S, cl, yb, ya, yl, w, ops, oa, ob, ve, rg, me, st, an, so, li, P) 2 (nI a)) ∧ (∀ post : SY → Prop, post (len, P' 13, z, c, al, sp, ha, dp, pc, nI T, pa, ta, re, ed', nI S, P' 6, P' 7, P' 8, cv', P' 10, P' 12, P' 14, P' 16, P' 18, P' 19, si', rx, ov, sl', sb', cl', yl', yb', ya', ops, oa, ob, ve, an, so, rg, me, st, li, tk_q n', tk_d P' 0, tk_d P' 1, tk_d P' 2) → wpY_out post (len, P 13, z, c, al, sp, ha, dp, pc, nI T, pa, ta, re, ed, nI S, P 6, P 7, P 8, cv, P 10, P 12, P 14, P 16, P 18, P 19, si, rx, ov, sl, sb, cl, yl, yb, ya, ops, oa, ob, ve, an, so, rg, me, st, li, tk_q n, tk_d P 0, tk_d P 1, tk_d P 2) 2 (nI a)) := by
  exact ⟨n, ed, sb, sl, cl, yb, ya, yl, w, cv, si, upd P 2 (nI a), hn, hsl, hcl, hyb, hya, hyl, tk_3up h3 (by decide) (by decide) (by decide) (by decide) (tk_mk hA), hW, fun post hp => br_t (by decide) (br_f (by decide) ⟨(vp_in_iff.mpr (by decide)), nm_e hp⟩), fun post hp => br_f (by decide) (br_f (by decide) (br_f (by decide) (br_f (by decide) (br_t (by decide) (⟨(by decide), (vp_in_iff.mpr (by decide)), nm_r (tk_d0 P 2 (nI a)) (br_f (by decide) (br_f (by decide) (br_f (by decide) (br_f (by decide) (br_f (by decide) (br_f (by decide) (br_f (by decide) (br_f (by decide) (br_f (by decide) (br_f (by decide) (br_f (by decide) (hp))))))))))))⟩)))))⟩
theorem ou_3 {a : Nat} (hA : a < 256) (hn : n < 512) (hsl : tk_lt 2049 sl) (hcl : tk_lt 53 cl) (hyb : tk_lt 256 yb) (hya : tk_lt 16 ya) (hyl : tk_lt 41 yl) (h3 : tk_I3 cv P) (hW : tk_W (P 14) w si) : ∃ (n' : Nat) (ed' sb' sl' cl' yb' ya' yl' w' cv' si' : Int32) (P' : Nat → Int32), n' < 512 ∧ tk_lt 2049 sl' ∧ tk_lt 53 cl' ∧ tk_lt 256 yb' ∧ tk_lt 16 ya' ∧ tk_lt 41 yl' ∧ tk_I3 cv' P' ∧ tk_W (P' 14) w' si' ∧ (∀ post : SX → Prop, post (len, pc, z, c, al, dp, sp, ha, nI T, re, ta, ed', nI n', rx, ov, sb', sl', nI S, cl', yb', ya', yl', w', ops, oa, ob, ve, rg, me, st, an, so, li, P') → wpX_writePort post (len, pc, z, c, al, dp, sp, ha, nI T, re, ta, ed, nI n, rx, ov, sb, sl, nI S, cl, yb, ya, yl, w, ops, oa, ob, ve, rg, me, st, an, so, li, P) 3 (nI a)) ∧ (∀ post : SY → Prop, post (len, P' 13, z, c, al, sp, ha, dp, pc, nI T, pa, ta, re, ed', nI S, P' 6, P' 7, P' 8, cv', P' 10, P' 12, P' 14, P' 16, P' 18, P' 19, si', rx, ov, sl', sb', cl', yl', yb', ya', ops, oa, ob, ve, an, so, rg, me, st, li, tk_q n', tk_d P' 0, tk_d P' 1, tk_d P' 2) → wpY_out post (len, P 13, z, c, al, sp, ha, dp, pc, nI T, pa, ta, re, ed, nI S, P 6, P 7, P 8, cv, P 10, P 12, P 14, P 16, P 18, P 19, si, rx, ov, sl, sb, cl, yl, yb, ya, ops, oa, ob, ve, an, so, rg, me, st, li, tk_q n, tk_d P 0, tk_d P 1, tk_d P 2) 3 (nI a)) := by
  exact ⟨n, ed, sb, sl, cl, yb, ya, yl, w, cv, si, upd P 3 (nI a), hn, hsl, hcl, hyb, hya, hyl, tk_3up h3 (by decide) (by decide) (by decide) (by decide) (tk_mk hA), hW, fun post hp => br_t (by decide) (br_f (by decide) ⟨(vp_in_iff.mpr (by decide)), nm_e hp⟩), fun post hp => br_f (by decide) (br_t (by decide) (⟨(by decide), (vp_in_iff.mpr (by decide)), nm_r (tk_d1 P 0 (nI a)) (br_f (by decide) (br_f (by decide) (br_f (by decide) (br_f (by decide) (br_f (by decide) (br_f (by decide) (br_f (by decide) (br_f (by decide) (br_f (by decide) (br_f (by decide) (br_f (by decide) (br_f (by decide) (br_f (by decide) (br_f (by decide) (br_f (by decide) (hp))))))))))))))))⟩))⟩
theorem ou_4 {a : Nat} (hA : a < 256) (hn : n < 512) (hsl : tk_lt 2049 sl) (hcl : tk_lt 53 cl) (hyb : tk_lt 256 yb) (hya : tk_lt 16 ya) (hyl : tk_lt 41 yl) (h3 : tk_I3 cv P) (hW : tk_W (P 14) w si) : ∃ (n' : Nat) (ed' sb' sl' cl' yb' ya' yl' w' cv' si' : Int32) (P' : Nat → Int32), n' < 512 ∧ tk_lt 2049 sl' ∧ tk_lt 53 cl' ∧ tk_lt 256 yb' ∧ tk_lt 16 ya' ∧ tk_lt 41 yl' ∧ tk_I3 cv' P' ∧ tk_W (P' 14) w' si' ∧ (∀ post : SX → Prop, post (len, pc, z, c, al, dp, sp, ha, nI T, re, ta, ed', nI n', rx, ov, sb', sl', nI S, cl', yb', ya', yl', w', ops, oa, ob, ve, rg, me, st, an, so, li, P') → wpX_writePort post (len, pc, z, c, al, dp, sp, ha, nI T, re, ta, ed, nI n, rx, ov, sb, sl, nI S, cl, yb, ya, yl, w, ops, oa, ob, ve, rg, me, st, an, so, li, P) 4 (nI a)) ∧ (∀ post : SY → Prop, post (len, P' 13, z, c, al, sp, ha, dp, pc, nI T, pa, ta, re, ed', nI S, P' 6, P' 7, P' 8, cv', P' 10, P' 12, P' 14, P' 16, P' 18, P' 19, si', rx, ov, sl', sb', cl', yl', yb', ya', ops, oa, ob, ve, an, so, rg, me, st, li, tk_q n', tk_d P' 0, tk_d P' 1, tk_d P' 2) → wpY_out post (len, P 13, z, c, al, sp, ha, dp, pc, nI T, pa, ta, re, ed, nI S, P 6, P 7, P 8, cv, P 10, P 12, P 14, P 16, P 18, P 19, si, rx, ov, sl, sb, cl, yl, yb, ya, ops, oa, ob, ve, an, so, rg, me, st, li, tk_q n, tk_d P 0, tk_d P 1, tk_d P 2) 4 (nI a)) := by
  exact ⟨n, ed, sb, sl, cl, yb, ya, yl, w, cv, si, upd P 4 (nI a), hn, hsl, hcl, hyb, hya, hyl, tk_3up h3 (by decide) (by decide) (by decide) (by decide) (tk_mk hA), hW, fun post hp => br_t (by decide) (br_f (by decide) ⟨(vp_in_iff.mpr (by decide)), nm_e hp⟩), fun post hp => br_f (by decide) (br_f (by decide) (br_f (by decide) (br_t (by decide) (⟨(by decide), (vp_in_iff.mpr (by decide)), nm_r (tk_d1 P 1 (nI a)) (br_f (by decide) (br_f (by decide) (br_f (by decide) (br_f (by decide) (br_f (by decide) (br_f (by decide) (br_f (by decide) (br_f (by decide) (br_f (by decide) (br_f (by decide) (br_f (by decide) (br_f (by decide) (br_f (by decide) (hp))))))))))))))⟩))))⟩
theorem ou_5 {a : Nat} (hA : a < 256) (hn : n < 512) (hsl : tk_lt 2049 sl) (hcl : tk_lt 53 cl) (hyb : tk_lt 256 yb) (hya : tk_lt 16 ya) (hyl : tk_lt 41 yl) (h3 : tk_I3 cv P) (hW : tk_W (P 14) w si) : ∃ (n' : Nat) (ed' sb' sl' cl' yb' ya' yl' w' cv' si' : Int32) (P' : Nat → Int32), n' < 512 ∧ tk_lt 2049 sl' ∧ tk_lt 53 cl' ∧ tk_lt 256 yb' ∧ tk_lt 16 ya' ∧ tk_lt 41 yl' ∧ tk_I3 cv' P' ∧ tk_W (P' 14) w' si' ∧ (∀ post : SX → Prop, post (len, pc, z, c, al, dp, sp, ha, nI T, re, ta, ed', nI n', rx, ov, sb', sl', nI S, cl', yb', ya', yl', w', ops, oa, ob, ve, rg, me, st, an, so, li, P') → wpX_writePort post (len, pc, z, c, al, dp, sp, ha, nI T, re, ta, ed, nI n, rx, ov, sb, sl, nI S, cl, yb, ya, yl, w, ops, oa, ob, ve, rg, me, st, an, so, li, P) 5 (nI a)) ∧ (∀ post : SY → Prop, post (len, P' 13, z, c, al, sp, ha, dp, pc, nI T, pa, ta, re, ed', nI S, P' 6, P' 7, P' 8, cv', P' 10, P' 12, P' 14, P' 16, P' 18, P' 19, si', rx, ov, sl', sb', cl', yl', yb', ya', ops, oa, ob, ve, an, so, rg, me, st, li, tk_q n', tk_d P' 0, tk_d P' 1, tk_d P' 2) → wpY_out post (len, P 13, z, c, al, sp, ha, dp, pc, nI T, pa, ta, re, ed, nI S, P 6, P 7, P 8, cv, P 10, P 12, P 14, P 16, P 18, P 19, si, rx, ov, sl, sb, cl, yl, yb, ya, ops, oa, ob, ve, an, so, rg, me, st, li, tk_q n, tk_d P 0, tk_d P 1, tk_d P 2) 5 (nI a)) := by
  exact ⟨n, ed, sb, sl, cl, yb, ya, yl, w, cv, si, upd P 5 (nI a), hn, hsl, hcl, hyb, hya, hyl, tk_3up h3 (by decide) (by decide) (by decide) (by decide) (tk_mk hA), hW, fun post hp => br_t (by decide) (br_f (by decide) ⟨(vp_in_iff.mpr (by decide)), nm_e hp⟩), fun post hp => br_f (by decide) (br_f (by decide) (br_f (by decide) (br_f (by decide) (br_f (by decide) (br_t (by decide) (⟨(by decide), (vp_in_iff.mpr (by decide)), nm_r (tk_d1 P 2 (nI a)) (br_f (by decide) (br_f (by decide) (br_f (by decide) (br_f (by decide) (br_f (by decide) (br_f (by decide) (br_f (by decide) (br_f (by decide) (br_f (by decide) (br_f (by decide) (br_f (by decide) (hp))))))))))))⟩))))))⟩
theorem ou_6 {a : Nat} (hA : a < 256) (hn : n < 512) (hsl : tk_lt 2049 sl) (hcl : tk_lt 53 cl) (hyb : tk_lt 256 yb) (hya : tk_lt 16 ya) (hyl : tk_lt 41 yl) (h3 : tk_I3 cv P) (hW : tk_W (P 14) w si) : ∃ (n' : Nat) (ed' sb' sl' cl' yb' ya' yl' w' cv' si' : Int32) (P' : Nat → Int32), n' < 512 ∧ tk_lt 2049 sl' ∧ tk_lt 53 cl' ∧ tk_lt 256 yb' ∧ tk_lt 16 ya' ∧ tk_lt 41 yl' ∧ tk_I3 cv' P' ∧ tk_W (P' 14) w' si' ∧ (∀ post : SX → Prop, post (len, pc, z, c, al, dp, sp, ha, nI T, re, ta, ed', nI n', rx, ov, sb', sl', nI S, cl', yb', ya', yl', w', ops, oa, ob, ve, rg, me, st, an, so, li, P') → wpX_writePort post (len, pc, z, c, al, dp, sp, ha, nI T, re, ta, ed, nI n, rx, ov, sb, sl, nI S, cl, yb, ya, yl, w, ops, oa, ob, ve, rg, me, st, an, so, li, P) 6 (nI a)) ∧ (∀ post : SY → Prop, post (len, P' 13, z, c, al, sp, ha, dp, pc, nI T, pa, ta, re, ed', nI S, P' 6, P' 7, P' 8, cv', P' 10, P' 12, P' 14, P' 16, P' 18, P' 19, si', rx, ov, sl', sb', cl', yl', yb', ya', ops, oa, ob, ve, an, so, rg, me, st, li, tk_q n', tk_d P' 0, tk_d P' 1, tk_d P' 2) → wpY_out post (len, P 13, z, c, al, sp, ha, dp, pc, nI T, pa, ta, re, ed, nI S, P 6, P 7, P 8, cv, P 10, P 12, P 14, P 16, P 18, P 19, si, rx, ov, sl, sb, cl, yl, yb, ya, ops, oa, ob, ve, an, so, rg, me, st, li, tk_q n, tk_d P 0, tk_d P 1, tk_d P 2) 6 (nI a)) := by
  obtain ⟨m, hm, em⟩ := h3.2.2.1 8
  have hs : 8 * (P 8 + 1) = nI (8 * (m + 1)) := by rw [em, nI_1]; exact pk_mul 8 (m + 1)
  by_cases e : sl = 0
  · exact ⟨n, ed, nI a, nI (8 * (m + 1)), cl, yb, ya, yl, w, cv, si, P, hn, tk_mk (by omega), hcl, hyb, hya, hyl, h3, hW, fun post hp => br_f (by decide) (br_f (by decide) (br_t (by decide) (br_t e (nm_r hs hp)))), fun post hp => br_f (by decide) (br_f (by decide) (br_f (by decide) (br_f (by decide) (br_f (by decide) (br_f (by decide) (br_t (by decide) (br_t e (nm_r hs (br_f (by decide) (br_f (by decide) (br_f (by decide) (br_f (by decide) (br_f (by decide) (br_f (by decide) (br_f (by decide) (br_f (by decide) (br_f (by decide) (br_f (by decide) (hp)))))))))))))))))))⟩
  · exact ⟨n, ed, sb, sl, cl, yb, ya, yl, w, cv, si, P, hn, hsl, hcl, hyb, hya, hyl, h3, hW, fun post hp => br_f (by decide) (br_f (by decide) (br_t (by decide) (br_f e hp))), fun post hp => br_f (by decide) (br_f (by decide) (br_f (by decide) (br_f (by decide) (br_f (by decide) (br_f (by decide) (br_t (by decide) (br_f e (br_f (by decide) (br_f (by decide) (br_f (by decide) (br_f (by decide) (br_f (by decide) (br_f (by decide) (br_f (by decide) (br_f (by decide) (br_f (by decide) (br_f (by decide) (hp))))))))))))))))))⟩
theorem ou_7 {a : Nat} (hA : a < 256) (hn : n < 512) (hsl : tk_lt 2049 sl) (hcl : tk_lt 53 cl) (hyb : tk_lt 256 yb) (hya : tk_lt 16 ya) (hyl : tk_lt 41 yl) (h3 : tk_I3 cv P) (hW : tk_W (P 14) w si) : ∃ (n' : Nat) (ed' sb' sl' cl' yb' ya' yl' w' cv' si' : Int32) (P' : Nat → Int32), n' < 512 ∧ tk_lt 2049 sl' ∧ tk_lt 53 cl' ∧ tk_lt 256 yb' ∧ tk_lt 16 ya' ∧ tk_lt 41 yl' ∧ tk_I3 cv' P' ∧ tk_W (P' 14) w' si' ∧ (∀ post : SX → Prop, post (len, pc, z, c, al, dp, sp, ha, nI T, re, ta, ed', nI n', rx, ov, sb', sl', nI S, cl', yb', ya', yl', w', ops, oa, ob, ve, rg, me, st, an, so, li, P') → wpX_writePort post (len, pc, z, c, al, dp, sp, ha, nI T, re, ta, ed, nI n, rx, ov, sb, sl, nI S, cl, yb, ya, yl, w, ops, oa, ob, ve, rg, me, st, an, so, li, P) 7 (nI a)) ∧ (∀ post : SY → Prop, post (len, P' 13, z, c, al, sp, ha, dp, pc, nI T, pa, ta, re, ed', nI S, P' 6, P' 7, P' 8, cv', P' 10, P' 12, P' 14, P' 16, P' 18, P' 19, si', rx, ov, sl', sb', cl', yl', yb', ya', ops, oa, ob, ve, an, so, rg, me, st, li, tk_q n', tk_d P' 0, tk_d P' 1, tk_d P' 2) → wpY_out post (len, P 13, z, c, al, sp, ha, dp, pc, nI T, pa, ta, re, ed, nI S, P 6, P 7, P 8, cv, P 10, P 12, P 14, P 16, P 18, P 19, si, rx, ov, sl, sb, cl, yl, yb, ya, ops, oa, ob, ve, an, so, rg, me, st, li, tk_q n, tk_d P 0, tk_d P 1, tk_d P 2) 7 (nI a)) := by
  have hb : tk_lt 32 (nI a &&& 24) := ⟨a / 8 % 4 * 8, by omega, tk_24 a hA⟩
  have g3 : tk_I3 cv (upd P 7 (nI a &&& 24)) := ⟨h3.1, h3.2.1, tk_upd h3.2.2.1 (tk_le hb (by decide)), hb, h3.2.2.2.2.1, h3.2.2.2.2.2⟩
  exact ⟨n, ed, sb, sl, cl, yb, ya, yl, w, cv, si, upd P 7 (nI a &&& 24), hn, hsl, hcl, hyb, hya, hyl, g3, hW, fun post hp => br_f (by decide) (br_f (by decide) (br_f (by decide) (br_t (by decide) (⟨(vp_in_iff.mpr (by decide)), nm_e hp⟩)))), fun post hp => br_f (by decide) (br_f (by decide) (br_f (by decide) (br_f (by decide) (br_f (by decide) (br_f (by decide) (br_f (by decide) (br_t (by decide) (nm_e (br_f (by decide) (br_f (by decide) (br_f (by decide) (br_f (by decide) (br_f (by decide) (br_f (by decide) (br_f (by decide) (br_f (by decide) (br_f (by decide) (hp))))))))))))))))))⟩
theorem ou_8 {a : Nat} (hA : a < 256) (hn : n < 512) (hsl : tk_lt 2049 sl) (hcl : tk_lt 53 cl) (hyb : tk_lt 256 yb) (hya : tk_lt 16 ya) (hyl : tk_lt 41 yl) (h3 : tk_I3 cv P) (hW : tk_W (P 14) w si) : ∃ (n' : Nat) (ed' sb' sl' cl' yb' ya' yl' w' cv' si' : Int32) (P' : Nat → Int32), n' < 512 ∧ tk_lt 2049 sl' ∧ tk_lt 53 cl' ∧ tk_lt 256 yb' ∧ tk_lt 16 ya' ∧ tk_lt 41 yl' ∧ tk_I3 cv' P' ∧ tk_W (P' 14) w' si' ∧ (∀ post : SX → Prop, post (len, pc, z, c, al, dp, sp, ha, nI T, re, ta, ed', nI n', rx, ov, sb', sl', nI S, cl', yb', ya', yl', w', ops, oa, ob, ve, rg, me, st, an, so, li, P') → wpX_writePort post (len, pc, z, c, al, dp, sp, ha, nI T, re, ta, ed, nI n, rx, ov, sb, sl, nI S, cl, yb, ya, yl, w, ops, oa, ob, ve, rg, me, st, an, so, li, P) 8 (nI a)) ∧ (∀ post : SY → Prop, post (len, P' 13, z, c, al, sp, ha, dp, pc, nI T, pa, ta, re, ed', nI S, P' 6, P' 7, P' 8, cv', P' 10, P' 12, P' 14, P' 16, P' 18, P' 19, si', rx, ov, sl', sb', cl', yl', yb', ya', ops, oa, ob, ve, an, so, rg, me, st, li, tk_q n', tk_d P' 0, tk_d P' 1, tk_d P' 2) → wpY_out post (len, P 13, z, c, al, sp, ha, dp, pc, nI T, pa, ta, re, ed, nI S, P 6, P 7, P 8, cv, P 10, P 12, P 14, P 16, P 18, P 19, si, rx, ov, sl, sb, cl, yl, yb, ya, ops, oa, ob, ve, an, so, rg, me, st, li, tk_q n, tk_d P 0, tk_d P 1, tk_d P 2) 8 (nI a)) := by
  exact ⟨n, ed, sb, sl, cl, yb, ya, yl, w, cv, si, upd P 8 (nI a), hn, hsl, hcl, hyb, hya, hyl, tk_3up h3 (by decide) (by decide) (by decide) (by decide) (tk_mk hA), hW, fun post hp => br_f (by decide) (br_f (by decide) (br_f (by decide) (br_f (by decide) (br_t (by decide) (br_f (by decide) ⟨(vp_in_iff.mpr (by decide)), nm_e hp⟩))))), fun post hp => br_f (by decide) (br_f (by decide) (br_f (by decide) (br_f (by decide) (br_f (by decide) (br_f (by decide) (br_f (by decide) (br_f (by decide) (br_t (by decide) (br_f (by decide) (br_f (by decide) (br_f (by decide) (br_f (by decide) (br_f (by decide) (br_f (by decide) (br_f (by decide) (br_f (by decide) (hp)))))))))))))))))⟩
theorem ou_9 {a : Nat} (hA : a < 256) (hn : n < 512) (hsl : tk_lt 2049 sl) (hcl : tk_lt 53 cl) (hyb : tk_lt 256 yb) (hya : tk_lt 16 ya) (hyl : tk_lt 41 yl) (h3 : tk_I3 cv P) (hW : tk_W (P 14) w si) : ∃ (n' : Nat) (ed' sb' sl' cl' yb' ya' yl' w' cv' si' : Int32) (P' : Nat → Int32), n' < 512 ∧ tk_lt 2049 sl' ∧ tk_lt 53 cl' ∧ tk_lt 256 yb' ∧ tk_lt 16 ya' ∧ tk_lt 41 yl' ∧ tk_I3 cv' P' ∧ tk_W (P' 14) w' si' ∧ (∀ post : SX → Prop, post (len, pc, z, c, al, dp, sp, ha, nI T, re, ta, ed', nI n', rx, ov, sb', sl', nI S, cl', yb', ya', yl', w', ops, oa, ob, ve, rg, me, st, an, so, li, P') → wpX_writePort post (len, pc, z, c, al, dp, sp, ha, nI T, re, ta, ed, nI n, rx, ov, sb, sl, nI S, cl, yb, ya, yl, w, ops, oa, ob, ve, rg, me, st, an, so, li, P) 9 (nI a)) ∧ (∀ post : SY → Prop, post (len, P' 13, z, c, al, sp, ha, dp, pc, nI T, pa, ta, re, ed', nI S, P' 6, P' 7, P' 8, cv', P' 10, P' 12, P' 14, P' 16, P' 18, P' 19, si', rx, ov, sl', sb', cl', yl', yb', ya', ops, oa, ob, ve, an, so, rg, me, st, li, tk_q n', tk_d P' 0, tk_d P' 1, tk_d P' 2) → wpY_out post (len, P 13, z, c, al, sp, ha, dp, pc, nI T, pa, ta, re, ed, nI S, P 6, P 7, P 8, cv, P 10, P 12, P 14, P 16, P 18, P 19, si, rx, ov, sl, sb, cl, yl, yb, ya, ops, oa, ob, ve, an, so, rg, me, st, li, tk_q n, tk_d P 0, tk_d P 1, tk_d P 2) 9 (nI a)) := by
  obtain ⟨m, hm, em⟩ := tk_cm4 a hA
  have g3 : tk_I3 (nI a) (upd P 9 (nI a &&& (-5))) := ⟨tk_mk hA, rfl, tk_upd h3.2.2.1 (by rw [em]; exact tk_mk (by omega)), h3.2.2.2.1, h3.2.2.2.2.1, h3.2.2.2.2.2⟩
  by_cases e : nI a &&& 4 = 0
  · exact ⟨n, ed, sb, sl, cl, yb, ya, yl, w, nI a, si, upd P 9 (nI a &&& (-5)), hn, hsl, hcl, hyb, hya, hyl, g3, hW, fun post hp => br_f (by decide) (br_f (by decide) (br_f (by decide) (br_f (by decide) (br_f (by decide) (br_t (by decide) (br_t e (nm_e hp))))))), fun post hp => br_f (by decide) (br_f (by decide) (br_f (by decide) (br_f (by decide) (br_f (by decide) (br_f (by decide) (br_f (by decide) (br_f (by decide) (br_f (by decide) (br_t (by decide) (br_t e (br_f (by decide) (br_f (by decide) (br_f (by decide) (br_f (by decide) (br_f (by decide) (br_f (by decide) (br_f (by decide) (hp))))))))))))))))))⟩
  · by_cases f : cl = 0
    · exact ⟨n, ed, sb, sl, 52, yb, ya, yl, w, nI a, si, upd P 9 (nI a &&& (-5)), hn, hsl, ⟨52, by decide, rfl⟩, hyb, hya, hyl, g3, hW, fun post hp => br_f (by decide) (br_f (by decide) (br_f (by decide) (br_f (by decide) (br_f (by decide) (br_t (by decide) (br_f e (br_t f (nm_e hp)))))))), fun post hp => br_f (by decide) (br_f (by decide) (br_f (by decide) (br_f (by decide) (br_f (by decide) (br_f (by decide) (br_f (by decide) (br_f (by decide) (br_f (by decide) (br_t (by decide) (br_f e (br_t f (br_f (by decide) (br_f (by decide) (br_f (by decide) (br_f (by decide) (br_f (by decide) (br_f (by decide) (br_f (by decide) (hp)))))))))))))))))))⟩
    · exact ⟨n, ed, sb, sl, cl, yb, ya, yl, w, nI a, si, upd P 9 (nI a &&& (-5)), hn, hsl, hcl, hyb, hya, hyl, g3, hW, fun post hp => br_f (by decide) (br_f (by decide) (br_f (by decide) (br_f (by decide) (br_f (by decide) (br_t (by decide) (br_f e (br_f f (nm_e hp)))))))), fun post hp => br_f (by decide) (br_f (by decide) (br_f (by decide) (br_f (by decide) (br_f (by decide) (br_f (by decide) (br_f (by decide) (br_f (by decide) (br_f (by decide) (br_t (by decide) (br_f e (br_f f (br_f (by decide) (br_f (by decide) (br_f (by decide) (br_f (by decide) (br_f (by decide) (br_f (by decide) (br_f (by decide) (hp)))))))))))))))))))⟩
theorem ou_10 {a : Nat} (hA : a < 256) (hn : n < 512) (hsl : tk_lt 2049 sl) (hcl : tk_lt 53 cl) (hyb : tk_lt 256 yb) (hya : tk_lt 16 ya) (hyl : tk_lt 41 yl) (h3 : tk_I3 cv P) (hW : tk_W (P 14) w si) : ∃ (n' : Nat) (ed' sb' sl' cl' yb' ya' yl' w' cv' si' : Int32) (P' : Nat → Int32), n' < 512 ∧ tk_lt 2049 sl' ∧ tk_lt 53 cl' ∧ tk_lt 256 yb' ∧ tk_lt 16 ya' ∧ tk_lt 41 yl' ∧ tk_I3 cv' P' ∧ tk_W (P' 14) w' si' ∧ (∀ post : SX → Prop, post (len, pc, z, c, al, dp, sp, ha, nI T, re, ta, ed', nI n', rx, ov, sb', sl', nI S, cl', yb', ya', yl', w', ops, oa, ob, ve, rg, me, st, an, so, li, P') → wpX_writePort post (len, pc, z, c, al, dp, sp, ha, nI T, re, ta, ed, nI n, rx, ov, sb, sl, nI S, cl, yb, ya, yl, w, ops, oa, ob, ve, rg, me, st, an, so, li, P) 10 (nI a)) ∧ (∀ post : SY → Prop, post (len, P' 13, z, c, al, sp, ha, dp, pc, nI T, pa, ta, re, ed', nI S, P' 6, P' 7, P' 8, cv', P' 10, P' 12, P' 14, P' 16, P' 18, P' 19, si', rx, ov, sl', sb', cl', yl', yb', ya', ops, oa, ob, ve, an, so, rg, me, st, li, tk_q n', tk_d P' 0, tk_d P' 1, tk_d P' 2) → wpY_out post (len, P 13, z, c, al, sp, ha, dp, pc, nI T, pa, ta, re, ed, nI S, P 6, P 7, P 8, cv, P 10, P 12, P 14, P 16, P 18, P 19, si, rx, ov, sl, sb, cl, yl, yb, ya, ops, oa, ob, ve, an, so, rg, me, st, li, tk_q n, tk_d P 0, tk_d P 1, tk_d P 2) 10 (nI a)) := by
  exact ⟨n, ed, sb, sl, cl, yb, ya, yl, w, cv, si, P, hn, hsl, hcl, hyb, hya, hyl, h3, hW, fun post hp => br_f (by decide) (br_f (by decide) (br_f (by decide) (br_f (by decide) (br_f (by decide) (br_f (by decide) (br_t (by decide) (hp))))))), fun post hp => br_f (by decide) (br_f (by decide) (br_f (by decide) (br_f (by decide) (br_f (by decide) (br_f (by decide) (br_f (by decide) (br_f (by decide) (br_f (by decide) (br_f (by decide) (br_f (by decide) (br_f (by decide) (br_f (by decide) (br_f (by decide) (br_f (by decide) (br_f (by decide) (br_f (by decide) (hp)))))))))))))))))⟩
theorem ou_11 {a : Nat} (hA : a < 256) (hn : n < 512) (hsl : tk_lt 2049 sl) (hcl : tk_lt 53 cl) (hyb : tk_lt 256 yb) (hya : tk_lt 16 ya) (hyl : tk_lt 41 yl) (h3 : tk_I3 cv P) (hW : tk_W (P 14) w si) : ∃ (n' : Nat) (ed' sb' sl' cl' yb' ya' yl' w' cv' si' : Int32) (P' : Nat → Int32), n' < 512 ∧ tk_lt 2049 sl' ∧ tk_lt 53 cl' ∧ tk_lt 256 yb' ∧ tk_lt 16 ya' ∧ tk_lt 41 yl' ∧ tk_I3 cv' P' ∧ tk_W (P' 14) w' si' ∧ (∀ post : SX → Prop, post (len, pc, z, c, al, dp, sp, ha, nI T, re, ta, ed', nI n', rx, ov, sb', sl', nI S, cl', yb', ya', yl', w', ops, oa, ob, ve, rg, me, st, an, so, li, P') → wpX_writePort post (len, pc, z, c, al, dp, sp, ha, nI T, re, ta, ed, nI n, rx, ov, sb, sl, nI S, cl, yb, ya, yl, w, ops, oa, ob, ve, rg, me, st, an, so, li, P) 11 (nI a)) ∧ (∀ post : SY → Prop, post (len, P' 13, z, c, al, sp, ha, dp, pc, nI T, pa, ta, re, ed', nI S, P' 6, P' 7, P' 8, cv', P' 10, P' 12, P' 14, P' 16, P' 18, P' 19, si', rx, ov, sl', sb', cl', yl', yb', ya', ops, oa, ob, ve, an, so, rg, me, st, li, tk_q n', tk_d P' 0, tk_d P' 1, tk_d P' 2) → wpY_out post (len, P 13, z, c, al, sp, ha, dp, pc, nI T, pa, ta, re, ed, nI S, P 6, P 7, P 8, cv, P 10, P 12, P 14, P 16, P 18, P 19, si, rx, ov, sl, sb, cl, yl, yb, ya, ops, oa, ob, ve, an, so, rg, me, st, li, tk_q n, tk_d P 0, tk_d P 1, tk_d P 2) 11 (nI a)) := by
  refine ⟨n &&& (511 - a), ed, sb, sl, cl, yb, ya, yl, w, cv, si, P, tk_clrlt hn, hsl, hcl, hyb, hya, hyl, h3, hW, fun post hp => br_f (by decide) (br_f (by decide) (br_f (by decide) (br_f (by decide) (br_f (by decide) (br_f (by decide) (br_f (by decide) (br_t (by decide) (nm_r (tk_clrV hn hA) hp)))))))), fun post hp => br_f (by decide) (br_f (by decide) (br_f (by decide) (br_f (by decide) (br_f (by decide) (br_f (by decide) (br_f (by decide) (br_f (by decide) (br_f (by decide) (br_f (by decide) (br_t (by decide) (?_)))))))))))⟩
  have := ou_loop (n := n) (T := T) (S := S) (len := len) (pc := pc) (z := z) (c := c) (al := al) (dp := dp) (sp := sp) (ha := ha) (re := re) (ta := ta) (ed := ed) (rx := rx) (ov := ov) (sb := sb) (sl := sl) (cl := cl) (yb := yb) (ya := ya) (yl := yl) (pa := pa) (cv := cv) (si := si) (ops := ops) (oa := oa) (ob := ob) (ve := ve) (rg := rg) (me := me) (st := st) (an := an) (so := so) (li := li) (P := P) hA hn 11 post (br_f (by decide) (br_f (by decide) (br_f (by decide) (br_f (by decide) (br_f (by decide) (br_f (by decide) (hp))))))) 8 0 rfl
  rw [tk_ci0] at this
  exact ⟨9, this⟩
theorem ou_12 {a : Nat} (hA : a < 256) (hn : n < 512) (hsl : tk_lt 2049 sl) (hcl : tk_lt 53 cl) (hyb : tk_lt 256 yb) (hya : tk_lt 16 ya) (hyl : tk_lt 41 yl) (h3 : tk_I3 cv P) (hW : tk_W (P 14) w si) : ∃ (n' : Nat) (ed' sb' sl' cl' yb' ya' yl' w' cv' si' : Int32) (P' : Nat → Int32), n' < 512 ∧ tk_lt 2049 sl' ∧ tk_lt 53 cl' ∧ tk_lt 256 yb' ∧ tk_lt 16 ya' ∧ tk_lt 41 yl' ∧ tk_I3 cv' P' ∧ tk_W (P' 14) w' si' ∧ (∀ post : SX → Prop, post (len, pc, z, c, al, dp, sp, ha, nI T, re, ta, ed', nI n', rx, ov, sb', sl', nI S, cl', yb', ya', yl', w', ops, oa, ob, ve, rg, me, st, an, so, li, P') → wpX_writePort post (len, pc, z, c, al, dp, sp, ha, nI T, re, ta, ed, nI n, rx, ov, sb, sl, nI S, cl, yb, ya, yl, w, ops, oa, ob, ve, rg, me, st, an, so, li, P) 12 (nI a)) ∧ (∀ post : SY → Prop, post (len, P' 13, z, c, al, sp, ha, dp, pc, nI T, pa, ta, re, ed', nI S, P' 6, P' 7, P' 8, cv', P' 10, P' 12, P' 14, P' 16, P' 18, P' 19, si', rx, ov, sl', sb', cl', yl', yb', ya', ops, oa, ob, ve, an, so, rg, me, st, li, tk_q n', tk_d P' 0, tk_d P' 1, tk_d P' 2) → wpY_out post (len, P 13, z, c, al, sp, ha, dp, pc, nI T, pa, ta, re, ed, nI S, P 6, P 7, P 8, cv, P 10, P 12, P 14, P 16, P 18, P 19, si, rx, ov, sl, sb, cl, yl, yb, ya, ops, oa, ob, ve, an, so, rg, me, st, li, tk_q n, tk_d P 0, tk_d P 1, tk_d P 2) 12 (nI a)) := by
  obtain ⟨b, hb, eb⟩ := h3.2.2.1 12
  obtain ⟨ed', hX, hY⟩ := sh_pins (n := n) (T := T) (S := S) (len := len) (pc := pc) (z := z) (c := c) (al := al) (dp := dp) (sp := sp) (ha := ha) (re := re) (ta := ta) (ed := ed) (rx := rx) (ov := ov) (sb := sb) (sl := sl) (cl := cl) (yb := yb) (ya := ya) (yl := yl) (w := w) (pa := pa) (cv := cv) (si := si) (ops := ops) (oa := oa) (ob := ob) (ve := ve) (rg := rg) (me := me) (st := st) (an := an) (so := so) (li := li) (P := P) hb hA eb
  refine ⟨n, ed', sb, sl, cl, yb, ya, yl, w, cv, si, upd P 12 (nI a), hn, hsl, hcl, hyb, hya, hyl, tk_3up h3 (by decide) (by decide) (by decide) (by decide) (tk_mk hA), hW, fun post hp => br_f (by decide) (br_f (by decide) (br_f (by decide) (br_f (by decide) (br_f (by decide) (br_f (by decide) (br_f (by decide) (br_f (by decide) (br_t (by decide) (?_))))))))), fun post hp => br_f (by decide) (br_f (by decide) (br_f (by decide) (br_f (by decide) (br_f (by decide) (br_f (by decide) (br_f (by decide) (br_f (by decide) (br_f (by decide) (br_f (by decide) (br_f (by decide) (br_t (by decide) (?_))))))))))))⟩
  · exact hX _ hp
  · exact hY _ (br_f (by decide) (br_f (by decide) (br_f (by decide) (br_f (by decide) (br_f (by decide) (hp))))))
theorem ou_13 {a : Nat} (hA : a < 256) (hn : n < 512) (hsl : tk_lt 2049 sl) (hcl : tk_lt 53 cl) (hyb : tk_lt 256 yb) (hya : tk_lt 16 ya) (hyl : tk_lt 41 yl) (h3 : tk_I3 cv P) (hW : tk_W (P 14) w si) : ∃ (n' : Nat) (ed' sb' sl' cl' yb' ya' yl' w' cv' si' : Int32) (P' : Nat → Int32), n' < 512 ∧ tk_lt 2049 sl' ∧ tk_lt 53 cl' ∧ tk_lt 256 yb' ∧ tk_lt 16 ya' ∧ tk_lt 41 yl' ∧ tk_I3 cv' P' ∧ tk_W (P' 14) w' si' ∧ (∀ post : SX → Prop, post (len, pc, z, c, al, dp, sp, ha, nI T, re, ta, ed', nI n', rx, ov, sb', sl', nI S, cl', yb', ya', yl', w', ops, oa, ob, ve, rg, me, st, an, so, li, P') → wpX_writePort post (len, pc, z, c, al, dp, sp, ha, nI T, re, ta, ed, nI n, rx, ov, sb, sl, nI S, cl, yb, ya, yl, w, ops, oa, ob, ve, rg, me, st, an, so, li, P) 13 (nI a)) ∧ (∀ post : SY → Prop, post (len, P' 13, z, c, al, sp, ha, dp, pc, nI T, pa, ta, re, ed', nI S, P' 6, P' 7, P' 8, cv', P' 10, P' 12, P' 14, P' 16, P' 18, P' 19, si', rx, ov, sl', sb', cl', yl', yb', ya', ops, oa, ob, ve, an, so, rg, me, st, li, tk_q n', tk_d P' 0, tk_d P' 1, tk_d P' 2) → wpY_out post (len, P 13, z, c, al, sp, ha, dp, pc, nI T, pa, ta, re, ed, nI S, P 6, P 7, P 8, cv, P 10, P 12, P 14, P 16, P 18, P 19, si, rx, ov, sl, sb, cl, yl, yb, ya, ops, oa, ob, ve, an, so, rg, me, st, li, tk_q n, tk_d P 0, tk_d P 1, tk_d P 2) 13 (nI a)) := by
  exact ⟨n, ed, sb, sl, cl, yb, ya, yl, w, cv, si, P, hn, hsl, hcl, hyb, hya, hyl, h3, hW, fun post hp => br_f (by decide) (br_f (by decide) (br_f (by decide) (br_f (by decide) (br_f (by decide) (br_f (by decide) (br_f (by decide) (br_f (by decide) (br_f (by decide) (br_t (by decide) (hp)))))))))), fun post hp => br_f (by decide) (br_f (by decide) (br_f (by decide) (br_f (by decide) (br_f (by decide) (br_f (by decide) (br_f (by decide) (br_f (by decide) (br_f (by decide) (br_f (by decide) (br_f (by decide) (br_f (by decide) (br_f (by decide) (br_f (by decide) (br_f (by decide) (br_f (by decide) (br_f (by decide) (hp)))))))))))))))))⟩
theorem ou_14 {a : Nat} (hA : a < 256) (hn : n < 512) (hsl : tk_lt 2049 sl) (hcl : tk_lt 53 cl) (hyb : tk_lt 256 yb) (hya : tk_lt 16 ya) (hyl : tk_lt 41 yl) (h3 : tk_I3 cv P) (hW : tk_W (P 14) w si) : ∃ (n' : Nat) (ed' sb' sl' cl' yb' ya' yl' w' cv' si' : Int32) (P' : Nat → Int32), n' < 512 ∧ tk_lt 2049 sl' ∧ tk_lt 53 cl' ∧ tk_lt 256 yb' ∧ tk_lt 16 ya' ∧ tk_lt 41 yl' ∧ tk_I3 cv' P' ∧ tk_W (P' 14) w' si' ∧ (∀ post : SX → Prop, post (len, pc, z, c, al, dp, sp, ha, nI T, re, ta, ed', nI n', rx, ov, sb', sl', nI S, cl', yb', ya', yl', w', ops, oa, ob, ve, rg, me, st, an, so, li, P') → wpX_writePort post (len, pc, z, c, al, dp, sp, ha, nI T, re, ta, ed, nI n, rx, ov, sb, sl, nI S, cl, yb, ya, yl, w, ops, oa, ob, ve, rg, me, st, an, so, li, P) 14 (nI a)) ∧ (∀ post : SY → Prop, post (len, P' 13, z, c, al, sp, ha, dp, pc, nI T, pa, ta, re, ed', nI S, P' 6, P' 7, P' 8, cv', P' 10, P' 12, P' 14, P' 16, P' 18, P' 19, si', rx, ov, sl', sb', cl', yl', yb', ya', ops, oa, ob, ve, an, so, rg, me, st, li, tk_q n', tk_d P' 0, tk_d P' 1, tk_d P' 2) → wpY_out post (len, P 13, z, c, al, sp, ha, dp, pc, nI T, pa, ta, re, ed, nI S, P 6, P 7, P 8, cv, P 10, P 12, P 14, P 16, P 18, P 19, si, rx, ov, sl, sb, cl, yl, yb, ya, ops, oa, ob, ve, an, so, rg, me, st, li, tk_q n, tk_d P 0, tk_d P 1, tk_d P 2) 14 (nI a)) := by
  have g3 : tk_I3 cv (upd P 14 (nI a)) := tk_3up h3 (by decide) (by decide) (by decide) (by decide) (tk_mk hA)
  have gW : tk_W (nI a) 0 0 := by
    obtain ⟨L, hL, eL⟩ := tk_7 (nI a)
    rcases (by omega : L = 0 ∨ 0 < L) with z | z
    · exact Or.inl (by rw [eL, z]; rfl)
    · exact Or.inr ⟨rfl, L, 0, z, hL, eL, Nat.two_pow_pos _, rfl⟩
  exact ⟨n, ed, sb, sl, cl, yb, ya, yl, 0, cv, 0, upd P 14 (nI a), hn, hsl, hcl, hyb, hya, hyl, g3, gW, fun post hp => br_f (by decide) (br_f (by decide) (br_f (by decide) (br_f (by decide) (br_f (by decide) (br_f (by decide) (br_f (by decide) (br_f (by decide) (br_f (by decide) (br_f (by decide) (br_t (by decide) (⟨(vp_in_iff.mpr (by decide)), nm_e hp⟩))))))))))), fun post hp => br_f (by decide) (br_f (by decide) (br_f (by decide) (br_f (by decide) (br_f (by decide) (br_f (by decide) (br_f (by decide) (br_f (by decide) (br_f (by decide) (br_f (by decide) (br_f (by decide) (br_f (by decide) (br_t (by decide) (br_f (by decide) (br_f (by decide) (br_f (by decide) (br_f (by decide) (hp)))))))))))))))))⟩
theorem ou_15 {a : Nat} (hA : a < 256) (hn : n < 512) (hsl : tk_lt 2049 sl) (hcl : tk_lt 53 cl) (hyb : tk_lt 256 yb) (hya : tk_lt 16 ya) (hyl : tk_lt 41 yl) (h3 : tk_I3 cv P) (hW : tk_W (P 14) w si) : ∃ (n' : Nat) (ed' sb' sl' cl' yb' ya' yl' w' cv' si' : Int32) (P' : Nat → Int32), n' < 512 ∧ tk_lt 2049 sl' ∧ tk_lt 53 cl' ∧ tk_lt 256 yb' ∧ tk_lt 16 ya' ∧ tk_lt 41 yl' ∧ tk_I3 cv' P' ∧ tk_W (P' 14) w' si' ∧ (∀ post : SX → Prop, post (len, pc, z, c, al, dp, sp, ha, nI T, re, ta, ed', nI n', rx, ov, sb', sl', nI S, cl', yb', ya', yl', w', ops, oa, ob, ve, rg, me, st, an, so, li, P') → wpX_writePort post (len, pc, z, c, al, dp, sp, ha, nI T, re, ta, ed, nI n, rx, ov, sb, sl, nI S, cl, yb, ya, yl, w, ops, oa, ob, ve, rg, me, st, an, so, li, P) 15 (nI a)) ∧ (∀ post : SY → Prop, post (len, P' 13, z, c, al, sp, ha, dp, pc, nI T, pa, ta, re, ed', nI S, P' 6, P' 7, P' 8, cv', P' 10, P' 12, P' 14, P' 16, P' 18, P' 19, si', rx, ov, sl', sb', cl', yl', yb', ya', ops, oa, ob, ve, an, so, rg, me, st, li, tk_q n', tk_d P' 0, tk_d P' 1, tk_d P' 2) → wpY_out post (len, P 13, z, c, al, sp, ha, dp, pc, nI T, pa, ta, re, ed, nI S, P 6, P 7, P 8, cv, P 10, P 12, P 14, P 16, P 18, P 19, si, rx, ov, sl, sb, cl, yl, yb, ya, ops, oa, ob, ve, an, so, rg, me, st, li, tk_q n, tk_d P 0, tk_d P 1, tk_d P 2) 15 (nI a)) := by
  exact ⟨n, ed, sb, sl, cl, yb, ya, yl, w, cv, si, P, hn, hsl, hcl, hyb, hya, hyl, h3, hW, fun post hp => br_f (by decide) (br_f (by decide) (br_f (by decide) (br_f (by decide) (br_f (by decide) (br_f (by decide) (br_f (by decide) (br_f (by decide) (br_f (by decide) (br_f (by decide) (br_f (by decide) (br_t (by decide) (hp)))))))))))), fun post hp => br_f (by decide) (br_f (by decide) (br_f (by decide) (br_f (by decide) (br_f (by decide) (br_f (by decide) (br_f (by decide) (br_f (by decide) (br_f (by decide) (br_f (by decide) (br_f (by decide) (br_f (by decide) (br_f (by decide) (br_f (by decide) (br_f (by decide) (br_f (by decide) (br_f (by decide) (hp)))))))))))))))))⟩
theorem ou_16 {a : Nat} (hA : a < 256) (hn : n < 512) (hsl : tk_lt 2049 sl) (hcl : tk_lt 53 cl) (hyb : tk_lt 256 yb) (hya : tk_lt 16 ya) (hyl : tk_lt 41 yl) (h3 : tk_I3 cv P) (hW : tk_W (P 14) w si) : ∃ (n' : Nat) (ed' sb' sl' cl' yb' ya' yl' w' cv' si' : Int32) (P' : Nat → Int32), n' < 512 ∧ tk_lt 2049 sl' ∧ tk_lt 53 cl' ∧ tk_lt 256 yb' ∧ tk_lt 16 ya' ∧ tk_lt 41 yl' ∧ tk_I3 cv' P' ∧ tk_W (P' 14) w' si' ∧ (∀ post : SX → Prop, post (len, pc, z, c, al, dp, sp, ha, nI T, re, ta, ed', nI n', rx, ov, sb', sl', nI S, cl', yb', ya', yl', w', ops, oa, ob, ve, rg, me, st, an, so, li, P') → wpX_writePort post (len, pc, z, c, al, dp, sp, ha, nI T, re, ta, ed, nI n, rx, ov, sb, sl, nI S, cl, yb, ya, yl, w, ops, oa, ob, ve, rg, me, st, an, so, li, P) 16 (nI a)) ∧ (∀ post : SY → Prop, post (len, P' 13, z, c, al, sp, ha, dp, pc, nI T, pa, ta, re, ed', nI S, P' 6, P' 7, P' 8, cv', P' 10, P' 12, P' 14, P' 16, P' 18, P' 19, si', rx, ov, sl', sb', cl', yl', yb', ya', ops, oa, ob, ve, an, so, rg, me, st, li, tk_q n', tk_d P' 0, tk_d P' 1, tk_d P' 2) → wpY_out post (len, P 13, z, c, al, sp, ha, dp, pc, nI T, pa, ta, re, ed, nI S, P 6, P 7, P 8, cv, P 10, P 12, P 14, P 16, P 18, P 19, si, rx, ov, sl, sb, cl, yl, yb, ya, ops, oa, ob, ve, an, so, rg, me, st, li, tk_q n, tk_d P 0, tk_d P 1, tk_d P 2) 16 (nI a)) := by
  have hb : tk_lt 16 (nI a &&& 15) := ⟨a % 16, by omega, tk_15 a hA⟩
  have g3 : tk_I3 cv (upd P 16 (nI a &&& 15)) := ⟨h3.1, h3.2.1, tk_upd h3.2.2.1 (tk_le hb (by decide)), h3.2.2.2.1, hb, h3.2.2.2.2.2⟩
  exact ⟨n, ed, sb, sl, cl, yb, ya, yl, w, cv, si, upd P 16 (nI a &&& 15), hn, hsl, hcl, hyb, hya, hyl, g3, hW, fun post hp => br_f (by decide) (br_f (by decide) (br_f (by decide) (br_f (by decide) (br_f (by decide) (br_f (by decide) (br_f (by decide) (br_f (by decide) (br_f (by decide) (br_f (by decide) (br_f (by decide) (br_f (by decide) (br_t (by decide) (⟨(vp_in_iff.mpr (by decide)), nm_e hp⟩))))))))))))), fun post hp => br_f (by decide) (br_f (by decide) (br_f (by decide) (br_f (by decide) (br_f (by decide) (br_f (by decide) (br_f (by decide) (br_f (by decide) (br_f (by decide) (br_f (by decide) (br_f (by decide) (br_f (by decide) (br_f (by decide) (br_t (by decide) (nm_e (br_f (by decide) (br_f (by decide) (br_f (by decide) (hp))))))))))))))))))⟩
theorem ou_17 {a : Nat} (hA : a < 256) (hn : n < 512) (hsl : tk_lt 2049 sl) (hcl : tk_lt 53 cl) (hyb : tk_lt 256 yb) (hya : tk_lt 16 ya) (hyl : tk_lt 41 yl) (h3 : tk_I3 cv P) (hW : tk_W (P 14) w si) : ∃ (n' : Nat) (ed' sb' sl' cl' yb' ya' yl' w' cv' si' : Int32) (P' : Nat → Int32), n' < 512 ∧ tk_lt 2049 sl' ∧ tk_lt 53 cl' ∧ tk_lt 256 yb' ∧ tk_lt 16 ya' ∧ tk_lt 41 yl' ∧ tk_I3 cv' P' ∧ tk_W (P' 14) w' si' ∧ (∀ post : SX → Prop, post (len, pc, z, c, al, dp, sp, ha, nI T, re, ta, ed', nI n', rx, ov, sb', sl', nI S, cl', yb', ya', yl', w', ops, oa, ob, ve, rg, me, st, an, so, li, P') → wpX_writePort post (len, pc, z, c, al, dp, sp, ha, nI T, re, ta, ed, nI n, rx, ov, sb, sl, nI S, cl, yb, ya, yl, w, ops, oa, ob, ve, rg, me, st, an, so, li, P) 17 (nI a)) ∧ (∀ post : SY → Prop, post (len, P' 13, z, c, al, sp, ha, dp, pc, nI T, pa, ta, re, ed', nI S, P' 6, P' 7, P' 8, cv', P' 10, P' 12, P' 14, P' 16, P' 18, P' 19, si', rx, ov, sl', sb', cl', yl', yb', ya', ops, oa, ob, ve, an, so, rg, me, st, li, tk_q n', tk_d P' 0, tk_d P' 1, tk_d P' 2) → wpY_out post (len, P 13, z, c, al, sp, ha, dp, pc, nI T, pa, ta, re, ed, nI S, P 6, P 7, P 8, cv, P 10, P 12, P 14, P 16, P 18, P 19, si, rx, ov, sl, sb, cl, yl, yb, ya, ops, oa, ob, ve, an, so, rg, me, st, li, tk_q n, tk_d P 0, tk_d P 1, tk_d P 2) 17 (nI a)) := by
  by_cases e : yl = 0
  · exact ⟨n, ed, sb, sl, cl, nI a, P 16, 40, w, cv, si, P, hn, hsl, hcl, tk_mk hA, h3.2.2.2.2.1, ⟨40, by decide, rfl⟩, h3, hW, fun post hp => br_f (by decide) (br_f (by decide) (br_f (by decide) (br_f (by decide) (br_f (by decide) (br_f (by decide) (br_f (by decide) (br_f (by decide) (br_f (by decide) (br_f (by decide) (br_f (by decide) (br_f (by decide) (br_f (by decide) (br_t (by decide) (br_t e (nm_e hp))))))))))))))), fun post hp => br_f (by decide) (br_f (by decide) (br_f (by decide) (br_f (by decide) (br_f (by decide) (br_f (by decide) (br_f (by decide) (br_f (by decide) (br_f (by decide) (br_f (by decide) (br_f (by decide) (br_f (by decide) (br_f (by decide) (br_f (by decide) (br_t (by decide) (br_t e (br_f (by decide) (br_f (by decide) (hp))))))))))))))))))⟩
  · exact ⟨n, ed, sb, sl, cl, yb, ya, yl, w, cv, si, P, hn, hsl, hcl, hyb, hya, hyl, h3, hW, fun post hp => br_f (by decide) (br_f (by decide) (br_f (by decide) (br_f (by decide) (br_f (by decide) (br_f (by decide) (br_f (by decide) (br_f (by decide) (br_f (by decide) (br_f (by decide) (br_f (by decide) (br_f (by decide) (br_f (by decide) (br_t (by decide) (br_f e hp)))))))))))))), fun post hp => br_f (by decide) (br_f (by decide) (br_f (by decide) (br_f (by decide) (br_f (by decide) (br_f (by decide) (br_f (by decide) (br_f (by decide) (br_f (by decide) (br_f (by decide) (br_f (by decide) (br_f (by decide) (br_f (by decide) (br_f (by decide) (br_t (by decide) (br_f e (br_f (by decide) (br_f (by decide) (hp))))))))))))))))))⟩
theorem ou_18 {a : Nat} (hA : a < 256) (hn : n < 512) (hsl : tk_lt 2049 sl) (hcl : tk_lt 53 cl) (hyb : tk_lt 256 yb) (hya : tk_lt 16 ya) (hyl : tk_lt 41 yl) (h3 : tk_I3 cv P) (hW : tk_W (P 14) w si) : ∃ (n' : Nat) (ed' sb' sl' cl' yb' ya' yl' w' cv' si' : Int32) (P' : Nat → Int32), n' < 512 ∧ tk_lt 2049 sl' ∧ tk_lt 53 cl' ∧ tk_lt 256 yb' ∧ tk_lt 16 ya' ∧ tk_lt 41 yl' ∧ tk_I3 cv' P' ∧ tk_W (P' 14) w' si' ∧ (∀ post : SX → Prop, post (len, pc, z, c, al, dp, sp, ha, nI T, re, ta, ed', nI n', rx, ov, sb', sl', nI S, cl', yb', ya', yl', w', ops, oa, ob, ve, rg, me, st, an, so, li, P') → wpX_writePort post (len, pc, z, c, al, dp, sp, ha, nI T, re, ta, ed, nI n, rx, ov, sb, sl, nI S, cl, yb, ya, yl, w, ops, oa, ob, ve, rg, me, st, an, so, li, P) 18 (nI a)) ∧ (∀ post : SY → Prop, post (len, P' 13, z, c, al, sp, ha, dp, pc, nI T, pa, ta, re, ed', nI S, P' 6, P' 7, P' 8, cv', P' 10, P' 12, P' 14, P' 16, P' 18, P' 19, si', rx, ov, sl', sb', cl', yl', yb', ya', ops, oa, ob, ve, an, so, rg, me, st, li, tk_q n', tk_d P' 0, tk_d P' 1, tk_d P' 2) → wpY_out post (len, P 13, z, c, al, sp, ha, dp, pc, nI T, pa, ta, re, ed, nI S, P 6, P 7, P 8, cv, P 10, P 12, P 14, P 16, P 18, P 19, si, rx, ov, sl, sb, cl, yl, yb, ya, ops, oa, ob, ve, an, so, rg, me, st, li, tk_q n, tk_d P 0, tk_d P 1, tk_d P 2) 18 (nI a)) := by
  have hb : tk_lt 16 (nI a &&& 8) := ⟨a / 8 % 2 * 8, by omega, tk_a8 a hA⟩
  have g3 : tk_I3 cv (upd P 18 (nI a &&& 8)) := ⟨h3.1, h3.2.1, tk_upd h3.2.2.1 (tk_le hb (by decide)), h3.2.2.2.1, h3.2.2.2.2.1, hb⟩
  exact ⟨n, ed, sb, sl, cl, yb, ya, yl, w, cv, si, upd P 18 (nI a &&& 8), hn, hsl, hcl, hyb, hya, hyl, g3, hW, fun post hp => br_f (by decide) (br_f (by decide) (br_f (by decide) (br_f (by decide) (br_f (by decide) (br_f (by decide) (br_f (by decide) (br_f (by decide) (br_f (by decide) (br_f (by decide) (br_f (by decide) (br_f (by decide) (br_f (by decide) (br_f (by decide) (br_t (by decide) (⟨(vp_in_iff.mpr (by decide)), nm_e hp⟩))))))))))))))), fun post hp => br_f (by decide) (br_f (by decide) (br_f (by decide) (br_f (by decide) (br_f (by decide) (br_f (by decide) (br_f (by decide) (br_f (by decide) (br_f (by decide) (br_f (by decide) (br_f (by decide) (br_f (by decide) (br_f (by decide) (br_f (by decide) (br_f (by decide) (br_t (by decide) (nm_e (br_f (by decide) (hp))))))))))))))))))⟩
theorem ou_19 {a : Nat} (hA : a < 256) (hn : n < 512) (hsl : tk_lt 2049 sl) (hcl : tk_lt 53 cl) (hyb : tk_lt 256 yb) (hya : tk_lt 16 ya) (hyl : tk_lt 41 yl) (h3 : tk_I3 cv P) (hW : tk_W (P 14) w si) : ∃ (n' : Nat) (ed' sb' sl' cl' yb' ya' yl' w' cv' si' : Int32) (P' : Nat → Int32), n' < 512 ∧ tk_lt 2049 sl' ∧ tk_lt 53 cl' ∧ tk_lt 256 yb' ∧ tk_lt 16 ya' ∧ tk_lt 41 yl' ∧ tk_I3 cv' P' ∧ tk_W (P' 14) w' si' ∧ (∀ post : SX → Prop, post (len, pc, z, c, al, dp, sp, ha, nI T, re, ta, ed', nI n', rx, ov, sb', sl', nI S, cl', yb', ya', yl', w', ops, oa, ob, ve, rg, me, st, an, so, li, P') → wpX_writePort post (len, pc, z, c, al, dp, sp, ha, nI T, re, ta, ed, nI n, rx, ov, sb, sl, nI S, cl, yb, ya, yl, w, ops, oa, ob, ve, rg, me, st, an, so, li, P) 19 (nI a)) ∧ (∀ post : SY → Prop, post (len, P' 13, z, c, al, sp, ha, dp, pc, nI T, pa, ta, re, ed', nI S, P' 6, P' 7, P' 8, cv', P' 10, P' 12, P' 14, P' 16, P' 18, P' 19, si', rx, ov, sl', sb', cl', yl', yb', ya', ops, oa, ob, ve, an, so, rg, me, st, li, tk_q n', tk_d P' 0, tk_d P' 1, tk_d P' 2) → wpY_out post (len, P 13, z, c, al, sp, ha, dp, pc, nI T, pa, ta, re, ed, nI S, P 6, P 7, P 8, cv, P 10, P 12, P 14, P 16, P 18, P 19, si, rx, ov, sl, sb, cl, yl, yb, ya, ops, oa, ob, ve, an, so, rg, me, st, li, tk_q n, tk_d P 0, tk_d P 1, tk_d P 2) 19 (nI a)) := by
  exact ⟨n, ed, sb, sl, cl, yb, ya, yl, w, cv, si, upd P 19 (nI a), hn, hsl, hcl, hyb, hya, hyl, tk_3up h3 (by decide) (by decide) (by decide) (by decide) (tk_mk hA), hW, fun post hp => br_f (by decide) (br_t (by decide) (br_f (by decide) ⟨(vp_in_iff.mpr (by decide)), nm_e hp⟩)), fun post hp => br_f (by decide) (br_f (by decide) (br_f (by decide) (br_f (by decide) (br_f (by decide) (br_f (by decide) (br_f (by decide) (br_f (by decide) (br_f (by decide) (br_f (by decide) (br_f (by decide) (br_f (by decide) (br_f (by decide) (br_f (by decide) (br_f (by decide) (br_f (by decide) (br_t (by decide) (hp)))))))))))))))))⟩
theorem ou_20 {a : Nat} (hA : a < 256) (hn : n < 512) (hsl : tk_lt 2049 sl) (hcl : tk_lt 53 cl) (hyb : tk_lt 256 yb) (hya : tk_lt 16 ya) (hyl : tk_lt 41 yl) (h3 : tk_I3 cv P) (hW : tk_W (P 14) w si) : ∃ (n' : Nat) (ed' sb' sl' cl' yb' ya' yl' w' cv' si' : Int32) (P' : Nat → Int32), n' < 512 ∧ tk_lt 2049 sl' ∧ tk_lt 53 cl' ∧ tk_lt 256 yb' ∧ tk_lt 16 ya' ∧ tk_lt 41 yl' ∧ tk_I3 cv' P' ∧ tk_W (P' 14) w' si' ∧ (∀ post : SX → Prop, post (len, pc, z, c, al, dp, sp, ha, nI T, re, ta, ed', nI n', rx, ov, sb', sl', nI S, cl', yb', ya', yl', w', ops, oa, ob, ve, rg, me, st, an, so, li, P') → wpX_writePort post (len, pc, z, c, al, dp, sp, ha, nI T, re, ta, ed, nI n, rx, ov, sb, sl, nI S, cl, yb, ya, yl, w, ops, oa, ob, ve, rg, me, st, an, so, li, P) 20 (nI a)) ∧ (∀ post : SY → Prop, post (len, P' 13, z, c, al, sp, ha, dp, pc, nI T, pa, ta, re, ed', nI S, P' 6, P' 7, P' 8, cv', P' 10, P' 12, P' 14, P' 16, P' 18, P' 19, si', rx, ov, sl', sb', cl', yl', yb', ya', ops, oa, ob, ve, an, so, rg, me, st, li, tk_q n', tk_d P' 0, tk_d P' 1, tk_d P' 2) → wpY_out post (len, P 13, z, c, al, sp, ha, dp, pc, nI T, pa, ta, re, ed, nI S, P 6, P 7, P 8, cv, P 10, P 12, P 14, P 16, P 18, P 19, si, rx, ov, sl, sb, cl, yl, yb, ya, ops, oa, ob, ve, an, so, rg, me, st, li, tk_q n, tk_d P 0, tk_d P 1, tk_d P 2) 20 (nI a)) := by
  exact ⟨n, ed, sb, sl, cl, yb, ya, yl, w, cv, si, P, hn, hsl, hcl, hyb, hya, hyl, h3, hW, fun post hp => br_f (by decide) (br_t (by decide) (br_t (by decide) hp)), fun post hp => br_f (by decide) (br_f (by decide) (br_f (by decide) (br_f (by decide) (br_f (by decide) (br_f (by decide) (br_f (by decide) (br_f (by decide) (br_f (by decide) (br_f (by decide) (br_f (by decide) (br_f (by decide) (br_f (by decide) (br_f (by decide) (br_f (by decide) (br_f (by decide) (br_f (by decide) (hp)))))))))))))))))⟩
theorem ou_21 {a : Nat} (hA : a < 256) (hn : n < 512) (hsl : tk_lt 2049 sl) (hcl : tk_lt 53 cl) (hyb : tk_lt 256 yb) (hya : tk_lt 16 ya) (hyl : tk_lt 41 yl) (h3 : tk_I3 cv P) (hW : tk_W (P 14) w si) : ∃ (n' : Nat) (ed' sb' sl' cl' yb' ya' yl' w' cv' si' : Int32) (P' : Nat → Int32), n' < 512 ∧ tk_lt 2049 sl' ∧ tk_lt 53 cl' ∧ tk_lt 256 yb' ∧ tk_lt 16 ya' ∧ tk_lt 41 yl' ∧ tk_I3 cv' P' ∧ tk_W (P' 14) w' si' ∧ (∀ post : SX → Prop, post (len, pc, z, c, al, dp, sp, ha, nI T, re, ta, ed', nI n', rx, ov, sb', sl', nI S, cl', yb', ya', yl', w', ops, oa, ob, ve, rg, me, st, an, so, li, P') → wpX_writePort post (len, pc, z, c, al, dp, sp, ha, nI T, re, ta, ed, nI n, rx, ov, sb, sl, nI S, cl, yb, ya, yl, w, ops, oa, ob, ve, rg, me, st, an, so, li, P) 21 (nI a)) ∧ (∀ post : SY → Prop, post (len, P' 13, z, c, al, sp, ha, dp, pc, nI T, pa, ta, re, ed', nI S, P' 6, P' 7, P' 8, cv', P' 10, P' 12, P' 14, P' 16, P' 18, P' 19, si', rx, ov, sl', sb', cl', yl', yb', ya', ops, oa, ob, ve, an, so, rg, me, st, li, tk_q n', tk_d P' 0, tk_d P' 1, tk_d P' 2) → wpY_out post (len, P 13, z, c, al, sp, ha, dp, pc, nI T, pa, ta, re, ed, nI S, P 6, P 7, P 8, cv, P 10, P 12, P 14, P 16, P 18, P 19, si, rx, ov, sl, sb, cl, yl, yb, ya, ops, oa, ob, ve, an, so, rg, me, st, li, tk_q n, tk_d P 0, tk_d P 1, tk_d P 2) 21 (nI a)) := by
  exact ⟨n, ed, sb, sl, cl, yb, ya, yl, w, cv, si, P, hn, hsl, hcl, hyb, hya, hyl, h3, hW, fun post hp => br_f (by decide) (br_t (by decide) (br_t (by decide) hp)), fun post hp => br_f (by decide) (br_f (by decide) (br_f (by decide) (br_f (by decide) (br_f (by decide) (br_f (by decide) (br_f (by decide) (br_f (by decide) (br_f (by decide) (br_f (by decide) (br_f (by decide) (br_f (by decide) (br_f (by decide) (br_f (by decide) (br_f (by decide) (br_f (by decide) (br_f (by decide) (hp)))))))))))))))))⟩
theorem ou_22 {a : Nat} (hA : a < 256) (hn : n < 512) (hsl : tk_lt 2049 sl) (hcl : tk_lt 53 cl) (hyb : tk_lt 256 yb) (hya : tk_lt 16 ya) (hyl : tk_lt 41 yl) (h3 : tk_I3 cv P) (hW : tk_W (P 14) w si) : ∃ (n' : Nat) (ed' sb' sl' cl' yb' ya' yl' w' cv' si' : Int32) (P' : Nat → Int32), n' < 512 ∧ tk_lt 2049 sl' ∧ tk_lt 53 cl' ∧ tk_lt 256 yb' ∧ tk_lt 16 ya' ∧ tk_lt 41 yl' ∧ tk_I3 cv' P' ∧ tk_W (P' 14) w' si' ∧ (∀ post : SX → Prop, post (len, pc, z, c, al, dp, sp, ha, nI T, re, ta, ed', nI n', rx, ov, sb', sl', nI S, cl', yb', ya', yl', w', ops, oa, ob, ve, rg, me, st, an, so, li, P') → wpX_writePort post (len, pc, z, c, al, dp, sp, ha, nI T, re, ta, ed, nI n, rx, ov, sb, sl, nI S, cl, yb, ya, yl, w, ops, oa, ob, ve, rg, me, st, an, so, li, P) 22 (nI a)) ∧ (∀ post : SY → Prop, post (len, P' 13, z, c, al, sp, ha, dp, pc, nI T, pa, ta, re, ed', nI S, P' 6, P' 7, P' 8, cv', P' 10, P' 12, P' 14, P' 16, P' 18, P' 19, si', rx, ov, sl', sb', cl', yl', yb', ya', ops, oa, ob, ve, an, so, rg, me, st, li, tk_q n', tk_d P' 0, tk_d P' 1, tk_d P' 2) → wpY_out post (len, P 13, z, c, al, sp, ha, dp, pc, nI T, pa, ta, re, ed, nI S, P 6, P 7, P 8, cv, P 10, P 12, P 14, P 16, P 18, P 19, si, rx, ov, sl, sb, cl, yl, yb, ya, ops, oa, ob, ve, an, so, rg, me, st, li, tk_q n, tk_d P 0, tk_d P 1, tk_d P 2) 22 (nI a)) := by
  exact ⟨n, ed, sb, sl, cl, yb, ya, yl, w, cv, si, P, hn, hsl, hcl, hyb, hya, hyl, h3, hW, fun post hp => br_f (by decide) (br_t (by decide) (br_t (by decide) hp)), fun post hp => br_f (by decide) (br_f (by decide) (br_f (by decide) (br_f (by decide) (br_f (by decide) (br_f (by decide) (br_f (by decide) (br_f (by decide) (br_f (by decide) (br_f (by decide) (br_f (by decide) (br_f (by decide) (br_f (by decide) (br_f (by decide) (br_f (by decide) (br_f (by decide) (br_f (by decide) (hp)))))))))))))))))⟩
theorem ou_23 {a : Nat} (hA : a < 256) (hn : n < 512) (hsl : tk_lt 2049 sl) (hcl : tk_lt 53 cl) (hyb : tk_lt 256 yb) (hya : tk_lt 16 ya) (hyl : tk_lt 41 yl) (h3 : tk_I3 cv P) (hW : tk_W (P 14) w si) : ∃ (n' : Nat) (ed' sb' sl' cl' yb' ya' yl' w' cv' si' : Int32) (P' : Nat → Int32), n' < 512 ∧ tk_lt 2049 sl' ∧ tk_lt 53 cl' ∧ tk_lt 256 yb' ∧ tk_lt 16 ya' ∧ tk_lt 41 yl' ∧ tk_I3 cv' P' ∧ tk_W (P' 14) w' si' ∧ (∀ post : SX → Prop, post (len, pc, z, c, al, dp, sp, ha, nI T, re, ta, ed', nI n', rx, ov, sb', sl', nI S, cl', yb', ya', yl', w', ops, oa, ob, ve, rg, me, st, an, so, li, P') → wpX_writePort post (len, pc, z, c, al, dp, sp, ha, nI T, re, ta, ed, nI n, rx, ov, sb, sl, nI S, cl, yb, ya, yl, w, ops, oa, ob, ve, rg, me, st, an, so, li, P) 23 (nI a)) ∧ (∀ post : SY → Prop, post (len, P' 13, z, c, al, sp, ha, dp, pc, nI T, pa, ta, re, ed', nI S, P' 6, P' 7, P' 8, cv', P' 10, P' 12, P' 14, P' 16, P' 18, P' 19, si', rx, ov, sl', sb', cl', yl', yb', ya', ops, oa, ob, ve, an, so, rg, me, st, li, tk_q n', tk_d P' 0, tk_d P' 1, tk_d P' 2) → wpY_out post (len, P 13, z, c, al, sp, ha, dp, pc, nI T, pa, ta, re, ed, nI S, P 6, P 7, P 8, cv, P 10, P 12, P 14, P 16, P 18, P 19, si, rx, ov, sl, sb, cl, yl, yb, ya, ops, oa, ob, ve, an, so, rg, me, st, li, tk_q n, tk_d P 0, tk_d P 1, tk_d P 2) 23 (nI a)) := by
  exact ⟨n, ed, sb, sl, cl, yb, ya, yl, w, cv, si, P, hn, hsl, hcl, hyb, hya, hyl, h3, hW, fun post hp => br_f (by decide) (br_t (by decide) (br_t (by decide) hp)), fun post hp => br_f (by decide) (br_f (by decide) (br_f (by decide) (br_f (by decide) (br_f (by decide) (br_f (by decide) (br_f (by decide) (br_f (by decide) (br_f (by decide) (br_f (by decide) (br_f (by decide) (br_f (by decide) (br_f (by decide) (br_f (by decide) (br_f (by decide) (br_f (by decide) (br_f (by decide) (hp)))))))))))))))))⟩
theorem ou_24 {a : Nat} (hA : a < 256) (hn : n < 512) (hsl : tk_lt 2049 sl) (hcl : tk_lt 53 cl) (hyb : tk_lt 256 yb) (hya : tk_lt 16 ya) (hyl : tk_lt 41 yl) (h3 : tk_I3 cv P) (hW : tk_W (P 14) w si) : ∃ (n' : Nat) (ed' sb' sl' cl' yb' ya' yl' w' cv' si' : Int32) (P' : Nat → Int32), n' < 512 ∧ tk_lt 2049 sl' ∧ tk_lt 53 cl' ∧ tk_lt 256 yb' ∧ tk_lt 16 ya' ∧ tk_lt 41 yl' ∧ tk_I3 cv' P' ∧ tk_W (P' 14) w' si' ∧ (∀ post : SX → Prop, post (len, pc, z, c, al, dp, sp, ha, nI T, re, ta, ed', nI n', rx, ov, sb', sl', nI S, cl', yb', ya', yl', w', ops, oa, ob, ve, rg, me, st, an, so, li, P') → wpX_writePort post (len, pc, z, c, al, dp, sp, ha, nI T, re, ta, ed, nI n, rx, ov, sb, sl, nI S, cl, yb, ya, yl, w, ops, oa, ob, ve, rg, me, st, an, so, li, P) 24 (nI a)) ∧ (∀ post : SY → Prop, post (len, P' 13, z, c, al, sp, ha, dp, pc, nI T, pa, ta, re, ed', nI S, P' 6, P' 7, P' 8, cv', P' 10, P' 12, P' 14, P' 16, P' 18, P' 19, si', rx, ov, sl', sb', cl', yl', yb', ya', ops, oa, ob, ve, an, so, rg, me, st, li, tk_q n', tk_d P' 0, tk_d P' 1, tk_d P' 2) → wpY_out post (len, P 13, z, c, al, sp, ha, dp, pc, nI T, pa, ta, re, ed, nI S, P 6, P 7, P 8, cv, P 10, P 12, P 14, P 16, P 18, P 19, si, rx, ov, sl, sb, cl, yl, yb, ya, ops, oa, ob, ve, an, so, rg, me, st, li, tk_q n, tk_d P 0, tk_d P 1, tk_d P 2) 24 (nI a)) := by
  exact ⟨n, ed, sb, sl, cl, yb, ya, yl, w, cv, si, P, hn, hsl, hcl, hyb, hya, hyl, h3, hW, fun post hp => br_f (by decide) (br_t (by decide) (br_t (by decide) hp)), fun post hp => br_f (by decide) (br_f (by decide) (br_f (by decide) (br_f (by decide) (br_f (by decide) (br_f (by decide) (br_f (by decide) (br_f (by decide) (br_f (by decide) (br_f (by decide) (br_f (by decide) (br_f (by decide) (br_f (by decide) (br_f (by decide) (br_f (by decide) (br_f (by decide) (br_f (by decide) (hp)))))))))))))))))⟩
theorem ou_25 {a : Nat} (hA : a < 256) (hn : n < 512) (hsl : tk_lt 2049 sl) (hcl : tk_lt 53 cl) (hyb : tk_lt 256 yb) (hya : tk_lt 16 ya) (hyl : tk_lt 41 yl) (h3 : tk_I3 cv P) (hW : tk_W (P 14) w si) : ∃ (n' : Nat) (ed' sb' sl' cl' yb' ya' yl' w' cv' si' : Int32) (P' : Nat → Int32), n' < 512 ∧ tk_lt 2049 sl' ∧ tk_lt 53 cl' ∧ tk_lt 256 yb' ∧ tk_lt 16 ya' ∧ tk_lt 41 yl' ∧ tk_I3 cv' P' ∧ tk_W (P' 14) w' si' ∧ (∀ post : SX → Prop, post (len, pc, z, c, al, dp, sp, ha, nI T, re, ta, ed', nI n', rx, ov, sb', sl', nI S, cl', yb', ya', yl', w', ops, oa, ob, ve, rg, me, st, an, so, li, P') → wpX_writePort post (len, pc, z, c, al, dp, sp, ha, nI T, re, ta, ed, nI n, rx, ov, sb, sl, nI S, cl, yb, ya, yl, w, ops, oa, ob, ve, rg, me, st, an, so, li, P) 25 (nI a)) ∧ (∀ post : SY → Prop, post (len, P' 13, z, c, al, sp, ha, dp, pc, nI T, pa, ta, re, ed', nI S, P' 6, P' 7, P' 8, cv', P' 10, P' 12, P' 14, P' 16, P' 18, P' 19, si', rx, ov, sl', sb', cl', yl', yb', ya', ops, oa, ob, ve, an, so, rg, me, st, li, tk_q n', tk_d P' 0, tk_d P' 1, tk_d P' 2) → wpY_out post (len, P 13, z, c, al, sp, ha, dp, pc, nI T, pa, ta, re, ed, nI S, P 6, P 7, P 8, cv, P 10, P 12, P 14, P 16, P 18, P 19, si, rx, ov, sl, sb, cl, yl, yb, ya, ops, oa, ob, ve, an, so, rg, me, st, li, tk_q n, tk_d P 0, tk_d P 1, tk_d P 2) 25 (nI a)) := by
  exact ⟨n, ed, sb, sl, cl, yb, ya, yl, w, cv, si, P, hn, hsl, hcl, hyb, hya, hyl, h3, hW, fun post hp => br_f (by decide) (br_t (by decide) (br_t (by decide) hp)), fun post hp => br_f (by decide) (br_f (by decide) (br_f (by decide) (br_f (by decide) (br_f (by decide) (br_f (by decide) (br_f (by decide) (br_f (by decide) (br_f (by decide) (br_f (by decide) (br_f (by decide) (br_f (by decide) (br_f (by decide) (br_f (by decide) (br_f (by decide) (br_f (by decide) (br_f (by decide) (hp)))))))))))))))))⟩
theorem ou_26 {a : Nat} (hA : a < 256) (hn : n < 512) (hsl : tk_lt 2049 sl) (hcl : tk_lt 53 cl) (hyb : tk_lt 256 yb) (hya : tk_lt 16 ya) (hyl : tk_lt 41 yl) (h3 : tk_I3 cv P) (hW : tk_W (P 14) w si) : ∃ (n' : Nat) (ed' sb' sl' cl' yb' ya' yl' w' cv' si' : Int32) (P' : Nat → Int32), n' < 512 ∧ tk_lt 2049 sl' ∧ tk_lt 53 cl' ∧ tk_lt 256 yb' ∧ tk_lt 16 ya' ∧ tk_lt 41 yl' ∧ tk_I3 cv' P' ∧ tk_W (P' 14) w' si' ∧ (∀ post : SX → Prop, post (len, pc, z, c, al, dp, sp, ha, nI T, re, ta, ed', nI n', rx, ov, sb', sl', nI S, cl', yb', ya', yl', w', ops, oa, ob, ve, rg, me, st, an, so, li, P') → wpX_writePort post (len, pc, z, c, al, dp, sp, ha, nI T, re, ta, ed, nI n, rx, ov, sb, sl, nI S, cl, yb, ya, yl, w, ops, oa, ob, ve, rg, me, st, an, so, li, P) 26 (nI a)) ∧ (∀ post : SY → Prop, post (len, P' 13, z, c, al, sp, ha, dp, pc, nI T, pa, ta, re, ed', nI S, P' 6, P' 7, P' 8, cv', P' 10, P' 12, P' 14, P' 16, P' 18, P' 19, si', rx, ov, sl', sb', cl', yl', yb', ya', ops, oa, ob, ve, an, so, rg, me, st, li, tk_q n', tk_d P' 0, tk_d P' 1, tk_d P' 2) → wpY_out post (len, P 13, z, c, al, sp, ha, dp, pc, nI T, pa, ta, re, ed, nI S, P 6, P 7, P 8, cv, P 10, P 12, P 14, P 16, P 18, P 19, si, rx, ov, sl, sb, cl, yl, yb, ya, ops, oa, ob, ve, an, so, rg, me, st, li, tk_q n, tk_d P 0, tk_d P 1, tk_d P 2) 26 (nI a)) := by
  exact ⟨n, ed, sb, sl, cl, yb, ya, yl, w, cv, si, P, hn, hsl, hcl, hyb, hya, hyl, h3, hW, fun post hp => br_f (by decide) (br_t (by decide) (br_t (by decide) hp)), fun post hp => br_f (by decide) (br_f (by decide) (br_f (by decide) (br_f (by decide) (br_f (by decide) (br_f (by decide) (br_f (by decide) (br_f (by decide) (br_f (by decide) (br_f (by decide) (br_f (by decide) (br_f (by decide) (br_f (by decide) (br_f (by decide) (br_f (by decide) (br_f (by decide) (br_f (by decide) (hp)))))))))))))))))⟩
theorem ou_27 {a : Nat} (hA : a < 256) (hn : n < 512) (hsl : tk_lt 2049 sl) (hcl : tk_lt 53 cl) (hyb : tk_lt 256 yb) (hya : tk_lt 16 ya) (hyl : tk_lt 41 yl) (h3 : tk_I3 cv P) (hW : tk_W (P 14) w si) : ∃ (n' : Nat) (ed' sb' sl' cl' yb' ya' yl' w' cv' si' : Int32) (P' : Nat → Int32), n' < 512 ∧ tk_lt 2049 sl' ∧ tk_lt 53 cl' ∧ tk_lt 256 yb' ∧ tk_lt 16 ya' ∧ tk_lt 41 yl' ∧ tk_I3 cv' P' ∧ tk_W (P' 14) w' si' ∧ (∀ post : SX → Prop, post (len, pc, z, c, al, dp, sp, ha, nI T, re, ta, ed', nI n', rx, ov, sb', sl', nI S, cl', yb', ya', yl', w', ops, oa, ob, ve, rg, me, st, an, so, li, P') → wpX_writePort post (len, pc, z, c, al, dp, sp, ha, nI T, re, ta, ed, nI n, rx, ov, sb, sl, nI S, cl, yb, ya, yl, w, ops, oa, ob, ve, rg, me, st, an, so, li, P) 27 (nI a)) ∧ (∀ post : SY → Prop, post (len, P' 13, z, c, al, sp, ha, dp, pc, nI T, pa, ta, re, ed', nI S, P' 6, P' 7, P' 8, cv', P' 10, P' 12, P' 14, P' 16, P' 18, P' 19, si', rx, ov, sl', sb', cl', yl', yb', ya', ops, oa, ob, ve, an, so, rg, me, st, li, tk_q n', tk_d P' 0, tk_d P' 1, tk_d P' 2) → wpY_out post (len, P 13, z, c, al, sp, ha, dp, pc, nI T, pa, ta, re, ed, nI S, P 6, P 7, P 8, cv, P 10, P 12, P 14, P 16, P 18, P 19, si, rx, ov, sl, sb, cl, yl, yb, ya, ops, oa, ob, ve, an, so, rg, me, st, li, tk_q n, tk_d P 0, tk_d P 1, tk_d P 2) 27 (nI a)) := by
  exact ⟨n, ed, sb, sl, cl, yb, ya, yl, w, cv, si, P, hn, hsl, hcl, hyb, hya, hyl, h3, hW, fun post hp => br_f (by decide) (br_t (by decide) (br_t (by decide) hp)), fun post hp => br_f (by decide) (br_f (by decide) (br_f (by decide) (br_f (by decide) (br_f (by decide) (br_f (by decide) (br_f (by decide) (br_f (by decide) (br_f (by decide) (br_f (by decide) (br_f (by decide) (br_f (by decide) (br_f (by decide) (br_f (by decide) (br_f (by decide) (br_f (by decide) (br_f (by decide) (hp)))))))))))))))))⟩
theorem ou_28 {a : Nat} (hA : a < 256) (hn : n < 512) (hsl : tk_lt 2049 sl) (hcl : tk_lt 53 cl) (hyb : tk_lt 256 yb) (hya : tk_lt 16 ya) (hyl : tk_lt 41 yl) (h3 : tk_I3 cv P) (hW : tk_W (P 14) w si) : ∃ (n' : Nat) (ed' sb' sl' cl' yb' ya' yl' w' cv' si' : Int32) (P' : Nat → Int32), n' < 512 ∧ tk_lt 2049 sl' ∧ tk_lt 53 cl' ∧ tk_lt 256 yb' ∧ tk_lt 16 ya' ∧ tk_lt 41 yl' ∧ tk_I3 cv' P' ∧ tk_W (P' 14) w' si' ∧ (∀ post : SX → Prop, post (len, pc, z, c, al, dp, sp, ha, nI T, re, ta, ed', nI n', rx, ov, sb', sl', nI S, cl', yb', ya', yl', w', ops, oa, ob, ve, rg, me, st, an, so, li, P') → wpX_writePort post (len, pc, z, c, al, dp, sp, ha, nI T, re, ta, ed, nI n, rx, ov, sb, sl, nI S, cl, yb, ya, yl, w, ops, oa, ob, ve, rg, me, st, an, so, li, P) 28 (nI a)) ∧ (∀ post : SY → Prop, post (len, P' 13, z, c, al, sp, ha, dp, pc, nI T, pa, ta, re, ed', nI S, P' 6, P' 7, P' 8, cv', P' 10, P' 12, P' 14, P' 16, P' 18, P' 19, si', rx, ov, sl', sb', cl', yl', yb', ya', ops, oa, ob, ve, an, so, rg, me, st, li, tk_q n', tk_d P' 0, tk_d P' 1, tk_d P' 2) → wpY_out post (len, P 13, z, c, al, sp, ha, dp, pc, nI T, pa, ta, re, ed, nI S, P 6, P 7, P 8, cv, P 10, P 12, P 14, P 16, P 18, P 19, si, rx, ov, sl, sb, cl, yl, yb, ya, ops, oa, ob, ve, an, so, rg, me, st, li, tk_q n, tk_d P 0, tk_d P 1, tk_d P 2) 28 (nI a)) := by
  exact ⟨n, ed, sb, sl, cl, yb, ya, yl, w, cv, si, P, hn, hsl, hcl, hyb, hya, hyl, h3, hW, fun post hp => br_f (by decide) (br_t (by decide) (br_t (by decide) hp)), fun post hp => br_f (by decide) (br_f (by decide) (br_f (by decide) (br_f (by decide) (br_f (by decide) (br_f (by decide) (br_f (by decide) (br_f (by decide) (br_f (by decide) (br_f (by decide) (br_f (by decide) (br_f (by decide) (br_f (by decide) (br_f (by decide) (br_f (by decide) (br_f (by decide) (br_f (by decide) (hp)))))))))))))))))⟩
theorem ou_29 {a : Nat} (hA : a < 256) (hn : n < 512) (hsl : tk_lt 2049 sl) (hcl : tk_lt 53 cl) (hyb : tk_lt 256 yb) (hya : tk_lt 16 ya) (hyl : tk_lt 41 yl) (h3 : tk_I3 cv P) (hW : tk_W (P 14) w si) : ∃ (n' : Nat) (ed' sb' sl' cl' yb' ya' yl' w' cv' si' : Int32) (P' : Nat → Int32), n' < 512 ∧ tk_lt 2049 sl' ∧ tk_lt 53 cl' ∧ tk_lt 256 yb' ∧ tk_lt 16 ya' ∧ tk_lt 41 yl' ∧ tk_I3 cv' P' ∧ tk_W (P' 14) w' si' ∧ (∀ post : SX → Prop, post (len, pc, z, c, al, dp, sp, ha, nI T, re, ta, ed', nI n', rx, ov, sb', sl', nI S, cl', yb', ya', yl', w', ops, oa, ob, ve, rg, me, st, an, so, li, P') → wpX_writePort post (len, pc, z, c, al, dp, sp, ha, nI T, re, ta, ed, nI n, rx, ov, sb, sl, nI S, cl, yb, ya, yl, w, ops, oa, ob, ve, rg, me, st, an, so, li, P) 29 (nI a)) ∧ (∀ post : SY → Prop, post (len, P' 13, z, c, al, sp, ha, dp, pc, nI T, pa, ta, re, ed', nI S, P' 6, P' 7, P' 8, cv', P' 10, P' 12, P' 14, P' 16, P' 18, P' 19, si', rx, ov, sl', sb', cl', yl', yb', ya', ops, oa, ob, ve, an, so, rg, me, st, li, tk_q n', tk_d P' 0, tk_d P' 1, tk_d P' 2) → wpY_out post (len, P 13, z, c, al, sp, ha, dp, pc, nI T, pa, ta, re, ed, nI S, P 6, P 7, P 8, cv, P 10, P 12, P 14, P 16, P 18, P 19, si, rx, ov, sl, sb, cl, yl, yb, ya, ops, oa, ob, ve, an, so, rg, me, st, li, tk_q n, tk_d P 0, tk_d P 1, tk_d P 2) 29 (nI a)) := by
  exact ⟨n, ed, sb, sl, cl, yb, ya, yl, w, cv, si, P, hn, hsl, hcl, hyb, hya, hyl, h3, hW, fun post hp => br_f (by decide) (br_t (by decide) (br_t (by decide) hp)), fun post hp => br_f (by decide) (br_f (by decide) (br_f (by decide) (br_f (by decide) (br_f (by decide) (br_f (by decide) (br_f (by decide) (br_f (by decide) (br_f (by decide) (br_f (by decide) (br_f (by decide) (br_f (by decide) (br_f (by decide) (br_f (by decide) (br_f (by decide) (br_f (by decide) (br_f (by decide) (hp)))))))))))))))))⟩
theorem ou_30 {a : Nat} (hA : a < 256) (hn : n < 512) (hsl : tk_lt 2049 sl) (hcl : tk_lt 53 cl) (hyb : tk_lt 256 yb) (hya : tk_lt 16 ya) (hyl : tk_lt 41 yl) (h3 : tk_I3 cv P) (hW : tk_W (P 14) w si) : ∃ (n' : Nat) (ed' sb' sl' cl' yb' ya' yl' w' cv' si' : Int32) (P' : Nat → Int32), n' < 512 ∧ tk_lt 2049 sl' ∧ tk_lt 53 cl' ∧ tk_lt 256 yb' ∧ tk_lt 16 ya' ∧ tk_lt 41 yl' ∧ tk_I3 cv' P' ∧ tk_W (P' 14) w' si' ∧ (∀ post : SX → Prop, post (len, pc, z, c, al, dp, sp, ha, nI T, re, ta, ed', nI n', rx, ov, sb', sl', nI S, cl', yb', ya', yl', w', ops, oa, ob, ve, rg, me, st, an, so, li, P') → wpX_writePort post (len, pc, z, c, al, dp, sp, ha, nI T, re, ta, ed, nI n, rx, ov, sb, sl, nI S, cl, yb, ya, yl, w, ops, oa, ob, ve, rg, me, st, an, so, li, P) 30 (nI a)) ∧ (∀ post : SY → Prop, post (len, P' 13, z, c, al, sp, ha, dp, pc, nI T, pa, ta, re, ed', nI S, P' 6, P' 7, P' 8, cv', P' 10, P' 12, P' 14, P' 16, P' 18, P' 19, si', rx, ov, sl', sb', cl', yl', yb', ya', ops, oa, ob, ve, an, so, rg, me, st, li, tk_q n', tk_d P' 0, tk_d P' 1, tk_d P' 2) → wpY_out post (len, P 13, z, c, al, sp, ha, dp, pc, nI T, pa, ta, re, ed, nI S, P 6, P 7, P 8, cv, P 10, P 12, P 14, P 16, P 18, P 19, si, rx, ov, sl, sb, cl, yl, yb, ya, ops, oa, ob, ve, an, so, rg, me, st, li, tk_q n, tk_d P 0, tk_d P 1, tk_d P 2) 30 (nI a)) := by
  exact ⟨n, ed, sb, sl, cl, yb, ya, yl, w, cv, si, P, hn, hsl, hcl, hyb, hya, hyl, h3, hW, fun post hp => br_f (by decide) (br_t (by decide) (br_t (by decide) hp)), fun post hp => br_f (by decide) (br_f (by decide) (br_f (by decide) (br_f (by decide) (br_f (by decide) (br_f (by decide) (br_f (by decide) (br_f (by decide) (br_f (by decide) (br_f (by decide) (br_f (by decide) (br_f (by decide) (br_f (by decide) (br_f (by decide) (br_f (by decide) (br_f (by decide) (br_f (by decide) (hp)))))))))))))))))⟩
theorem ou_31 {a : Nat} (hA : a < 256) (hn : n < 512) (hsl : tk_lt 2049 sl) (hcl : tk_lt 53 cl) (hyb : tk_lt 256 yb) (hya : tk_lt 16 ya) (hyl : tk_lt 41 yl) (h3 : tk_I3 cv P) (hW : tk_W (P 14) w si) : ∃ (n' : Nat) (ed' sb' sl' cl' yb' ya' yl' w' cv' si' : Int32) (P' : Nat → Int32), n' < 512 ∧ tk_lt 2049 sl' ∧ tk_lt 53 cl' ∧ tk_lt 256 yb' ∧ tk_lt 16 ya' ∧ tk_lt 41 yl' ∧ tk_I3 cv' P' ∧ tk_W (P' 14) w' si' ∧ (∀ post : SX → Prop, post (len, pc, z, c, al, dp, sp, ha, nI T, re, ta, ed', nI n', rx, ov, sb', sl', nI S, cl', yb', ya', yl', w', ops, oa, ob, ve, rg, me, st, an, so, li, P') → wpX_writePort post (len, pc, z, c, al, dp, sp, ha, nI T, re, ta, ed, nI n, rx, ov, sb, sl, nI S, cl, yb, ya, yl, w, ops, oa, ob, ve, rg, me, st, an, so, li, P) 31 (nI a)) ∧ (∀ post : SY → Prop, post (len, P' 13, z, c, al, sp, ha, dp, pc, nI T, pa, ta, re, ed', nI S, P' 6, P' 7, P' 8, cv', P' 10, P' 12, P' 14, P' 16, P' 18, P' 19, si', rx, ov, sl', sb', cl', yl', yb', ya', ops, oa, ob, ve, an, so, rg, me, st, li, tk_q n', tk_d P' 0, tk_d P' 1, tk_d P' 2) → wpY_out post (len, P 13, z, c, al, sp, ha, dp, pc, nI T, pa, ta, re, ed, nI S, P 6, P 7, P 8, cv, P 10, P 12, P 14, P 16, P 18, P 19, si, rx, ov, sl, sb, cl, yl, yb, ya, ops, oa, ob, ve, an, so, rg, me, st, li, tk_q n, tk_d P 0, tk_d P 1, tk_d P 2) 31 (nI a)) := by
  exact ⟨n, ed, sb, sl, cl, yb, ya, yl, w, cv, si, P, hn, hsl, hcl, hyb, hya, hyl, h3, hW, fun post hp => br_f (by decide) (br_t (by decide) (br_t (by decide) hp)), fun post hp => br_f (by decide) (br_f (by decide) (br_f (by decide) (br_f (by decide) (br_f (by decide) (br_f (by decide) (br_f (by decide) (br_f (by decide) (br_f (by decide) (br_f (by decide) (br_f (by decide) (br_f (by decide) (br_f (by decide) (br_f (by decide) (br_f (by decide) (br_f (by decide) (br_f (by decide) (hp)))))))))))))))))⟩
theorem ou_all {a : Nat} (hA : a < 256) (hn : n < 512) (hsl : tk_lt 2049 sl) (hcl : tk_lt 53 cl) (hyb : tk_lt 256 yb) (hya : tk_lt 16 ya) (hyl : tk_lt 41 yl) (h3 : tk_I3 cv P) (hW : tk_W (P 14) w si) : ∀ p : Nat, p < 32 → ∃ (n' : Nat) (ed' sb' sl' cl' yb' ya' yl' w' cv' si' : Int32) (P' : Nat → Int32), n' < 512 ∧ tk_lt 2049 sl' ∧ tk_lt 53 cl' ∧ tk_lt 256 yb' ∧ tk_lt 16 ya' ∧ tk_lt 41 yl' ∧ tk_I3 cv' P' ∧ tk_W (P' 14) w' si' ∧ (∀ post : SX → Prop, post (len, pc, z, c, al, dp, sp, ha, nI T, re, ta, ed', nI n', rx, ov, sb', sl', nI S, cl', yb', ya', yl', w', ops, oa, ob, ve, rg, me, st, an, so, li, P') → wpX_writePort post (len, pc, z, c, al, dp, sp, ha, nI T, re, ta, ed, nI n, rx, ov, sb, sl, nI S, cl, yb, ya, yl, w, ops, oa, ob, ve, rg, me, st, an, so, li, P) (nI p) (nI a)) ∧ (∀ post : SY → Prop, post (len, P' 13, z, c, al, sp, ha, dp, pc, nI T, pa, ta, re, ed', nI S, P' 6, P' 7, P' 8, cv', P' 10, P' 12, P' 14, P' 16, P' 18, P' 19, si', rx, ov, sl', sb', cl', yl', yb', ya', ops, oa, ob, ve, an, so, rg, me, st, li, tk_q n', tk_d P' 0, tk_d P' 1, tk_d P' 2) → wpY_out post (len, P 13, z, c, al, sp, ha, dp, pc, nI T, pa, ta, re, ed, nI S, P 6, P 7, P 8, cv, P 10, P 12, P 14, P 16, P 18, P 19, si, rx, ov, sl, sb, cl, yl, yb, ya, ops, oa, ob, ve, an, so, rg, me, st, li, tk_q n, tk_d P 0, tk_d P 1, tk_d P 2) (nI p) (nI a))
  | 0, _ => ou_0 hA hn hsl hcl hyb hya hyl h3 hW
  | 1, _ => ou_1 hA hn hsl hcl hyb hya hyl h3 hW
  | 2, _ => ou_2 hA hn hsl hcl hyb hya hyl h3 hW
  | 3, _ => ou_3 hA hn hsl hcl hyb hya hyl h3 hW
  | 4, _ => ou_4 hA hn hsl hcl hyb hya hyl h3 hW
  | 5, _ => ou_5 hA hn hsl hcl hyb hya hyl h3 hW
  | 6, _ => ou_6 hA hn hsl hcl hyb hya hyl h3 hW
  | 7, _ => ou_7 hA hn hsl hcl hyb hya hyl h3 hW
  | 8, _ => ou_8 hA hn hsl hcl hyb hya hyl h3 hW
  | 9, _ => ou_9 hA hn hsl hcl hyb hya hyl h3 hW
  | 10, _ => ou_10 hA hn hsl hcl hyb hya hyl h3 hW
  | 11, _ => ou_11 hA hn hsl hcl hyb hya hyl h3 hW
  | 12, _ => ou_12 hA hn hsl hcl hyb hya hyl h3 hW
  | 13, _ => ou_13 hA hn hsl hcl hyb hya hyl h3 hW
  | 14, _ => ou_14 hA hn hsl hcl hyb hya hyl h3 hW
  | 15, _ => ou_15 hA hn hsl hcl hyb hya hyl h3 hW
  | 16, _ => ou_16 hA hn hsl hcl hyb hya hyl h3 hW
  | 17, _ => ou_17 hA hn hsl hcl hyb hya hyl h3 hW
  | 18, _ => ou_18 hA hn hsl hcl hyb hya hyl h3 hW
  | 19, _ => ou_19 hA hn hsl hcl hyb hya hyl h3 hW
  | 20, _ => ou_20 hA hn hsl hcl hyb hya hyl h3 hW
  | 21, _ => ou_21 hA hn hsl hcl hyb hya hyl h3 hW
  | 22, _ => ou_22 hA hn hsl hcl hyb hya hyl h3 hW
  | 23, _ => ou_23 hA hn hsl hcl hyb hya hyl h3 hW
  | 24, _ => ou_24 hA hn hsl hcl hyb hya hyl h3 hW
  | 25, _ => ou_25 hA hn hsl hcl hyb hya hyl h3 hW
  | 26, _ => ou_26 hA hn hsl hcl hyb hya hyl h3 hW
  | 27, _ => ou_27 hA hn hsl hcl hyb hya hyl h3 hW
  | 28, _ => ou_28 hA hn hsl hcl hyb hya hyl h3 hW
  | 29, _ => ou_29 hA hn hsl hcl hyb hya hyl h3 hW
  | 30, _ => ou_30 hA hn hsl hcl hyb hya hyl h3 hW
  | 31, _ => ou_31 hA hn hsl hcl hyb hya hyl h3 hW
  | p + 32, h => absurd h (by omega)
end
end
section
/-! one instruction -/
section
variable {n T S : Nat} {len pc z c al dp sp ha re ta ed rx ov sb sl cl yb ya yl w pa cv si : Int32} {ops oa ob ve rg me st an so li P : Nat → Int32}
def tk_St (T : Nat) (pa : Int32) (WX : (Int32 → SX → Prop) → Prop) (WY : (Int32 → SY → Prop) → Prop) : Prop := ∃ (k : Nat) (ha' : Int32) (u' : SX) (v' : SY), k ≤ 3 ∧ (k = 0 → ha' = 1) ∧ tk_R T pa ha' u' v' ∧ (∀ post : Int32 → SX → Prop, post (nI k) u' → WX post) ∧ (∀ post : Int32 → SY → Prop, post (nI k) v' → WY post)
theorem tk_W0 (x : Int32) : tk_W x 0 0 := by
  obtain ⟨L, hL, eL⟩ := tk_7 x
  rcases (by omega : L = 0 ∨ 0 < L) with y | y
  · exact Or.inl (by rw [eL, y]; rfl)
  · exact Or.inr ⟨rfl, L, 0, y, hL, eL, Nat.two_pow_pos _, rfl⟩
theorem ex_0 {q : Nat} {A B : Int32} (h1 : tk_I1 len ops ve an) (h2 : tk_I2 (nI q) dp rg me st) (h3 : tk_I3 cv P) (h4 : tk_I4 n S T rx ov sl cl yb ya yl so) (hW : tk_W (P 14) w si) (hq : q < 48) (hA : oa (nI q).toNatClampNeg &&& 7 = A) (hB : ob (nI q).toNatClampNeg = B) (hop : ops (nI q).toNatClampNeg = 0) : tk_St T pa (fun post => wpX_carryOut post (len, nI q, z, c, al, dp, sp, ha, nI T, re, ta, ed, nI n, rx, ov, sb, sl, nI S, cl, yb, ya, yl, w, ops, oa, ob, ve, rg, me, st, an, so, li, P)) (fun post => wpY_execute post (len, P 13, z, c, al, sp, ha, dp, nI q, nI T, pa, ta, re, ed, nI S, P 6, P 7, P 8, cv, P 10, P 12, P 14, P 16, P 18, P 19, si, rx, ov, sl, sb, cl, yl, yb, ya, ops, oa, ob, ve, an, so, rg, me, st, li, tk_q n, tk_d P 0, tk_d P 1, tk_d P 2) 0 A B) := by
  have hv : vp_in (nI q) 48 := vp_in_nI hq (by decide)
  have hA8 : vp_in A 8 := by rw [← hA]; exact tk_in (tk_7 _) (by decide)
  have hB8 : vp_in (B &&& 7) 8 := tk_in (tk_7 _) (by decide)
  have hrg := h2.2.2.1
  have hpc : tk_lt 256 (nI (q + 1)) := tk_mk (by omega)
  exact ⟨1, ha, _, _, by decide, (fun e0 => absurd e0 (by decide)), ⟨n, S, len, nI (q + 1), z, c, al, dp, sp, re, ta, ed, rx, ov, sb, sl, cl, yb, ya, yl, w, cv, si, ops, oa, ob, ve, upd rg A.toNatClampNeg (B &&& 255), me, st, an, so, li, P, rfl, rfl, h1, ⟨hpc, h2.2.1, tk_upd hrg (tk_b B), h2.2.2.2.1, h2.2.2.2.2⟩, h3, h4, hW⟩, fun post hp => ⟨hv, nm_r hop ⟨hv, nm_r hA ⟨hv, nm_r hB (br_t (by decide) (nm_r (nI_1 q) (br_f (by decide) (⟨hA8, nm_e ⟨hB8, nm_e (br_f (by decide) (br_f (by decide) (br_t (by decide) (⟨hA8, nm_e hp⟩))))⟩⟩))))⟩⟩⟩, fun post hp => ⟨hA8, nm_e ⟨hB8, nm_e (nm_r (nI_1 q) (br_f (by decide) (br_f (by decide) (br_f (by decide) (br_f (by decide) (br_f (by decide) (br_f (by decide) (br_t (by decide) (br_t (by decide) (br_f (by decide) (br_f (by decide) (br_f (by decide) (br_f (by decide) (br_t (by decide) (br_f (by decide) (⟨hA8, nm_r (congrArg (upd rg _) (tk_255 (tk_b B))) hp⟩))))))))))))))))⟩⟩⟩
theorem ex_1 {q : Nat} {A B : Int32} (h1 : tk_I1 len ops ve an) (h2 : tk_I2 (nI q) dp rg me st) (h3 : tk_I3 cv P) (h4 : tk_I4 n S T rx ov sl cl yb ya yl so) (hW : tk_W (P 14) w si) (hq : q < 48) (hA : oa (nI q).toNatClampNeg &&& 7 = A) (hB : ob (nI q).toNatClampNeg = B) (hop : ops (nI q).toNatClampNeg = 1) : tk_St T pa (fun post => wpX_carryOut post (len, nI q, z, c, al, dp, sp, ha, nI T, re, ta, ed, nI n, rx, ov, sb, sl, nI S, cl, yb, ya, yl, w, ops, oa, ob, ve, rg, me, st, an, so, li, P)) (fun post => wpY_execute post (len, P 13, z, c, al, sp, ha, dp, nI q, nI T, pa, ta, re, ed, nI S, P 6, P 7, P 8, cv, P 10, P 12, P 14, P 16, P 18, P 19, si, rx, ov, sl, sb, cl, yl, yb, ya, ops, oa, ob, ve, an, so, rg, me, st, li, tk_q n, tk_d P 0, tk_d P 1, tk_d P 2) 1 A B) := by
  have hv : vp_in (nI q) 48 := vp_in_nI hq (by decide)
  have hA8 : vp_in A 8 := by rw [← hA]; exact tk_in (tk_7 _) (by decide)
  have hB8 : vp_in (B &&& 7) 8 := tk_in (tk_7 _) (by decide)
  have hrg := h2.2.2.1
  have hpc : tk_lt 256 (nI (q + 1)) := tk_mk (by omega)
  exact ⟨1, ha, _, _, by decide, (fun e0 => absurd e0 (by decide)), ⟨n, S, len, nI (q + 1), z, c, al, dp, sp, re, ta, ed, rx, ov, sb, sl, cl, yb, ya, yl, w, cv, si, ops, oa, ob, ve, upd rg A.toNatClampNeg (rg (B &&& 7).toNatClampNeg), me, st, an, so, li, P, rfl, rfl, h1, ⟨hpc, h2.2.1, tk_upd hrg (hrg _), h2.2.2.2.1, h2.2.2.2.2⟩, h3, h4, hW⟩, fun post hp => ⟨hv, nm_r hop ⟨hv, nm_r hA ⟨hv, nm_r hB (br_t (by decide) (nm_r (nI_1 q) (br_f (by decide) (⟨hA8, nm_e ⟨hB8, nm_e (br_f (by decide) (br_f (by decide) (br_f (by decide) (br_t (by decide) (⟨hA8, nm_e hp⟩)))))⟩⟩))))⟩⟩⟩, fun post hp => ⟨hA8, nm_e ⟨hB8, nm_e (nm_r (nI_1 q) (br_f (by decide) (br_f (by decide) (br_f (by decide) (br_f (by decide) (br_f (by decide) (br_f (by decide) (br_f (by decide) (br_f (by decide) (br_t (by decide) (br_f (by decide) (br_f (by decide) (br_f (by decide) (br_f (by decide) (br_t (by decide) (br_f (by decide) (⟨hA8, nm_r (congrArg (upd rg _) (tk_255 (hrg _))) hp⟩)))))))))))))))))⟩⟩⟩
theorem ex_2 {q : Nat} {A B : Int32} (h1 : tk_I1 len ops ve an) (h2 : tk_I2 (nI q) dp rg me st) (h3 : tk_I3 cv P) (h4 : tk_I4 n S T rx ov sl cl yb ya yl so) (hW : tk_W (P 14) w si) (hq : q < 48) (hA : oa (nI q).toNatClampNeg &&& 7 = A) (hB : ob (nI q).toNatClampNeg = B) (hop : ops (nI q).toNatClampNeg = 2) : tk_St T pa (fun post => wpX_carryOut post (len, nI q, z, c, al, dp, sp, ha, nI T, re, ta, ed, nI n, rx, ov, sb, sl, nI S, cl, yb, ya, yl, w, ops, oa, ob, ve, rg, me, st, an, so, li, P)) (fun post => wpY_execute post (len, P 13, z, c, al, sp, ha, dp, nI q, nI T, pa, ta, re, ed, nI S, P 6, P 7, P 8, cv, P 10, P 12, P 14, P 16, P 18, P 19, si, rx, ov, sl, sb, cl, yl, yb, ya, ops, oa, ob, ve, an, so, rg, me, st, li, tk_q n, tk_d P 0, tk_d P 1, tk_d P 2) 2 A B) := by
  have hv : vp_in (nI q) 48 := vp_in_nI hq (by decide)
  have hA8 : vp_in A 8 := by rw [← hA]; exact tk_in (tk_7 _) (by decide)
  have hB8 : vp_in (B &&& 7) 8 := tk_in (tk_7 _) (by decide)
  have hrg := h2.2.2.1
  have hpc : tk_lt 256 (nI (q + 1)) := tk_mk (by omega)
  by_cases hc : rg A.toNatClampNeg + rg (B &&& 7).toNatClampNeg ≤ 255 <;> by_cases hz : (rg A.toNatClampNeg + rg (B &&& 7).toNatClampNeg) &&& 255 = 0
  · exact ⟨1, ha, _, _, by decide, (fun e0 => absurd e0 (by decide)), ⟨n, S, len, nI (q + 1), 1, 0, al, dp, sp, re, ta, ed, rx, ov, sb, sl, cl, yb, ya, yl, w, cv, si, ops, oa, ob, ve, upd rg A.toNatClampNeg ((rg A.toNatClampNeg + rg (B &&& 7).toNatClampNeg) &&& 255), me, st, an, so, li, P, rfl, rfl, h1, ⟨hpc, h2.2.1, tk_upd hrg (tk_b _), h2.2.2.2.1, h2.2.2.2.2⟩, h3, h4, hW⟩, fun post hp => ⟨hv, nm_r hop ⟨hv, nm_r hA ⟨hv, nm_r hB (br_t (by decide) (nm_r (nI_1 q) (br_f (by decide) (⟨hA8, nm_e ⟨hB8, nm_e (br_f (by decide) (br_f (by decide) (br_f (by decide) (br_f (by decide) (br_t (by decide) (nm_e (br_t hc ⟨rfl, rfl, br_t hz ⟨rfl, rfl, br_f (by decide) (⟨hA8, nm_e hp⟩)⟩⟩)))))))⟩⟩))))⟩⟩⟩, fun post hp => ⟨hA8, nm_e ⟨hB8, nm_e (nm_r (nI_1 q) (br_f (by decide) (br_f (by decide) (br_f (by decide) (br_f (by decide) (br_f (by decide) (br_f (by decide) (br_f (by decide) (br_f (by decide) (br_f (by decide) (br_t (by decide) (br_t (by decide) (br_t hc ⟨rfl, rfl, br_f (by decide) (br_f (by decide) (br_f (by decide) (br_f (by decide) (br_t hz (br_f (by decide) (⟨hA8, nm_e hp⟩))))))⟩)))))))))))))⟩⟩⟩
  · exact ⟨1, ha, _, _, by decide, (fun e0 => absurd e0 (by decide)), ⟨n, S, len, nI (q + 1), 0, 0, al, dp, sp, re, ta, ed, rx, ov, sb, sl, cl, yb, ya, yl, w, cv, si, ops, oa, ob, ve, upd rg A.toNatClampNeg ((rg A.toNatClampNeg + rg (B &&& 7).toNatClampNeg) &&& 255), me, st, an, so, li, P, rfl, rfl, h1, ⟨hpc, h2.2.1, tk_upd hrg (tk_b _), h2.2.2.2.1, h2.2.2.2.2⟩, h3, h4, hW⟩, fun post hp => ⟨hv, nm_r hop ⟨hv, nm_r hA ⟨hv, nm_r hB (br_t (by decide) (nm_r (nI_1 q) (br_f (by decide) (⟨hA8, nm_e ⟨hB8, nm_e (br_f (by decide) (br_f (by decide) (br_f (by decide) (br_f (by decide) (br_t (by decide) (nm_e (br_t hc ⟨rfl, rfl, br_f hz ⟨rfl, rfl, br_f (by decide) (⟨hA8, nm_e hp⟩)⟩⟩)))))))⟩⟩))))⟩⟩⟩, fun post hp => ⟨hA8, nm_e ⟨hB8, nm_e (nm_r (nI_1 q) (br_f (by decide) (br_f (by decide) (br_f (by decide) (br_f (by decide) (br_f (by decide) (br_f (by decide) (br_f (by decide) (br_f (by decide) (br_f (by decide) (br_t (by decide) (br_t (by decide) (br_t hc ⟨rfl, rfl, br_f (by decide) (br_f (by decide) (br_f (by decide) (br_f (by decide) (br_f hz (br_f (by decide) (⟨hA8, nm_e hp⟩))))))⟩)))))))))))))⟩⟩⟩
  · exact ⟨1, ha, _, _, by decide, (fun e0 => absurd e0 (by decide)), ⟨n, S, len, nI (q + 1), 1, 1, al, dp, sp, re, ta, ed, rx, ov, sb, sl, cl, yb, ya, yl, w, cv, si, ops, oa, ob, ve, upd rg A.toNatClampNeg ((rg A.toNatClampNeg + rg (B &&& 7).toNatClampNeg) &&& 255), me, st, an, so, li, P, rfl, rfl, h1, ⟨hpc, h2.2.1, tk_upd hrg (tk_b _), h2.2.2.2.1, h2.2.2.2.2⟩, h3, h4, hW⟩, fun post hp => ⟨hv, nm_r hop ⟨hv, nm_r hA ⟨hv, nm_r hB (br_t (by decide) (nm_r (nI_1 q) (br_f (by decide) (⟨hA8, nm_e ⟨hB8, nm_e (br_f (by decide) (br_f (by decide) (br_f (by decide) (br_f (by decide) (br_t (by decide) (nm_e (br_f hc ⟨rfl, rfl, br_t hz ⟨rfl, rfl, br_f (by decide) (⟨hA8, nm_e hp⟩)⟩⟩)))))))⟩⟩))))⟩⟩⟩, fun post hp => ⟨hA8, nm_e ⟨hB8, nm_e (nm_r (nI_1 q) (br_f (by decide) (br_f (by decide) (br_f (by decide) (br_f (by decide) (br_f (by decide) (br_f (by decide) (br_f (by decide) (br_f (by decide) (br_f (by decide) (br_t (by decide) (br_t (by decide) (br_f hc ⟨rfl, rfl, br_f (by decide) (br_f (by decide) (br_f (by decide) (br_f (by decide) (br_t hz (br_f (by decide) (⟨hA8, nm_e hp⟩))))))⟩)))))))))))))⟩⟩⟩
  · exact ⟨1, ha, _, _, by decide, (fun e0 => absurd e0 (by decide)), ⟨n, S, len, nI (q + 1), 0, 1, al, dp, sp, re, ta, ed, rx, ov, sb, sl, cl, yb, ya, yl, w, cv, si, ops, oa, ob, ve, upd rg A.toNatClampNeg ((rg A.toNatClampNeg + rg (B &&& 7).toNatClampNeg) &&& 255), me, st, an, so, li, P, rfl, rfl, h1, ⟨hpc, h2.2.1, tk_upd hrg (tk_b _), h2.2.2.2.1, h2.2.2.2.2⟩, h3, h4, hW⟩, fun post hp => ⟨hv, nm_r hop ⟨hv, nm_r hA ⟨hv, nm_r hB (br_t (by decide) (nm_r (nI_1 q) (br_f (by decide) (⟨hA8, nm_e ⟨hB8, nm_e (br_f (by decide) (br_f (by decide) (br_f (by decide) (br_f (by decide) (br_t (by decide) (nm_e (br_f hc ⟨rfl, rfl, br_f hz ⟨rfl, rfl, br_f (by decide) (⟨hA8, nm_e hp⟩)⟩⟩)))))))⟩⟩))))⟩⟩⟩, fun post hp => ⟨hA8, nm_e ⟨hB8, nm_e (nm_r (nI_1 q) (br_f (by decide) (br_f (by decide) (br_f (by decide) (br_f (by decide) (br_f (by decide) (br_f (by decide) (br_f (by decide) (br_f (by decide) (br_f (by decide) (br_t (by decide) (br_t (by decide) (br_f hc ⟨rfl, rfl, br_f (by decide) (br_f (by decide) (br_f (by decide) (br_f (by decide) (br_f hz (br_f (by decide) (⟨hA8, nm_e hp⟩))))))⟩)))))))))))))⟩⟩⟩
theorem ex_3 {q : Nat} {A B : Int32} (h1 : tk_I1 len ops ve an) (h2 : tk_I2 (nI q) dp rg me st) (h3 : tk_I3 cv P) (h4 : tk_I4 n S T rx ov sl cl yb ya yl so) (hW : tk_W (P 14) w si) (hq : q < 48) (hA : oa (nI q).toNatClampNeg &&& 7 = A) (hB : ob (nI q).toNatClampNeg = B) (hop : ops (nI q).toNatClampNeg = 3) : tk_St T pa (fun post => wpX_carryOut post (len, nI q, z, c, al, dp, sp, ha, nI T, re, ta, ed, nI n, rx, ov, sb, sl, nI S, cl, yb, ya, yl, w, ops, oa, ob, ve, rg, me, st, an, so, li, P)) (fun post => wpY_execute post (len, P 13, z, c, al, sp, ha, dp, nI q, nI T, pa, ta, re, ed, nI S, P 6, P 7, P 8, cv, P 10, P 12, P 14, P 16, P 18, P 19, si, rx, ov, sl, sb, cl, yl, yb, ya, ops, oa, ob, ve, an, so, rg, me, st, li, tk_q n, tk_d P 0, tk_d P 1, tk_d P 2) 3 A B) := by
  have hv : vp_in (nI q) 48 := vp_in_nI hq (by decide)
  have hA8 : vp_in A 8 := by rw [← hA]; exact tk_in (tk_7 _) (by decide)
  have hB8 : vp_in (B &&& 7) 8 := tk_in (tk_7 _) (by decide)
  have hrg := h2.2.2.1
  have hpc : tk_lt 256 (nI (q + 1)) := tk_mk (by omega)
  by_cases hc : rg (B &&& 7).toNatClampNeg ≤ rg A.toNatClampNeg <;> by_cases hz : (rg A.toNatClampNeg - rg (B &&& 7).toNatClampNeg) &&& 255 = 0
  · exact ⟨1, ha, _, _, by decide, (fun e0 => absurd e0 (by decide)), ⟨n, S, len, nI (q + 1), 1, 0, al, dp, sp, re, ta, ed, rx, ov, sb, sl, cl, yb, ya, yl, w, cv, si, ops, oa, ob, ve, upd rg A.toNatClampNeg ((rg A.toNatClampNeg - rg (B &&& 7).toNatClampNeg) &&& 255), me, st, an, so, li, P, rfl, rfl, h1, ⟨hpc, h2.2.1, tk_upd hrg (tk_b _), h2.2.2.2.1, h2.2.2.2.2⟩, h3, h4, hW⟩, fun post hp => ⟨hv, nm_r hop ⟨hv, nm_r hA ⟨hv, nm_r hB (br_t (by decide) (nm_r (nI_1 q) (br_f (by decide) (⟨hA8, nm_e ⟨hB8, nm_e (br_f (by decide) (br_f (by decide) (br_f (by decide) (br_f (by decide) (br_f (by decide) (br_t (by decide) (nm_e (br_t hc ⟨rfl, rfl, br_t hz ⟨rfl, rfl, br_f (by decide) (⟨hA8, nm_e hp⟩)⟩⟩))))))))⟩⟩))))⟩⟩⟩, fun post hp => ⟨hA8, nm_e ⟨hB8, nm_e (nm_r (nI_1 q) (br_f (by decide) (br_f (by decide) (br_f (by decide) (br_f (by decide) (br_f (by decide) (br_f (by decide) (br_f (by decide) (br_f (by decide) (br_f (by decide) (br_f (by decide) (br_f (by decide) (br_f (by decide) (br_f (by decide) (br_f (by decide) (br_t (by decide) (br_t hc ⟨rfl, rfl, br_f (by decide) (br_f (by decide) (br_t hz (br_f (by decide) (⟨hA8, nm_e hp⟩))))⟩)))))))))))))))))⟩⟩⟩
  · exact ⟨1, ha, _, _, by decide, (fun e0 => absurd e0 (by decide)), ⟨n, S, len, nI (q + 1), 0, 0, al, dp, sp, re, ta, ed, rx, ov, sb, sl, cl, yb, ya, yl, w, cv, si, ops, oa, ob, ve, upd rg A.toNatClampNeg ((rg A.toNatClampNeg - rg (B &&& 7).toNatClampNeg) &&& 255), me, st, an, so, li, P, rfl, rfl, h1, ⟨hpc, h2.2.1, tk_upd hrg (tk_b _), h2.2.2.2.1, h2.2.2.2.2⟩, h3, h4, hW⟩, fun post hp => ⟨hv, nm_r hop ⟨hv, nm_r hA ⟨hv, nm_r hB (br_t (by decide) (nm_r (nI_1 q) (br_f (by decide) (⟨hA8, nm_e ⟨hB8, nm_e (br_f (by decide) (br_f (by decide) (br_f (by decide) (br_f (by decide) (br_f (by decide) (br_t (by decide) (nm_e (br_t hc ⟨rfl, rfl, br_f hz ⟨rfl, rfl, br_f (by decide) (⟨hA8, nm_e hp⟩)⟩⟩))))))))⟩⟩))))⟩⟩⟩, fun post hp => ⟨hA8, nm_e ⟨hB8, nm_e (nm_r (nI_1 q) (br_f (by decide) (br_f (by decide) (br_f (by decide) (br_f (by decide) (br_f (by decide) (br_f (by decide) (br_f (by decide) (br_f (by decide) (br_f (by decide) (br_f (by decide) (br_f (by decide) (br_f (by decide) (br_f (by decide) (br_f (by decide) (br_t (by decide) (br_t hc ⟨rfl, rfl, br_f (by decide) (br_f (by decide) (br_f hz (br_f (by decide) (⟨hA8, nm_e hp⟩))))⟩)))))))))))))))))⟩⟩⟩
  · exact ⟨1, ha, _, _, by decide, (fun e0 => absurd e0 (by decide)), ⟨n, S, len, nI (q + 1), 1, 1, al, dp, sp, re, ta, ed, rx, ov, sb, sl, cl, yb, ya, yl, w, cv, si, ops, oa, ob, ve, upd rg A.toNatClampNeg ((rg A.toNatClampNeg - rg (B &&& 7).toNatClampNeg) &&& 255), me, st, an, so, li, P, rfl, rfl, h1, ⟨hpc, h2.2.1, tk_upd hrg (tk_b _), h2.2.2.2.1, h2.2.2.2.2⟩, h3, h4, hW⟩, fun post hp => ⟨hv, nm_r hop ⟨hv, nm_r hA ⟨hv, nm_r hB (br_t (by decide) (nm_r (nI_1 q) (br_f (by decide) (⟨hA8, nm_e ⟨hB8, nm_e (br_f (by decide) (br_f (by decide) (br_f (by decide) (br_f (by decide) (br_f (by decide) (br_t (by decide) (nm_e (br_f hc ⟨rfl, rfl, br_t hz ⟨rfl, rfl, br_f (by decide) (⟨hA8, nm_e hp⟩)⟩⟩))))))))⟩⟩))))⟩⟩⟩, fun post hp => ⟨hA8, nm_e ⟨hB8, nm_e (nm_r (nI_1 q) (br_f (by decide) (br_f (by decide) (br_f (by decide) (br_f (by decide) (br_f (by decide) (br_f (by decide) (br_f (by decide) (br_f (by decide) (br_f (by decide) (br_f (by decide) (br_f (by decide) (br_f (by decide) (br_f (by decide) (br_f (by decide) (br_t (by decide) (br_f hc ⟨rfl, rfl, br_f (by decide) (br_f (by decide) (br_t hz (br_f (by decide) (⟨hA8, nm_e hp⟩))))⟩)))))))))))))))))⟩⟩⟩
  · exact ⟨1, ha, _, _, by decide, (fun e0 => absurd e0 (by decide)), ⟨n, S, len, nI (q + 1), 0, 1, al, dp, sp, re, ta, ed, rx, ov, sb, sl, cl, yb, ya, yl, w, cv, si, ops, oa, ob, ve, upd rg A.toNatClampNeg ((rg A.toNatClampNeg - rg (B &&& 7).toNatClampNeg) &&& 255), me, st, an, so, li, P, rfl, rfl, h1, ⟨hpc, h2.2.1, tk_upd hrg (tk_b _), h2.2.2.2.1, h2.2.2.2.2⟩, h3, h4, hW⟩, fun post hp => ⟨hv, nm_r hop ⟨hv, nm_r hA ⟨hv, nm_r hB (br_t (by decide) (nm_r (nI_1 q) (br_f (by decide) (⟨hA8, nm_e ⟨hB8, nm_e (br_f (by decide) (br_f (by decide) (br_f (by decide) (br_f (by decide) (br_f (by decide) (br_t (by decide) (nm_e (br_f hc ⟨rfl, rfl, br_f hz ⟨rfl, rfl, br_f (by decide) (⟨hA8, nm_e hp⟩)⟩⟩))))))))⟩⟩))))⟩⟩⟩, fun post hp => ⟨hA8, nm_e ⟨hB8, nm_e (nm_r (nI_1 q) (br_f (by decide) (br_f (by decide) (br_f (by decide) (br_f (by decide) (br_f (by decide) (br_f (by decide) (br_f (by decide) (br_f (by decide) (br_f (by decide) (br_f (by decide) (br_f (by decide) (br_f (by decide) (br_f (by decide) (br_f (by decide) (br_t (by decide) (br_f hc ⟨rfl, rfl, br_f (by decide) (br_f (by decide) (br_f hz (br_f (by decide) (⟨hA8, nm_e hp⟩))))⟩)))))))))))))))))⟩⟩⟩
theorem ex_4 {q : Nat} {A B : Int32} (h1 : tk_I1 len ops ve an) (h2 : tk_I2 (nI q) dp rg me st) (h3 : tk_I3 cv P) (h4 : tk_I4 n S T rx ov sl cl yb ya yl so) (hW : tk_W (P 14) w si) (hq : q < 48) (hA : oa (nI q).toNatClampNeg &&& 7 = A) (hB : ob (nI q).toNatClampNeg = B) (hop : ops (nI q).toNatClampNeg = 4) : tk_St T pa (fun post => wpX_carryOut post (len, nI q, z, c, al, dp, sp, ha, nI T, re, ta, ed, nI n, rx, ov, sb, sl, nI S, cl, yb, ya, yl, w, ops, oa, ob, ve, rg, me, st, an, so, li, P)) (fun post => wpY_execute post (len, P 13, z, c, al, sp, ha, dp, nI q, nI T, pa, ta, re, ed, nI S, P 6, P 7, P 8, cv, P 10, P 12, P 14, P 16, P 18, P 19, si, rx, ov, sl, sb, cl, yl, yb, ya, ops, oa, ob, ve, an, so, rg, me, st, li, tk_q n, tk_d P 0, tk_d P 1, tk_d P 2) 4 A B) := by
  have hv : vp_in (nI q) 48 := vp_in_nI hq (by decide)
  have hA8 : vp_in A 8 := by rw [← hA]; exact tk_in (tk_7 _) (by decide)
  have hB8 : vp_in (B &&& 7) 8 := tk_in (tk_7 _) (by decide)
  have hrg := h2.2.2.1
  have hpc : tk_lt 256 (nI (q + 1)) := tk_mk (by omega)
  by_cases hc : rg (B &&& 7).toNatClampNeg ≤ rg A.toNatClampNeg <;> by_cases hz : (rg A.toNatClampNeg - rg (B &&& 7).toNatClampNeg) &&& 255 = 0
  · exact ⟨1, ha, _, _, by decide, (fun e0 => absurd e0 (by decide)), ⟨n, S, len, nI (q + 1), 1, 0, al, dp, sp, re, ta, ed, rx, ov, sb, sl, cl, yb, ya, yl, w, cv, si, ops, oa, ob, ve, rg, me, st, an, so, li, P, rfl, rfl, h1, ⟨hpc, h2.2.1, hrg, h2.2.2.2.1, h2.2.2.2.2⟩, h3, h4, hW⟩, fun post hp => ⟨hv, nm_r hop ⟨hv, nm_r hA ⟨hv, nm_r hB (br_t (by decide) (nm_r (nI_1 q) (br_f (by decide) (⟨hA8, nm_e ⟨hB8, nm_e (br_f (by decide) (br_f (by decide) (br_f (by decide) (br_f (by decide) (br_f (by decide) (br_f (by decide) (br_t (by decide) (nm_e (br_t hc ⟨rfl, rfl, br_t hz ⟨rfl, rfl, br_t (by decide) (hp)⟩⟩)))))))))⟩⟩))))⟩⟩⟩, fun post hp => ⟨hA8, nm_e ⟨hB8, nm_e (nm_r (nI_1 q) (br_f (by decide) (br_f (by decide) (br_f (by decide) (br_f (by decide) (br_f (by decide) (br_f (by decide) (br_f (by decide) (br_f (by decide) (br_f (by decide) (br_f (by decide) (br_f (by decide) (br_f (by decide) (br_f (by decide) (br_f (by decide) (br_f (by decide) (br_t (by decide) (br_t hc ⟨rfl, rfl, br_f (by decide) (br_f (by decide) (br_t hz (br_t (by decide) (hp))))⟩))))))))))))))))))⟩⟩⟩
  · exact ⟨1, ha, _, _, by decide, (fun e0 => absurd e0 (by decide)), ⟨n, S, len, nI (q + 1), 0, 0, al, dp, sp, re, ta, ed, rx, ov, sb, sl, cl, yb, ya, yl, w, cv, si, ops, oa, ob, ve, rg, me, st, an, so, li, P, rfl, rfl, h1, ⟨hpc, h2.2.1, hrg, h2.2.2.2.1, h2.2.2.2.2⟩, h3, h4, hW⟩, fun post hp => ⟨hv, nm_r hop ⟨hv, nm_r hA ⟨hv, nm_r hB (br_t (by decide) (nm_r (nI_1 q) (br_f (by decide) (⟨hA8, nm_e ⟨hB8, nm_e (br_f (by decide) (br_f (by decide) (br_f (by decide) (br_f (by decide) (br_f (by decide) (br_f (by decide) (br_t (by decide) (nm_e (br_t hc ⟨rfl, rfl, br_f hz ⟨rfl, rfl, br_t (by decide) (hp)⟩⟩)))))))))⟩⟩))))⟩⟩⟩, fun post hp => ⟨hA8, nm_e ⟨hB8, nm_e (nm_r (nI_1 q) (br_f (by decide) (br_f (by decide) (br_f (by decide) (br_f (by decide) (br_f (by decide) (br_f (by decide) (br_f (by decide) (br_f (by decide) (br_f (by decide) (br_f (by decide) (br_f (by decide) (br_f (by decide) (br_f (by decide) (br_f (by decide) (br_f (by decide) (br_t (by decide) (br_t hc ⟨rfl, rfl, br_f (by decide) (br_f (by decide) (br_f hz (br_t (by decide) (hp))))⟩))))))))))))))))))⟩⟩⟩
  · exact ⟨1, ha, _, _, by decide, (fun e0 => absurd e0 (by decide)), ⟨n, S, len, nI (q + 1), 1, 1, al, dp, sp, re, ta, ed, rx, ov, sb, sl, cl, yb, ya, yl, w, cv, si, ops, oa, ob, ve, rg, me, st, an, so, li, P, rfl, rfl, h1, ⟨hpc, h2.2.1, hrg, h2.2.2.2.1, h2.2.2.2.2⟩, h3, h4, hW⟩, fun post hp => ⟨hv, nm_r hop ⟨hv, nm_r hA ⟨hv, nm_r hB (br_t (by decide) (nm_r (nI_1 q) (br_f (by decide) (⟨hA8, nm_e ⟨hB8, nm_e (br_f (by decide) (br_f (by decide) (br_f (by decide) (br_f (by decide) (br_f (by decide) (br_f (by decide) (br_t (by decide) (nm_e (br_f hc ⟨rfl, rfl, br_t hz ⟨rfl, rfl, br_t (by decide) (hp)⟩⟩)))))))))⟩⟩))))⟩⟩⟩, fun post hp => ⟨hA8, nm_e ⟨hB8, nm_e (nm_r (nI_1 q) (br_f (by decide) (br_f (by decide) (br_f (by decide) (br_f (by decide) (br_f (by decide) (br_f (by decide) (br_f (by decide) (br_f (by decide) (br_f (by decide) (br_f (by decide) (br_f (by decide) (br_f (by decide) (br_f (by decide) (br_f (by decide) (br_f (by decide) (br_t (by decide) (br_f hc ⟨rfl, rfl, br_f (by decide) (br_f (by decide) (br_t hz (br_t (by decide) (hp))))⟩))))))))))))))))))⟩⟩⟩
  · exact ⟨1, ha, _, _, by decide, (fun e0 => absurd e0 (by decide)), ⟨n, S, len, nI (q + 1), 0, 1, al, dp, sp, re, ta, ed, rx, ov, sb, sl, cl, yb, ya, yl, w, cv, si, ops, oa, ob, ve, rg, me, st, an, so, li, P, rfl, rfl, h1, ⟨hpc, h2.2.1, hrg, h2.2.2.2.1, h2.2.2.2.2⟩, h3, h4, hW⟩, fun post hp => ⟨hv, nm_r hop ⟨hv, nm_r hA ⟨hv, nm_r hB (br_t (by decide) (nm_r (nI_1 q) (br_f (by decide) (⟨hA8, nm_e ⟨hB8, nm_e (br_f (by decide) (br_f (by decide) (br_f (by decide) (br_f (by decide) (br_f (by decide) (br_f (by decide) (br_t (by decide) (nm_e (br_f hc ⟨rfl, rfl, br_f hz ⟨rfl, rfl, br_t (by decide) (hp)⟩⟩)))))))))⟩⟩))))⟩⟩⟩, fun post hp => ⟨hA8, nm_e ⟨hB8, nm_e (nm_r (nI_1 q) (br_f (by decide) (br_f (by decide) (br_f (by decide) (br_f (by decide) (br_f (by decide) (br_f (by decide) (br_f (by decide) (br_f (by decide) (br_f (by decide) (br_f (by decide) (br_f (by decide) (br_f (by decide) (br_f (by decide) (br_f (by decide) (br_f (by decide) (br_t (by decide) (br_f hc ⟨rfl, rfl, br_f (by decide) (br_f (by decide) (br_f hz (br_t (by decide) (hp))))⟩))))))))))))))))))⟩⟩⟩
theorem ex_5 {q : Nat} {A B : Int32} (h1 : tk_I1 len ops ve an) (h2 : tk_I2 (nI q) dp rg me st) (h3 : tk_I3 cv P) (h4 : tk_I4 n S T rx ov sl cl yb ya yl so) (hW : tk_W (P 14) w si) (hq : q < 48) (hA : oa (nI q).toNatClampNeg &&& 7 = A) (hB : ob (nI q).toNatClampNeg = B) (hop : ops (nI q).toNatClampNeg = 5) : tk_St T pa (fun post => wpX_carryOut post (len, nI q, z, c, al, dp, sp, ha, nI T, re, ta, ed, nI n, rx, ov, sb, sl, nI S, cl, yb, ya, yl, w, ops, oa, ob, ve, rg, me, st, an, so, li, P)) (fun post => wpY_execute post (len, P 13, z, c, al, sp, ha, dp, nI q, nI T, pa, ta, re, ed, nI S, P 6, P 7, P 8, cv, P 10, P 12, P 14, P 16, P 18, P 19, si, rx, ov, sl, sb, cl, yl, yb, ya, ops, oa, ob, ve, an, so, rg, me, st, li, tk_q n, tk_d P 0, tk_d P 1, tk_d P 2) 5 A B) := by
  have hv : vp_in (nI q) 48 := vp_in_nI hq (by decide)
  have hA8 : vp_in A 8 := by rw [← hA]; exact tk_in (tk_7 _) (by decide)
  have hB8 : vp_in (B &&& 7) 8 := tk_in (tk_7 _) (by decide)
  have hrg := h2.2.2.1
  have hpc : tk_lt 256 (nI (q + 1)) := tk_mk (by omega)
  have e255 : (rg A.toNatClampNeg &&& rg (B &&& 7).toNatClampNeg) &&& 255 = rg A.toNatClampNeg &&& rg (B &&& 7).toNatClampNeg := tk_and2 (hrg _)
  by_cases hz : rg A.toNatClampNeg &&& rg (B &&& 7).toNatClampNeg = 0
  · exact ⟨1, ha, _, _, by decide, (fun e0 => absurd e0 (by decide)), ⟨n, S, len, nI (q + 1), 1, c, al, dp, sp, re, ta, ed, rx, ov, sb, sl, cl, yb, ya, yl, w, cv, si, ops, oa, ob, ve, upd rg A.toNatClampNeg (rg A.toNatClampNeg &&& rg (B &&& 7).toNatClampNeg), me, st, an, so, li, P, rfl, rfl, h1, ⟨hpc, h2.2.1, tk_upd hrg (tk_andB (hrg _)), h2.2.2.2.1, h2.2.2.2.2⟩, h3, h4, hW⟩, fun post hp => ⟨hv, nm_r hop ⟨hv, nm_r hA ⟨hv, nm_r hB (br_t (by decide) (nm_r (nI_1 q) (br_f (by decide) (⟨hA8, nm_e ⟨hB8, nm_e (br_f (by decide) (br_f (by decide) (br_f (by decide) (br_f (by decide) (br_f (by decide) (br_f (by decide) (br_f (by decide) (br_t (by decide) (nm_e (br_t hz ⟨rfl, rfl, br_f (by decide) (⟨hA8, nm_e hp⟩)⟩))))))))))⟩⟩))))⟩⟩⟩, fun post hp => ⟨hA8, nm_e ⟨hB8, nm_e (nm_r (nI_1 q) (br_f (by decide) (br_f (by decide) (br_f (by decide) (br_f (by decide) (br_f (by decide) (br_f (by decide) (br_f (by decide) (br_f (by decide) (br_f (by decide) (br_f (by decide) (br_t (by decide) (br_f (by decide) (br_f (by decide) (br_f (by decide) (br_f (by decide) (br_f (by decide) (br_t (by rw [e255]; exact hz) (br_f (by decide) (⟨hA8, nm_r (congrArg (upd rg _) e255) hp⟩))))))))))))))))))))⟩⟩⟩
  · exact ⟨1, ha, _, _, by decide, (fun e0 => absurd e0 (by decide)), ⟨n, S, len, nI (q + 1), 0, c, al, dp, sp, re, ta, ed, rx, ov, sb, sl, cl, yb, ya, yl, w, cv, si, ops, oa, ob, ve, upd rg A.toNatClampNeg (rg A.toNatClampNeg &&& rg (B &&& 7).toNatClampNeg), me, st, an, so, li, P, rfl, rfl, h1, ⟨hpc, h2.2.1, tk_upd hrg (tk_andB (hrg _)), h2.2.2.2.1, h2.2.2.2.2⟩, h3, h4, hW⟩, fun post hp => ⟨hv, nm_r hop ⟨hv, nm_r hA ⟨hv, nm_r hB (br_t (by decide) (nm_r (nI_1 q) (br_f (by decide) (⟨hA8, nm_e ⟨hB8, nm_e (br_f (by decide) (br_f (by decide) (br_f (by decide) (br_f (by decide) (br_f (by decide) (br_f (by decide) (br_f (by decide) (br_t (by decide) (nm_e (br_f hz ⟨rfl, rfl, br_f (by decide) (⟨hA8, nm_e hp⟩)⟩))))))))))⟩⟩))))⟩⟩⟩, fun post hp => ⟨hA8, nm_e ⟨hB8, nm_e (nm_r (nI_1 q) (br_f (by decide) (br_f (by decide) (br_f (by decide) (br_f (by decide) (br_f (by decide) (br_f (by decide) (br_f (by decide) (br_f (by decide) (br_f (by decide) (br_f (by decide) (br_t (by decide) (br_f (by decide) (br_f (by decide) (br_f (by decide) (br_f (by decide) (br_f (by decide) (br_f (by rw [e255]; exact hz) (br_f (by decide) (⟨hA8, nm_r (congrArg (upd rg _) e255) hp⟩))))))))))))))))))))⟩⟩⟩
theorem ex_6 {q : Nat} {A B : Int32} (h1 : tk_I1 len ops ve an) (h2 : tk_I2 (nI q) dp rg me st) (h3 : tk_I3 cv P) (h4 : tk_I4 n S T rx ov sl cl yb ya yl so) (hW : tk_W (P 14) w si) (hq : q < 48) (hA : oa (nI q).toNatClampNeg &&& 7 = A) (hB : ob (nI q).toNatClampNeg = B) (hop : ops (nI q).toNatClampNeg = 6) : tk_St T pa (fun post => wpX_carryOut post (len, nI q, z, c, al, dp, sp, ha, nI T, re, ta, ed, nI n, rx, ov, sb, sl, nI S, cl, yb, ya, yl, w, ops, oa, ob, ve, rg, me, st, an, so, li, P)) (fun post => wpY_execute post (len, P 13, z, c, al, sp, ha, dp, nI q, nI T, pa, ta, re, ed, nI S, P 6, P 7, P 8, cv, P 10, P 12, P 14, P 16, P 18, P 19, si, rx, ov, sl, sb, cl, yl, yb, ya, ops, oa, ob, ve, an, so, rg, me, st, li, tk_q n, tk_d P 0, tk_d P 1, tk_d P 2) 6 A B) := by
  have hv : vp_in (nI q) 48 := vp_in_nI hq (by decide)
  have hA8 : vp_in A 8 := by rw [← hA]; exact tk_in (tk_7 _) (by decide)
  have hB8 : vp_in (B &&& 7) 8 := tk_in (tk_7 _) (by decide)
  have hrg := h2.2.2.1
  have hpc : tk_lt 256 (nI (q + 1)) := tk_mk (by omega)
  have e255 : (rg A.toNatClampNeg ^^^ rg (B &&& 7).toNatClampNeg) &&& 255 = rg A.toNatClampNeg ^^^ rg (B &&& 7).toNatClampNeg := tk_255 (tk_xorB (hrg _) (hrg _))
  by_cases hz : rg A.toNatClampNeg ^^^ rg (B &&& 7).toNatClampNeg = 0
  · exact ⟨1, ha, _, _, by decide, (fun e0 => absurd e0 (by decide)), ⟨n, S, len, nI (q + 1), 1, c, al, dp, sp, re, ta, ed, rx, ov, sb, sl, cl, yb, ya, yl, w, cv, si, ops, oa, ob, ve, upd rg A.toNatClampNeg (rg A.toNatClampNeg ^^^ rg (B &&& 7).toNatClampNeg), me, st, an, so, li, P, rfl, rfl, h1, ⟨hpc, h2.2.1, tk_upd hrg (tk_xorB (hrg _) (hrg _)), h2.2.2.2.1, h2.2.2.2.2⟩, h3, h4, hW⟩, fun post hp => ⟨hv, nm_r hop ⟨hv, nm_r hA ⟨hv, nm_r hB (br_t (by decide) (nm_r (nI_1 q) (br_f (by decide) (⟨hA8, nm_e ⟨hB8, nm_e (br_f (by decide) (br_f (by decide) (br_f (by decide) (br_f (by decide) (br_f (by decide) (br_f (by decide) (br_f (by decide) (br_f (by decide) (br_t (by decide) (nm_e (br_t hz ⟨rfl, rfl, br_f (by decide) (⟨hA8, nm_e hp⟩)⟩)))))))))))⟩⟩))))⟩⟩⟩, fun post hp => ⟨hA8, nm_e ⟨hB8, nm_e (nm_r (nI_1 q) (br_f (by decide) (br_f (by decide) (br_f (by decide) (br_f (by decide) (br_f (by decide) (br_f (by decide) (br_f (by decide) (br_f (by decide) (br_f (by decide) (br_f (by decide) (br_f (by decide) (br_t (by decide) (br_f (by decide) (br_f (by decide) (br_f (by decide) (br_f (by decide) (br_f (by decide) (br_t (by rw [e255]; exact hz) (br_f (by decide) (⟨hA8, nm_r (congrArg (upd rg _) e255) hp⟩)))))))))))))))))))))⟩⟩⟩
  · exact ⟨1, ha, _, _, by decide, (fun e0 => absurd e0 (by decide)), ⟨n, S, len, nI (q + 1), 0, c, al, dp, sp, re, ta, ed, rx, ov, sb, sl, cl, yb, ya, yl, w, cv, si, ops, oa, ob, ve, upd rg A.toNatClampNeg (rg A.toNatClampNeg ^^^ rg (B &&& 7).toNatClampNeg), me, st, an, so, li, P, rfl, rfl, h1, ⟨hpc, h2.2.1, tk_upd hrg (tk_xorB (hrg _) (hrg _)), h2.2.2.2.1, h2.2.2.2.2⟩, h3, h4, hW⟩, fun post hp => ⟨hv, nm_r hop ⟨hv, nm_r hA ⟨hv, nm_r hB (br_t (by decide) (nm_r (nI_1 q) (br_f (by decide) (⟨hA8, nm_e ⟨hB8, nm_e (br_f (by decide) (br_f (by decide) (br_f (by decide) (br_f (by decide) (br_f (by decide) (br_f (by decide) (br_f (by decide) (br_f (by decide) (br_t (by decide) (nm_e (br_f hz ⟨rfl, rfl, br_f (by decide) (⟨hA8, nm_e hp⟩)⟩)))))))))))⟩⟩))))⟩⟩⟩, fun post hp => ⟨hA8, nm_e ⟨hB8, nm_e (nm_r (nI_1 q) (br_f (by decide) (br_f (by decide) (br_f (by decide) (br_f (by decide) (br_f (by decide) (br_f (by decide) (br_f (by decide) (br_f (by decide) (br_f (by decide) (br_f (by decide) (br_f (by decide) (br_t (by decide) (br_f (by decide) (br_f (by decide) (br_f (by decide) (br_f (by decide) (br_f (by decide) (br_f (by rw [e255]; exact hz) (br_f (by decide) (⟨hA8, nm_r (congrArg (upd rg _) e255) hp⟩)))))))))))))))))))))⟩⟩⟩
theorem ex_7 {q : Nat} {A B : Int32} (h1 : tk_I1 len ops ve an) (h2 : tk_I2 (nI q) dp rg me st) (h3 : tk_I3 cv P) (h4 : tk_I4 n S T rx ov sl cl yb ya yl so) (hW : tk_W (P 14) w si) (hq : q < 48) (hA : oa (nI q).toNatClampNeg &&& 7 = A) (hB : ob (nI q).toNatClampNeg = B) (hop : ops (nI q).toNatClampNeg = 7) : tk_St T pa (fun post => wpX_carryOut post (len, nI q, z, c, al, dp, sp, ha, nI T, re, ta, ed, nI n, rx, ov, sb, sl, nI S, cl, yb, ya, yl, w, ops, oa, ob, ve, rg, me, st, an, so, li, P)) (fun post => wpY_execute post (len, P 13, z, c, al, sp, ha, dp, nI q, nI T, pa, ta, re, ed, nI S, P 6, P 7, P 8, cv, P 10, P 12, P 14, P 16, P 18, P 19, si, rx, ov, sl, sb, cl, yl, yb, ya, ops, oa, ob, ve, an, so, rg, me, st, li, tk_q n, tk_d P 0, tk_d P 1, tk_d P 2) 7 A B) := by
  have hv : vp_in (nI q) 48 := vp_in_nI hq (by decide)
  have hA8 : vp_in A 8 := by rw [← hA]; exact tk_in (tk_7 _) (by decide)
  have hB8 : vp_in (B &&& 7) 8 := tk_in (tk_7 _) (by decide)
  have hrg := h2.2.2.1
  have hpc : tk_lt 256 (nI (q + 1)) := tk_mk (by omega)
  have e255 : (rg A.toNatClampNeg >>> ((1 : Int32) &&& 31)) &&& 255 = rg A.toNatClampNeg >>> ((1 : Int32) &&& 31) := tk_255 (tk_shr (hrg _))
  obtain ⟨m, hm, em⟩ := pk_andE (rg A.toNatClampNeg) (m := 1) 1 (by decide)
  have hm2 : (rg A.toNatClampNeg &&& 1 = 0 ∧ ¬ rg A.toNatClampNeg &&& 1 = 1) ∨ (¬ rg A.toNatClampNeg &&& 1 = 0 ∧ rg A.toNatClampNeg &&& 1 = 1) := by
    rw [em]
    rcases (by omega : m = 0 ∨ m = 1) with y | y <;> subst y
    · exact Or.inl ⟨rfl, by decide⟩
    · exact Or.inr ⟨by decide, rfl⟩
  rcases hm2 with ⟨c0, c1⟩ | ⟨c0, c1⟩ <;> by_cases hz : rg A.toNatClampNeg >>> ((1 : Int32) &&& 31) = 0
  · exact ⟨1, ha, _, _, by decide, (fun e0 => absurd e0 (by decide)), ⟨n, S, len, nI (q + 1), 1, 0, al, dp, sp, re, ta, ed, rx, ov, sb, sl, cl, yb, ya, yl, w, cv, si, ops, oa, ob, ve, upd rg A.toNatClampNeg (rg A.toNatClampNeg >>> ((1 : Int32) &&& 31)), me, st, an, so, li, P, rfl, rfl, h1, ⟨hpc, h2.2.1, tk_upd hrg (tk_shr (hrg _)), h2.2.2.2.1, h2.2.2.2.2⟩, h3, h4, hW⟩, fun post hp => ⟨hv, nm_r hop ⟨hv, nm_r hA ⟨hv, nm_r hB (br_t (by decide) (nm_r (nI_1 q) (br_f (by decide) (⟨hA8, nm_e ⟨hB8, nm_e (br_f (by decide) (br_f (by decide) (br_f (by decide) (br_f (by decide) (br_f (by decide) (br_f (by decide) (br_f (by decide) (br_f (by decide) (br_f (by decide) (br_t (by decide) (nm_e (br_t c0 ⟨rfl, rfl, br_t hz ⟨rfl, rfl, br_f (by decide) (⟨hA8, nm_e hp⟩)⟩⟩))))))))))))⟩⟩))))⟩⟩⟩, fun post hp => ⟨hA8, nm_e ⟨hB8, nm_e (nm_r (nI_1 q) (br_f (by decide) (br_f (by decide) (br_f (by decide) (br_f (by decide) (br_f (by decide) (br_f (by decide) (br_f (by decide) (br_f (by decide) (br_f (by decide) (br_f (by decide) (br_f (by decide) (br_f (by decide) (br_t (by decide) (br_f (by decide) (br_f (by decide) (br_f (by decide) (br_t (by decide) (br_f c1 ⟨rfl, rfl, br_f (by decide) (br_t (by rw [e255]; exact hz) (br_f (by decide) (⟨hA8, nm_r (congrArg (upd rg _) e255) hp⟩)))⟩)))))))))))))))))))⟩⟩⟩
  · exact ⟨1, ha, _, _, by decide, (fun e0 => absurd e0 (by decide)), ⟨n, S, len, nI (q + 1), 0, 0, al, dp, sp, re, ta, ed, rx, ov, sb, sl, cl, yb, ya, yl, w, cv, si, ops, oa, ob, ve, upd rg A.toNatClampNeg (rg A.toNatClampNeg >>> ((1 : Int32) &&& 31)), me, st, an, so, li, P, rfl, rfl, h1, ⟨hpc, h2.2.1, tk_upd hrg (tk_shr (hrg _)), h2.2.2.2.1, h2.2.2.2.2⟩, h3, h4, hW⟩, fun post hp => ⟨hv, nm_r hop ⟨hv, nm_r hA ⟨hv, nm_r hB (br_t (by decide) (nm_r (nI_1 q) (br_f (by decide) (⟨hA8, nm_e ⟨hB8, nm_e (br_f (by decide) (br_f (by decide) (br_f (by decide) (br_f (by decide) (br_f (by decide) (br_f (by decide) (br_f (by decide) (br_f (by decide) (br_f (by decide) (br_t (by decide) (nm_e (br_t c0 ⟨rfl, rfl, br_f hz ⟨rfl, rfl, br_f (by decide) (⟨hA8, nm_e hp⟩)⟩⟩))))))))))))⟩⟩))))⟩⟩⟩, fun post hp => ⟨hA8, nm_e ⟨hB8, nm_e (nm_r (nI_1 q) (br_f (by decide) (br_f (by decide) (br_f (by decide) (br_f (by decide) (br_f (by decide) (br_f (by decide) (br_f (by decide) (br_f (by decide) (br_f (by decide) (br_f (by decide) (br_f (by decide) (br_f (by decide) (br_t (by decide) (br_f (by decide) (br_f (by decide) (br_f (by decide) (br_t (by decide) (br_f c1 ⟨rfl, rfl, br_f (by decide) (br_f (by rw [e255]; exact hz) (br_f (by decide) (⟨hA8, nm_r (congrArg (upd rg _) e255) hp⟩)))⟩)))))))))))))))))))⟩⟩⟩
  · exact ⟨1, ha, _, _, by decide, (fun e0 => absurd e0 (by decide)), ⟨n, S, len, nI (q + 1), 1, 1, al, dp, sp, re, ta, ed, rx, ov, sb, sl, cl, yb, ya, yl, w, cv, si, ops, oa, ob, ve, upd rg A.toNatClampNeg (rg A.toNatClampNeg >>> ((1 : Int32) &&& 31)), me, st, an, so, li, P, rfl, rfl, h1, ⟨hpc, h2.2.1, tk_upd hrg (tk_shr (hrg _)), h2.2.2.2.1, h2.2.2.2.2⟩, h3, h4, hW⟩, fun post hp => ⟨hv, nm_r hop ⟨hv, nm_r hA ⟨hv, nm_r hB (br_t (by decide) (nm_r (nI_1 q) (br_f (by decide) (⟨hA8, nm_e ⟨hB8, nm_e (br_f (by decide) (br_f (by decide) (br_f (by decide) (br_f (by decide) (br_f (by decide) (br_f (by decide) (br_f (by decide) (br_f (by decide) (br_f (by decide) (br_t (by decide) (nm_e (br_f c0 ⟨rfl, rfl, br_t hz ⟨rfl, rfl, br_f (by decide) (⟨hA8, nm_e hp⟩)⟩⟩))))))))))))⟩⟩))))⟩⟩⟩, fun post hp => ⟨hA8, nm_e ⟨hB8, nm_e (nm_r (nI_1 q) (br_f (by decide) (br_f (by decide) (br_f (by decide) (br_f (by decide) (br_f (by decide) (br_f (by decide) (br_f (by decide) (br_f (by decide) (br_f (by decide) (br_f (by decide) (br_f (by decide) (br_f (by decide) (br_t (by decide) (br_f (by decide) (br_f (by decide) (br_f (by decide) (br_t (by decide) (br_t c1 ⟨rfl, rfl, br_f (by decide) (br_t (by rw [e255]; exact hz) (br_f (by decide) (⟨hA8, nm_r (congrArg (upd rg _) e255) hp⟩)))⟩)))))))))))))))))))⟩⟩⟩
  · exact ⟨1, ha, _, _, by decide, (fun e0 => absurd e0 (by decide)), ⟨n, S, len, nI (q + 1), 0, 1, al, dp, sp, re, ta, ed, rx, ov, sb, sl, cl, yb, ya, yl, w, cv, si, ops, oa, ob, ve, upd rg A.toNatClampNeg (rg A.toNatClampNeg >>> ((1 : Int32) &&& 31)), me, st, an, so, li, P, rfl, rfl, h1, ⟨hpc, h2.2.1, tk_upd hrg (tk_shr (hrg _)), h2.2.2.2.1, h2.2.2.2.2⟩, h3, h4, hW⟩, fun post hp => ⟨hv, nm_r hop ⟨hv, nm_r hA ⟨hv, nm_r hB (br_t (by decide) (nm_r (nI_1 q) (br_f (by decide) (⟨hA8, nm_e ⟨hB8, nm_e (br_f (by decide) (br_f (by decide) (br_f (by decide) (br_f (by decide) (br_f (by decide) (br_f (by decide) (br_f (by decide) (br_f (by decide) (br_f (by decide) (br_t (by decide) (nm_e (br_f c0 ⟨rfl, rfl, br_f hz ⟨rfl, rfl, br_f (by decide) (⟨hA8, nm_e hp⟩)⟩⟩))))))))))))⟩⟩))))⟩⟩⟩, fun post hp => ⟨hA8, nm_e ⟨hB8, nm_e (nm_r (nI_1 q) (br_f (by decide) (br_f (by decide) (br_f (by decide) (br_f (by decide) (br_f (by decide) (br_f (by decide) (br_f (by decide) (br_f (by decide) (br_f (by decide) (br_f (by decide) (br_f (by decide) (br_f (by decide) (br_t (by decide) (br_f (by decide) (br_f (by decide) (br_f (by decide) (br_t (by decide) (br_t c1 ⟨rfl, rfl, br_f (by decide) (br_f (by rw [e255]; exact hz) (br_f (by decide) (⟨hA8, nm_r (congrArg (upd rg _) e255) hp⟩)))⟩)))))))))))))))))))⟩⟩⟩
theorem ex_8 {q : Nat} {A B : Int32} (h1 : tk_I1 len ops ve an) (h2 : tk_I2 (nI q) dp rg me st) (h3 : tk_I3 cv P) (h4 : tk_I4 n S T rx ov sl cl yb ya yl so) (hW : tk_W (P 14) w si) (hq : q < 48) (hA : oa (nI q).toNatClampNeg &&& 7 = A) (hB : ob (nI q).toNatClampNeg = B) (hop : ops (nI q).toNatClampNeg = 8) : tk_St T pa (fun post => wpX_carryOut post (len, nI q, z, c, al, dp, sp, ha, nI T, re, ta, ed, nI n, rx, ov, sb, sl, nI S, cl, yb, ya, yl, w, ops, oa, ob, ve, rg, me, st, an, so, li, P)) (fun post => wpY_execute post (len, P 13, z, c, al, sp, ha, dp, nI q, nI T, pa, ta, re, ed, nI S, P 6, P 7, P 8, cv, P 10, P 12, P 14, P 16, P 18, P 19, si, rx, ov, sl, sb, cl, yl, yb, ya, ops, oa, ob, ve, an, so, rg, me, st, li, tk_q n, tk_d P 0, tk_d P 1, tk_d P 2) 8 A B) := by
  have hv : vp_in (nI q) 48 := vp_in_nI hq (by decide)
  have hA8 : vp_in A 8 := by rw [← hA]; exact tk_in (tk_7 _) (by decide)
  have hB8 : vp_in (B &&& 7) 8 := tk_in (tk_7 _) (by decide)
  have hrg := h2.2.2.1
  have hpc : tk_lt 256 (nI (q + 1)) := tk_mk (by omega)
  exact ⟨2, ha, _, _, by decide, (fun e0 => absurd e0 (by decide)), ⟨n, S, len, nI (q + 1), z, c, al, dp, sp, re, ta, ed, rx, ov, sb, sl, cl, yb, ya, yl, w, cv, si, ops, oa, ob, ve, upd rg A.toNatClampNeg (me (B &&& 31).toNatClampNeg), me, st, an, so, li, P, rfl, rfl, h1, ⟨hpc, h2.2.1, tk_upd hrg (h2.2.2.2.1 _), h2.2.2.2.1, h2.2.2.2.2⟩, h3, h4, hW⟩, fun post hp => ⟨hv, nm_r hop ⟨hv, nm_r hA ⟨hv, nm_r hB (br_t (by decide) (nm_r (nI_1 q) (br_t (by decide) (br_f (by decide) (br_f (by decide) (br_f (by decide) (br_t rfl (nm_e (br_t (by decide) (⟨(tk_in (tk_31 _) (by decide)), hA8, nm_e (br_f (by decide) (br_f (by decide) (hp)))⟩))))))))))⟩⟩⟩, fun post hp => ⟨hA8, nm_e ⟨hB8, nm_e (nm_r (nI_1 q) (br_f (by decide) (br_f (by decide) (br_f (by decide) (br_f (by decide) (br_f (by decide) (br_t (by decide) (br_f (by decide) (br_t (by decide) (br_t (by decide) (⟨(tk_in (tk_31 _) (by decide)), hA8, nm_e (br_f (by decide) (br_f (by decide) (br_f (by decide) (br_f (by decide) (br_f (by decide) (hp))))))⟩)))))))))))⟩⟩⟩
theorem ex_9 {q : Nat} {A B : Int32} (h1 : tk_I1 len ops ve an) (h2 : tk_I2 (nI q) dp rg me st) (h3 : tk_I3 cv P) (h4 : tk_I4 n S T rx ov sl cl yb ya yl so) (hW : tk_W (P 14) w si) (hq : q < 48) (hA : oa (nI q).toNatClampNeg &&& 7 = A) (hB : ob (nI q).toNatClampNeg = B) (hop : ops (nI q).toNatClampNeg = 9) : tk_St T pa (fun post => wpX_carryOut post (len, nI q, z, c, al, dp, sp, ha, nI T, re, ta, ed, nI n, rx, ov, sb, sl, nI S, cl, yb, ya, yl, w, ops, oa, ob, ve, rg, me, st, an, so, li, P)) (fun post => wpY_execute post (len, P 13, z, c, al, sp, ha, dp, nI q, nI T, pa, ta, re, ed, nI S, P 6, P 7, P 8, cv, P 10, P 12, P 14, P 16, P 18, P 19, si, rx, ov, sl, sb, cl, yl, yb, ya, ops, oa, ob, ve, an, so, rg, me, st, li, tk_q n, tk_d P 0, tk_d P 1, tk_d P 2) 9 A B) := by
  have hv : vp_in (nI q) 48 := vp_in_nI hq (by decide)
  have hA8 : vp_in A 8 := by rw [← hA]; exact tk_in (tk_7 _) (by decide)
  have hB8 : vp_in (B &&& 7) 8 := tk_in (tk_7 _) (by decide)
  have hrg := h2.2.2.1
  have hpc : tk_lt 256 (nI (q + 1)) := tk_mk (by omega)
  exact ⟨2, ha, _, _, by decide, (fun e0 => absurd e0 (by decide)), ⟨n, S, len, nI (q + 1), z, c, al, dp, sp, re, ta, ed, rx, ov, sb, sl, cl, yb, ya, yl, w, cv, si, ops, oa, ob, ve, rg, upd me (B &&& 31).toNatClampNeg (rg A.toNatClampNeg), st, an, so, li, P, rfl, rfl, h1, ⟨hpc, h2.2.1, hrg, tk_upd h2.2.2.2.1 (hrg _), h2.2.2.2.2⟩, h3, h4, hW⟩, fun post hp => ⟨hv, nm_r hop ⟨hv, nm_r hA ⟨hv, nm_r hB (br_t (by decide) (nm_r (nI_1 q) (br_t (by decide) (br_f (by decide) (br_f (by decide) (br_f (by decide) (br_t rfl (nm_e (br_f (by decide) (br_f (by decide) (br_t (by decide) (⟨hA8, (tk_in (tk_31 _) (by decide)), nm_e hp⟩))))))))))))⟩⟩⟩, fun post hp => ⟨hA8, nm_e ⟨hB8, nm_e (nm_r (nI_1 q) (br_f (by decide) (br_f (by decide) (br_f (by decide) (br_f (by decide) (br_f (by decide) (br_t (by decide) (br_f (by decide) (br_f (by decide) (br_t (by decide) (br_f (by decide) (br_f (by decide) (br_t (by decide) (⟨hA8, (tk_in (tk_31 _) (by decide)), nm_e (br_f (by decide) (br_f (by decide) (br_f (by decide) (hp))))⟩))))))))))))))⟩⟩⟩
theorem ex_10 {q : Nat} {A B : Int32} (h1 : tk_I1 len ops ve an) (h2 : tk_I2 (nI q) dp rg me st) (h3 : tk_I3 cv P) (h4 : tk_I4 n S T rx ov sl cl yb ya yl so) (hW : tk_W (P 14) w si) (hq : q < 48) (hA : oa (nI q).toNatClampNeg &&& 7 = A) (hB : ob (nI q).toNatClampNeg = B) (hop : ops (nI q).toNatClampNeg = 10) : tk_St T pa (fun post => wpX_carryOut post (len, nI q, z, c, al, dp, sp, ha, nI T, re, ta, ed, nI n, rx, ov, sb, sl, nI S, cl, yb, ya, yl, w, ops, oa, ob, ve, rg, me, st, an, so, li, P)) (fun post => wpY_execute post (len, P 13, z, c, al, sp, ha, dp, nI q, nI T, pa, ta, re, ed, nI S, P 6, P 7, P 8, cv, P 10, P 12, P 14, P 16, P 18, P 19, si, rx, ov, sl, sb, cl, yl, yb, ya, ops, oa, ob, ve, an, so, rg, me, st, li, tk_q n, tk_d P 0, tk_d P 1, tk_d P 2) 10 A B) := by
  have hv : vp_in (nI q) 48 := vp_in_nI hq (by decide)
  have hA8 : vp_in A 8 := by rw [← hA]; exact tk_in (tk_7 _) (by decide)
  have hB8 : vp_in (B &&& 7) 8 := tk_in (tk_7 _) (by decide)
  have hrg := h2.2.2.1
  have hpc : tk_lt 256 (nI (q + 1)) := tk_mk (by omega)
  exact ⟨2, ha, _, _, by decide, (fun e0 => absurd e0 (by decide)), ⟨n, S, len, nI (q + 1), z, c, al, dp, sp, re, ta, ed, rx, ov, sb, sl, cl, yb, ya, yl, w, cv, si, ops, oa, ob, ve, upd rg A.toNatClampNeg (me (rg (B &&& 7).toNatClampNeg &&& 31).toNatClampNeg), me, st, an, so, li, P, rfl, rfl, h1, ⟨hpc, h2.2.1, tk_upd hrg (h2.2.2.2.1 _), h2.2.2.2.1, h2.2.2.2.2⟩, h3, h4, hW⟩, fun post hp => ⟨hv, nm_r hop ⟨hv, nm_r hA ⟨hv, nm_r hB (br_t (by decide) (nm_r (nI_1 q) (br_t (by decide) (br_f (by decide) (br_t (by decide) (br_f (by decide) (⟨hB8, nm_e (br_f (by decide) (br_t (by decide) (⟨(tk_in (tk_31 _) (by decide)), hA8, nm_e (br_f (by decide) (br_f (by decide) (hp)))⟩)))⟩)))))))⟩⟩⟩, fun post hp => ⟨hA8, nm_e ⟨hB8, nm_e (nm_r (nI_1 q) (br_f (by decide) (br_f (by decide) (br_f (by decide) (br_f (by decide) (br_f (by decide) (br_t (by decide) (br_f (by decide) (br_f (by decide) (br_f (by decide) (⟨hB8, br_f (by decide) (br_t (by decide) (⟨(tk_in (tk_31 _) (by decide)), hA8, nm_e (br_f (by decide) (br_f (by decide) (br_f (by decide) (br_f (by decide) (br_f (by decide) (hp))))))⟩))⟩)))))))))))⟩⟩⟩
theorem ex_11 {q : Nat} {A B : Int32} (h1 : tk_I1 len ops ve an) (h2 : tk_I2 (nI q) dp rg me st) (h3 : tk_I3 cv P) (h4 : tk_I4 n S T rx ov sl cl yb ya yl so) (hW : tk_W (P 14) w si) (hq : q < 48) (hA : oa (nI q).toNatClampNeg &&& 7 = A) (hB : ob (nI q).toNatClampNeg = B) (hop : ops (nI q).toNatClampNeg = 11) : tk_St T pa (fun post => wpX_carryOut post (len, nI q, z, c, al, dp, sp, ha, nI T, re, ta, ed, nI n, rx, ov, sb, sl, nI S, cl, yb, ya, yl, w, ops, oa, ob, ve, rg, me, st, an, so, li, P)) (fun post => wpY_execute post (len, P 13, z, c, al, sp, ha, dp, nI q, nI T, pa, ta, re, ed, nI S, P 6, P 7, P 8, cv, P 10, P 12, P 14, P 16, P 18, P 19, si, rx, ov, sl, sb, cl, yl, yb, ya, ops, oa, ob, ve, an, so, rg, me, st, li, tk_q n, tk_d P 0, tk_d P 1, tk_d P 2) 11 A B) := by
  have hv : vp_in (nI q) 48 := vp_in_nI hq (by decide)
  have hA8 : vp_in A 8 := by rw [← hA]; exact tk_in (tk_7 _) (by decide)
  have hB8 : vp_in (B &&& 7) 8 := tk_in (tk_7 _) (by decide)
  have hrg := h2.2.2.1
  have hpc : tk_lt 256 (nI (q + 1)) := tk_mk (by omega)
  exact ⟨2, ha, _, _, by decide, (fun e0 => absurd e0 (by decide)), ⟨n, S, len, nI (q + 1), z, c, al, dp, sp, re, ta, ed, rx, ov, sb, sl, cl, yb, ya, yl, w, cv, si, ops, oa, ob, ve, rg, upd me (rg (B &&& 7).toNatClampNeg &&& 31).toNatClampNeg (rg A.toNatClampNeg), st, an, so, li, P, rfl, rfl, h1, ⟨hpc, h2.2.1, hrg, tk_upd h2.2.2.2.1 (hrg _), h2.2.2.2.2⟩, h3, h4, hW⟩, fun post hp => ⟨hv, nm_r hop ⟨hv, nm_r hA ⟨hv, nm_r hB (br_t (by decide) (nm_r (nI_1 q) (br_t (by decide) (br_f (by decide) (br_f (by decide) (br_t (by decide) (br_f (by decide) (⟨hB8, nm_e (br_f (by decide) (br_f (by decide) (br_f (by decide) (br_t (by decide) (⟨hA8, (tk_in (tk_31 _) (by decide)), nm_e hp⟩)))))⟩))))))))⟩⟩⟩, fun post hp => ⟨hA8, nm_e ⟨hB8, nm_e (nm_r (nI_1 q) (br_f (by decide) (br_f (by decide) (br_f (by decide) (br_f (by decide) (br_f (by decide) (br_t (by decide) (br_f (by decide) (br_f (by decide) (br_f (by decide) (⟨hB8, br_f (by decide) (br_f (by decide) (br_f (by decide) (br_t (by decide) (⟨hA8, (tk_in (tk_31 _) (by decide)), nm_e (br_f (by decide) (br_f (by decide) (br_f (by decide) (hp))))⟩))))⟩)))))))))))⟩⟩⟩
end
end
section
section
variable {n T S : Nat} {len pc z c al dp sp ha re ta ed rx ov sb sl cl yb ya yl w pa cv si : Int32} {ops oa ob ve rg me st an so li P : Nat → Int32}
theorem ex_12 {q : Nat} {A B : Int32} (h1 : tk_I1 len ops ve an) (h2 : tk_I2 (nI q) dp rg me st) (h3 : tk_I3 cv P) (h4 : tk_I4 n S T rx ov sl cl yb ya yl so) (hW : tk_W (P 14) w si) (hq : q < 48) (hA : oa (nI q).toNatClampNeg &&& 7 = A) (hB : ob (nI q).toNatClampNeg = B) (hop : ops (nI q).toNatClampNeg = 12) : tk_St T pa (fun post => wpX_carryOut post (len, nI q, z, c, al, dp, sp, ha, nI T, re, ta, ed, nI n, rx, ov, sb, sl, nI S, cl, yb, ya, yl, w, ops, oa, ob, ve, rg, me, st, an, so, li, P)) (fun post => wpY_execute post (len, P 13, z, c, al, sp, ha, dp, nI q, nI T, pa, ta, re, ed, nI S, P 6, P 7, P 8, cv, P 10, P 12, P 14, P 16, P 18, P 19, si, rx, ov, sl, sb, cl, yl, yb, ya, ops, oa, ob, ve, an, so, rg, me, st, li, tk_q n, tk_d P 0, tk_d P 1, tk_d P 2) 12 A B) := by
  have hv : vp_in (nI q) 48 := vp_in_nI hq (by decide)
  have hA8 : vp_in A 8 := by rw [← hA]; exact tk_in (tk_7 _) (by decide)
  have hB8 : vp_in (B &&& 7) 8 := tk_in (tk_7 _) (by decide)
  have hrg := h2.2.2.1
  have hpc : tk_lt 256 (nI (q + 1)) := tk_mk (by omega)
  obtain ⟨hn, hST, hrx, hov, hsl, hcl, hyb, hya, hyl, hso⟩ := h4
  obtain ⟨p, hp32, ep⟩ := tk_31 B
  obtain ⟨rx0, hrx0, erx⟩ := hrx
  obtain ⟨ov0, hov0, eov⟩ := hov
  subst erx
  subst eov
  obtain ⟨r, hr, rX, rY⟩ := rd_all (n := n) (T := T) (S := S) (len := len) (pc := nI (q + 1)) (z := z) (c := c) (al := al) (dp := dp) (sp := sp) (ha := ha) (re := re) (ta := ta) (ed := ed) (rx := nI rx0) (ov := nI ov0) (sb := sb) (sl := sl) (cl := cl) (yb := yb) (ya := ya) (yl := yl) (w := w) (pa := pa) (cv := cv) (si := si) (ops := ops) (oa := oa) (ob := ob) (ve := ve) (rg := rg) (me := me) (st := st) (an := an) (so := so) (li := li) (P := P) h3 hn hso p hp32
  rw [← ep] at rX rY
  by_cases e6 : B &&& 31 = 6 <;> by_cases e7 : B &&& 31 = 7 <;> rcases (by omega : rx0 = 0 ∨ rx0 = 1) with y | y <;> subst y <;> rcases (by omega : ov0 = 0 ∨ ov0 = 1) with y | y <;> subst y
  · exact ⟨1, ha, _, _, by decide, (fun e0 => absurd e0 (by decide)), ⟨n, S, len, nI (q + 1), z, c, al, dp, sp, re, ta, ed, nI 0, nI 0, sb, sl, cl, yb, ya, yl, w, cv, si, ops, oa, ob, ve, upd rg A.toNatClampNeg r, me, st, an, so, li, P, rfl, rfl, h1, ⟨hpc, h2.2.1, tk_upd hrg hr, h2.2.2.2.1, h2.2.2.2.2⟩, h3, ⟨hn, hST, tk_mk (by decide), tk_mk (by decide), hsl, hcl, hyb, hya, hyl, hso⟩, hW⟩, fun post hp => ⟨hv, nm_r hop ⟨hv, nm_r hA ⟨hv, nm_r hB (br_t (by decide) (nm_r (nI_1 q) (br_t (by decide) (br_t (by decide) (br_f (by decide) (br_f (by decide) (br_t (by decide) (rX _ ⟨hA8, nm_e (br_t rfl ⟨rfl, rfl, (br_t rfl hp)⟩)⟩))))))))⟩⟩⟩, fun post hp => ⟨hA8, nm_e ⟨hB8, nm_e (nm_r (nI_1 q) (br_f (by decide) (br_f (by decide) (br_f (by decide) (br_f (by decide) (br_f (by decide) (br_t (by decide) (br_f (by decide) (br_f (by decide) (br_f (by decide) (⟨hB8, br_f (by decide) (br_f (by decide) (br_f (by decide) (br_f (by decide) (br_t (by decide) (nm_e (rY _ ⟨hA8, nm_e (br_t e6 (br_t e7 (br_f (by decide) (br_t (by decide) (hp)))))⟩))))))⟩)))))))))))⟩⟩⟩
  · exact ⟨1, ha, _, _, by decide, (fun e0 => absurd e0 (by decide)), ⟨n, S, len, nI (q + 1), z, c, al, dp, sp, re, ta, ed, nI 0, nI 0, sb, sl, cl, yb, ya, yl, w, cv, si, ops, oa, ob, ve, upd rg A.toNatClampNeg r, me, st, an, so, li, P, rfl, rfl, h1, ⟨hpc, h2.2.1, tk_upd hrg hr, h2.2.2.2.1, h2.2.2.2.2⟩, h3, ⟨hn, hST, tk_mk (by decide), tk_mk (by decide), hsl, hcl, hyb, hya, hyl, hso⟩, hW⟩, fun post hp => ⟨hv, nm_r hop ⟨hv, nm_r hA ⟨hv, nm_r hB (br_t (by decide) (nm_r (nI_1 q) (br_t (by decide) (br_t (by decide) (br_f (by decide) (br_f (by decide) (br_t (by decide) (rX _ ⟨hA8, nm_e (br_t rfl ⟨rfl, rfl, (br_f (by decide) (br_t e7 hp))⟩)⟩))))))))⟩⟩⟩, fun post hp => ⟨hA8, nm_e ⟨hB8, nm_e (nm_r (nI_1 q) (br_f (by decide) (br_f (by decide) (br_f (by decide) (br_f (by decide) (br_f (by decide) (br_t (by decide) (br_f (by decide) (br_f (by decide) (br_f (by decide) (⟨hB8, br_f (by decide) (br_f (by decide) (br_f (by decide) (br_f (by decide) (br_t (by decide) (nm_e (rY _ ⟨hA8, nm_e (br_t e6 (br_t e7 (br_f (by decide) (br_t (by decide) (hp)))))⟩))))))⟩)))))))))))⟩⟩⟩
  · exact ⟨1, ha, _, _, by decide, (fun e0 => absurd e0 (by decide)), ⟨n, S, len, nI (q + 1), z, c, al, dp, sp, re, ta, ed, nI 0, nI 0, sb, sl, cl, yb, ya, yl, w, cv, si, ops, oa, ob, ve, upd rg A.toNatClampNeg r, me, st, an, so, li, P, rfl, rfl, h1, ⟨hpc, h2.2.1, tk_upd hrg hr, h2.2.2.2.1, h2.2.2.2.2⟩, h3, ⟨hn, hST, tk_mk (by decide), tk_mk (by decide), hsl, hcl, hyb, hya, hyl, hso⟩, hW⟩, fun post hp => ⟨hv, nm_r hop ⟨hv, nm_r hA ⟨hv, nm_r hB (br_t (by decide) (nm_r (nI_1 q) (br_t (by decide) (br_t (by decide) (br_f (by decide) (br_f (by decide) (br_t (by decide) (rX _ ⟨hA8, nm_e (br_f (by decide) (br_t e6 ⟨rfl, rfl, (br_t rfl hp)⟩))⟩))))))))⟩⟩⟩, fun post hp => ⟨hA8, nm_e ⟨hB8, nm_e (nm_r (nI_1 q) (br_f (by decide) (br_f (by decide) (br_f (by decide) (br_f (by decide) (br_f (by decide) (br_t (by decide) (br_f (by decide) (br_f (by decide) (br_f (by decide) (⟨hB8, br_f (by decide) (br_f (by decide) (br_f (by decide) (br_f (by decide) (br_t (by decide) (nm_e (rY _ ⟨hA8, nm_e (br_t e6 (br_t e7 (br_f (by decide) (br_t (by decide) (hp)))))⟩))))))⟩)))))))))))⟩⟩⟩
  · exact ⟨1, ha, _, _, by decide, (fun e0 => absurd e0 (by decide)), ⟨n, S, len, nI (q + 1), z, c, al, dp, sp, re, ta, ed, nI 0, nI 0, sb, sl, cl, yb, ya, yl, w, cv, si, ops, oa, ob, ve, upd rg A.toNatClampNeg r, me, st, an, so, li, P, rfl, rfl, h1, ⟨hpc, h2.2.1, tk_upd hrg hr, h2.2.2.2.1, h2.2.2.2.2⟩, h3, ⟨hn, hST, tk_mk (by decide), tk_mk (by decide), hsl, hcl, hyb, hya, hyl, hso⟩, hW⟩, fun post hp => ⟨hv, nm_r hop ⟨hv, nm_r hA ⟨hv, nm_r hB (br_t (by decide) (nm_r (nI_1 q) (br_t (by decide) (br_t (by decide) (br_f (by decide) (br_f (by decide) (br_t (by decide) (rX _ ⟨hA8, nm_e (br_f (by decide) (br_t e6 ⟨rfl, rfl, (br_f (by decide) (br_t e7 hp))⟩))⟩))))))))⟩⟩⟩, fun post hp => ⟨hA8, nm_e ⟨hB8, nm_e (nm_r (nI_1 q) (br_f (by decide) (br_f (by decide) (br_f (by decide) (br_f (by decide) (br_f (by decide) (br_t (by decide) (br_f (by decide) (br_f (by decide) (br_f (by decide) (⟨hB8, br_f (by decide) (br_f (by decide) (br_f (by decide) (br_f (by decide) (br_t (by decide) (nm_e (rY _ ⟨hA8, nm_e (br_t e6 (br_t e7 (br_f (by decide) (br_t (by decide) (hp)))))⟩))))))⟩)))))))))))⟩⟩⟩
  · exact ⟨1, ha, _, _, by decide, (fun e0 => absurd e0 (by decide)), ⟨n, S, len, nI (q + 1), z, c, al, dp, sp, re, ta, ed, nI 0, nI 0, sb, sl, cl, yb, ya, yl, w, cv, si, ops, oa, ob, ve, upd rg A.toNatClampNeg r, me, st, an, so, li, P, rfl, rfl, h1, ⟨hpc, h2.2.1, tk_upd hrg hr, h2.2.2.2.1, h2.2.2.2.2⟩, h3, ⟨hn, hST, tk_mk (by decide), tk_mk (by decide), hsl, hcl, hyb, hya, hyl, hso⟩, hW⟩, fun post hp => ⟨hv, nm_r hop ⟨hv, nm_r hA ⟨hv, nm_r hB (br_t (by decide) (nm_r (nI_1 q) (br_t (by decide) (br_t (by decide) (br_f (by decide) (br_f (by decide) (br_t (by decide) (rX _ ⟨hA8, nm_e (br_t rfl ⟨rfl, rfl, (br_t rfl hp)⟩)⟩))))))))⟩⟩⟩, fun post hp => ⟨hA8, nm_e ⟨hB8, nm_e (nm_r (nI_1 q) (br_f (by decide) (br_f (by decide) (br_f (by decide) (br_f (by decide) (br_f (by decide) (br_t (by decide) (br_f (by decide) (br_f (by decide) (br_f (by decide) (⟨hB8, br_f (by decide) (br_f (by decide) (br_f (by decide) (br_f (by decide) (br_t (by decide) (nm_e (rY _ ⟨hA8, nm_e (br_t e6 (br_f e7 (br_f (by decide) (br_t (by decide) (hp)))))⟩))))))⟩)))))))))))⟩⟩⟩
  · exact ⟨1, ha, _, _, by decide, (fun e0 => absurd e0 (by decide)), ⟨n, S, len, nI (q + 1), z, c, al, dp, sp, re, ta, ed, nI 0, nI 1, sb, sl, cl, yb, ya, yl, w, cv, si, ops, oa, ob, ve, upd rg A.toNatClampNeg r, me, st, an, so, li, P, rfl, rfl, h1, ⟨hpc, h2.2.1, tk_upd hrg hr, h2.2.2.2.1, h2.2.2.2.2⟩, h3, ⟨hn, hST, tk_mk (by decide), tk_mk (by decide), hsl, hcl, hyb, hya, hyl, hso⟩, hW⟩, fun post hp => ⟨hv, nm_r hop ⟨hv, nm_r hA ⟨hv, nm_r hB (br_t (by decide) (nm_r (nI_1 q) (br_t (by decide) (br_t (by decide) (br_f (by decide) (br_f (by decide) (br_t (by decide) (rX _ ⟨hA8, nm_e (br_t rfl ⟨rfl, rfl, (br_f (by decide) (br_f e7 hp))⟩)⟩))))))))⟩⟩⟩, fun post hp => ⟨hA8, nm_e ⟨hB8, nm_e (nm_r (nI_1 q) (br_f (by decide) (br_f (by decide) (br_f (by decide) (br_f (by decide) (br_f (by decide) (br_t (by decide) (br_f (by decide) (br_f (by decide) (br_f (by decide) (⟨hB8, br_f (by decide) (br_f (by decide) (br_f (by decide) (br_f (by decide) (br_t (by decide) (nm_e (rY _ ⟨hA8, nm_e (br_t e6 (br_f e7 (br_f (by decide) (br_t (by decide) (hp)))))⟩))))))⟩)))))))))))⟩⟩⟩
  · exact ⟨1, ha, _, _, by decide, (fun e0 => absurd e0 (by decide)), ⟨n, S, len, nI (q + 1), z, c, al, dp, sp, re, ta, ed, nI 0, nI 0, sb, sl, cl, yb, ya, yl, w, cv, si, ops, oa, ob, ve, upd rg A.toNatClampNeg r, me, st, an, so, li, P, rfl, rfl, h1, ⟨hpc, h2.2.1, tk_upd hrg hr, h2.2.2.2.1, h2.2.2.2.2⟩, h3, ⟨hn, hST, tk_mk (by decide), tk_mk (by decide), hsl, hcl, hyb, hya, hyl, hso⟩, hW⟩, fun post hp => ⟨hv, nm_r hop ⟨hv, nm_r hA ⟨hv, nm_r hB (br_t (by decide) (nm_r (nI_1 q) (br_t (by decide) (br_t (by decide) (br_f (by decide) (br_f (by decide) (br_t (by decide) (rX _ ⟨hA8, nm_e (br_f (by decide) (br_t e6 ⟨rfl, rfl, (br_t rfl hp)⟩))⟩))))))))⟩⟩⟩, fun post hp => ⟨hA8, nm_e ⟨hB8, nm_e (nm_r (nI_1 q) (br_f (by decide) (br_f (by decide) (br_f (by decide) (br_f (by decide) (br_f (by decide) (br_t (by decide) (br_f (by decide) (br_f (by decide) (br_f (by decide) (⟨hB8, br_f (by decide) (br_f (by decide) (br_f (by decide) (br_f (by decide) (br_t (by decide) (nm_e (rY _ ⟨hA8, nm_e (br_t e6 (br_f e7 (br_f (by decide) (br_t (by decide) (hp)))))⟩))))))⟩)))))))))))⟩⟩⟩
  · exact ⟨1, ha, _, _, by decide, (fun e0 => absurd e0 (by decide)), ⟨n, S, len, nI (q + 1), z, c, al, dp, sp, re, ta, ed, nI 0, nI 1, sb, sl, cl, yb, ya, yl, w, cv, si, ops, oa, ob, ve, upd rg A.toNatClampNeg r, me, st, an, so, li, P, rfl, rfl, h1, ⟨hpc, h2.2.1, tk_upd hrg hr, h2.2.2.2.1, h2.2.2.2.2⟩, h3, ⟨hn, hST, tk_mk (by decide), tk_mk (by decide), hsl, hcl, hyb, hya, hyl, hso⟩, hW⟩, fun post hp => ⟨hv, nm_r hop ⟨hv, nm_r hA ⟨hv, nm_r hB (br_t (by decide) (nm_r (nI_1 q) (br_t (by decide) (br_t (by decide) (br_f (by decide) (br_f (by decide) (br_t (by decide) (rX _ ⟨hA8, nm_e (br_f (by decide) (br_t e6 ⟨rfl, rfl, (br_f (by decide) (br_f e7 hp))⟩))⟩))))))))⟩⟩⟩, fun post hp => ⟨hA8, nm_e ⟨hB8, nm_e (nm_r (nI_1 q) (br_f (by decide) (br_f (by decide) (br_f (by decide) (br_f (by decide) (br_f (by decide) (br_t (by decide) (br_f (by decide) (br_f (by decide) (br_f (by decide) (⟨hB8, br_f (by decide) (br_f (by decide) (br_f (by decide) (br_f (by decide) (br_t (by decide) (nm_e (rY _ ⟨hA8, nm_e (br_t e6 (br_f e7 (br_f (by decide) (br_t (by decide) (hp)))))⟩))))))⟩)))))))))))⟩⟩⟩
  · exact ⟨1, ha, _, _, by decide, (fun e0 => absurd e0 (by decide)), ⟨n, S, len, nI (q + 1), z, c, al, dp, sp, re, ta, ed, nI 0, nI 0, sb, sl, cl, yb, ya, yl, w, cv, si, ops, oa, ob, ve, upd rg A.toNatClampNeg r, me, st, an, so, li, P, rfl, rfl, h1, ⟨hpc, h2.2.1, tk_upd hrg hr, h2.2.2.2.1, h2.2.2.2.2⟩, h3, ⟨hn, hST, tk_mk (by decide), tk_mk (by decide), hsl, hcl, hyb, hya, hyl, hso⟩, hW⟩, fun post hp => ⟨hv, nm_r hop ⟨hv, nm_r hA ⟨hv, nm_r hB (br_t (by decide) (nm_r (nI_1 q) (br_t (by decide) (br_t (by decide) (br_f (by decide) (br_f (by decide) (br_t (by decide) (rX _ ⟨hA8, nm_e (br_t rfl ⟨rfl, rfl, (br_t rfl hp)⟩)⟩))))))))⟩⟩⟩, fun post hp => ⟨hA8, nm_e ⟨hB8, nm_e (nm_r (nI_1 q) (br_f (by decide) (br_f (by decide) (br_f (by decide) (br_f (by decide) (br_f (by decide) (br_t (by decide) (br_f (by decide) (br_f (by decide) (br_f (by decide) (⟨hB8, br_f (by decide) (br_f (by decide) (br_f (by decide) (br_f (by decide) (br_t (by decide) (nm_e (rY _ ⟨hA8, nm_e (br_f e6 (br_t e7 (br_f (by decide) (br_t (by decide) (hp)))))⟩))))))⟩)))))))))))⟩⟩⟩
  · exact ⟨1, ha, _, _, by decide, (fun e0 => absurd e0 (by decide)), ⟨n, S, len, nI (q + 1), z, c, al, dp, sp, re, ta, ed, nI 0, nI 0, sb, sl, cl, yb, ya, yl, w, cv, si, ops, oa, ob, ve, upd rg A.toNatClampNeg r, me, st, an, so, li, P, rfl, rfl, h1, ⟨hpc, h2.2.1, tk_upd hrg hr, h2.2.2.2.1, h2.2.2.2.2⟩, h3, ⟨hn, hST, tk_mk (by decide), tk_mk (by decide), hsl, hcl, hyb, hya, hyl, hso⟩, hW⟩, fun post hp => ⟨hv, nm_r hop ⟨hv, nm_r hA ⟨hv, nm_r hB (br_t (by decide) (nm_r (nI_1 q) (br_t (by decide) (br_t (by decide) (br_f (by decide) (br_f (by decide) (br_t (by decide) (rX _ ⟨hA8, nm_e (br_t rfl ⟨rfl, rfl, (br_f (by decide) (br_t e7 hp))⟩)⟩))))))))⟩⟩⟩, fun post hp => ⟨hA8, nm_e ⟨hB8, nm_e (nm_r (nI_1 q) (br_f (by decide) (br_f (by decide) (br_f (by decide) (br_f (by decide) (br_f (by decide) (br_t (by decide) (br_f (by decide) (br_f (by decide) (br_f (by decide) (⟨hB8, br_f (by decide) (br_f (by decide) (br_f (by decide) (br_f (by decide) (br_t (by decide) (nm_e (rY _ ⟨hA8, nm_e (br_f e6 (br_t e7 (br_f (by decide) (br_t (by decide) (hp)))))⟩))))))⟩)))))))))))⟩⟩⟩
  · exact ⟨1, ha, _, _, by decide, (fun e0 => absurd e0 (by decide)), ⟨n, S, len, nI (q + 1), z, c, al, dp, sp, re, ta, ed, nI 1, nI 0, sb, sl, cl, yb, ya, yl, w, cv, si, ops, oa, ob, ve, upd rg A.toNatClampNeg r, me, st, an, so, li, P, rfl, rfl, h1, ⟨hpc, h2.2.1, tk_upd hrg hr, h2.2.2.2.1, h2.2.2.2.2⟩, h3, ⟨hn, hST, tk_mk (by decide), tk_mk (by decide), hsl, hcl, hyb, hya, hyl, hso⟩, hW⟩, fun post hp => ⟨hv, nm_r hop ⟨hv, nm_r hA ⟨hv, nm_r hB (br_t (by decide) (nm_r (nI_1 q) (br_t (by decide) (br_t (by decide) (br_f (by decide) (br_f (by decide) (br_t (by decide) (rX _ ⟨hA8, nm_e (br_f (by decide) (br_f e6 ⟨rfl, rfl, (br_t rfl hp)⟩))⟩))))))))⟩⟩⟩, fun post hp => ⟨hA8, nm_e ⟨hB8, nm_e (nm_r (nI_1 q) (br_f (by decide) (br_f (by decide) (br_f (by decide) (br_f (by decide) (br_f (by decide) (br_t (by decide) (br_f (by decide) (br_f (by decide) (br_f (by decide) (⟨hB8, br_f (by decide) (br_f (by decide) (br_f (by decide) (br_f (by decide) (br_t (by decide) (nm_e (rY _ ⟨hA8, nm_e (br_f e6 (br_t e7 (br_f (by decide) (br_t (by decide) (hp)))))⟩))))))⟩)))))))))))⟩⟩⟩
  · exact ⟨1, ha, _, _, by decide, (fun e0 => absurd e0 (by decide)), ⟨n, S, len, nI (q + 1), z, c, al, dp, sp, re, ta, ed, nI 1, nI 0, sb, sl, cl, yb, ya, yl, w, cv, si, ops, oa, ob, ve, upd rg A.toNatClampNeg r, me, st, an, so, li, P, rfl, rfl, h1, ⟨hpc, h2.2.1, tk_upd hrg hr, h2.2.2.2.1, h2.2.2.2.2⟩, h3, ⟨hn, hST, tk_mk (by decide), tk_mk (by decide), hsl, hcl, hyb, hya, hyl, hso⟩, hW⟩, fun post hp => ⟨hv, nm_r hop ⟨hv, nm_r hA ⟨hv, nm_r hB (br_t (by decide) (nm_r (nI_1 q) (br_t (by decide) (br_t (by decide) (br_f (by decide) (br_f (by decide) (br_t (by decide) (rX _ ⟨hA8, nm_e (br_f (by decide) (br_f e6 ⟨rfl, rfl, (br_f (by decide) (br_t e7 hp))⟩))⟩))))))))⟩⟩⟩, fun post hp => ⟨hA8, nm_e ⟨hB8, nm_e (nm_r (nI_1 q) (br_f (by decide) (br_f (by decide) (br_f (by decide) (br_f (by decide) (br_f (by decide) (br_t (by decide) (br_f (by decide) (br_f (by decide) (br_f (by decide) (⟨hB8, br_f (by decide) (br_f (by decide) (br_f (by decide) (br_f (by decide) (br_t (by decide) (nm_e (rY _ ⟨hA8, nm_e (br_f e6 (br_t e7 (br_f (by decide) (br_t (by decide) (hp)))))⟩))))))⟩)))))))))))⟩⟩⟩
  · exact ⟨1, ha, _, _, by decide, (fun e0 => absurd e0 (by decide)), ⟨n, S, len, nI (q + 1), z, c, al, dp, sp, re, ta, ed, nI 0, nI 0, sb, sl, cl, yb, ya, yl, w, cv, si, ops, oa, ob, ve, upd rg A.toNatClampNeg r, me, st, an, so, li, P, rfl, rfl, h1, ⟨hpc, h2.2.1, tk_upd hrg hr, h2.2.2.2.1, h2.2.2.2.2⟩, h3, ⟨hn, hST, tk_mk (by decide), tk_mk (by decide), hsl, hcl, hyb, hya, hyl, hso⟩, hW⟩, fun post hp => ⟨hv, nm_r hop ⟨hv, nm_r hA ⟨hv, nm_r hB (br_t (by decide) (nm_r (nI_1 q) (br_t (by decide) (br_t (by decide) (br_f (by decide) (br_f (by decide) (br_t (by decide) (rX _ ⟨hA8, nm_e (br_t rfl ⟨rfl, rfl, (br_t rfl hp)⟩)⟩))))))))⟩⟩⟩, fun post hp => ⟨hA8, nm_e ⟨hB8, nm_e (nm_r (nI_1 q) (br_f (by decide) (br_f (by decide) (br_f (by decide) (br_f (by decide) (br_f (by decide) (br_t (by decide) (br_f (by decide) (br_f (by decide) (br_f (by decide) (⟨hB8, br_f (by decide) (br_f (by decide) (br_f (by decide) (br_f (by decide) (br_t (by decide) (nm_e (rY _ ⟨hA8, nm_e (br_f e6 (br_f e7 (br_f (by decide) (br_t (by decide) (hp)))))⟩))))))⟩)))))))))))⟩⟩⟩
  · exact ⟨1, ha, _, _, by decide, (fun e0 => absurd e0 (by decide)), ⟨n, S, len, nI (q + 1), z, c, al, dp, sp, re, ta, ed, nI 0, nI 1, sb, sl, cl, yb, ya, yl, w, cv, si, ops, oa, ob, ve, upd rg A.toNatClampNeg r, me, st, an, so, li, P, rfl, rfl, h1, ⟨hpc, h2.2.1, tk_upd hrg hr, h2.2.2.2.1, h2.2.2.2.2⟩, h3, ⟨hn, hST, tk_mk (by decide), tk_mk (by decide), hsl, hcl, hyb, hya, hyl, hso⟩, hW⟩, fun post hp => ⟨hv, nm_r hop ⟨hv, nm_r hA ⟨hv, nm_r hB (br_t (by decide) (nm_r (nI_1 q) (br_t (by decide) (br_t (by decide) (br_f (by decide) (br_f (by decide) (br_t (by decide) (rX _ ⟨hA8, nm_e (br_t rfl ⟨rfl, rfl, (br_f (by decide) (br_f e7 hp))⟩)⟩))))))))⟩⟩⟩, fun post hp => ⟨hA8, nm_e ⟨hB8, nm_e (nm_r (nI_1 q) (br_f (by decide) (br_f (by decide) (br_f (by decide) (br_f (by decide) (br_f (by decide) (br_t (by decide) (br_f (by decide) (br_f (by decide) (br_f (by decide) (⟨hB8, br_f (by decide) (br_f (by decide) (br_f (by decide) (br_f (by decide) (br_t (by decide) (nm_e (rY _ ⟨hA8, nm_e (br_f e6 (br_f e7 (br_f (by decide) (br_t (by decide) (hp)))))⟩))))))⟩)))))))))))⟩⟩⟩
  · exact ⟨1, ha, _, _, by decide, (fun e0 => absurd e0 (by decide)), ⟨n, S, len, nI (q + 1), z, c, al, dp, sp, re, ta, ed, nI 1, nI 0, sb, sl, cl, yb, ya, yl, w, cv, si, ops, oa, ob, ve, upd rg A.toNatClampNeg r, me, st, an, so, li, P, rfl, rfl, h1, ⟨hpc, h2.2.1, tk_upd hrg hr, h2.2.2.2.1, h2.2.2.2.2⟩, h3, ⟨hn, hST, tk_mk (by decide), tk_mk (by decide), hsl, hcl, hyb, hya, hyl, hso⟩, hW⟩, fun post hp => ⟨hv, nm_r hop ⟨hv, nm_r hA ⟨hv, nm_r hB (br_t (by decide) (nm_r (nI_1 q) (br_t (by decide) (br_t (by decide) (br_f (by decide) (br_f (by decide) (br_t (by decide) (rX _ ⟨hA8, nm_e (br_f (by decide) (br_f e6 ⟨rfl, rfl, (br_t rfl hp)⟩))⟩))))))))⟩⟩⟩, fun post hp => ⟨hA8, nm_e ⟨hB8, nm_e (nm_r (nI_1 q) (br_f (by decide) (br_f (by decide) (br_f (by decide) (br_f (by decide) (br_f (by decide) (br_t (by decide) (br_f (by decide) (br_f (by decide) (br_f (by decide) (⟨hB8, br_f (by decide) (br_f (by decide) (br_f (by decide) (br_f (by decide) (br_t (by decide) (nm_e (rY _ ⟨hA8, nm_e (br_f e6 (br_f e7 (br_f (by decide) (br_t (by decide) (hp)))))⟩))))))⟩)))))))))))⟩⟩⟩
  · exact ⟨1, ha, _, _, by decide, (fun e0 => absurd e0 (by decide)), ⟨n, S, len, nI (q + 1), z, c, al, dp, sp, re, ta, ed, nI 1, nI 1, sb, sl, cl, yb, ya, yl, w, cv, si, ops, oa, ob, ve, upd rg A.toNatClampNeg r, me, st, an, so, li, P, rfl, rfl, h1, ⟨hpc, h2.2.1, tk_upd hrg hr, h2.2.2.2.1, h2.2.2.2.2⟩, h3, ⟨hn, hST, tk_mk (by decide), tk_mk (by decide), hsl, hcl, hyb, hya, hyl, hso⟩, hW⟩, fun post hp => ⟨hv, nm_r hop ⟨hv, nm_r hA ⟨hv, nm_r hB (br_t (by decide) (nm_r (nI_1 q) (br_t (by decide) (br_t (by decide) (br_f (by decide) (br_f (by decide) (br_t (by decide) (rX _ ⟨hA8, nm_e (br_f (by decide) (br_f e6 ⟨rfl, rfl, (br_f (by decide) (br_f e7 hp))⟩))⟩))))))))⟩⟩⟩, fun post hp => ⟨hA8, nm_e ⟨hB8, nm_e (nm_r (nI_1 q) (br_f (by decide) (br_f (by decide) (br_f (by decide) (br_f (by decide) (br_f (by decide) (br_t (by decide) (br_f (by decide) (br_f (by decide) (br_f (by decide) (⟨hB8, br_f (by decide) (br_f (by decide) (br_f (by decide) (br_f (by decide) (br_t (by decide) (nm_e (rY _ ⟨hA8, nm_e (br_f e6 (br_f e7 (br_f (by decide) (br_t (by decide) (hp)))))⟩))))))⟩)))))))))))⟩⟩⟩
theorem ex_13 {q : Nat} {A B : Int32} (h1 : tk_I1 len ops ve an) (h2 : tk_I2 (nI q) dp rg me st) (h3 : tk_I3 cv P) (h4 : tk_I4 n S T rx ov sl cl yb ya yl so) (hW : tk_W (P 14) w si) (hq : q < 48) (hA : oa (nI q).toNatClampNeg &&& 7 = A) (hB : ob (nI q).toNatClampNeg = B) (hop : ops (nI q).toNatClampNeg = 13) : tk_St T pa (fun post => wpX_carryOut post (len, nI q, z, c, al, dp, sp, ha, nI T, re, ta, ed, nI n, rx, ov, sb, sl, nI S, cl, yb, ya, yl, w, ops, oa, ob, ve, rg, me, st, an, so, li, P)) (fun post => wpY_execute post (len, P 13, z, c, al, sp, ha, dp, nI q, nI T, pa, ta, re, ed, nI S, P 6, P 7, P 8, cv, P 10, P 12, P 14, P 16, P 18, P 19, si, rx, ov, sl, sb, cl, yl, yb, ya, ops, oa, ob, ve, an, so, rg, me, st, li, tk_q n, tk_d P 0, tk_d P 1, tk_d P 2) 13 A B) := by
  have hv : vp_in (nI q) 48 := vp_in_nI hq (by decide)
  have hA8 : vp_in A 8 := by rw [← hA]; exact tk_in (tk_7 _) (by decide)
  have hB8 : vp_in (B &&& 7) 8 := tk_in (tk_7 _) (by decide)
  have hrg := h2.2.2.1
  have hpc : tk_lt 256 (nI (q + 1)) := tk_mk (by omega)
  obtain ⟨hn, hST, hrx, hov, hsl, hcl, hyb, hya, hyl, hso⟩ := h4
  obtain ⟨p, hp32, ep⟩ := tk_31 B
  obtain ⟨a, ha8, ea⟩ := hrg A.toNatClampNeg
  obtain ⟨n', ed', sb', sl', cl', yb', ya', yl', w', cv', si', P', g1, g2, g4, g5, g6, g7, g3, gW, oX, oY⟩ := ou_all (n := n) (T := T) (S := S) (len := len) (pc := nI (q + 1)) (z := z) (c := c) (al := al) (dp := dp) (sp := sp) (ha := ha) (re := re) (ta := ta) (ed := ed) (rx := rx) (ov := ov) (sb := sb) (sl := sl) (cl := cl) (yb := yb) (ya := ya) (yl := yl) (w := w) (pa := pa) (cv := cv) (si := si) (ops := ops) (oa := oa) (ob := ob) (ve := ve) (rg := rg) (me := me) (st := st) (an := an) (so := so) (li := li) (P := P) ha8 hn hsl hcl hyb hya hyl h3 hW p hp32
  rw [← ep, ← ea] at oX oY
  exact ⟨1, ha, _, _, by decide, (fun e0 => absurd e0 (by decide)), ⟨n', S, len, nI (q + 1), z, c, al, dp, sp, re, ta, ed', rx, ov, sb', sl', cl', yb', ya', yl', w', cv', si', ops, oa, ob, ve, rg, me, st, an, so, li, P', rfl, rfl, h1, ⟨hpc, h2.2.1, hrg, h2.2.2.2.1, h2.2.2.2.2⟩, g3, ⟨g1, hST, hrx, hov, g2, g4, g5, g6, g7, hso⟩, gW⟩, fun post hp => ⟨hv, nm_r hop ⟨hv, nm_r hA ⟨hv, nm_r hB (br_t (by decide) (nm_r (nI_1 q) (br_t (by decide) (br_t (by decide) (br_f (by decide) (br_t (by decide) (⟨hA8, oX _ (br_f (by decide) (hp))⟩)))))))⟩⟩⟩, fun post hp => ⟨hA8, nm_e ⟨hB8, nm_e (nm_r (nI_1 q) (br_f (by decide) (br_f (by decide) (br_f (by decide) (br_f (by decide) (br_f (by decide) (br_t (by decide) (br_f (by decide) (br_f (by decide) (br_f (by decide) (⟨hB8, br_f (by decide) (br_f (by decide) (br_f (by decide) (br_f (by decide) (br_f (by decide) (br_t (by decide) (⟨hA8, oY _ (br_t (by decide) (hp))⟩))))))⟩)))))))))))⟩⟩⟩
end
end
section
section
variable {n T S : Nat} {len pc z c al dp sp ha re ta ed rx ov sb sl cl yb ya yl w pa cv si : Int32} {ops oa ob ve rg me st an so li P : Nat → Int32}
theorem ex_14 {q : Nat} {A B : Int32} (h1 : tk_I1 len ops ve an) (h2 : tk_I2 (nI q) dp rg me st) (h3 : tk_I3 cv P) (h4 : tk_I4 n S T rx ov sl cl yb ya yl so) (hW : tk_W (P 14) w si) (hq : q < 48) (hA : oa (nI q).toNatClampNeg &&& 7 = A) (hB : ob (nI q).toNatClampNeg = B) (hop : ops (nI q).toNatClampNeg = 14) : tk_St T pa (fun post => wpX_carryOut post (len, nI q, z, c, al, dp, sp, ha, nI T, re, ta, ed, nI n, rx, ov, sb, sl, nI S, cl, yb, ya, yl, w, ops, oa, ob, ve, rg, me, st, an, so, li, P)) (fun post => wpY_execute post (len, P 13, z, c, al, sp, ha, dp, nI q, nI T, pa, ta, re, ed, nI S, P 6, P 7, P 8, cv, P 10, P 12, P 14, P 16, P 18, P 19, si, rx, ov, sl, sb, cl, yl, yb, ya, ops, oa, ob, ve, an, so, rg, me, st, li, tk_q n, tk_d P 0, tk_d P 1, tk_d P 2) 14 A B) := by
  have hv : vp_in (nI q) 48 := vp_in_nI hq (by decide)
  have hA8 : vp_in A 8 := by rw [← hA]; exact tk_in (tk_7 _) (by decide)
  have hB8 : vp_in (B &&& 7) 8 := tk_in (tk_7 _) (by decide)
  have hrg := h2.2.2.1
  have hpc : tk_lt 256 (nI (q + 1)) := tk_mk (by omega)
  exact ⟨2, ha, _, _, by decide, (fun e0 => absurd e0 (by decide)), ⟨n, S, len, B &&& 255, z, c, al, dp, sp, re, ta, ed, rx, ov, sb, sl, cl, yb, ya, yl, w, cv, si, ops, oa, ob, ve, rg, me, st, an, so, li, P, rfl, rfl, h1, ⟨tk_b B, h2.2.1, hrg, h2.2.2.2.1, h2.2.2.2.2⟩, h3, h4, hW⟩, fun post hp => ⟨hv, nm_r hop ⟨hv, nm_r hA ⟨hv, nm_r hB (br_t (by decide) (nm_r (nI_1 q) (br_t (by decide) (br_t (by decide) (br_t (by decide) (br_t (by decide) (br_f (by decide) (br_t (by decide) (br_f (by decide) hp)))))))))⟩⟩⟩, fun post hp => ⟨hA8, nm_e ⟨hB8, nm_e (nm_r (nI_1 q) (br_f (by decide) (br_f (by decide) (br_f (by decide) (br_f (by decide) (br_f (by decide) (br_t (by decide) (br_t (by decide) (br_f (by decide) (br_f (by decide) (br_t (by decide) (br_f (by decide) (nm_e (br_f (by decide) hp))))))))))))))⟩⟩⟩
theorem ex_15 {q : Nat} {A B : Int32} (h1 : tk_I1 len ops ve an) (h2 : tk_I2 (nI q) dp rg me st) (h3 : tk_I3 cv P) (h4 : tk_I4 n S T rx ov sl cl yb ya yl so) (hW : tk_W (P 14) w si) (hq : q < 48) (hA : oa (nI q).toNatClampNeg &&& 7 = A) (hB : ob (nI q).toNatClampNeg = B) (hop : ops (nI q).toNatClampNeg = 15) : tk_St T pa (fun post => wpX_carryOut post (len, nI q, z, c, al, dp, sp, ha, nI T, re, ta, ed, nI n, rx, ov, sb, sl, nI S, cl, yb, ya, yl, w, ops, oa, ob, ve, rg, me, st, an, so, li, P)) (fun post => wpY_execute post (len, P 13, z, c, al, sp, ha, dp, nI q, nI T, pa, ta, re, ed, nI S, P 6, P 7, P 8, cv, P 10, P 12, P 14, P 16, P 18, P 19, si, rx, ov, sl, sb, cl, yl, yb, ya, ops, oa, ob, ve, an, so, rg, me, st, li, tk_q n, tk_d P 0, tk_d P 1, tk_d P 2) 15 A B) := by
  have hv : vp_in (nI q) 48 := vp_in_nI hq (by decide)
  have hA8 : vp_in A 8 := by rw [← hA]; exact tk_in (tk_7 _) (by decide)
  have hB8 : vp_in (B &&& 7) 8 := tk_in (tk_7 _) (by decide)
  have hrg := h2.2.2.1
  have hpc : tk_lt 256 (nI (q + 1)) := tk_mk (by omega)
  by_cases e : z = 0
  · exact ⟨1, ha, _, _, by decide, (fun e0 => absurd e0 (by decide)), ⟨n, S, len, nI (q + 1), z, c, al, dp, sp, re, ta, ed, rx, ov, sb, sl, cl, yb, ya, yl, w, cv, si, ops, oa, ob, ve, rg, me, st, an, so, li, P, rfl, rfl, h1, ⟨hpc, h2.2.1, hrg, h2.2.2.2.1, h2.2.2.2.2⟩, h3, h4, hW⟩, fun post hp => ⟨hv, nm_r hop ⟨hv, nm_r hA ⟨hv, nm_r hB (br_t (by decide) (nm_r (nI_1 q) (br_t (by decide) (br_t (by decide) (br_t (by decide) (br_t (by decide) (br_f (by decide) (br_f (by decide) (br_t (by decide) (br_t e (br_f (by decide) (br_f (by decide) (br_t rfl hp)))))))))))))⟩⟩⟩, fun post hp => ⟨hA8, nm_e ⟨hB8, nm_e (nm_r (nI_1 q) (br_f (by decide) (br_f (by decide) (br_f (by decide) (br_f (by decide) (br_f (by decide) (br_t (by decide) (br_t (by decide) (br_f (by decide) (br_f (by decide) (br_f (by decide) (br_t (by decide) (br_t e (br_f (by decide) (br_t rfl (br_t rfl hp))))))))))))))))⟩⟩⟩
  · exact ⟨2, ha, _, _, by decide, (fun e0 => absurd e0 (by decide)), ⟨n, S, len, B &&& 255, z, c, al, dp, sp, re, ta, ed, rx, ov, sb, sl, cl, yb, ya, yl, w, cv, si, ops, oa, ob, ve, rg, me, st, an, so, li, P, rfl, rfl, h1, ⟨tk_b B, h2.2.1, hrg, h2.2.2.2.1, h2.2.2.2.2⟩, h3, h4, hW⟩, fun post hp => ⟨hv, nm_r hop ⟨hv, nm_r hA ⟨hv, nm_r hB (br_t (by decide) (nm_r (nI_1 q) (br_t (by decide) (br_t (by decide) (br_t (by decide) (br_t (by decide) (br_f (by decide) (br_f (by decide) (br_t (by decide) (br_f e (br_f (by decide) hp)))))))))))⟩⟩⟩, fun post hp => ⟨hA8, nm_e ⟨hB8, nm_e (nm_r (nI_1 q) (br_f (by decide) (br_f (by decide) (br_f (by decide) (br_f (by decide) (br_f (by decide) (br_t (by decide) (br_t (by decide) (br_f (by decide) (br_f (by decide) (br_f (by decide) (br_t (by decide) (br_f e (br_f (by decide) (nm_e (br_f (by decide) hp))))))))))))))))⟩⟩⟩
theorem ex_16 {q : Nat} {A B : Int32} (h1 : tk_I1 len ops ve an) (h2 : tk_I2 (nI q) dp rg me st) (h3 : tk_I3 cv P) (h4 : tk_I4 n S T rx ov sl cl yb ya yl so) (hW : tk_W (P 14) w si) (hq : q < 48) (hA : oa (nI q).toNatClampNeg &&& 7 = A) (hB : ob (nI q).toNatClampNeg = B) (hop : ops (nI q).toNatClampNeg = 16) : tk_St T pa (fun post => wpX_carryOut post (len, nI q, z, c, al, dp, sp, ha, nI T, re, ta, ed, nI n, rx, ov, sb, sl, nI S, cl, yb, ya, yl, w, ops, oa, ob, ve, rg, me, st, an, so, li, P)) (fun post => wpY_execute post (len, P 13, z, c, al, sp, ha, dp, nI q, nI T, pa, ta, re, ed, nI S, P 6, P 7, P 8, cv, P 10, P 12, P 14, P 16, P 18, P 19, si, rx, ov, sl, sb, cl, yl, yb, ya, ops, oa, ob, ve, an, so, rg, me, st, li, tk_q n, tk_d P 0, tk_d P 1, tk_d P 2) 16 A B) := by
  have hv : vp_in (nI q) 48 := vp_in_nI hq (by decide)
  have hA8 : vp_in A 8 := by rw [← hA]; exact tk_in (tk_7 _) (by decide)
  have hB8 : vp_in (B &&& 7) 8 := tk_in (tk_7 _) (by decide)
  have hrg := h2.2.2.1
  have hpc : tk_lt 256 (nI (q + 1)) := tk_mk (by omega)
  by_cases e : c = 0
  · exact ⟨1, ha, _, _, by decide, (fun e0 => absurd e0 (by decide)), ⟨n, S, len, nI (q + 1), z, c, al, dp, sp, re, ta, ed, rx, ov, sb, sl, cl, yb, ya, yl, w, cv, si, ops, oa, ob, ve, rg, me, st, an, so, li, P, rfl, rfl, h1, ⟨hpc, h2.2.1, hrg, h2.2.2.2.1, h2.2.2.2.2⟩, h3, h4, hW⟩, fun post hp => ⟨hv, nm_r hop ⟨hv, nm_r hA ⟨hv, nm_r hB (br_t (by decide) (nm_r (nI_1 q) (br_t (by decide) (br_t (by decide) (br_t (by decide) (br_t (by decide) (br_f (by decide) (br_f (by decide) (br_f (by decide) (br_t (by decide) (br_t e (br_f (by decide) (br_t rfl hp)))))))))))))⟩⟩⟩, fun post hp => ⟨hA8, nm_e ⟨hB8, nm_e (nm_r (nI_1 q) (br_f (by decide) (br_f (by decide) (br_f (by decide) (br_f (by decide) (br_f (by decide) (br_t (by decide) (br_t (by decide) (br_f (by decide) (br_f (by decide) (br_f (by decide) (br_f (by decide) (br_t (by decide) (br_t e (br_t rfl (br_t rfl hp))))))))))))))))⟩⟩⟩
  · exact ⟨2, ha, _, _, by decide, (fun e0 => absurd e0 (by decide)), ⟨n, S, len, B &&& 255, z, c, al, dp, sp, re, ta, ed, rx, ov, sb, sl, cl, yb, ya, yl, w, cv, si, ops, oa, ob, ve, rg, me, st, an, so, li, P, rfl, rfl, h1, ⟨tk_b B, h2.2.1, hrg, h2.2.2.2.1, h2.2.2.2.2⟩, h3, h4, hW⟩, fun post hp => ⟨hv, nm_r hop ⟨hv, nm_r hA ⟨hv, nm_r hB (br_t (by decide) (nm_r (nI_1 q) (br_t (by decide) (br_t (by decide) (br_t (by decide) (br_t (by decide) (br_f (by decide) (br_f (by decide) (br_f (by decide) (br_t (by decide) (br_f e (br_f (by decide) hp))))))))))))⟩⟩⟩, fun post hp => ⟨hA8, nm_e ⟨hB8, nm_e (nm_r (nI_1 q) (br_f (by decide) (br_f (by decide) (br_f (by decide) (br_f (by decide) (br_f (by decide) (br_t (by decide) (br_t (by decide) (br_f (by decide) (br_f (by decide) (br_f (by decide) (br_f (by decide) (br_t (by decide) (br_f e (br_f (by decide) (nm_e (br_f (by decide) hp)))))))))))))))))⟩⟩⟩
theorem ex_26 {q : Nat} {A B : Int32} (h1 : tk_I1 len ops ve an) (h2 : tk_I2 (nI q) dp rg me st) (h3 : tk_I3 cv P) (h4 : tk_I4 n S T rx ov sl cl yb ya yl so) (hW : tk_W (P 14) w si) (hq : q < 48) (hA : oa (nI q).toNatClampNeg &&& 7 = A) (hB : ob (nI q).toNatClampNeg = B) (hop : ops (nI q).toNatClampNeg = 26) : tk_St T pa (fun post => wpX_carryOut post (len, nI q, z, c, al, dp, sp, ha, nI T, re, ta, ed, nI n, rx, ov, sb, sl, nI S, cl, yb, ya, yl, w, ops, oa, ob, ve, rg, me, st, an, so, li, P)) (fun post => wpY_execute post (len, P 13, z, c, al, sp, ha, dp, nI q, nI T, pa, ta, re, ed, nI S, P 6, P 7, P 8, cv, P 10, P 12, P 14, P 16, P 18, P 19, si, rx, ov, sl, sb, cl, yl, yb, ya, ops, oa, ob, ve, an, so, rg, me, st, li, tk_q n, tk_d P 0, tk_d P 1, tk_d P 2) 26 A B) := by
  have hv : vp_in (nI q) 48 := vp_in_nI hq (by decide)
  have hA8 : vp_in A 8 := by rw [← hA]; exact tk_in (tk_7 _) (by decide)
  have hB8 : vp_in (B &&& 7) 8 := tk_in (tk_7 _) (by decide)
  have hrg := h2.2.2.1
  have hpc : tk_lt 256 (nI (q + 1)) := tk_mk (by omega)
  by_cases e : upd rg A.toNatClampNeg ((rg A.toNatClampNeg - 1) &&& 255) A.toNatClampNeg = 0
  · exact ⟨1, ha, _, _, by decide, (fun e0 => absurd e0 (by decide)), ⟨n, S, len, nI (q + 1), z, c, al, dp, sp, re, ta, ed, rx, ov, sb, sl, cl, yb, ya, yl, w, cv, si, ops, oa, ob, ve, upd rg A.toNatClampNeg ((rg A.toNatClampNeg - 1) &&& 255), me, st, an, so, li, P, rfl, rfl, h1, ⟨hpc, h2.2.1, tk_upd hrg (tk_b _), h2.2.2.2.1, h2.2.2.2.2⟩, h3, h4, hW⟩, fun post hp => ⟨hv, nm_r hop ⟨hv, nm_r hA ⟨hv, nm_r hB (br_f (by decide) (br_t (by decide) (nm_r (nI_1 q) (br_t (by decide) (br_t (by decide) (br_t (by decide) (br_f (by decide) (br_t (by decide) (br_t (by decide) (⟨hA8, hA8, nm_e (br_f (by decide) (br_f (by decide) (br_f (by decide) (br_t (by decide) (⟨hA8, br_t e (br_t rfl hp)⟩)))))⟩))))))))))⟩⟩⟩, fun post hp => ⟨hA8, nm_e ⟨hB8, nm_e (nm_r (nI_1 q) (br_f (by decide) (br_f (by decide) (br_f (by decide) (br_f (by decide) (br_f (by decide) (br_t (by decide) (br_t (by decide) (br_t (by decide) (⟨hA8, nm_e ⟨hA8, br_t e (br_t rfl (br_t rfl hp))⟩⟩))))))))))⟩⟩⟩
  · exact ⟨2, ha, _, _, by decide, (fun e0 => absurd e0 (by decide)), ⟨n, S, len, B &&& 255, z, c, al, dp, sp, re, ta, ed, rx, ov, sb, sl, cl, yb, ya, yl, w, cv, si, ops, oa, ob, ve, upd rg A.toNatClampNeg ((rg A.toNatClampNeg - 1) &&& 255), me, st, an, so, li, P, rfl, rfl, h1, ⟨tk_b B, h2.2.1, tk_upd hrg (tk_b _), h2.2.2.2.1, h2.2.2.2.2⟩, h3, h4, hW⟩, fun post hp => ⟨hv, nm_r hop ⟨hv, nm_r hA ⟨hv, nm_r hB (br_f (by decide) (br_t (by decide) (nm_r (nI_1 q) (br_t (by decide) (br_t (by decide) (br_t (by decide) (br_f (by decide) (br_t (by decide) (br_t (by decide) (⟨hA8, hA8, nm_e (br_f (by decide) (br_f (by decide) (br_f (by decide) (br_t (by decide) (⟨hA8, br_f e (br_f (by decide) hp)⟩)))))⟩))))))))))⟩⟩⟩, fun post hp => ⟨hA8, nm_e ⟨hB8, nm_e (nm_r (nI_1 q) (br_f (by decide) (br_f (by decide) (br_f (by decide) (br_f (by decide) (br_f (by decide) (br_t (by decide) (br_t (by decide) (br_t (by decide) (⟨hA8, nm_e ⟨hA8, br_f e (br_f (by decide) (nm_e (br_f (by decide) hp)))⟩⟩))))))))))⟩⟩⟩
theorem ex_17 {q : Nat} {A B : Int32} (h1 : tk_I1 len ops ve an) (h2 : tk_I2 (nI q) dp rg me st) (h3 : tk_I3 cv P) (h4 : tk_I4 n S T rx ov sl cl yb ya yl so) (hW : tk_W (P 14) w si) (hq : q < 48) (hA : oa (nI q).toNatClampNeg &&& 7 = A) (hB : ob (nI q).toNatClampNeg = B) (hop : ops (nI q).toNatClampNeg = 17) : tk_St T pa (fun post => wpX_carryOut post (len, nI q, z, c, al, dp, sp, ha, nI T, re, ta, ed, nI n, rx, ov, sb, sl, nI S, cl, yb, ya, yl, w, ops, oa, ob, ve, rg, me, st, an, so, li, P)) (fun post => wpY_execute post (len, P 13, z, c, al, sp, ha, dp, nI q, nI T, pa, ta, re, ed, nI S, P 6, P 7, P 8, cv, P 10, P 12, P 14, P 16, P 18, P 19, si, rx, ov, sl, sb, cl, yl, yb, ya, ops, oa, ob, ve, an, so, rg, me, st, li, tk_q n, tk_d P 0, tk_d P 1, tk_d P 2) 17 A B) := by
  have hv : vp_in (nI q) 48 := vp_in_nI hq (by decide)
  have hA8 : vp_in A 8 := by rw [← hA]; exact tk_in (tk_7 _) (by decide)
  have hB8 : vp_in (B &&& 7) 8 := tk_in (tk_7 _) (by decide)
  have hrg := h2.2.2.1
  have hpc : tk_lt 256 (nI (q + 1)) := tk_mk (by omega)
  obtain ⟨d0, hd0, ed0⟩ := h2.2.1
  subst ed0
  by_cases full : d0 = 16
  · subst full
    have he : nI 16 = 16 := rfl
    exact ⟨0, 1, _, _, by decide, (fun _ => rfl), ⟨n, S, len, nI q, z, c, al, nI 16, sp, re, ta, ed, rx, ov, sb, sl, cl, yb, ya, yl, w, cv, si, ops, oa, ob, ve, rg, me, st, an, so, li, P, rfl, rfl, h1, h2, h3, h4, hW⟩, fun post hp => ⟨hv, nm_r hop ⟨hv, nm_r hA ⟨hv, nm_r hB (br_f (by decide) (br_f (by decide) (br_t (by decide) (br_f (by decide) (br_f (by decide) (hp))))))⟩⟩⟩, fun post hp => ⟨hA8, nm_e ⟨hB8, nm_e (nm_r (nI_1 q) (br_t (by decide) (br_t he hp)))⟩⟩⟩
  · obtain ⟨d, rfl⟩ : ∃ d, d = d0 := ⟨d0, rfl⟩
    have he : ¬ nI d = 16 := fun e0 => full ((nI_eq (b := 16) (by omega) (by decide)).mp e0)
    have hlt : nI d < 16 := nI_lt (b := 16) (by omega) (by decide)
    have hvd : vp_in (nI d) 16 := vp_in_nI (by omega) (by decide)
    exact ⟨3, ha, _, _, by decide, (fun e0 => absurd e0 (by decide)), ⟨n, S, len, B &&& 255, z, c, al, nI (d + 1), sp, re, ta, ed, rx, ov, sb, sl, cl, yb, ya, yl, w, cv, si, ops, oa, ob, ve, rg, me, upd st (nI d).toNatClampNeg (nI (q + 1)), an, so, li, P, rfl, rfl, h1, ⟨tk_b B, tk_mk (by omega), hrg, h2.2.2.2.1, tk_upd h2.2.2.2.2 hpc⟩, h3, h4, hW⟩, fun post hp => ⟨hv, nm_r hop ⟨hv, nm_r hA ⟨hv, nm_r hB (br_f (by decide) (br_f (by decide) (br_t (by decide) (br_f (by decide) (br_t hlt (nm_r (nI_1 q) (br_f (by decide) (br_f (by decide) (br_t (by decide) (⟨hvd, nm_e (nm_r (nI_1 d) (nm_e hp))⟩))))))))))⟩⟩⟩, fun post hp => ⟨hA8, nm_e ⟨hB8, nm_e (nm_r (nI_1 q) (br_t (by decide) (br_f he (br_f (by decide) (br_f (by decide) (br_f (by decide) (br_t (by decide) (br_t (by decide) (br_f (by decide) (br_t (by decide) (br_t (by decide) (⟨hvd, nm_e (nm_r (nI_1 d) (nm_e (br_f (by decide) (br_f (by decide) (br_f (by decide) (br_f (by decide) (br_f (by decide) (br_f (by decide) (br_f (by decide) (br_f (by decide) (br_f (by decide) (br_t (by decide) (hp)))))))))))))⟩))))))))))))⟩⟩⟩
theorem ex_18 {q : Nat} {A B : Int32} (h1 : tk_I1 len ops ve an) (h2 : tk_I2 (nI q) dp rg me st) (h3 : tk_I3 cv P) (h4 : tk_I4 n S T rx ov sl cl yb ya yl so) (hW : tk_W (P 14) w si) (hq : q < 48) (hA : oa (nI q).toNatClampNeg &&& 7 = A) (hB : ob (nI q).toNatClampNeg = B) (hop : ops (nI q).toNatClampNeg = 18) : tk_St T pa (fun post => wpX_carryOut post (len, nI q, z, c, al, dp, sp, ha, nI T, re, ta, ed, nI n, rx, ov, sb, sl, nI S, cl, yb, ya, yl, w, ops, oa, ob, ve, rg, me, st, an, so, li, P)) (fun post => wpY_execute post (len, P 13, z, c, al, sp, ha, dp, nI q, nI T, pa, ta, re, ed, nI S, P 6, P 7, P 8, cv, P 10, P 12, P 14, P 16, P 18, P 19, si, rx, ov, sl, sb, cl, yl, yb, ya, ops, oa, ob, ve, an, so, rg, me, st, li, tk_q n, tk_d P 0, tk_d P 1, tk_d P 2) 18 A B) := by
  have hv : vp_in (nI q) 48 := vp_in_nI hq (by decide)
  have hA8 : vp_in A 8 := by rw [← hA]; exact tk_in (tk_7 _) (by decide)
  have hB8 : vp_in (B &&& 7) 8 := tk_in (tk_7 _) (by decide)
  have hrg := h2.2.2.1
  have hpc : tk_lt 256 (nI (q + 1)) := tk_mk (by omega)
  obtain ⟨d0, hd0, ed0⟩ := h2.2.1
  subst ed0
  by_cases empty : d0 = 0
  · subst empty
    have he : nI 0 = 0 := rfl
    exact ⟨0, 1, _, _, by decide, (fun _ => rfl), ⟨n, S, len, nI q, z, c, al, nI 0, sp, re, ta, ed, rx, ov, sb, sl, cl, yb, ya, yl, w, cv, si, ops, oa, ob, ve, rg, me, st, an, so, li, P, rfl, rfl, h1, h2, h3, h4, hW⟩, fun post hp => ⟨hv, nm_r hop ⟨hv, nm_r hA ⟨hv, nm_r hB (br_f (by decide) (br_f (by decide) (br_f (by decide) (br_f (by decide) (br_t rfl (br_f (by decide) (hp)))))))⟩⟩⟩, fun post hp => ⟨hA8, nm_e ⟨hB8, nm_e (nm_r (nI_1 q) (br_f (by decide) (br_f (by decide) (br_t (by decide) (br_t he hp)))))⟩⟩⟩
  · obtain ⟨d, rfl⟩ : ∃ d, d0 = d + 1 := ⟨d0 - 1, by omega⟩
    have he : ¬ nI (d + 1) = 0 := nI_ne0 (by omega) (by omega)
    have hlt : 0 < nI (d + 1) := nI_lt (a := 0) (by omega) (by omega)
    have hvd : vp_in (nI d) 16 := vp_in_nI (by omega) (by decide)
    exact ⟨3, ha, _, _, by decide, (fun e0 => absurd e0 (by decide)), ⟨n, S, len, st (nI d).toNatClampNeg, z, c, al, nI d, sp, re, ta, ed, rx, ov, sb, sl, cl, yb, ya, yl, w, cv, si, ops, oa, ob, ve, rg, me, st, an, so, li, P, rfl, rfl, h1, ⟨h2.2.2.2.2 _, tk_mk (by omega), hrg, h2.2.2.2.1, h2.2.2.2.2⟩, h3, h4, hW⟩, fun post hp => ⟨hv, nm_r hop ⟨hv, nm_r hA ⟨hv, nm_r hB (br_f (by decide) (br_f (by decide) (br_f (by decide) (br_f (by decide) (br_t rfl (br_t hlt (nm_r (nI_1 q) (br_f (by decide) (br_f (by decide) (br_f (by decide) (br_t (by decide) (nm_r (nI_pred d) ⟨hvd, hp⟩))))))))))))⟩⟩⟩, fun post hp => ⟨hA8, nm_e ⟨hB8, nm_e (nm_r (nI_1 q) (br_f (by decide) (br_f (by decide) (br_t (by decide) (br_f he (br_t (by decide) (br_t (by decide) (br_f (by decide) (br_t (by decide) (br_f (by decide) (br_t (by decide) (nm_r (nI_pred d) ⟨hvd, br_f (by decide) (br_f (by decide) (br_f (by decide) (br_f (by decide) (br_f (by decide) (br_f (by decide) (br_f (by decide) (br_f (by decide) (br_t (by decide) (hp)))))))))⟩))))))))))))⟩⟩⟩
theorem ex_19 {q : Nat} {A B : Int32} (h1 : tk_I1 len ops ve an) (h2 : tk_I2 (nI q) dp rg me st) (h3 : tk_I3 cv P) (h4 : tk_I4 n S T rx ov sl cl yb ya yl so) (hW : tk_W (P 14) w si) (hq : q < 48) (hA : oa (nI q).toNatClampNeg &&& 7 = A) (hB : ob (nI q).toNatClampNeg = B) (hop : ops (nI q).toNatClampNeg = 19) : tk_St T pa (fun post => wpX_carryOut post (len, nI q, z, c, al, dp, sp, ha, nI T, re, ta, ed, nI n, rx, ov, sb, sl, nI S, cl, yb, ya, yl, w, ops, oa, ob, ve, rg, me, st, an, so, li, P)) (fun post => wpY_execute post (len, P 13, z, c, al, sp, ha, dp, nI q, nI T, pa, ta, re, ed, nI S, P 6, P 7, P 8, cv, P 10, P 12, P 14, P 16, P 18, P 19, si, rx, ov, sl, sb, cl, yl, yb, ya, ops, oa, ob, ve, an, so, rg, me, st, li, tk_q n, tk_d P 0, tk_d P 1, tk_d P 2) 19 A B) := by
  have hv : vp_in (nI q) 48 := vp_in_nI hq (by decide)
  have hA8 : vp_in A 8 := by rw [← hA]; exact tk_in (tk_7 _) (by decide)
  have hB8 : vp_in (B &&& 7) 8 := tk_in (tk_7 _) (by decide)
  have hrg := h2.2.2.1
  have hpc : tk_lt 256 (nI (q + 1)) := tk_mk (by omega)
  obtain ⟨d0, hd0, ed0⟩ := h2.2.1
  subst ed0
  by_cases full : d0 = 16
  · subst full
    have he : nI 16 = 16 := rfl
    exact ⟨0, 1, _, _, by decide, (fun _ => rfl), ⟨n, S, len, nI q, z, c, al, nI 16, sp, re, ta, ed, rx, ov, sb, sl, cl, yb, ya, yl, w, cv, si, ops, oa, ob, ve, rg, me, st, an, so, li, P, rfl, rfl, h1, h2, h3, h4, hW⟩, fun post hp => ⟨hv, nm_r hop ⟨hv, nm_r hA ⟨hv, nm_r hB (br_f (by decide) (br_f (by decide) (br_f (by decide) (br_t (by decide) (br_f (by decide) (br_f (by decide) (hp)))))))⟩⟩⟩, fun post hp => ⟨hA8, nm_e ⟨hB8, nm_e (nm_r (nI_1 q) (br_f (by decide) (br_t (by decide) (br_t he hp))))⟩⟩⟩
  · obtain ⟨d, rfl⟩ : ∃ d, d = d0 := ⟨d0, rfl⟩
    have he : ¬ nI d = 16 := fun e0 => full ((nI_eq (b := 16) (by omega) (by decide)).mp e0)
    have hlt : nI d < 16 := nI_lt (b := 16) (by omega) (by decide)
    have hvd : vp_in (nI d) 16 := vp_in_nI (by omega) (by decide)
    exact ⟨2, ha, _, _, by decide, (fun e0 => absurd e0 (by decide)), ⟨n, S, len, nI (q + 1), z, c, al, nI (d + 1), sp, re, ta, ed, rx, ov, sb, sl, cl, yb, ya, yl, w, cv, si, ops, oa, ob, ve, rg, me, upd st (nI d).toNatClampNeg (rg A.toNatClampNeg), an, so, li, P, rfl, rfl, h1, ⟨hpc, tk_mk (by omega), hrg, h2.2.2.2.1, tk_upd h2.2.2.2.2 (hrg _)⟩, h3, h4, hW⟩, fun post hp => ⟨hv, nm_r hop ⟨hv, nm_r hA ⟨hv, nm_r hB (br_f (by decide) (br_f (by decide) (br_f (by decide) (br_t (by decide) (br_f (by decide) (br_t hlt (nm_r (nI_1 q) (br_f (by decide) (br_f (by decide) (br_f (by decide) (br_f (by decide) (br_t (by decide) (⟨hA8, hvd, nm_e (nm_r (nI_1 d) hp)⟩)))))))))))))⟩⟩⟩, fun post hp => ⟨hA8, nm_e ⟨hB8, nm_e (nm_r (nI_1 q) (br_f (by decide) (br_t (by decide) (br_f he (br_f (by decide) (br_f (by decide) (br_f (by decide) (br_t (by decide) (br_t (by decide) (br_f (by decide) (br_t (by decide) (br_f (by decide) (br_f (by decide) (br_f (by decide) (br_t (by decide) (⟨hvd, nm_e (nm_r (nI_1 d) (br_f (by decide) (br_f (by decide) (br_f (by decide) (br_f (by decide) (br_f (by decide) (br_f (by decide) (br_f (by decide) (br_f (by decide) (br_f (by decide) (br_t (by decide) (hp))))))))))))⟩))))))))))))))))⟩⟩⟩
theorem ex_20 {q : Nat} {A B : Int32} (h1 : tk_I1 len ops ve an) (h2 : tk_I2 (nI q) dp rg me st) (h3 : tk_I3 cv P) (h4 : tk_I4 n S T rx ov sl cl yb ya yl so) (hW : tk_W (P 14) w si) (hq : q < 48) (hA : oa (nI q).toNatClampNeg &&& 7 = A) (hB : ob (nI q).toNatClampNeg = B) (hop : ops (nI q).toNatClampNeg = 20) : tk_St T pa (fun post => wpX_carryOut post (len, nI q, z, c, al, dp, sp, ha, nI T, re, ta, ed, nI n, rx, ov, sb, sl, nI S, cl, yb, ya, yl, w, ops, oa, ob, ve, rg, me, st, an, so, li, P)) (fun post => wpY_execute post (len, P 13, z, c, al, sp, ha, dp, nI q, nI T, pa, ta, re, ed, nI S, P 6, P 7, P 8, cv, P 10, P 12, P 14, P 16, P 18, P 19, si, rx, ov, sl, sb, cl, yl, yb, ya, ops, oa, ob, ve, an, so, rg, me, st, li, tk_q n, tk_d P 0, tk_d P 1, tk_d P 2) 20 A B) := by
  have hv : vp_in (nI q) 48 := vp_in_nI hq (by decide)
  have hA8 : vp_in A 8 := by rw [← hA]; exact tk_in (tk_7 _) (by decide)
  have hB8 : vp_in (B &&& 7) 8 := tk_in (tk_7 _) (by decide)
  have hrg := h2.2.2.1
  have hpc : tk_lt 256 (nI (q + 1)) := tk_mk (by omega)
  obtain ⟨d0, hd0, ed0⟩ := h2.2.1
  subst ed0
  by_cases empty : d0 = 0
  · subst empty
    have he : nI 0 = 0 := rfl
    exact ⟨0, 1, _, _, by decide, (fun _ => rfl), ⟨n, S, len, nI q, z, c, al, nI 0, sp, re, ta, ed, rx, ov, sb, sl, cl, yb, ya, yl, w, cv, si, ops, oa, ob, ve, rg, me, st, an, so, li, P, rfl, rfl, h1, h2, h3, h4, hW⟩, fun post hp => ⟨hv, nm_r hop ⟨hv, nm_r hA ⟨hv, nm_r hB (br_f (by decide) (br_f (by decide) (br_f (by decide) (br_f (by decide) (br_t rfl (br_f (by decide) (hp)))))))⟩⟩⟩, fun post hp => ⟨hA8, nm_e ⟨hB8, nm_e (nm_r (nI_1 q) (br_f (by decide) (br_f (by decide) (br_f (by decide) (br_t (by decide) (br_t he hp))))))⟩⟩⟩
  · obtain ⟨d, rfl⟩ : ∃ d, d0 = d + 1 := ⟨d0 - 1, by omega⟩
    have he : ¬ nI (d + 1) = 0 := nI_ne0 (by omega) (by omega)
    have hlt : 0 < nI (d + 1) := nI_lt (a := 0) (by omega) (by omega)
    have hvd : vp_in (nI d) 16 := vp_in_nI (by omega) (by decide)
    exact ⟨2, ha, _, _, by decide, (fun e0 => absurd e0 (by decide)), ⟨n, S, len, nI (q + 1), z, c, al, nI d, sp, re, ta, ed, rx, ov, sb, sl, cl, yb, ya, yl, w, cv, si, ops, oa, ob, ve, upd rg A.toNatClampNeg (st (nI d).toNatClampNeg &&& 255), me, st, an, so, li, P, rfl, rfl, h1, ⟨hpc, tk_mk (by omega), tk_upd hrg (tk_b _), h2.2.2.2.1, h2.2.2.2.2⟩, h3, h4, hW⟩, fun post hp => ⟨hv, nm_r hop ⟨hv, nm_r hA ⟨hv, nm_r hB (br_f (by decide) (br_f (by decide) (br_f (by decide) (br_f (by decide) (br_t rfl (br_t hlt (nm_r (nI_1 q) (br_f (by decide) (br_f (by decide) (br_f (by decide) (br_f (by decide) (br_f (by decide) (br_t (by decide) (nm_r (nI_pred d) ⟨hvd, hA8, nm_e hp⟩))))))))))))))⟩⟩⟩, fun post hp => ⟨hA8, nm_e ⟨hB8, nm_e (nm_r (nI_1 q) (br_f (by decide) (br_f (by decide) (br_f (by decide) (br_t (by decide) (br_f he (br_t (by decide) (br_t (by decide) (br_f (by decide) (br_t (by decide) (br_f (by decide) (br_f (by decide) (br_f (by decide) (br_f (by decide) (br_t (by decide) (nm_r (nI_pred d) ⟨hvd, ⟨hA8, nm_e (br_f (by decide) (br_f (by decide) (br_f (by decide) (br_f (by decide) (br_f (by decide) (br_f (by decide) (br_f (by decide) (br_f (by decide) (br_f (by decide) (br_t (by decide) (hp)))))))))))⟩⟩))))))))))))))))⟩⟩⟩
theorem ex_21 {q : Nat} {A B : Int32} (h1 : tk_I1 len ops ve an) (h2 : tk_I2 (nI q) dp rg me st) (h3 : tk_I3 cv P) (h4 : tk_I4 n S T rx ov sl cl yb ya yl so) (hW : tk_W (P 14) w si) (hq : q < 48) (hA : oa (nI q).toNatClampNeg &&& 7 = A) (hB : ob (nI q).toNatClampNeg = B) (hop : ops (nI q).toNatClampNeg = 21) : tk_St T pa (fun post => wpX_carryOut post (len, nI q, z, c, al, dp, sp, ha, nI T, re, ta, ed, nI n, rx, ov, sb, sl, nI S, cl, yb, ya, yl, w, ops, oa, ob, ve, rg, me, st, an, so, li, P)) (fun post => wpY_execute post (len, P 13, z, c, al, sp, ha, dp, nI q, nI T, pa, ta, re, ed, nI S, P 6, P 7, P 8, cv, P 10, P 12, P 14, P 16, P 18, P 19, si, rx, ov, sl, sb, cl, yl, yb, ya, ops, oa, ob, ve, an, so, rg, me, st, li, tk_q n, tk_d P 0, tk_d P 1, tk_d P 2) 21 A B) := by
  have hv : vp_in (nI q) 48 := vp_in_nI hq (by decide)
  have hA8 : vp_in A 8 := by rw [← hA]; exact tk_in (tk_7 _) (by decide)
  have hB8 : vp_in (B &&& 7) 8 := tk_in (tk_7 _) (by decide)
  have hrg := h2.2.2.1
  have hpc : tk_lt 256 (nI (q + 1)) := tk_mk (by omega)
  obtain ⟨d0, hd0, ed0⟩ := h2.2.1
  subst ed0
  by_cases empty : d0 = 0
  · subst empty
    have he : nI 0 = 0 := rfl
    exact ⟨0, 1, _, _, by decide, (fun _ => rfl), ⟨n, S, len, nI q, z, c, al, nI 0, sp, re, ta, ed, rx, ov, sb, sl, cl, yb, ya, yl, w, cv, si, ops, oa, ob, ve, rg, me, st, an, so, li, P, rfl, rfl, h1, h2, h3, h4, hW⟩, fun post hp => ⟨hv, nm_r hop ⟨hv, nm_r hA ⟨hv, nm_r hB (br_f (by decide) (br_f (by decide) (br_f (by decide) (br_f (by decide) (br_t rfl (br_f (by decide) (hp)))))))⟩⟩⟩, fun post hp => ⟨hA8, nm_e ⟨hB8, nm_e (nm_r (nI_1 q) (br_f (by decide) (br_f (by decide) (br_f (by decide) (br_f (by decide) (br_t (by decide) (br_t he hp)))))))⟩⟩⟩
  · obtain ⟨d, rfl⟩ : ∃ d, d0 = d + 1 := ⟨d0 - 1, by omega⟩
    have he : ¬ nI (d + 1) = 0 := nI_ne0 (by omega) (by omega)
    have hlt : 0 < nI (d + 1) := nI_lt (a := 0) (by omega) (by omega)
    have hvd : vp_in (nI d) 16 := vp_in_nI (by omega) (by decide)
    exact ⟨3, ha, _, _, by decide, (fun e0 => absurd e0 (by decide)), ⟨n, S, len, st (nI d).toNatClampNeg, z, c, 1, nI d, sp, re, ta, ed, rx, ov, sb, sl, cl, yb, ya, yl, w, cv, si, ops, oa, ob, ve, rg, me, st, an, so, li, P, rfl, rfl, h1, ⟨h2.2.2.2.2 _, tk_mk (by omega), hrg, h2.2.2.2.1, h2.2.2.2.2⟩, h3, h4, hW⟩, fun post hp => ⟨hv, nm_r hop ⟨hv, nm_r hA ⟨hv, nm_r hB (br_f (by decide) (br_f (by decide) (br_f (by decide) (br_f (by decide) (br_t rfl (br_t hlt (nm_r (nI_1 q) (br_f (by decide) (br_f (by decide) (br_f (by decide) (br_f (by decide) (br_f (by decide) (br_f (by decide) (br_t (by decide) (nm_r (nI_pred d) ⟨hvd, hp⟩)))))))))))))))⟩⟩⟩, fun post hp => ⟨hA8, nm_e ⟨hB8, nm_e (nm_r (nI_1 q) (br_f (by decide) (br_f (by decide) (br_f (by decide) (br_f (by decide) (br_t (by decide) (br_f he (br_t (by decide) (br_t (by decide) (br_f (by decide) (br_t (by decide) (br_f (by decide) (br_f (by decide) (br_t (by decide) (nm_r (nI_pred d) ⟨hvd, br_f (by decide) (br_f (by decide) (br_t (by decide) (br_f (by decide) (br_f (by decide) (br_f (by decide) (br_f (by decide) (br_f (by decide) (br_t (by decide) (hp)))))))))⟩)))))))))))))))⟩⟩⟩
theorem ex_22 {q : Nat} {A B : Int32} (h1 : tk_I1 len ops ve an) (h2 : tk_I2 (nI q) dp rg me st) (h3 : tk_I3 cv P) (h4 : tk_I4 n S T rx ov sl cl yb ya yl so) (hW : tk_W (P 14) w si) (hq : q < 48) (hA : oa (nI q).toNatClampNeg &&& 7 = A) (hB : ob (nI q).toNatClampNeg = B) (hop : ops (nI q).toNatClampNeg = 22) : tk_St T pa (fun post => wpX_carryOut post (len, nI q, z, c, al, dp, sp, ha, nI T, re, ta, ed, nI n, rx, ov, sb, sl, nI S, cl, yb, ya, yl, w, ops, oa, ob, ve, rg, me, st, an, so, li, P)) (fun post => wpY_execute post (len, P 13, z, c, al, sp, ha, dp, nI q, nI T, pa, ta, re, ed, nI S, P 6, P 7, P 8, cv, P 10, P 12, P 14, P 16, P 18, P 19, si, rx, ov, sl, sb, cl, yl, yb, ya, ops, oa, ob, ve, an, so, rg, me, st, li, tk_q n, tk_d P 0, tk_d P 1, tk_d P 2) 22 A B) := by
  have hv : vp_in (nI q) 48 := vp_in_nI hq (by decide)
  have hA8 : vp_in A 8 := by rw [← hA]; exact tk_in (tk_7 _) (by decide)
  have hB8 : vp_in (B &&& 7) 8 := tk_in (tk_7 _) (by decide)
  have hrg := h2.2.2.1
  have hpc : tk_lt 256 (nI (q + 1)) := tk_mk (by omega)
  exact ⟨1, ha, _, _, by decide, (fun e0 => absurd e0 (by decide)), ⟨n, S, len, nI (q + 1), z, c, 1, dp, sp, re, ta, ed, rx, ov, sb, sl, cl, yb, ya, yl, w, cv, si, ops, oa, ob, ve, rg, me, st, an, so, li, P, rfl, rfl, h1, ⟨hpc, h2.2.1, hrg, h2.2.2.2.1, h2.2.2.2.2⟩, h3, h4, hW⟩, fun post hp => ⟨hv, nm_r hop ⟨hv, nm_r hA ⟨hv, nm_r hB (br_f (by decide) (br_t (by decide) (nm_r (nI_1 q) (br_t (by decide) (br_t (by decide) (br_t (by decide) (br_f (by decide) (br_f (by decide) (br_f (by decide) (br_f (by decide) (br_t (by decide) (hp))))))))))))⟩⟩⟩, fun post hp => ⟨hA8, nm_e ⟨hB8, nm_e (nm_r (nI_1 q) (br_f (by decide) (br_f (by decide) (br_f (by decide) (br_f (by decide) (br_f (by decide) (br_t (by decide) (br_t (by decide) (br_f (by decide) (br_t (by decide) (br_f (by decide) (br_f (by decide) (br_f (by decide) (br_f (by decide) (br_f (by decide) (br_f (by decide) (br_t (by decide) (br_f (by decide) (br_f (by decide) (br_f (by decide) (br_f (by decide) (br_f (by decide) (br_f (by decide) (br_f (by decide) (br_f (by decide) (hp))))))))))))))))))))))))))⟩⟩⟩
theorem ex_23 {q : Nat} {A B : Int32} (h1 : tk_I1 len ops ve an) (h2 : tk_I2 (nI q) dp rg me st) (h3 : tk_I3 cv P) (h4 : tk_I4 n S T rx ov sl cl yb ya yl so) (hW : tk_W (P 14) w si) (hq : q < 48) (hA : oa (nI q).toNatClampNeg &&& 7 = A) (hB : ob (nI q).toNatClampNeg = B) (hop : ops (nI q).toNatClampNeg = 23) : tk_St T pa (fun post => wpX_carryOut post (len, nI q, z, c, al, dp, sp, ha, nI T, re, ta, ed, nI n, rx, ov, sb, sl, nI S, cl, yb, ya, yl, w, ops, oa, ob, ve, rg, me, st, an, so, li, P)) (fun post => wpY_execute post (len, P 13, z, c, al, sp, ha, dp, nI q, nI T, pa, ta, re, ed, nI S, P 6, P 7, P 8, cv, P 10, P 12, P 14, P 16, P 18, P 19, si, rx, ov, sl, sb, cl, yl, yb, ya, ops, oa, ob, ve, an, so, rg, me, st, li, tk_q n, tk_d P 0, tk_d P 1, tk_d P 2) 23 A B) := by
  have hv : vp_in (nI q) 48 := vp_in_nI hq (by decide)
  have hA8 : vp_in A 8 := by rw [← hA]; exact tk_in (tk_7 _) (by decide)
  have hB8 : vp_in (B &&& 7) 8 := tk_in (tk_7 _) (by decide)
  have hrg := h2.2.2.1
  have hpc : tk_lt 256 (nI (q + 1)) := tk_mk (by omega)
  exact ⟨1, ha, _, _, by decide, (fun e0 => absurd e0 (by decide)), ⟨n, S, len, nI (q + 1), z, c, 0, dp, sp, re, ta, ed, rx, ov, sb, sl, cl, yb, ya, yl, w, cv, si, ops, oa, ob, ve, rg, me, st, an, so, li, P, rfl, rfl, h1, ⟨hpc, h2.2.1, hrg, h2.2.2.2.1, h2.2.2.2.2⟩, h3, h4, hW⟩, fun post hp => ⟨hv, nm_r hop ⟨hv, nm_r hA ⟨hv, nm_r hB (br_f (by decide) (br_t (by decide) (nm_r (nI_1 q) (br_t (by decide) (br_t (by decide) (br_t (by decide) (br_f (by decide) (br_f (by decide) (br_f (by decide) (br_f (by decide) (br_f (by decide) (br_t (by decide) (hp)))))))))))))⟩⟩⟩, fun post hp => ⟨hA8, nm_e ⟨hB8, nm_e (nm_r (nI_1 q) (br_f (by decide) (br_f (by decide) (br_f (by decide) (br_f (by decide) (br_f (by decide) (br_t (by decide) (br_t (by decide) (br_f (by decide) (br_t (by decide) (br_f (by decide) (br_f (by decide) (br_f (by decide) (br_f (by decide) (br_f (by decide) (br_f (by decide) (br_f (by decide) (br_t (by decide) (br_f (by decide) (br_f (by decide) (br_f (by decide) (br_f (by decide) (br_f (by decide) (br_f (by decide) (br_f (by decide) (hp))))))))))))))))))))))))))⟩⟩⟩
theorem ex_24 {q : Nat} {A B : Int32} (h1 : tk_I1 len ops ve an) (h2 : tk_I2 (nI q) dp rg me st) (h3 : tk_I3 cv P) (h4 : tk_I4 n S T rx ov sl cl yb ya yl so) (hW : tk_W (P 14) w si) (hq : q < 48) (hA : oa (nI q).toNatClampNeg &&& 7 = A) (hB : ob (nI q).toNatClampNeg = B) (hop : ops (nI q).toNatClampNeg = 24) : tk_St T pa (fun post => wpX_carryOut post (len, nI q, z, c, al, dp, sp, ha, nI T, re, ta, ed, nI n, rx, ov, sb, sl, nI S, cl, yb, ya, yl, w, ops, oa, ob, ve, rg, me, st, an, so, li, P)) (fun post => wpY_execute post (len, P 13, z, c, al, sp, ha, dp, nI q, nI T, pa, ta, re, ed, nI S, P 6, P 7, P 8, cv, P 10, P 12, P 14, P 16, P 18, P 19, si, rx, ov, sl, sb, cl, yl, yb, ya, ops, oa, ob, ve, an, so, rg, me, st, li, tk_q n, tk_d P 0, tk_d P 1, tk_d P 2) 24 A B) := by
  have hv : vp_in (nI q) 48 := vp_in_nI hq (by decide)
  have hA8 : vp_in A 8 := by rw [← hA]; exact tk_in (tk_7 _) (by decide)
  have hB8 : vp_in (B &&& 7) 8 := tk_in (tk_7 _) (by decide)
  have hrg := h2.2.2.1
  have hpc : tk_lt 256 (nI (q + 1)) := tk_mk (by omega)
  exact ⟨1, ha, _, _, by decide, (fun e0 => absurd e0 (by decide)), ⟨n, S, len, nI (q + 1), z, c, al, dp, 1, re, ta, ed, rx, ov, sb, sl, cl, yb, ya, yl, w, cv, si, ops, oa, ob, ve, rg, me, st, an, so, li, P, rfl, rfl, h1, ⟨hpc, h2.2.1, hrg, h2.2.2.2.1, h2.2.2.2.2⟩, h3, h4, hW⟩, fun post hp => ⟨hv, nm_r hop ⟨hv, nm_r hA ⟨hv, nm_r hB (br_f (by decide) (br_t (by decide) (nm_r (nI_1 q) (br_t (by decide) (br_t (by decide) (br_t (by decide) (br_f (by decide) (br_f (by decide) (br_f (by decide) (br_f (by decide) (br_f (by decide) (br_f (by decide) (br_t (by decide) (hp))))))))))))))⟩⟩⟩, fun post hp => ⟨hA8, nm_e ⟨hB8, nm_e (nm_r (nI_1 q) (br_f (by decide) (br_f (by decide) (br_f (by decide) (br_f (by decide) (br_f (by decide) (br_t (by decide) (br_t (by decide) (br_f (by decide) (br_t (by decide) (br_f (by decide) (br_f (by decide) (br_f (by decide) (br_f (by decide) (br_f (by decide) (br_f (by decide) (br_f (by decide) (br_f (by decide) (br_t (by decide) (br_f (by decide) (br_f (by decide) (br_f (by decide) (br_f (by decide) (br_f (by decide) (br_f (by decide) (hp))))))))))))))))))))))))))⟩⟩⟩
theorem ex_25 {q : Nat} {A B : Int32} (h1 : tk_I1 len ops ve an) (h2 : tk_I2 (nI q) dp rg me st) (h3 : tk_I3 cv P) (h4 : tk_I4 n S T rx ov sl cl yb ya yl so) (hW : tk_W (P 14) w si) (hq : q < 48) (hA : oa (nI q).toNatClampNeg &&& 7 = A) (hB : ob (nI q).toNatClampNeg = B) (hop : ops (nI q).toNatClampNeg = 25) : tk_St T pa (fun post => wpX_carryOut post (len, nI q, z, c, al, dp, sp, ha, nI T, re, ta, ed, nI n, rx, ov, sb, sl, nI S, cl, yb, ya, yl, w, ops, oa, ob, ve, rg, me, st, an, so, li, P)) (fun post => wpY_execute post (len, P 13, z, c, al, sp, ha, dp, nI q, nI T, pa, ta, re, ed, nI S, P 6, P 7, P 8, cv, P 10, P 12, P 14, P 16, P 18, P 19, si, rx, ov, sl, sb, cl, yl, yb, ya, ops, oa, ob, ve, an, so, rg, me, st, li, tk_q n, tk_d P 0, tk_d P 1, tk_d P 2) 25 A B) := by
  have hv : vp_in (nI q) 48 := vp_in_nI hq (by decide)
  have hA8 : vp_in A 8 := by rw [← hA]; exact tk_in (tk_7 _) (by decide)
  have hB8 : vp_in (B &&& 7) 8 := tk_in (tk_7 _) (by decide)
  have hrg := h2.2.2.1
  have hpc : tk_lt 256 (nI (q + 1)) := tk_mk (by omega)
  exact ⟨1, ha, _, _, by decide, (fun e0 => absurd e0 (by decide)), ⟨n, S, len, nI (q + 1), z, c, al, dp, sp, re, ta, ed, rx, ov, sb, sl, cl, yb, ya, yl, 0, cv, 0, ops, oa, ob, ve, rg, me, st, an, so, li, P, rfl, rfl, h1, ⟨hpc, h2.2.1, hrg, h2.2.2.2.1, h2.2.2.2.2⟩, h3, h4, tk_W0 _⟩, fun post hp => ⟨hv, nm_r hop ⟨hv, nm_r hA ⟨hv, nm_r hB (br_f (by decide) (br_t (by decide) (nm_r (nI_1 q) (br_t (by decide) (br_t (by decide) (br_t (by decide) (br_f (by decide) (br_f (by decide) (br_f (by decide) (br_f (by decide) (br_f (by decide) (br_f (by decide) (br_f (by decide) (br_t (by decide) (hp)))))))))))))))⟩⟩⟩, fun post hp => ⟨hA8, nm_e ⟨hB8, nm_e (nm_r (nI_1 q) (br_f (by decide) (br_f (by decide) (br_f (by decide) (br_f (by decide) (br_f (by decide) (br_t (by decide) (br_t (by decide) (br_f (by decide) (br_t (by decide) (br_f (by decide) (br_f (by decide) (br_f (by decide) (br_f (by decide) (br_f (by decide) (br_f (by decide) (br_f (by decide) (br_f (by decide) (br_f (by decide) (br_t (by decide) (br_f (by decide) (br_f (by decide) (br_f (by decide) (br_f (by decide) (br_f (by decide) (hp))))))))))))))))))))))))))⟩⟩⟩
theorem ex_all {q : Nat} {A B : Int32} (h1 : tk_I1 len ops ve an) (h2 : tk_I2 (nI q) dp rg me st) (h3 : tk_I3 cv P) (h4 : tk_I4 n S T rx ov sl cl yb ya yl so) (hW : tk_W (P 14) w si) (hq : q < 48) (hA : oa (nI q).toNatClampNeg &&& 7 = A) (hB : ob (nI q).toNatClampNeg = B) : ∀ k : Nat, k < 27 → ops (nI q).toNatClampNeg = nI k → tk_St T pa (fun post => wpX_carryOut post (len, nI q, z, c, al, dp, sp, ha, nI T, re, ta, ed, nI n, rx, ov, sb, sl, nI S, cl, yb, ya, yl, w, ops, oa, ob, ve, rg, me, st, an, so, li, P)) (fun post => wpY_execute post (len, P 13, z, c, al, sp, ha, dp, nI q, nI T, pa, ta, re, ed, nI S, P 6, P 7, P 8, cv, P 10, P 12, P 14, P 16, P 18, P 19, si, rx, ov, sl, sb, cl, yl, yb, ya, ops, oa, ob, ve, an, so, rg, me, st, li, tk_q n, tk_d P 0, tk_d P 1, tk_d P 2) (nI k) A B)
  | 0, _, e => ex_0 h1 h2 h3 h4 hW hq hA hB e
  | 1, _, e => ex_1 h1 h2 h3 h4 hW hq hA hB e
  | 2, _, e => ex_2 h1 h2 h3 h4 hW hq hA hB e
  | 3, _, e => ex_3 h1 h2 h3 h4 hW hq hA hB e
  | 4, _, e => ex_4 h1 h2 h3 h4 hW hq hA hB e
  | 5, _, e => ex_5 h1 h2 h3 h4 hW hq hA hB e
  | 6, _, e => ex_6 h1 h2 h3 h4 hW hq hA hB e
  | 7, _, e => ex_7 h1 h2 h3 h4 hW hq hA hB e
  | 8, _, e => ex_8 h1 h2 h3 h4 hW hq hA hB e
  | 9, _, e => ex_9 h1 h2 h3 h4 hW hq hA hB e
  | 10, _, e => ex_10 h1 h2 h3 h4 hW hq hA hB e
  | 11, _, e => ex_11 h1 h2 h3 h4 hW hq hA hB e
  | 12, _, e => ex_12 h1 h2 h3 h4 hW hq hA hB e
  | 13, _, e => ex_13 h1 h2 h3 h4 hW hq hA hB e
  | 14, _, e => ex_14 h1 h2 h3 h4 hW hq hA hB e
  | 15, _, e => ex_15 h1 h2 h3 h4 hW hq hA hB e
  | 16, _, e => ex_16 h1 h2 h3 h4 hW hq hA hB e
  | 17, _, e => ex_17 h1 h2 h3 h4 hW hq hA hB e
  | 18, _, e => ex_18 h1 h2 h3 h4 hW hq hA hB e
  | 19, _, e => ex_19 h1 h2 h3 h4 hW hq hA hB e
  | 20, _, e => ex_20 h1 h2 h3 h4 hW hq hA hB e
  | 21, _, e => ex_21 h1 h2 h3 h4 hW hq hA hB e
  | 22, _, e => ex_22 h1 h2 h3 h4 hW hq hA hB e
  | 23, _, e => ex_23 h1 h2 h3 h4 hW hq hA hB e
  | 24, _, e => ex_24 h1 h2 h3 h4 hW hq hA hB e
  | 25, _, e => ex_25 h1 h2 h3 h4 hW hq hA hB e
  | 26, _, e => ex_26 h1 h2 h3 h4 hW hq hA hB e
  | k + 27, h, _ => absurd h (by omega)
end
end
section
/-! which interrupt waits -/
section
variable {n T S : Nat} {len pc z c al dp sp ha re ta ed rx ov sb sl cl yb ya yl w pa cv si : Int32} {ops oa ob ve rg me st an so li P : Nat → Int32}
theorem en_all (h3 : tk_I3 cv P) : ∃ E : Nat, E < 512 ∧ (∀ post : Int32 → Prop, post (nI E) → wpX_enabledInterrupts post (len, pc, z, c, al, dp, sp, ha, nI T, re, ta, ed, nI n, rx, ov, sb, sl, nI S, cl, yb, ya, yl, w, ops, oa, ob, ve, rg, me, st, an, so, li, P)) ∧ (∀ k : Nat, k < 9 → ∀ post : Int32 → Prop, post (tk_q E k) → wpY_enabled post (len, P 13, z, c, al, sp, ha, dp, pc, nI T, pa, ta, re, ed, nI S, P 6, P 7, P 8, cv, P 10, P 12, P 14, P 16, P 18, P 19, si, rx, ov, sl, sb, cl, yl, yb, ya, ops, oa, ob, ve, an, so, rg, me, st, li, tk_q n, tk_d P 0, tk_d P 1, tk_d P 2) (nI k)) := by
  obtain ⟨x1, hx1, e1⟩ := h3.2.2.1 1
  obtain ⟨x4, hx4, e4⟩ := h3.2.2.1 4
  obtain ⟨x7, hx7, e7⟩ := h3.2.2.1 7
  obtain ⟨x9, hx9, e9⟩ := h3.2.2.1 9
  obtain ⟨x18, hx18, e18⟩ := h3.2.2.1 18
  have ec : cv &&& 8 = nI x9 &&& 8 := by
    obtain ⟨m, hm, em⟩ := h3.1
    rw [← e9, h3.2.1, em]
    exact (tk_cm8 m hm).symm
  have d1 : x1 / 8 % 4 < 4 := by omega
  have d4 : x4 / 8 % 4 < 4 := by omega
  have d7 : x7 / 8 % 4 < 4 := by omega
  have d9 : x9 / 8 % 2 < 2 := by omega
  have d18 : x18 / 8 % 2 < 2 := by omega
  have hE : (((((P 1 >>> ((3 : Int32) &&& 31)) &&& 3) ||| (((P 4 >>> ((3 : Int32) &&& 31)) &&& 3) <<< ((2 : Int32) &&& 31))) ||| (((P 7 >>> ((3 : Int32) &&& 31)) &&& 3) <<< ((4 : Int32) &&& 31))) ||| (((P 9 >>> ((3 : Int32) &&& 31)) &&& 1) <<< ((6 : Int32) &&& 31))) ||| (((P 18 >>> ((3 : Int32) &&& 31)) &&& 1) <<< ((7 : Int32) &&& 31)) = nI (x1 / 8 % 4 + 4 * (x4 / 8 % 4) + 16 * (x7 / 8 % 4) + 64 * (x9 / 8 % 2) + 128 * (x18 / 8 % 2)) := by
    rw [e1, e4, e7, e9, e18, tk_s3 x1 hx1, tk_s3 x4 hx4, tk_s3 x7 hx7, tk_s1 x9 hx9, tk_s1 x18 hx18]
    exact tk_or5 _ d1 _ d4 _ d7 _ d9 _ d18
  have main : ∃ f : Nat, f < 2 ∧ (f = 1 ↔ ¬ P 19 = 0) ∧ (∀ post : Int32 → Prop, post (nI (x1 / 8 % 4 + 4 * (x4 / 8 % 4) + 16 * (x7 / 8 % 4) + 64 * (x9 / 8 % 2) + 128 * (x18 / 8 % 2) + 256 * f)) → wpX_enabledInterrupts post (len, pc, z, c, al, dp, sp, ha, nI T, re, ta, ed, nI n, rx, ov, sb, sl, nI S, cl, yb, ya, yl, w, ops, oa, ob, ve, rg, me, st, an, so, li, P)) := by
    by_cases e19 : P 19 = 0
    · refine ⟨0, by decide, ⟨fun q => absurd q (by decide), fun q => absurd e19 q⟩, fun post hp => nm_e (nm_e (nm_e (nm_e (nm_e (br_t e19 ?_)))))⟩
      rw [hE]
      exact hp
    · refine ⟨1, by decide, ⟨fun _ => e19, fun _ => rfl⟩, fun post hp => nm_e (nm_e (nm_e (nm_e (nm_e (br_f e19 (nm_e ?_))))))⟩
      rw [hE, tk_or6 _ (by omega)]
      exact hp
  obtain ⟨f, hf, ef, hX⟩ := main
  refine ⟨x1 / 8 % 4 + 4 * (x4 / 8 % 4) + 16 * (x7 / 8 % 4) + 64 * (x9 / 8 % 2) + 128 * (x18 / 8 % 2) + 256 * f, by omega, hX, ?_⟩
  have k0 : ∀ post : Int32 → Prop, post (tk_q (x1 / 8 % 4 + 4 * (x4 / 8 % 4) + 16 * (x7 / 8 % 4) + 64 * (x9 / 8 % 2) + 128 * (x18 / 8 % 2) + 256 * f) 0) → wpY_enabled post (len, P 13, z, c, al, sp, ha, dp, pc, nI T, pa, ta, re, ed, nI S, P 6, P 7, P 8, cv, P 10, P 12, P 14, P 16, P 18, P 19, si, rx, ov, sl, sb, cl, yl, yb, ya, ops, oa, ob, ve, an, so, rg, me, st, li, tk_q n, tk_d P 0, tk_d P 1, tk_d P 2) (nI 0) := by
    intro post hp
    have hx : (P 1 >>> ((3 : Int32) &&& 31)) &&& 1 = nI (x1 / 8 % 4 % 2) := by rw [e1]; exact tk_s31 x1 hx1
    by_cases hk : x1 / 8 % 4 % 2 = 1
    · rw [tk_qt (by rw [tk_E0 d1 d4 d7 d9 d18 hf]; exact decide_eq_true hk)] at hp
      exact br_f (by decide) (⟨(by decide), (vp_in_iff.mpr (by decide)), (by decide), br_t (hx.trans (congrArg nI hk)) hp⟩)
    · rw [tk_qf (by rw [tk_E0 d1 d4 d7 d9 d18 hf]; exact decide_eq_false hk)] at hp
      exact br_f (by decide) (⟨(by decide), (vp_in_iff.mpr (by decide)), (by decide), br_f (fun q => hk ((nI_eq (b := 1) (by omega) (by decide)).mp (hx.symm.trans q))) hp⟩)
  have k1 : ∀ post : Int32 → Prop, post (tk_q (x1 / 8 % 4 + 4 * (x4 / 8 % 4) + 16 * (x7 / 8 % 4) + 64 * (x9 / 8 % 2) + 128 * (x18 / 8 % 2) + 256 * f) 1) → wpY_enabled post (len, P 13, z, c, al, sp, ha, dp, pc, nI T, pa, ta, re, ed, nI S, P 6, P 7, P 8, cv, P 10, P 12, P 14, P 16, P 18, P 19, si, rx, ov, sl, sb, cl, yl, yb, ya, ops, oa, ob, ve, an, so, rg, me, st, li, tk_q n, tk_d P 0, tk_d P 1, tk_d P 2) (nI 1) := by
    intro post hp
    have hx : (P 1 >>> ((4 : Int32) &&& 31)) &&& 1 = nI (x1 / 8 % 4 / 2) := by rw [e1]; exact tk_s41 x1 hx1
    by_cases hk : x1 / 8 % 4 / 2 = 1
    · rw [tk_qt (by rw [tk_E1 d1 d4 d7 d9 d18 hf]; exact decide_eq_true hk)] at hp
      exact br_f (by decide) (⟨(by decide), (vp_in_iff.mpr (by decide)), (by decide), br_t (hx.trans (congrArg nI hk)) hp⟩)
    · rw [tk_qf (by rw [tk_E1 d1 d4 d7 d9 d18 hf]; exact decide_eq_false hk)] at hp
      exact br_f (by decide) (⟨(by decide), (vp_in_iff.mpr (by decide)), (by decide), br_f (fun q => hk ((nI_eq (b := 1) (by omega) (by decide)).mp (hx.symm.trans q))) hp⟩)
  have k2 : ∀ post : Int32 → Prop, post (tk_q (x1 / 8 % 4 + 4 * (x4 / 8 % 4) + 16 * (x7 / 8 % 4) + 64 * (x9 / 8 % 2) + 128 * (x18 / 8 % 2) + 256 * f) 2) → wpY_enabled post (len, P 13, z, c, al, sp, ha, dp, pc, nI T, pa, ta, re, ed, nI S, P 6, P 7, P 8, cv, P 10, P 12, P 14, P 16, P 18, P 19, si, rx, ov, sl, sb, cl, yl, yb, ya, ops, oa, ob, ve, an, so, rg, me, st, li, tk_q n, tk_d P 0, tk_d P 1, tk_d P 2) (nI 2) := by
    intro post hp
    have hx : (P 4 >>> ((3 : Int32) &&& 31)) &&& 1 = nI (x4 / 8 % 4 % 2) := by rw [e4]; exact tk_s31 x4 hx4
    by_cases hk : x4 / 8 % 4 % 2 = 1
    · rw [tk_qt (by rw [tk_E2 d1 d4 d7 d9 d18 hf]; exact decide_eq_true hk)] at hp
      exact br_f (by decide) (⟨(by decide), (vp_in_iff.mpr (by decide)), (by decide), br_t (hx.trans (congrArg nI hk)) hp⟩)
    · rw [tk_qf (by rw [tk_E2 d1 d4 d7 d9 d18 hf]; exact decide_eq_false hk)] at hp
      exact br_f (by decide) (⟨(by decide), (vp_in_iff.mpr (by decide)), (by decide), br_f (fun q => hk ((nI_eq (b := 1) (by omega) (by decide)).mp (hx.symm.trans q))) hp⟩)
  have k3 : ∀ post : Int32 → Prop, post (tk_q (x1 / 8 % 4 + 4 * (x4 / 8 % 4) + 16 * (x7 / 8 % 4) + 64 * (x9 / 8 % 2) + 128 * (x18 / 8 % 2) + 256 * f) 3) → wpY_enabled post (len, P 13, z, c, al, sp, ha, dp, pc, nI T, pa, ta, re, ed, nI S, P 6, P 7, P 8, cv, P 10, P 12, P 14, P 16, P 18, P 19, si, rx, ov, sl, sb, cl, yl, yb, ya, ops, oa, ob, ve, an, so, rg, me, st, li, tk_q n, tk_d P 0, tk_d P 1, tk_d P 2) (nI 3) := by
    intro post hp
    have hx : (P 4 >>> ((4 : Int32) &&& 31)) &&& 1 = nI (x4 / 8 % 4 / 2) := by rw [e4]; exact tk_s41 x4 hx4
    by_cases hk : x4 / 8 % 4 / 2 = 1
    · rw [tk_qt (by rw [tk_E3 d1 d4 d7 d9 d18 hf]; exact decide_eq_true hk)] at hp
      exact br_f (by decide) (⟨(by decide), (vp_in_iff.mpr (by decide)), (by decide), br_t (hx.trans (congrArg nI hk)) hp⟩)
    · rw [tk_qf (by rw [tk_E3 d1 d4 d7 d9 d18 hf]; exact decide_eq_false hk)] at hp
      exact br_f (by decide) (⟨(by decide), (vp_in_iff.mpr (by decide)), (by decide), br_f (fun q => hk ((nI_eq (b := 1) (by omega) (by decide)).mp (hx.symm.trans q))) hp⟩)
  have k4 : ∀ post : Int32 → Prop, post (tk_q (x1 / 8 % 4 + 4 * (x4 / 8 % 4) + 16 * (x7 / 8 % 4) + 64 * (x9 / 8 % 2) + 128 * (x18 / 8 % 2) + 256 * f) 4) → wpY_enabled post (len, P 13, z, c, al, sp, ha, dp, pc, nI T, pa, ta, re, ed, nI S, P 6, P 7, P 8, cv, P 10, P 12, P 14, P 16, P 18, P 19, si, rx, ov, sl, sb, cl, yl, yb, ya, ops, oa, ob, ve, an, so, rg, me, st, li, tk_q n, tk_d P 0, tk_d P 1, tk_d P 2) (nI 4) := by
    intro post hp
    have hx : (P 7 >>> ((3 : Int32) &&& 31)) &&& 1 = nI (x7 / 8 % 4 % 2) := by rw [e7]; exact tk_s31 x7 hx7
    by_cases hk : x7 / 8 % 4 % 2 = 1
    · rw [tk_qt (by rw [tk_E4 d1 d4 d7 d9 d18 hf]; exact decide_eq_true hk)] at hp
      exact br_t (by decide) (br_f (by decide) (br_t (hx.trans (congrArg nI hk)) hp))
    · rw [tk_qf (by rw [tk_E4 d1 d4 d7 d9 d18 hf]; exact decide_eq_false hk)] at hp
      exact br_t (by decide) (br_f (by decide) (br_f (fun q => hk ((nI_eq (b := 1) (by omega) (by decide)).mp (hx.symm.trans q))) hp))
  have k5 : ∀ post : Int32 → Prop, post (tk_q (x1 / 8 % 4 + 4 * (x4 / 8 % 4) + 16 * (x7 / 8 % 4) + 64 * (x9 / 8 % 2) + 128 * (x18 / 8 % 2) + 256 * f) 5) → wpY_enabled post (len, P 13, z, c, al, sp, ha, dp, pc, nI T, pa, ta, re, ed, nI S, P 6, P 7, P 8, cv, P 10, P 12, P 14, P 16, P 18, P 19, si, rx, ov, sl, sb, cl, yl, yb, ya, ops, oa, ob, ve, an, so, rg, me, st, li, tk_q n, tk_d P 0, tk_d P 1, tk_d P 2) (nI 5) := by
    intro post hp
    have hx : (P 7 >>> ((4 : Int32) &&& 31)) &&& 1 = nI (x7 / 8 % 4 / 2) := by rw [e7]; exact tk_s41 x7 hx7
    by_cases hk : x7 / 8 % 4 / 2 = 1
    · rw [tk_qt (by rw [tk_E5 d1 d4 d7 d9 d18 hf]; exact decide_eq_true hk)] at hp
      exact br_t (by decide) (br_f (by decide) (br_t (hx.trans (congrArg nI hk)) hp))
    · rw [tk_qf (by rw [tk_E5 d1 d4 d7 d9 d18 hf]; exact decide_eq_false hk)] at hp
      exact br_t (by decide) (br_f (by decide) (br_f (fun q => hk ((nI_eq (b := 1) (by omega) (by decide)).mp (hx.symm.trans q))) hp))
  have k6 : ∀ post : Int32 → Prop, post (tk_q (x1 / 8 % 4 + 4 * (x4 / 8 % 4) + 16 * (x7 / 8 % 4) + 64 * (x9 / 8 % 2) + 128 * (x18 / 8 % 2) + 256 * f) 6) → wpY_enabled post (len, P 13, z, c, al, sp, ha, dp, pc, nI T, pa, ta, re, ed, nI S, P 6, P 7, P 8, cv, P 10, P 12, P 14, P 16, P 18, P 19, si, rx, ov, sl, sb, cl, yl, yb, ya, ops, oa, ob, ve, an, so, rg, me, st, li, tk_q n, tk_d P 0, tk_d P 1, tk_d P 2) (nI 6) := by
    intro post hp
    by_cases hk : x9 / 8 % 2 = 1
    · rw [tk_qt (by rw [tk_E6 d1 d4 d7 d9 d18 hf]; exact decide_eq_true hk)] at hp
      exact br_t (by decide) (br_t (by decide) (br_t (by decide) (br_f (by rw [ec, tk_s8 x9 hx9]; omega) hp)))
    · rw [tk_qf (by rw [tk_E6 d1 d4 d7 d9 d18 hf]; exact decide_eq_false hk)] at hp
      exact br_t (by decide) (br_t (by decide) (br_t (by decide) (br_t (by rw [ec, tk_s8 x9 hx9]; omega) hp)))
  have k7 : ∀ post : Int32 → Prop, post (tk_q (x1 / 8 % 4 + 4 * (x4 / 8 % 4) + 16 * (x7 / 8 % 4) + 64 * (x9 / 8 % 2) + 128 * (x18 / 8 % 2) + 256 * f) 7) → wpY_enabled post (len, P 13, z, c, al, sp, ha, dp, pc, nI T, pa, ta, re, ed, nI S, P 6, P 7, P 8, cv, P 10, P 12, P 14, P 16, P 18, P 19, si, rx, ov, sl, sb, cl, yl, yb, ya, ops, oa, ob, ve, an, so, rg, me, st, li, tk_q n, tk_d P 0, tk_d P 1, tk_d P 2) (nI 7) := by
    intro post hp
    by_cases hk : x18 / 8 % 2 = 1
    · rw [tk_qt (by rw [tk_E7 d1 d4 d7 d9 d18 hf]; exact decide_eq_true hk)] at hp
      exact br_t (by decide) (br_t (by decide) (br_f (by decide) (br_t (by decide) (br_f (by rw [e18, tk_s8 x18 hx18]; omega) hp))))
    · rw [tk_qf (by rw [tk_E7 d1 d4 d7 d9 d18 hf]; exact decide_eq_false hk)] at hp
      exact br_t (by decide) (br_t (by decide) (br_f (by decide) (br_t (by decide) (br_t (by rw [e18, tk_s8 x18 hx18]; omega) hp))))
  have k8 : ∀ post : Int32 → Prop, post (tk_q (x1 / 8 % 4 + 4 * (x4 / 8 % 4) + 16 * (x7 / 8 % 4) + 64 * (x9 / 8 % 2) + 128 * (x18 / 8 % 2) + 256 * f) 8) → wpY_enabled post (len, P 13, z, c, al, sp, ha, dp, pc, nI T, pa, ta, re, ed, nI S, P 6, P 7, P 8, cv, P 10, P 12, P 14, P 16, P 18, P 19, si, rx, ov, sl, sb, cl, yl, yb, ya, ops, oa, ob, ve, an, so, rg, me, st, li, tk_q n, tk_d P 0, tk_d P 1, tk_d P 2) (nI 8) := by
    intro post hp
    by_cases hk : f = 1
    · rw [tk_qt (by rw [tk_E8 d1 d4 d7 d9 d18 hf]; exact decide_eq_true hk)] at hp
      exact br_t (by decide) (br_t (by decide) (br_f (by decide) (br_f (by decide) (br_f (ef.mp hk) hp))))
    · rw [tk_qf (by rw [tk_E8 d1 d4 d7 d9 d18 hf]; exact decide_eq_false hk)] at hp
      exact br_t (by decide) (br_t (by decide) (br_f (by decide) (br_f (by decide) (br_t (Classical.byContradiction (fun q => hk (ef.mpr q))) hp))))
  intro k hk
  match k, hk with
  | 0, _ => exact k0
  | 1, _ => exact k1
  | 2, _ => exact k2
  | 3, _ => exact k3
  | 4, _ => exact k4
  | 5, _ => exact k5
  | 6, _ => exact k6
  | 7, _ => exact k7
  | 8, _ => exact k8
  | k + 9, h => exact absurd h (by omega)
theorem wa_loop {E K : Nat} (hK : K ≤ 9) (hen : ∀ k : Nat, k < 9 → ∀ post : Int32 → Prop, post (tk_q E k) → wpY_enabled post (len, P 13, z, c, al, sp, ha, dp, pc, nI T, pa, ta, re, ed, nI S, P 6, P 7, P 8, cv, P 10, P 12, P 14, P 16, P 18, P 19, si, rx, ov, sl, sb, cl, yl, yb, ya, ops, oa, ob, ve, an, so, rg, me, st, li, tk_q n, tk_d P 0, tk_d P 1, tk_d P 2) (nI k)) (h0 : ∀ j, j < K → (n &&& E).testBit j = false) (h1 : K < 9 → (n &&& E).testBit K = true) (post : Int32 → Prop) (hp : post (nI K)) : ∀ d j : Nat, j + d = K → wY_waiting_14 post len (P 13) z c al sp ha dp pc (nI T) pa ta re ed (nI S) (P 6) (P 7) (P 8) cv (P 10) (P 12) (P 14) (P 16) (P 18) (P 19) si rx ov sl sb cl yl yb ya ops oa ob ve an so rg me st li (tk_q n) (tk_d P 0) (tk_d P 1) (tk_d P 2) (d + 1) (nI j) := by
  intro d
  induction d with
  | zero =>
    intro j hj
    have e : j = K := by omega
    subst e
    by_cases h9 : j = 9
    · subst h9
      exact br_t (by decide) hp
    · have hlt : j < 9 := by omega
      have hb := h1 hlt
      rw [Nat.testBit_and, Bool.and_eq_true] at hb
      have hc : (nI j).toNatClampNeg = j := nI_clamp (by omega)
      have hn1 : ¬ tk_q n (nI j).toNatClampNeg = 0 := by rw [hc, tk_qt hb.1]; decide
      have he1 : ¬ tk_q E j = 0 := by rw [tk_qt hb.2]; decide
      exact br_f (nI_ge (b := 9) (by omega) (by decide)) ⟨vp_in_nI hlt (by decide), br_f hn1 (hen j hlt _ (br_f he1 hp))⟩
  | succ d ih =>
    intro j hj
    have hlt : j < 9 := by omega
    have hb := h0 j (by omega)
    rw [Nat.testBit_and] at hb
    have hc : (nI j).toNatClampNeg = j := nI_clamp (by omega)
    have IH := ih (j + 1) (by omega)
    cases e : n.testBit j
    · have hn0 : tk_q n (nI j).toNatClampNeg = 0 := by rw [hc, tk_qf e]
      exact br_f (nI_ge (b := 9) (by omega) (by decide)) ⟨vp_in_nI hlt (by decide), br_t hn0 (nm_r (nI_1 j) IH)⟩
    · rw [e, Bool.true_and] at hb
      have hn1 : ¬ tk_q n (nI j).toNatClampNeg = 0 := by rw [hc, tk_qt e]; decide
      exact br_f (nI_ge (b := 9) (by omega) (by decide)) ⟨vp_in_nI hlt (by decide), br_f hn1 (hen j hlt _ (br_t (tk_qf hb) (nm_r (nI_1 j) IH)))⟩
theorem ti_loop {r K : Nat} (hr : r < 512) (hK : K < 9) (h0 : ∀ j, j < K → r.testBit j = false) (h1 : r.testBit K = true) (post : Int32 → SX → Prop) (hp : wX_takeInterrupt_36 post (nI K) len pc z c al dp sp ha (nI T) re ta ed (nI n) rx ov sb sl (nI S) cl yb ya yl w ops oa ob ve rg me st an so li P) : ∀ d j : Nat, j + d = K → wX_takeInterrupt_16 post (nI r) len pc z c al dp sp ha (nI T) re ta ed (nI n) rx ov sb sl (nI S) cl yb ya yl w ops oa ob ve rg me st an so li P (d + 1) (nI j) := by
  intro d
  induction d with
  | zero =>
    intro j hj
    have e : j = K := by omega
    subst e
    by_cases h8 : j = 8
    · subst h8
      exact br_t (by decide) hp
    · exact br_f (nI_ge (b := 8) (by omega) (by decide)) (br_f (by rw [tk_shr1 (by omega) (by omega), tk_qt h1]; decide) hp)
  | succ d ih =>
    intro j hj
    exact br_f (nI_ge (b := 8) (by omega) (by decide)) (br_t (by rw [tk_shr1 (by omega) (by omega), tk_qf (h0 j (by omega))]) (nm_r (nI_1 j) (ih (j + 1) (by omega))))
theorem wt_all (h3 : tk_I3 cv P) (hn : n < 512) :
    ((∀ post : Int32 → SX → Prop, wX_takeStep_20 post 0 len pc z c al dp sp ha (nI T) re ta ed (nI n) rx ov sb sl (nI S) cl yb ya yl w ops oa ob ve rg me st an so li P → wpX_takeStep post (len, pc, z, c, al, dp, sp, ha, nI T, re, ta, ed, nI n, rx, ov, sb, sl, nI S, cl, yb, ya, yl, w, ops, oa, ob, ve, rg, me, st, an, so, li, P)) ∧ (∀ post : Int32 → Prop, post 9 → wpY_waiting post (len, P 13, z, c, al, sp, ha, dp, pc, nI T, pa, ta, re, ed, nI S, P 6, P 7, P 8, cv, P 10, P 12, P 14, P 16, P 18, P 19, si, rx, ov, sl, sb, cl, yl, yb, ya, ops, oa, ob, ve, an, so, rg, me, st, li, tk_q n, tk_d P 0, tk_d P 1, tk_d P 2))) ∨
    (∃ r K : Nat, r < 512 ∧ K < 9 ∧ (∀ j, j < K → r.testBit j = false) ∧ r.testBit K = true ∧ (∀ post : Int32 → SX → Prop, wX_takeStep_20 post (nI r) len pc z c al dp sp ha (nI T) re ta ed (nI n) rx ov sb sl (nI S) cl yb ya yl w ops oa ob ve rg me st an so li P → wpX_takeStep post (len, pc, z, c, al, dp, sp, ha, nI T, re, ta, ed, nI n, rx, ov, sb, sl, nI S, cl, yb, ya, yl, w, ops, oa, ob, ve, rg, me, st, an, so, li, P)) ∧ (∀ post : Int32 → Prop, post (nI K) → wpY_waiting post (len, P 13, z, c, al, sp, ha, dp, pc, nI T, pa, ta, re, ed, nI S, P 6, P 7, P 8, cv, P 10, P 12, P 14, P 16, P 18, P 19, si, rx, ov, sl, sb, cl, yl, yb, ya, ops, oa, ob, ve, an, so, rg, me, st, li, tk_q n, tk_d P 0, tk_d P 1, tk_d P 2))) := by
  obtain ⟨E, hE, eX, eY⟩ := en_all (n := n) (T := T) (S := S) (len := len) (pc := pc) (z := z) (c := c) (al := al) (dp := dp) (sp := sp) (ha := ha) (re := re) (ta := ta) (ed := ed) (rx := rx) (ov := ov) (sb := sb) (sl := sl) (cl := cl) (yb := yb) (ya := ya) (yl := yl) (w := w) (pa := pa) (cv := cv) (si := si) (ops := ops) (oa := oa) (ob := ob) (ve := ve) (rg := rg) (me := me) (st := st) (an := an) (so := so) (li := li) (P := P) h3
  by_cases ea : al = 0
  · refine Or.inl ⟨fun post hp => br_t ea hp, fun post hp => br_t ea ⟨1, br_t (by decide) hp⟩⟩
  · have hr : n &&& E < 512 := Nat.lt_of_le_of_lt Nat.and_le_left hn
    rcases tk_least (n &&& E) 9 with hz | ⟨K, hK, b1, b0⟩
    · have hz0 := tk_none hr hz
      refine Or.inl ⟨fun post hp => br_f ea (eX _ ?_), fun post hp => br_f ea ⟨10, ?_⟩⟩
      · rw [nx_and, hz0]
        exact hp
      · exact wa_loop (n := n) (T := T) (S := S) (len := len) (pc := pc) (z := z) (c := c) (al := al) (dp := dp) (sp := sp) (ha := ha) (re := re) (ta := ta) (ed := ed) (rx := rx) (ov := ov) (sb := sb) (sl := sl) (cl := cl) (yb := yb) (ya := ya) (yl := yl) (pa := pa) (cv := cv) (si := si) (ops := ops) (oa := oa) (ob := ob) (ve := ve) (rg := rg) (me := me) (st := st) (an := an) (so := so) (li := li) (P := P) (K := 9) (by decide) eY hz (fun q => absurd q (by decide)) post hp 9 0 rfl
    · refine Or.inr ⟨n &&& E, K, hr, hK, b0, b1, fun post hp => br_f ea (eX _ ?_), fun post hp => br_f ea ⟨K + 1, ?_⟩⟩
      · rw [nx_and]
        exact hp
      · exact wa_loop (n := n) (T := T) (S := S) (len := len) (pc := pc) (z := z) (c := c) (al := al) (dp := dp) (sp := sp) (ha := ha) (re := re) (ta := ta) (ed := ed) (rx := rx) (ov := ov) (sb := sb) (sl := sl) (cl := cl) (yb := yb) (ya := ya) (yl := yl) (pa := pa) (cv := cv) (si := si) (ops := ops) (oa := oa) (ob := ob) (ve := ve) (rg := rg) (me := me) (st := st) (an := an) (so := so) (li := li) (P := P) (K := K) (by omega) eY b0 (fun _ => b1) post hp K 0 (by omega)
end
end
section
/-! cycles one behind another, one step of run, run -/
section
variable {n T S : Nat} {len pc z c al dp sp ha re ta ed rx ov sb sl cl yb ya yl w pa cv si : Int32} {ops oa ob ve rg me st an so li P : Nat → Int32}
def tk_X30 (post : Int32 → SX → Prop) (x1 x2 : Int32) (f : Nat) (x3 : Int32) (u : SX) : Prop := match u with
  | (a0, a1, a2, a3, a4, a5, a6, a7, a8, a9, a10, a11, a12, a13, a14, a15, a16, a17, a18, a19, a20, a21, a22, a23, a24, a25, a26, a27, a28, a29, a30, a31, a32, a33) => wX_run_30 post x1 x2 f x3 a0 a1 a2 a3 a4 a5 a6 a7 a8 a9 a10 a11 a12 a13 a14 a15 a16 a17 a18 a19 a20 a21 a22 a23 a24 a25 a26 a27 a28 a29 a30 a31 a32 a33
def tk_L61 (post : Int32 → SX → Prop) (x1 x2 x3 x4 : Int32) (f g : Nat) (x5 : Int32) (u : SX) : Prop := match u with
  | (a0, a1, a2, a3, a4, a5, a6, a7, a8, a9, a10, a11, a12, a13, a14, a15, a16, a17, a18, a19, a20, a21, a22, a23, a24, a25, a26, a27, a28, a29, a30, a31, a32, a33) => wX_run_61 post (wX_run_30 post x1 x2 f) x1 x2 x3 x4 g x5 a0 a1 a2 a3 a4 a5 a6 a7 a8 a9 a10 a11 a12 a13 a14 a15 a16 a17 a18 a19 a20 a21 a22 a23 a24 a25 a26 a27 a28 a29 a30 a31 a32 a33
def tk_Y28 (post : Int32 → SY → Prop) (x1 : Int32) (f : Nat) (v : SY) : Prop := match v with
  | (a0, a1, a2, a3, a4, a5, a6, a7, a8, a9, a10, a11, a12, a13, a14, a15, a16, a17, a18, a19, a20, a21, a22, a23, a24, a25, a26, a27, a28, a29, a30, a31, a32, a33, a34, a35, a36, a37, a38, a39, a40, a41, a42, a43, a44, a45, a46, a47) => wY_run_28 post x1 f a0 a1 a2 a3 a4 a5 a6 a7 a8 a9 a10 a11 a12 a13 a14 a15 a16 a17 a18 a19 a20 a21 a22 a23 a24 a25 a26 a27 a28 a29 a30 a31 a32 a33 a34 a35 a36 a37 a38 a39 a40 a41 a42 a43 a44 a45 a46 a47
def tk_L140 (post : Int32 → SY → Prop) (x1 x3 : Int32) (f g : Nat) (x4 : Int32) (v : SY) : Prop := match v with
  | (a0, a1, a2, a3, a4, a5, a6, a7, a8, a9, a10, a11, a12, a13, a14, a15, a16, a17, a18, a19, a20, a21, a22, a23, a24, a25, a26, a27, a28, a29, a30, a31, a32, a33, a34, a35, a36, a37, a38, a39, a40, a41, a42, a43, a44, a45, a46, a47) => wY_run_140 post (wY_run_28 post x1 f) x1 x3 g x4 a0 a1 a2 a3 a4 a5 a6 a7 a8 a9 a10 a11 a12 a13 a14 a15 a16 a17 a18 a19 a20 a21 a22 a23 a24 a25 a26 a27 a28 a29 a30 a31 a32 a33 a34 a35 a36 a37 a38 a39 a40 a41 a42 a43 a44 a45 a46 a47
def tk_L62 (post : SY → Prop) (g : Nat) (x2 : Int32) (v : SY) : Prop := match v with
  | (a0, a1, a2, a3, a4, a5, a6, a7, a8, a9, a10, a11, a12, a13, a14, a15, a16, a17, a18, a19, a20, a21, a22, a23, a24, a25, a26, a27, a28, a29, a30, a31, a32, a33, a34, a35, a36, a37, a38, a39, a40, a41, a42, a43, a44, a45, a46, a47) => wY_interrupt_62 post g x2 a0 a1 a2 a3 a4 a5 a6 a7 a8 a9 a10 a11 a12 a13 a14 a15 a16 a17 a18 a19 a20 a21 a22 a23 a24 a25 a26 a27 a28 a29 a30 a31 a32 a33 a34 a35 a36 a37 a38 a39 a40 a41 a42 a43 a44 a45 a46 a47
theorem cl_all : ∀ (d T m : Nat) (ha : Int32) (u : SX) (v : SY), tk_R T (nI m) ha u v → T + d < 1073741000 → ∃ (u' : SX) (v' : SY), tk_R (T + d) (nI (m + d)) ha u' v' ∧
    (∀ (post : Int32 → SX → Prop) (x1 x2 x3 : Int32) (f k j : Nat), j + d = k → k ≤ 3 → tk_X30 post x1 x2 f (x3 + 1) u' → tk_L61 post x1 x2 x3 (nI k) f (d + 1) (nI j) u) ∧
    (∀ (post : Int32 → SY → Prop) (x1 : Int32) (f k j : Nat), j + d = k → k ≤ 3 → tk_Y28 post x1 f v' → tk_L140 post x1 (nI k) f (d + 1) (nI j) v) ∧
    (∀ (post : SY → Prop) (j : Nat), j + d = 3 → post v' → tk_L62 post (d + 1) (nI j) v) := by
  intro d
  induction d with
  | zero =>
    intro T m ha u v hR hT
    have hR0 := hR
    obtain ⟨_, _, _, _, _, _, _, _, _, _, _, _, _, _, _, _, _, _, _, _, _, _, _, _, _, _, _, _, _, _, _, _, _, _, rfl, rfl, _⟩ := hR0
    refine ⟨_, _, hR, fun post x1 x2 x3 f k j hj hk hx => ?_, fun post x1 f k j hj hk hx => ?_, fun post j hj hx => ?_⟩
    · exact br_t (nI_le (by omega) (by omega)) (nm_e hx)
    · exact br_t (nI_le (by omega) (by omega)) hx
    · exact br_t (nI_le (a := 3) (by omega) (by omega)) hx
  | succ d ih =>
    intro T m ha u v hR hT
    obtain ⟨u1, v1, hR1, cX, cY⟩ := cy_all hR (by omega)
    rw [nI_1] at hR1
    obtain ⟨u', v', hR2, l1, l2, l3⟩ := ih (T + 1) (m + 1) ha u1 v1 hR1 (by omega)
    rw [show T + 1 + d = T + (d + 1) from by omega, show m + 1 + d = m + (d + 1) from by omega] at hR2
    obtain ⟨_, _, _, _, _, _, _, _, _, _, _, _, _, _, _, _, _, _, _, _, _, _, _, _, _, _, _, _, _, _, _, _, _, _, rfl, rfl, _⟩ := hR
    obtain ⟨_, _, _, _, _, _, _, _, _, _, _, _, _, _, _, _, _, _, _, _, _, _, _, _, _, _, _, _, _, _, _, _, _, _, rfl, rfl, _⟩ := hR1
    refine ⟨u', v', hR2, fun post x1 x2 x3 f k j hj hk hx => ?_, fun post x1 f k j hj hk hx => ?_, fun post j hj hx => ?_⟩
    · exact br_f (nI_ge (by omega) (by omega)) (cX _ (nm_r (nI_1 j) (l1 post x1 x2 x3 f k (j + 1) (by omega) hk hx)))
    · exact br_f (nI_ge (by omega) (by omega)) (cY _ (nm_r (nI_1 j) (l2 post x1 f k (j + 1) (by omega) hk hx)))
    · exact br_f (nI_ge (b := 3) (by omega) (by decide)) (cY _ (nm_r (nI_1 j) (l3 post (j + 1) (by omega) hx)))
def tk_Go (T m : Nat) (u : SX) (v : SY) : Prop := ∃ (k : Nat) (ha' : Int32) (u' : SX) (v' : SY), k ≤ 3 ∧ (k = 0 → ha' = 1) ∧ tk_R (T + k) (nI (m + k)) ha' u' v' ∧
    (∀ (post : Int32 → SX → Prop) (x1 x2 x3 : Int32) (f : Nat), ¬ x1 ≤ x3 → ¬ x1 ≤ nI T - x2 → tk_X30 post x1 x2 f (x3 + 1) u' → tk_X30 post x1 x2 (f + 1) x3 u) ∧
    (∀ (post : Int32 → SY → Prop) (x1 : Int32) (f : Nat), ¬ x1 ≤ nI m → tk_Y28 post x1 f v' → tk_Y28 post x1 (f + 1) v)
theorem rn_X {m k : Nat} {ha' : Int32} {u0 : SX} {u' : SX} {v0 : SY} (hk : k ≤ 3) (hR0 : tk_R T (nI m) ha' u0 v0)
    (X1 : ∀ Q : Int32 → SX → Prop, Q (nI k) u0 → wpX_takeStep Q (len, pc, z, c, al, dp, sp, 0, nI T, re, ta, ed, nI n, rx, ov, sb, sl, nI S, cl, yb, ya, yl, w, ops, oa, ob, ve, rg, me, st, an, so, li, P))
    (l1 : ∀ (post : Int32 → SX → Prop) (x1 x2 x3 : Int32) (f k1 j : Nat), j + k = k1 → k1 ≤ 3 → tk_X30 post x1 x2 f (x3 + 1) u' → tk_L61 post x1 x2 x3 (nI k1) f (k + 1) (nI j) u0) :
    ∀ (post : Int32 → SX → Prop) (x1 x2 x3 : Int32) (f : Nat), ¬ x1 ≤ x3 → ¬ x1 ≤ nI T - x2 → tk_X30 post x1 x2 f (x3 + 1) u' → tk_X30 post x1 x2 (f + 1) x3 (len, pc, z, c, al, dp, sp, 0, nI T, re, ta, ed, nI n, rx, ov, sb, sl, nI S, cl, yb, ya, yl, w, ops, oa, ob, ve, rg, me, st, an, so, li, P) := by
  intro post x1 x2 x3 f c1 c2 hx
  have hl := l1 post x1 x2 x3 f k 0 (by omega) hk hx
  obtain ⟨_, _, _, _, _, _, _, _, _, _, _, _, _, _, _, _, _, _, _, _, _, _, _, _, _, _, _, _, _, _, _, _, _, _, rfl, rfl, _⟩ := hR0
  exact br_f c1 (br_f c2 (br_t rfl (X1 _ ⟨k + 1, hl⟩)))
theorem rn_halt {m : Nat} (h1 : tk_I1 len ops ve an) (h2 : tk_I2 pc dp rg me st) (h3 : tk_I3 cv P) (h4 : tk_I4 n S T rx ov sl cl yb ya yl so) (hW : tk_W (P 14) w si) (hT : T < 1073740000) (X1 : ∀ post : Int32 → SX → Prop, wpX_halt post (len, pc, z, c, al, dp, sp, 0, nI T, re, ta, ed, nI n, rx, ov, sb, sl, nI S, cl, yb, ya, yl, w, ops, oa, ob, ve, rg, me, st, an, so, li, P) → wpX_takeStep post (len, pc, z, c, al, dp, sp, 0, nI T, re, ta, ed, nI n, rx, ov, sb, sl, nI S, cl, yb, ya, yl, w, ops, oa, ob, ve, rg, me, st, an, so, li, P))
    (Y1 : ∀ (post : Int32 → SY → Prop) (x1 : Int32) (f : Nat), ¬ x1 ≤ nI m → tk_Y28 post x1 f (len, P 13, z, c, al, sp, 1, dp, pc, nI T, nI m, ta, re, ed, nI S, P 6, P 7, P 8, cv, P 10, P 12, P 14, P 16, P 18, P 19, si, rx, ov, sl, sb, cl, yl, yb, ya, ops, oa, ob, ve, an, so, rg, me, st, li, tk_q n, tk_d P 0, tk_d P 1, tk_d P 2) → tk_Y28 post x1 (f + 1) (len, P 13, z, c, al, sp, 0, dp, pc, nI T, nI m, ta, re, ed, nI S, P 6, P 7, P 8, cv, P 10, P 12, P 14, P 16, P 18, P 19, si, rx, ov, sl, sb, cl, yl, yb, ya, ops, oa, ob, ve, an, so, rg, me, st, li, tk_q n, tk_d P 0, tk_d P 1, tk_d P 2)) : tk_Go T m (len, pc, z, c, al, dp, sp, 0, nI T, re, ta, ed, nI n, rx, ov, sb, sl, nI S, cl, yb, ya, yl, w, ops, oa, ob, ve, rg, me, st, an, so, li, P) (len, P 13, z, c, al, sp, 0, dp, pc, nI T, nI m, ta, re, ed, nI S, P 6, P 7, P 8, cv, P 10, P 12, P 14, P 16, P 18, P 19, si, rx, ov, sl, sb, cl, yl, yb, ya, ops, oa, ob, ve, an, so, rg, me, st, li, tk_q n, tk_d P 0, tk_d P 1, tk_d P 2) := by
  have hR0 : tk_R T (nI m) 1 (len, pc, z, c, al, dp, sp, 1, nI T, re, ta, ed, nI n, rx, ov, sb, sl, nI S, cl, yb, ya, yl, w, ops, oa, ob, ve, rg, me, st, an, so, li, P) (len, P 13, z, c, al, sp, 1, dp, pc, nI T, nI m, ta, re, ed, nI S, P 6, P 7, P 8, cv, P 10, P 12, P 14, P 16, P 18, P 19, si, rx, ov, sl, sb, cl, yl, yb, ya, ops, oa, ob, ve, an, so, rg, me, st, li, tk_q n, tk_d P 0, tk_d P 1, tk_d P 2) := ⟨n, S, len, pc, z, c, al, dp, sp, re, ta, ed, rx, ov, sb, sl, cl, yb, ya, yl, w, cv, si, ops, oa, ob, ve, rg, me, st, an, so, li, P, rfl, rfl, h1, h2, h3, h4, hW⟩
  obtain ⟨u', v', hR1, l1, l2, l3⟩ := cl_all 0 T m 1 _ _ hR0 (by omega)
  refine ⟨0, 1, _, _, by decide, fun _ => rfl, hR0, ?_, Y1⟩
  intro post x1 x2 x3 f c1 c2 hx
  exact br_f c1 (br_f c2 (br_t rfl (X1 _ ⟨1, br_t (by decide) (nm_e hx)⟩)))
theorem rn_sleep {m : Nat} (h1 : tk_I1 len ops ve an) (h2 : tk_I2 pc dp rg me st) (h3 : tk_I3 cv P) (h4 : tk_I4 n S T rx ov sl cl yb ya yl so) (hW : tk_W (P 14) w si) (hT : T < 1073740000) (X1 : ∀ post : Int32 → SX → Prop, post 1 (len, pc, z, c, al, dp, sp, 0, nI T, re, ta, ed, nI n, rx, ov, sb, sl, nI S, cl, yb, ya, yl, w, ops, oa, ob, ve, rg, me, st, an, so, li, P) → wpX_takeStep post (len, pc, z, c, al, dp, sp, 0, nI T, re, ta, ed, nI n, rx, ov, sb, sl, nI S, cl, yb, ya, yl, w, ops, oa, ob, ve, rg, me, st, an, so, li, P))
    (Y1 : ∀ (post : Int32 → SY → Prop) (x1 : Int32) (f : Nat), ¬ x1 ≤ nI m → wpY_cycle (fun v => tk_Y28 post x1 f v) (len, P 13, z, c, al, sp, 0, dp, pc, nI T, nI m, ta, re, ed, nI S, P 6, P 7, P 8, cv, P 10, P 12, P 14, P 16, P 18, P 19, si, rx, ov, sl, sb, cl, yl, yb, ya, ops, oa, ob, ve, an, so, rg, me, st, li, tk_q n, tk_d P 0, tk_d P 1, tk_d P 2) → tk_Y28 post x1 (f + 1) (len, P 13, z, c, al, sp, 0, dp, pc, nI T, nI m, ta, re, ed, nI S, P 6, P 7, P 8, cv, P 10, P 12, P 14, P 16, P 18, P 19, si, rx, ov, sl, sb, cl, yl, yb, ya, ops, oa, ob, ve, an, so, rg, me, st, li, tk_q n, tk_d P 0, tk_d P 1, tk_d P 2)) : tk_Go T m (len, pc, z, c, al, dp, sp, 0, nI T, re, ta, ed, nI n, rx, ov, sb, sl, nI S, cl, yb, ya, yl, w, ops, oa, ob, ve, rg, me, st, an, so, li, P) (len, P 13, z, c, al, sp, 0, dp, pc, nI T, nI m, ta, re, ed, nI S, P 6, P 7, P 8, cv, P 10, P 12, P 14, P 16, P 18, P 19, si, rx, ov, sl, sb, cl, yl, yb, ya, ops, oa, ob, ve, an, so, rg, me, st, li, tk_q n, tk_d P 0, tk_d P 1, tk_d P 2) := by
  have hR0 : tk_R T (nI m) 0 (len, pc, z, c, al, dp, sp, 0, nI T, re, ta, ed, nI n, rx, ov, sb, sl, nI S, cl, yb, ya, yl, w, ops, oa, ob, ve, rg, me, st, an, so, li, P) (len, P 13, z, c, al, sp, 0, dp, pc, nI T, nI m, ta, re, ed, nI S, P 6, P 7, P 8, cv, P 10, P 12, P 14, P 16, P 18, P 19, si, rx, ov, sl, sb, cl, yl, yb, ya, ops, oa, ob, ve, an, so, rg, me, st, li, tk_q n, tk_d P 0, tk_d P 1, tk_d P 2) := ⟨n, S, len, pc, z, c, al, dp, sp, re, ta, ed, rx, ov, sb, sl, cl, yb, ya, yl, w, cv, si, ops, oa, ob, ve, rg, me, st, an, so, li, P, rfl, rfl, h1, h2, h3, h4, hW⟩
  obtain ⟨u', v', hR1, l1, l2, l3⟩ := cl_all 1 T m 0 _ _ hR0 (by omega)
  obtain ⟨u2, v2, hR2, cX, cY⟩ := cy_all hR0 (by omega)
  rw [nI_1] at hR2
  refine ⟨1, 0, u2, v2, by decide, fun q => absurd q (by decide), hR2, ?_, fun post x1 f hx hy => Y1 post x1 f hx (cY _ hy)⟩
  intro post x1 x2 x3 f c1 c2 hx
  obtain ⟨_, _, _, _, _, _, _, _, _, _, _, _, _, _, _, _, _, _, _, _, _, _, _, _, _, _, _, _, _, _, _, _, _, _, rfl, rfl, _⟩ := hR2
  exact br_f c1 (br_f c2 (br_t rfl (X1 _ ⟨2, br_f (by decide) (cX _ (nm_r (e' := 1) rfl (br_t (by decide) (nm_e hx))))⟩)))
theorem rn_exec {m : Nat} (h1 : tk_I1 len ops ve an) (h2 : tk_I2 pc dp rg me st) (h3 : tk_I3 cv P) (h4 : tk_I4 n S T rx ov sl cl yb ya yl so) (hW : tk_W (P 14) w si) (hT : T < 1073740000) (X1 : ∀ (Q : Int32 → SX → Prop) (r0 : Int32) (u0 : SX), (∀ Q1 : Int32 → SX → Prop, Q1 r0 u0 → wpX_carryOut Q1 (len, pc, z, c, al, dp, sp, 0, nI T, re, ta, ed, nI n, rx, ov, sb, sl, nI S, cl, yb, ya, yl, w, ops, oa, ob, ve, rg, me, st, an, so, li, P)) → Q r0 u0 → wpX_takeStep Q (len, pc, z, c, al, dp, sp, 0, nI T, re, ta, ed, nI n, rx, ov, sb, sl, nI S, cl, yb, ya, yl, w, ops, oa, ob, ve, rg, me, st, an, so, li, P)) {A1 A2 A3 : Int32}
    (hS : tk_St T (nI m) (fun post => wpX_carryOut post (len, pc, z, c, al, dp, sp, 0, nI T, re, ta, ed, nI n, rx, ov, sb, sl, nI S, cl, yb, ya, yl, w, ops, oa, ob, ve, rg, me, st, an, so, li, P)) (fun post => wpY_execute post (len, P 13, z, c, al, sp, 0, dp, pc, nI T, nI m, ta, re, ed, nI S, P 6, P 7, P 8, cv, P 10, P 12, P 14, P 16, P 18, P 19, si, rx, ov, sl, sb, cl, yl, yb, ya, ops, oa, ob, ve, an, so, rg, me, st, li, tk_q n, tk_d P 0, tk_d P 1, tk_d P 2) A1 A2 A3))
    (Y1 : ∀ (post : Int32 → SY → Prop) (x1 : Int32) (f : Nat) (r0 : Int32) (v0 : SY), ¬ x1 ≤ nI m → (∀ Q : Int32 → SY → Prop, Q r0 v0 → wpY_execute Q (len, P 13, z, c, al, sp, 0, dp, pc, nI T, nI m, ta, re, ed, nI S, P 6, P 7, P 8, cv, P 10, P 12, P 14, P 16, P 18, P 19, si, rx, ov, sl, sb, cl, yl, yb, ya, ops, oa, ob, ve, an, so, rg, me, st, li, tk_q n, tk_d P 0, tk_d P 1, tk_d P 2) A1 A2 A3) → (∃ g : Nat, tk_L140 post x1 r0 f g 0 v0) → tk_Y28 post x1 (f + 1) (len, P 13, z, c, al, sp, 0, dp, pc, nI T, nI m, ta, re, ed, nI S, P 6, P 7, P 8, cv, P 10, P 12, P 14, P 16, P 18, P 19, si, rx, ov, sl, sb, cl, yl, yb, ya, ops, oa, ob, ve, an, so, rg, me, st, li, tk_q n, tk_d P 0, tk_d P 1, tk_d P 2)) : tk_Go T m (len, pc, z, c, al, dp, sp, 0, nI T, re, ta, ed, nI n, rx, ov, sb, sl, nI S, cl, yb, ya, yl, w, ops, oa, ob, ve, rg, me, st, an, so, li, P) (len, P 13, z, c, al, sp, 0, dp, pc, nI T, nI m, ta, re, ed, nI S, P 6, P 7, P 8, cv, P 10, P 12, P 14, P 16, P 18, P 19, si, rx, ov, sl, sb, cl, yl, yb, ya, ops, oa, ob, ve, an, so, rg, me, st, li, tk_q n, tk_d P 0, tk_d P 1, tk_d P 2) := by
  obtain ⟨k, ha', u0, v0, hk, hk0, hR0, sX, sY⟩ := hS
  obtain ⟨u', v', hR1, l1, l2, l3⟩ := cl_all k T m ha' _ _ hR0 (by omega)
  exact ⟨k, ha', u', v', hk, hk0, hR1, rn_X (n := n) (T := T) (S := S) (len := len) (pc := pc) (z := z) (c := c) (al := al) (dp := dp) (sp := sp) (re := re) (ta := ta) (ed := ed) (rx := rx) (ov := ov) (sb := sb) (sl := sl) (cl := cl) (yb := yb) (ya := ya) (yl := yl) (w := w) (ops := ops) (oa := oa) (ob := ob) (ve := ve) (rg := rg) (me := me) (st := st) (an := an) (so := so) (li := li) (P := P) hk hR0 (fun Q hQ => X1 Q _ u0 sX hQ) l1, fun post x1 f hx hy => Y1 post x1 f (nI k) v0 hx sY ⟨k + 1, l2 post x1 f k 0 (by omega) hk hy⟩⟩
theorem rn_int {m d r K : Nat} (h1 : tk_I1 len ops ve an) (h2 : tk_I2 pc (nI d) rg me st) (h3 : tk_I3 cv P) (h4 : tk_I4 n S T rx ov sl cl yb ya yl so) (hW : tk_W (P 14) w si) (hT : T < 1073740000) (hr : r < 512) (hK : K < 9) (b0 : ∀ j, j < K → r.testBit j = false) (b1 : r.testBit K = true) (hd : d < 16)
    (X1 : ∀ post : Int32 → SX → Prop, wX_takeStep_20 post (nI r) len pc z c al (nI d) sp 0 (nI T) re ta ed (nI n) rx ov sb sl (nI S) cl yb ya yl w ops oa ob ve rg me st an so li P → wpX_takeStep post (len, pc, z, c, al, nI d, sp, 0, nI T, re, ta, ed, nI n, rx, ov, sb, sl, nI S, cl, yb, ya, yl, w, ops, oa, ob, ve, rg, me, st, an, so, li, P))
    (Y1 : ∀ (post : Int32 → SY → Prop) (x1 : Int32) (f : Nat), ¬ x1 ≤ nI m → wpY_interrupt (fun v => tk_Y28 post x1 f v) (len, P 13, z, c, al, sp, 0, nI d, pc, nI T, nI m, ta, re, ed, nI S, P 6, P 7, P 8, cv, P 10, P 12, P 14, P 16, P 18, P 19, si, rx, ov, sl, sb, cl, yl, yb, ya, ops, oa, ob, ve, an, so, rg, me, st, li, tk_q n, tk_d P 0, tk_d P 1, tk_d P 2) (nI K) → tk_Y28 post x1 (f + 1) (len, P 13, z, c, al, sp, 0, nI d, pc, nI T, nI m, ta, re, ed, nI S, P 6, P 7, P 8, cv, P 10, P 12, P 14, P 16, P 18, P 19, si, rx, ov, sl, sb, cl, yl, yb, ya, ops, oa, ob, ve, an, so, rg, me, st, li, tk_q n, tk_d P 0, tk_d P 1, tk_d P 2)) : tk_Go T m (len, pc, z, c, al, nI d, sp, 0, nI T, re, ta, ed, nI n, rx, ov, sb, sl, nI S, cl, yb, ya, yl, w, ops, oa, ob, ve, rg, me, st, an, so, li, P) (len, P 13, z, c, al, sp, 0, nI d, pc, nI T, nI m, ta, re, ed, nI S, P 6, P 7, P 8, cv, P 10, P 12, P 14, P 16, P 18, P 19, si, rx, ov, sl, sb, cl, yl, yb, ya, ops, oa, ob, ve, an, so, rg, me, st, li, tk_q n, tk_d P 0, tk_d P 1, tk_d P 2) := by
  obtain ⟨hn, h4'⟩ := h4
  have hvd : vp_in (nI d) 16 := vp_in_nI hd (by decide)
  have hvK : vp_in (nI K) 9 := vp_in_nI hK (by decide)
  have hlt : nI d < 16 := nI_lt (b := 16) hd (by decide)
  have he : ¬ nI d = 16 := fun e0 => Nat.ne_of_lt hd ((nI_eq (b := 16) (by omega) (by decide)).mp e0)
  have hr0 : ¬ nI r = 0 := nI_ne0 (Nat.pos_of_ne_zero (tk_some b1)) (by omega)
  have hcl : upd (tk_q n) (nI K).toNatClampNeg (vp_nar .boolean 0) = tk_q (n &&& (511 - 2 ^ K)) := by rw [nI_clamp (by omega), tk_nb0]; exact tk_unset hn hK
  have hR0 : tk_R T (nI m) 0 (len, ve (nI K).toNatClampNeg, z, c, 0, nI (d + 1), 0, 0, nI T, re, ta + 1, ed, nI (n &&& (511 - 2 ^ K)), rx, ov, sb, sl, nI S, cl, yb, ya, yl, w, ops, oa, ob, ve, rg, me, upd st (nI d).toNatClampNeg pc, an, so, li, P) (len, P 13, z, c, 0, 0, 0, nI (d + 1), ve (nI K).toNatClampNeg, nI T, nI m, ta + 1, re, ed, nI S, P 6, P 7, P 8, cv, P 10, P 12, P 14, P 16, P 18, P 19, si, rx, ov, sl, sb, cl, yl, yb, ya, ops, oa, ob, ve, an, so, rg, me, upd st (nI d).toNatClampNeg pc, li, tk_q (n &&& (511 - 2 ^ K)), tk_d P 0, tk_d P 1, tk_d P 2) := ⟨n &&& (511 - 2 ^ K), S, len, ve (nI K).toNatClampNeg, z, c, 0, nI (d + 1), 0, re, ta + 1, ed, rx, ov, sb, sl, cl, yb, ya, yl, w, cv, si, ops, oa, ob, ve, rg, me, upd st (nI d).toNatClampNeg pc, an, so, li, P, rfl, rfl, h1, ⟨tk_le (h1.2.2.1 _) (by decide), tk_mk (by omega), h2.2.2.1, h2.2.2.2.1, tk_upd h2.2.2.2.2 h2.1⟩, h3, ⟨tk_clrlt hn, h4'⟩, hW⟩
  obtain ⟨u', v', hR1, l1, l2, l3⟩ := cl_all 3 T m 0 _ _ hR0 (by omega)
  refine ⟨3, 0, u', v', by decide, fun q => absurd q (by decide), hR1, rn_X (n := n) (T := T) (S := S) (len := len) (pc := pc) (z := z) (c := c) (al := al) (dp := nI d) (sp := sp) (re := re) (ta := ta) (ed := ed) (rx := rx) (ov := ov) (sb := sb) (sl := sl) (cl := cl) (yb := yb) (ya := ya) (yl := yl) (w := w) (ops := ops) (oa := oa) (ob := ob) (ve := ve) (rg := rg) (me := me) (st := st) (an := an) (so := so) (li := li) (P := P) (by decide) hR0 ?_ l1, fun post x1 f hx hy => Y1 post x1 f hx ?_⟩
  · intro Q hQ
    exact X1 Q (br_f hr0 (br_t hlt ⟨K + 1, ti_loop (n := n) (T := T) (S := S) (len := len) (pc := pc) (z := z) (c := c) (al := al) (dp := nI d) (sp := sp) (ha := 0) (re := re) (ta := ta) (ed := ed) (rx := rx) (ov := ov) (sb := sb) (sl := sl) (cl := cl) (yb := yb) (ya := ya) (yl := yl) (w := w) (ops := ops) (oa := oa) (ob := ob) (ve := ve) (rg := rg) (me := me) (st := st) (an := an) (so := so) (li := li) (P := P) hr hK b0 b1 _ (nm_r (tk_clrK hn hK) ⟨hvd, nm_e (nm_r (nI_1 d) ⟨hvK, nm_e (nm_e hQ)⟩)⟩) K 0 (by omega)⟩))
  · exact br_f he ⟨hvK, nm_r hcl ⟨hvd, nm_e (nm_r (nI_1 d) ⟨hvK, nm_e (nm_e ⟨4, l3 _ 0 rfl hy⟩)⟩)⟩⟩
end
end
section
/-! one step of run, run -/
section
variable {n T S : Nat} {len pc z c al dp sp ha re ta ed rx ov sb sl cl yb ya yl w pa cv si : Int32} {ops oa ob ve rg me st an so li P : Nat → Int32}
theorem rn_step {m : Nat} {u : SX} {v : SY} (hR : tk_R T (nI m) 0 u v) (hT : T < 1073740000) : tk_Go T m u v := by
  obtain ⟨n, S, len, pc, z, c, al, dp, sp, re, ta, ed, rx, ov, sb, sl, cl, yb, ya, yl, w, cv, si, ops, oa, ob, ve, rg, me, st, an, so, li, P, rfl, rfl, h1, h2, h3, h4, hW⟩ := hR
  rcases wt_all (n := n) (T := T) (S := S) (len := len) (pc := pc) (z := z) (c := c) (al := al) (dp := dp) (sp := sp) (ha := 0) (re := re) (ta := ta) (ed := ed) (rx := rx) (ov := ov) (sb := sb) (sl := sl) (cl := cl) (yb := yb) (ya := ya) (yl := yl) (w := w) (pa := nI m) (cv := cv) (si := si) (ops := ops) (oa := oa) (ob := ob) (ve := ve) (rg := rg) (me := me) (st := st) (an := an) (so := so) (li := li) (P := P) h3 h4.1 with ⟨tX, tY⟩ | ⟨r, K, hr, hK, b0, b1, tX, tY⟩
  · by_cases es : sp = 0
    · obtain ⟨q, hq, eq⟩ := h2.1
      subst eq
      obtain ⟨L, hL, eL⟩ := h1.1
      subst eL
      have hp0 : ¬ nI q < 0 := nI_pos (by omega)
      by_cases hlt : q < L
      · have hc : nI q < nI L := nI_lt hlt (by omega)
        have hv : vp_in (nI q) 48 := vp_in_nI (by omega) (by decide)
        obtain ⟨k, hk, ek⟩ := h1.2.1 (nI q).toNatClampNeg
        have hS := ex_all (n := n) (T := T) (S := S) (len := nI L) (z := z) (c := c) (al := al) (dp := dp) (sp := sp) (re := re) (ta := ta) (ed := ed) (rx := rx) (ov := ov) (sb := sb) (sl := sl) (cl := cl) (yb := yb) (ya := ya) (yl := yl) (w := w) (pa := nI m) (ha := 0) (cv := cv) (si := si) (ops := ops) (oa := oa) (ob := ob) (ve := ve) (rg := rg) (me := me) (st := st) (an := an) (so := so) (li := li) (P := P) h1 h2 h3 h4 hW (by omega) rfl rfl k hk ek
        rw [← ek] at hS
        refine rn_exec (n := n) (T := T) (S := S) (len := nI L) (pc := nI q) (z := z) (c := c) (al := al) (dp := dp) (sp := sp) (re := re) (ta := ta) (ed := ed) (rx := rx) (ov := ov) (sb := sb) (sl := sl) (cl := cl) (yb := yb) (ya := ya) (yl := yl) (w := w) (cv := cv) (si := si) (ops := ops) (oa := oa) (ob := ob) (ve := ve) (rg := rg) (me := me) (st := st) (an := an) (so := so) (li := li) (P := P) h1 h2 h3 h4 hW hT ?_ hS ?_
        · intro Q r0 u0 hx hQ
          obtain ⟨_, _, _, _, _, _, _, _, _, _, _, _, _, _, _, _, _, _, _, _, _, _, _, _, _, _, _, _, _, _, _, _, _, _⟩ := u0
          exact tX Q (br_t rfl (br_t es (br_t hc (hx _ hQ))))
        · intro post x1 f r0 v0 hx hQ hy
          obtain ⟨_, _, _, _, _, _, _, _, _, _, _, _, _, _, _, _, _, _, _, _, _, _, _, _, _, _, _, _, _, _, _, _, _, _, _, _, _, _, _, _, _, _, _, _, _, _, _, _⟩ := v0
          exact br_f hx (br_t rfl (tY _ (br_t (by decide) (br_t es (br_f hp0 (br_t hc ⟨hv, hv, hv, hQ _ hy⟩))))))
      · have hc : ¬ nI q < nI L := nI_nlt (by omega) (by omega)
        exact rn_halt (n := n) (T := T) (S := S) (len := nI L) (pc := nI q) (z := z) (c := c) (al := al) (dp := dp) (sp := sp) (re := re) (ta := ta) (ed := ed) (rx := rx) (ov := ov) (sb := sb) (sl := sl) (cl := cl) (yb := yb) (ya := ya) (yl := yl) (w := w) (cv := cv) (si := si) (ops := ops) (oa := oa) (ob := ob) (ve := ve) (rg := rg) (me := me) (st := st) (an := an) (so := so) (li := li) (P := P) h1 h2 h3 h4 hW hT (fun post hx => tX post (br_t rfl (br_t es (br_f hc hx)))) (fun post x1 f hx hy => br_f hx (br_t rfl (tY _ (br_t (by decide) (br_t es (br_f hp0 (br_f hc hy)))))))
    · exact rn_sleep (n := n) (T := T) (S := S) (len := len) (pc := pc) (z := z) (c := c) (al := al) (dp := dp) (sp := sp) (re := re) (ta := ta) (ed := ed) (rx := rx) (ov := ov) (sb := sb) (sl := sl) (cl := cl) (yb := yb) (ya := ya) (yl := yl) (w := w) (cv := cv) (si := si) (ops := ops) (oa := oa) (ob := ob) (ve := ve) (rg := rg) (me := me) (st := st) (an := an) (so := so) (li := li) (P := P) h1 h2 h3 h4 hW hT (fun post hx => tX post (br_t rfl (br_f es hx))) (fun post x1 f hx hy => br_f hx (br_t rfl (tY _ (br_t (by decide) (br_f es hy)))))
  · obtain ⟨d, hd, ed1⟩ := h2.2.1
    subst ed1
    have hr0 : ¬ nI r = 0 := nI_ne0 (Nat.pos_of_ne_zero (tk_some b1)) (by omega)
    have h9 : ¬ (9 : Int32) ≤ nI K := nI_ge (b := 9) hK (by decide)
    by_cases full : d = 16
    · subst full
      exact rn_halt (n := n) (T := T) (S := S) (len := len) (pc := pc) (z := z) (c := c) (al := al) (dp := nI 16) (sp := sp) (re := re) (ta := ta) (ed := ed) (rx := rx) (ov := ov) (sb := sb) (sl := sl) (cl := cl) (yb := yb) (ya := ya) (yl := yl) (w := w) (cv := cv) (si := si) (ops := ops) (oa := oa) (ob := ob) (ve := ve) (rg := rg) (me := me) (st := st) (an := an) (so := so) (li := li) (P := P) h1 h2 h3 h4 hW hT (fun post hx => tX post (br_f hr0 (br_f (by decide) hx))) (fun post x1 f hx hy => br_f hx (br_t rfl (tY _ (br_f h9 (br_t rfl hy)))))
    · exact rn_int (n := n) (T := T) (S := S) (len := len) (pc := pc) (z := z) (c := c) (al := al) (sp := sp) (re := re) (ta := ta) (ed := ed) (rx := rx) (ov := ov) (sb := sb) (sl := sl) (cl := cl) (yb := yb) (ya := ya) (yl := yl) (w := w) (cv := cv) (si := si) (ops := ops) (oa := oa) (ob := ob) (ve := ve) (rg := rg) (me := me) (st := st) (an := an) (so := so) (li := li) (P := P) h1 h2 h3 h4 hW hT hr hK b0 b1 (by omega) tX (fun post x1 f hx hy => br_f hx (br_t rfl (tY _ (br_f h9 hy))))
theorem rn_all {N s : Nat} (hs : s ≤ 1000000000) (hN : N ≤ 3000) : ∀ (d m k : Nat) (ha : Int32) (u : SX) (v : SY), tk_R (s + m) (nI m) ha u v → m ≤ N + 2 → (ha = 1 ∨ (k ≤ m ∧ N ≤ m + d)) →
    ∃ (m' : Nat) (ha' : Int32) (u' : SX) (v' : SY), m' ≤ N + 2 ∧ tk_R (s + m') (nI m') ha' u' v' ∧ (∀ post : Int32 → SX → Prop, post (nI m') u' → tk_X30 post (nI N) (nI s) (d + 2) (nI k) u) ∧ (∀ post : Int32 → SY → Prop, post (nI m') v' → tk_Y28 post (nI N) (d + 2) v) := by
  intro d
  induction d with
  | zero =>
    intro m k ha u v hR hm hc
    have hsub : nI (s + m) - nI s = nI m := by rw [pk_sub (by omega)]; exact congrArg nI (by omega)
    have hR0 := hR
    obtain ⟨_, _, _, _, _, _, _, _, _, _, _, _, _, _, _, _, _, _, _, _, _, _, _, _, _, _, _, _, _, _, _, _, _, _, rfl, rfl, _⟩ := hR0
    by_cases hmN : N ≤ m
    · have c2 : nI N ≤ nI m := nI_le hmN (by omega)
      refine ⟨m, ha, _, _, hm, hR, fun post hp => ?_, fun post hp => br_t c2 hp⟩
      by_cases c1 : nI N ≤ nI k
      · exact br_t c1 (by rw [hsub]; exact hp)
      · exact br_f c1 (br_t (by rw [hsub]; exact c2) (by rw [hsub]; exact hp))
    · have c2 : ¬ nI N ≤ nI m := nI_ge (by omega) (by omega)
      have c0 : ¬ ha = 0 := by
        rcases hc with e | e
        · rw [e]; decide
        · omega
      refine ⟨m, ha, _, _, hm, hR, fun post hp => ?_, fun post hp => br_f c2 (br_f c0 hp)⟩
      by_cases c1 : nI N ≤ nI k
      · exact br_t c1 (by rw [hsub]; exact hp)
      · exact br_f c1 (br_f (by rw [hsub]; exact c2) (br_f c0 (by rw [hsub]; exact hp)))
  | succ d ih =>
    intro m k ha u v hR hm hc
    have hsub : nI (s + m) - nI s = nI m := by rw [pk_sub (by omega)]; exact congrArg nI (by omega)
    by_cases hmN : N ≤ m
    · have c2 : nI N ≤ nI m := nI_le hmN (by omega)
      have hR0 := hR
      obtain ⟨_, _, _, _, _, _, _, _, _, _, _, _, _, _, _, _, _, _, _, _, _, _, _, _, _, _, _, _, _, _, _, _, _, _, rfl, rfl, _⟩ := hR0
      refine ⟨m, ha, _, _, hm, hR, fun post hp => ?_, fun post hp => br_t c2 hp⟩
      by_cases c1 : nI N ≤ nI k
      · exact br_t c1 (by rw [hsub]; exact hp)
      · exact br_f c1 (br_t (by rw [hsub]; exact c2) (by rw [hsub]; exact hp))
    · have c2 : ¬ nI N ≤ nI m := nI_ge (by omega) (by omega)
      by_cases c0 : ha = 0
      · subst c0
        have hkm : k ≤ m ∧ N ≤ m + (d + 1) := by
          rcases hc with e | e
          · exact absurd e (by decide)
          · exact e
        have c1 : ¬ nI N ≤ nI k := nI_ge (by omega) (by omega)
        obtain ⟨j, ha', u1, v1, hj, hj0, hR1, gX, gY⟩ := rn_step hR (by omega)
        have hc' : ha' = 1 ∨ (k + 1 ≤ m + j ∧ N ≤ m + j + d) := by
          rcases (by omega : j = 0 ∨ 1 ≤ j) with e | e
          · exact Or.inl (hj0 e)
          · exact Or.inr (by omega)
        rw [Nat.add_assoc] at hR1
        obtain ⟨m', ha2, u', v', hm', hR', hX, hY⟩ := ih (m + j) (k + 1) ha' u1 v1 hR1 (by omega) hc'
        refine ⟨m', ha2, u', v', hm', hR', fun post hp => gX post _ _ _ _ c1 (by rw [hsub]; exact c2) ?_, fun post hp => gY post _ _ c2 (hY post hp)⟩
        rw [nI_1]
        exact hX post hp
      · have hR0 := hR
        obtain ⟨_, _, _, _, _, _, _, _, _, _, _, _, _, _, _, _, _, _, _, _, _, _, _, _, _, _, _, _, _, _, _, _, _, _, rfl, rfl, _⟩ := hR0
        refine ⟨m, ha, _, _, hm, hR, fun post hp => ?_, fun post hp => br_f c2 (br_f c0 hp)⟩
        by_cases c1 : nI N ≤ nI k
        · exact br_t c1 (by rw [hsub]; exact hp)
        · exact br_f c1 (br_f (by rw [hsub]; exact c2) (br_f c0 (by rw [hsub]; exact hp)))
end
end
section
/-! power -/
section
variable {n T S : Nat} {len pc z c al dp sp ha re ta ed rx ov sb sl cl yb ya yl w pa cv si : Int32} {ops oa ob ve rg me st an so li P : Nat → Int32}
theorem pw_X35 (post : SX → Prop) (hp : post (len, pc, 0, 0, al, dp, sp, 0, nI 0, 0, 0, 0, nI n, rx, ov, sb, sl, nI 0, cl, yb, ya, yl, w, ops, oa, ob, ve, rg, tk_qi me 32, st, an, so, li, P)) : ∀ d i : Nat, i + d = 32 → wX_power_35 post len pc z c al dp sp ha (nI T) re ta ed (nI n) rx ov sb sl (nI S) cl yb ya yl w (d + 1) (nI i) ops oa ob ve rg (tk_qi me i) st an so li P := by
  intro d
  induction d with
  | zero =>
    intro i hi
    have e : i = 32 := by omega
    subst e
    exact br_t (by decide) hp
  | succ d ih =>
    intro i hi
    have h : ¬ (32 : Int32) ≤ nI i := nI_ge (b := 32) (by omega) (by decide)
    exact br_f h ⟨vp_in_nI (by omega) (by decide), nm_r (by rw [nI_clamp (by omega)]; exact tk_qiS me i) (nm_r (nI_1 i) (ih (i + 1) (by omega)))⟩
theorem pw_Y27 (post : SY → Prop) (hp : post (len, (upd P 12 0) 13, 0, 0, al, sp, 0, dp, pc, nI 0, pa, 0, 0, 0, nI 0, (upd P 12 0) 6, (upd P 12 0) 7, (upd P 12 0) 8, cv, (upd P 12 0) 10, (upd P 12 0) 12, (upd P 12 0) 14, (upd P 12 0) 16, (upd P 12 0) 18, (upd P 12 0) 19, si, rx, ov, sl, sb, cl, yl, yb, ya, ops, oa, ob, ve, an, so, rg, tk_qi me 32, st, li, tk_q n, tk_d (upd P 12 0) 0, tk_d (upd P 12 0) 1, tk_d (upd P 12 0) 2)) : ∀ d i : Nat, i + d = 32 → wY_power_27 post len (P 13) z c al sp ha dp pc (nI T) pa ta re ed (nI S) (P 6) (P 7) (P 8) cv (P 10) (P 12) (P 14) (P 16) (P 18) (P 19) si rx ov sl sb cl yl yb ya (d + 1) (nI i) ops oa ob ve an so rg (tk_qi me i) st li (tk_q n) (tk_d P 0) (tk_d P 1) (tk_d P 2) := by
  intro d
  induction d with
  | zero =>
    intro i hi
    have e : i = 32 := by omega
    subst e
    exact br_t (by decide) hp
  | succ d ih =>
    intro i hi
    have h : ¬ (32 : Int32) ≤ nI i := nI_ge (b := 32) (by omega) (by decide)
    exact br_f h ⟨vp_in_nI (by omega) (by decide), nm_r (by rw [nI_clamp (by omega)]; exact tk_qiS me i) (nm_r (nI_1 i) (ih (i + 1) (by omega)))⟩
theorem pw_X14 (post : SX → Prop) (hp : post (len, pc, 0, 0, al, dp, sp, 0, nI 0, 0, 0, 0, nI n, rx, ov, sb, sl, nI 0, cl, yb, ya, yl, w, ops, oa, ob, ve, tk_qi rg 8, tk_qi me 32, st, an, so, li, P)) : ∀ d i : Nat, i + d = 8 → wX_power_14 post len pc z c al dp sp ha (nI T) re ta ed (nI n) rx ov sb sl (nI S) cl yb ya yl w (d + 1) (nI i) ops oa ob ve (tk_qi rg i) me st an so li P := by
  intro d
  induction d with
  | zero =>
    intro i hi
    have e : i = 8 := by omega
    subst e
    exact br_t (by decide) ⟨33, by have := pw_X35 (n := n) (T := T) (S := S) (len := len) (pc := pc) (z := z) (c := c) (al := al) (dp := dp) (sp := sp) (ha := ha) (re := re) (ta := ta) (ed := ed) (rx := rx) (ov := ov) (sb := sb) (sl := sl) (cl := cl) (yb := yb) (ya := ya) (yl := yl) (w := w) (ops := ops) (oa := oa) (ob := ob) (ve := ve) (rg := tk_qi rg 8) (me := me) (st := st) (an := an) (so := so) (li := li) (P := P) post hp 32 0 rfl; rw [tk_qi0] at this; exact this⟩
  | succ d ih =>
    intro i hi
    have h : ¬ (8 : Int32) ≤ nI i := nI_ge (b := 8) (by omega) (by decide)
    exact br_f h ⟨vp_in_nI (by omega) (by decide), nm_r (by rw [nI_clamp (by omega)]; exact tk_qiS rg i) (nm_r (nI_1 i) (ih (i + 1) (by omega)))⟩
theorem pw_Y6 (post : SY → Prop) (hp : post (len, (upd P 12 0) 13, 0, 0, al, sp, 0, dp, pc, nI 0, pa, 0, 0, 0, nI 0, (upd P 12 0) 6, (upd P 12 0) 7, (upd P 12 0) 8, cv, (upd P 12 0) 10, (upd P 12 0) 12, (upd P 12 0) 14, (upd P 12 0) 16, (upd P 12 0) 18, (upd P 12 0) 19, si, rx, ov, sl, sb, cl, yl, yb, ya, ops, oa, ob, ve, an, so, tk_qi rg 8, tk_qi me 32, st, li, tk_q n, tk_d (upd P 12 0) 0, tk_d (upd P 12 0) 1, tk_d (upd P 12 0) 2)) : ∀ d i : Nat, i + d = 8 → wY_power_6 post len (P 13) z c al sp ha dp pc (nI T) pa ta re ed (nI S) (P 6) (P 7) (P 8) cv (P 10) (P 12) (P 14) (P 16) (P 18) (P 19) si rx ov sl sb cl yl yb ya (d + 1) (nI i) ops oa ob ve an so (tk_qi rg i) me st li (tk_q n) (tk_d P 0) (tk_d P 1) (tk_d P 2) := by
  intro d
  induction d with
  | zero =>
    intro i hi
    have e : i = 8 := by omega
    subst e
    exact br_t (by decide) ⟨33, by have := pw_Y27 (n := n) (T := T) (S := S) (len := len) (pc := pc) (z := z) (c := c) (al := al) (dp := dp) (sp := sp) (ha := ha) (re := re) (ta := ta) (ed := ed) (rx := rx) (ov := ov) (sb := sb) (sl := sl) (cl := cl) (yb := yb) (ya := ya) (yl := yl) (pa := pa) (cv := cv) (si := si) (ops := ops) (oa := oa) (ob := ob) (ve := ve) (rg := tk_qi rg 8) (me := me) (st := st) (an := an) (so := so) (li := li) (P := P) post hp 32 0 rfl; rw [tk_qi0] at this; exact this⟩
  | succ d ih =>
    intro i hi
    have h : ¬ (8 : Int32) ≤ nI i := nI_ge (b := 8) (by omega) (by decide)
    exact br_f h ⟨vp_in_nI (by omega) (by decide), nm_r (by rw [nI_clamp (by omega)]; exact tk_qiS rg i) (nm_r (nI_1 i) (ih (i + 1) (by omega)))⟩
theorem pw_X (post : SX → Prop) (hp : post (len, 0, 0, 0, 0, 0, 0, 0, nI 0, 0, 0, 0, nI 0, 0, 0, sb, 0, nI 0, 0, yb, ya, 0, 0, ops, oa, ob, ve, tk_qi rg 8, tk_qi me 32, st, an, so, li, upd (tk_ri P 20) 12 0)) : wpX_power post (len, pc, z, c, al, dp, sp, ha, nI T, re, ta, ed, nI n, rx, ov, sb, sl, nI S, cl, yb, ya, yl, w, ops, oa, ob, ve, rg, me, st, an, so, li, P) := by
  unfold wpX_power
  refine rs_X _ (nm_e ⟨9, ?_⟩)
  have := pw_X14 (n := 0) (T := T) (S := S) (len := len) (pc := 0) (z := z) (c := c) (al := 0) (dp := 0) (sp := 0) (ha := ha) (re := re) (ta := ta) (ed := ed) (rx := 0) (ov := 0) (sb := sb) (sl := 0) (cl := 0) (yb := yb) (ya := ya) (yl := 0) (w := 0) (ops := ops) (oa := oa) (ob := ob) (ve := ve) (rg := rg) (me := me) (st := st) (an := an) (so := so) (li := li) (P := upd (tk_ri P 20) 12 0) post hp 8 0 rfl
  rw [tk_qi0] at this
  exact this
theorem pw_Y (hn : n < 512) (post : SY → Prop) (hp : post (len, (upd (tk_ri P 20) 12 0) 13, 0, 0, 0, 0, 0, 0, 0, nI 0, pa, 0, 0, 0, nI 0, (upd (tk_ri P 20) 12 0) 6, (upd (tk_ri P 20) 12 0) 7, (upd (tk_ri P 20) 12 0) 8, 0, (upd (tk_ri P 20) 12 0) 10, (upd (tk_ri P 20) 12 0) 12, (upd (tk_ri P 20) 12 0) 14, (upd (tk_ri P 20) 12 0) 16, (upd (tk_ri P 20) 12 0) 18, (upd (tk_ri P 20) 12 0) 19, 0, 0, 0, 0, sb, 0, 0, yb, ya, ops, oa, ob, ve, an, so, tk_qi rg 8, tk_qi me 32, st, li, tk_q 0, tk_d (upd (tk_ri P 20) 12 0) 0, tk_d (upd (tk_ri P 20) 12 0) 1, tk_d (upd (tk_ri P 20) 12 0) 2)) : wpY_power post (len, P 13, z, c, al, sp, ha, dp, pc, nI T, pa, ta, re, ed, nI S, P 6, P 7, P 8, cv, P 10, P 12, P 14, P 16, P 18, P 19, si, rx, ov, sl, sb, cl, yl, yb, ya, ops, oa, ob, ve, an, so, rg, me, st, li, tk_q n, tk_d P 0, tk_d P 1, tk_d P 2) := by
  unfold wpY_power
  refine rs_Y (P := P) hn _ ⟨9, ?_⟩
  have := pw_Y6 (n := 0) (T := T) (S := S) (len := len) (pc := 0) (z := z) (c := c) (al := 0) (dp := 0) (sp := 0) (ha := ha) (re := re) (ta := ta) (ed := ed) (rx := 0) (ov := 0) (sb := sb) (sl := 0) (cl := 0) (yb := yb) (ya := ya) (yl := 0) (pa := pa) (cv := 0) (si := 0) (ops := ops) (oa := oa) (ob := ob) (ve := ve) (rg := rg) (me := me) (st := st) (an := an) (so := so) (li := li) (P := tk_ri P 20) post hp 8 0 rfl
  rw [tk_qi0] at this
  exact this
end
end
section
/-! what is owed -/
theorem tk_d00 (i : Nat) : tk_d (fun _ => 0) i = fun _ => 0 := by
  funext j
  unfold tk_d
  by_cases a : j = 0
  · rw [if_pos a]
  · rw [if_neg a]
    by_cases b : j = 1
    · rw [if_pos b]
    · rw [if_neg b]
theorem tk_gt {x : Int32} {a b : Nat} (h : nI b ≤ x) (hab : a < b) (hb : b < 2 ^ 31) : nI a < x := Int32.lt_of_lt_of_le (nI_lt hab hb) h
theorem tk_nl {x y : Int32} (h : x < y) : ¬ y ≤ x := Int32.not_le.mpr h
theorem tk_x30 {post : Int32 → SX → Prop} {x1 x2 x3 : Int32} {f : Nat} {a0 a1 a2 a3 a4 a5 a6 a7 a8 a9 a10 a11 a12 a13 a14 a15 a16 a17 a18 a19 a20 a21 a22 : Int32} {a23 a24 a25 a26 a27 a28 a29 a30 a31 a32 a33 : Nat → Int32} (h : tk_X30 post x1 x2 f x3 (a0, a1, a2, a3, a4, a5, a6, a7, a8, a9, a10, a11, a12, a13, a14, a15, a16, a17, a18, a19, a20, a21, a22, a23, a24, a25, a26, a27, a28, a29, a30, a31, a32, a33)) : wX_run_30 post x1 x2 f x3 a0 a1 a2 a3 a4 a5 a6 a7 a8 a9 a10 a11 a12 a13 a14 a15 a16 a17 a18 a19 a20 a21 a22 a23 a24 a25 a26 a27 a28 a29 a30 a31 a32 a33 := h
theorem tk_y28 {post : Int32 → SY → Prop} {x1 : Int32} {f : Nat} {a0 a1 a2 a3 a4 a5 a6 a7 a8 a9 a10 a11 a12 a13 a14 a15 a16 a17 a18 a19 a20 a21 a22 a23 a24 a25 a26 a27 a28 a29 a30 a31 a32 a33 : Int32} {a34 a35 a36 a37 a38 a39 a40 a41 a42 a43 a44 a45 a46 a47 : Nat → Int32} (h : tk_Y28 post x1 f (a0, a1, a2, a3, a4, a5, a6, a7, a8, a9, a10, a11, a12, a13, a14, a15, a16, a17, a18, a19, a20, a21, a22, a23, a24, a25, a26, a27, a28, a29, a30, a31, a32, a33, a34, a35, a36, a37, a38, a39, a40, a41, a42, a43, a44, a45, a46, a47)) : wY_run_28 post x1 f a0 a1 a2 a3 a4 a5 a6 a7 a8 a9 a10 a11 a12 a13 a14 a15 a16 a17 a18 a19 a20 a21 a22 a23 a24 a25 a26 a27 a28 a29 a30 a31 a32 a33 a34 a35 a36 a37 a38 a39 a40 a41 a42 a43 a44 a45 a46 a47 := h
theorem i_up {k : Nat} {u : SX} {v : SY} (h : i_Rel k u v) : i_Rel (k + 4) u v := h
theorem i_vc0 : wpX_init (fun u => wpY_init (fun v => i_Rel 0 u v)) := by
  unfold wpX_init wpY_init
  refine ⟨0, 0, 0, by decide, 0, 0, 0, 0, 0, 0, 0, 0, 0, 0, 0, 0, 0, 0, 0, 0, 0, 0, 0, 0, 0, 0, 0, fun _ => 0, fun _ => 0, fun _ => 0, fun _ => 0, fun _ => 0, fun _ => 0, fun _ => 0, fun _ => 0, fun _ => 0, fun _ => 0, fun _ => 0, rfl, ?_, ⟨tk_0 (by decide), fun _ => tk_0 (by decide), fun _ => tk_0 (by decide), fun _ => tk_0 (by decide)⟩, ⟨tk_0 (by decide), tk_0 (by decide), fun _ => tk_0 (by decide), fun _ => tk_0 (by decide), fun _ => tk_0 (by decide)⟩, ⟨tk_0 (by decide), (by decide : (0 : Int32) = 0 &&& (-5)), fun _ => tk_0 (by decide), tk_0 (by decide), tk_0 (by decide), tk_0 (by decide)⟩, ⟨by decide, Nat.le_refl 0, tk_0 (by decide), tk_0 (by decide), tk_0 (by decide), tk_0 (by decide), tk_0 (by decide), tk_0 (by decide), tk_0 (by decide), fun _ => tk_0 (by decide)⟩, Or.inl (by decide : (0 : Int32) &&& 7 = 0)⟩
  rw [tk_q0, tk_d00, tk_d00, tk_d00]
  first | done | rfl
theorem i_vc_load {k : Nat} {u : SX} {v : SY} (I : i_Rel k u v) (hk : k + 4 ≤ 2048) (v1 : Int32) (v2 : Int32) (v3 : Int32) : wpX_load (fun r u' => wpY_load (fun r' v' => r' = r ∧ i_Rel (k + 4) u' v') v v1 v2 v3) u v1 v2 v3 := by
  have I0 := I
  obtain ⟨T, pa, ha, hT, n, S, len, pc, z, c, al, dp, sp, re, ta, ed, rx, ov, sb, sl, cl, yb, ya, yl, w, cv, si, ops, oa, ob, ve, rg, me, st, an, so, li, P, rfl, rfl, h1, h2, h3, h4, hW⟩ := I
  rcases pk_ix v1 (n := 27) (by decide) with a | a | ⟨j, hj, rfl⟩
  · exact br_t a (br_t a ⟨rfl, I0⟩)
  · have n0 : ¬ v1 < 0 := Int32.not_lt.mpr (Int32.le_trans (by decide : (0 : Int32) ≤ nI 27) a)
    exact br_f n0 (br_t a (br_f n0 (br_t (tk_gt (a := 26) a (by decide) (by decide)) ⟨rfl, I0⟩)))
  · have n0 : ¬ nI j < 0 := nI_pos (by omega)
    have n1 : ¬ (27 : Int32) ≤ nI j := nI_ge (b := 27) hj (by decide)
    have n2 : ¬ (26 : Int32) < nI j := nI_nlt (a := 26) (by omega) (by decide)
    obtain ⟨L, hL, eL⟩ := h1.1
    subst eL
    by_cases f : L = 48
    · subst f
      exact br_f n0 (br_f n1 (br_f (by decide) (br_f n0 (br_f n2 (br_t rfl ⟨rfl, I0⟩)))))
    · have lt : nI L < 48 := nI_lt (b := 48) (by omega) (by decide)
      have ne : ¬ nI L = 48 := fun q => f ((nI_eq (b := 48) (by omega) (by decide)).mp q)
      have hv : vp_in (nI L) 48 := vp_in_nI (by omega) (by decide)
      exact br_f n0 (br_f n1 (br_t lt ⟨hv, nm_e ⟨hv, nm_e ⟨hv, nm_e (nm_r (nI_1 L) (br_f n0 (br_f n2 (br_f ne ⟨hv, nm_e ⟨hv, nm_e ⟨hv, nm_e (nm_r (nI_1 L) ⟨rfl, ⟨T, pa, ha, hT, n, S, nI (L + 1), pc, z, c, al, dp, sp, re, ta, ed, rx, ov, sb, sl, cl, yb, ya, yl, w, cv, si, upd ops (nI L).toNatClampNeg (nI j), upd oa (nI L).toNatClampNeg v2, upd ob (nI L).toNatClampNeg v3, ve, rg, me, st, an, so, li, P, rfl, rfl, ⟨tk_mk (by omega), tk_upd h1.2.1 (tk_mk hj), h1.2.2⟩, h2, h3, h4, hW⟩⟩)⟩⟩⟩))))⟩⟩⟩))
theorem i_vc_vector {k : Nat} {u : SX} {v : SY} (I : i_Rel k u v) (hk : k + 4 ≤ 2048) (v1 : Int32) (v2 : Int32) : wpX_vector (fun r u' => wpY_vector (fun r' v' => r' = r ∧ i_Rel (k + 4) u' v') v v1 v2) u v1 v2 := by
  have I0 := I
  obtain ⟨T, pa, ha, hT, n, S, len, pc, z, c, al, dp, sp, re, ta, ed, rx, ov, sb, sl, cl, yb, ya, yl, w, cv, si, ops, oa, ob, ve, rg, me, st, an, so, li, P, rfl, rfl, h1, h2, h3, h4, hW⟩ := I
  rcases pk_ix v1 (n := 9) (by decide) with a | a | ⟨j, hj, rfl⟩
  · exact br_t a (br_t a ⟨rfl, I0⟩)
  · have n0 : ¬ v1 < 0 := Int32.not_lt.mpr (Int32.le_trans (by decide : (0 : Int32) ≤ nI 9) a)
    exact br_f n0 (br_t a (br_f n0 (br_t (tk_gt (a := 8) a (by decide) (by decide)) ⟨rfl, I0⟩)))
  · have n0 : ¬ nI j < 0 := nI_pos (by omega)
    have n1 : ¬ (9 : Int32) ≤ nI j := nI_ge (b := 9) hj (by decide)
    have n2 : ¬ (8 : Int32) < nI j := nI_nlt (a := 8) (by omega) (by decide)
    have hv : vp_in (nI j) 9 := vp_in_nI hj (by decide)
    rcases pk_ix v2 (n := 48) (by decide) with b | b | ⟨i, hi, rfl⟩
    · exact br_f n0 (br_f n1 (br_t b (br_f n0 (br_f n2 (br_t b ⟨rfl, I0⟩)))))
    · have m0 : ¬ v2 < 0 := Int32.not_lt.mpr (Int32.le_trans (by decide : (0 : Int32) ≤ nI 48) b)
      exact br_f n0 (br_f n1 (br_f m0 (br_f (Int32.not_lt.mpr b) (br_f n0 (br_f n2 (br_f m0 (br_f (tk_nl (tk_gt (a := 47) b (by decide) (by decide))) ⟨rfl, I0⟩)))))))
    · have m0 : ¬ nI i < 0 := nI_pos (by omega)
      exact br_f n0 (br_f n1 (br_f m0 (br_t (nI_lt (b := 48) hi (by decide)) ⟨hv, nm_e (br_f n0 (br_f n2 (br_f m0 (br_t (nI_le (b := 47) (by omega) (by decide)) ⟨hv, nm_e ⟨rfl, ⟨T, pa, ha, hT, n, S, len, pc, z, c, al, dp, sp, re, ta, ed, rx, ov, sb, sl, cl, yb, ya, yl, w, cv, si, ops, oa, ob, upd ve (nI j).toNatClampNeg (nI i), rg, me, st, an, so, li, P, rfl, rfl, ⟨h1.1, h1.2.1, tk_upd h1.2.2.1 (tk_mk hi), h1.2.2.2⟩, h2, h3, h4, hW⟩⟩⟩))))⟩)))
theorem i_vc_power {k : Nat} {u : SX} {v : SY} (I : i_Rel k u v) (hk : k + 4 ≤ 2048) : wpX_power (fun u' => wpY_power (fun v' => i_Rel (k + 4) u' v') v) u := by
  have I0 := I
  obtain ⟨T, pa, ha, hT, n, S, len, pc, z, c, al, dp, sp, re, ta, ed, rx, ov, sb, sl, cl, yb, ya, yl, w, cv, si, ops, oa, ob, ve, rg, me, st, an, so, li, P, rfl, rfl, h1, h2, h3, h4, hW⟩ := I
  refine pw_X _ (pw_Y (P := P) h4.1 _ ?_)
  exact ⟨0, pa, 0, by decide, 0, 0, len, 0, 0, 0, 0, 0, 0, 0, 0, 0, 0, 0, sb, 0, 0, yb, ya, 0, 0, 0, 0, ops, oa, ob, ve, tk_qi rg 8, tk_qi me 32, st, an, so, li, upd (tk_ri P 20) 12 0, rfl, rfl, h1, ⟨tk_0 (by decide), tk_0 (by decide), tk_qiB (by decide) h2.2.2.1 8, tk_qiB (by decide) h2.2.2.2.1 32, h2.2.2.2.2⟩, tk_3up (tk_r3 h3.2.2.1) (by decide) (by decide) (by decide) (by decide) (tk_0 (by decide)), ⟨by decide, Nat.le_refl 0, tk_0 (by decide), tk_0 (by decide), tk_0 (by decide), tk_0 (by decide), h4.2.2.2.2.2.2.1, h4.2.2.2.2.2.2.2.1, tk_0 (by decide), h4.2.2.2.2.2.2.2.2.2⟩, Or.inl (by decide : (0 : Int32) &&& 7 = 0)⟩
theorem i_vc_run {k : Nat} {u : SX} {v : SY} (I : i_Rel k u v) (hk : k + 4 ≤ 2048) (v1 : Int32) : wpX_run (fun r u' => wpY_run (fun r' v' => r' = r ∧ i_Rel (k + 4) u' v') v v1) u v1 := by
  have I0 := I
  obtain ⟨T, pa, ha, hT, n, S, len, pc, z, c, al, dp, sp, re, ta, ed, rx, ov, sb, sl, cl, yb, ya, yl, w, cv, si, ops, oa, ob, ve, rg, me, st, an, so, li, P, rfl, rfl, h1, h2, h3, h4, hW⟩ := I
  by_cases c1 : v1 < 1
  · exact br_t c1 (br_t c1 ⟨rfl, I0⟩)
  · by_cases c2 : 3000 < v1
    · exact br_f c1 (br_t c2 (br_f c1 (br_t c2 ⟨rfl, I0⟩)))
    · by_cases c3 : nI T ≤ 1000000000
      · have n0 : ¬ v1 < 0 := fun q => c1 (Int32.lt_of_lt_of_le q (by decide))
        obtain ⟨N, hN, rfl⟩ := nI_of n0
        have hN3 : N ≤ 3000 := by
          rcases Nat.lt_or_ge 3000 N with q | q
          · exact absurd (nI_lt (a := 3000) q hN) c2
          · exact q
        have hT3 : T ≤ 1000000000 := (nI_leI (b := 1000000000) (by omega) (by decide)).mp c3
        have hR0 : tk_R (T + 0) (nI 0) ha (len, pc, z, c, al, dp, sp, ha, nI T, re, ta, ed, nI n, rx, ov, sb, sl, nI S, cl, yb, ya, yl, w, ops, oa, ob, ve, rg, me, st, an, so, li, P) (len, P 13, z, c, al, sp, ha, dp, pc, nI T, nI 0, ta, re, ed, nI S, P 6, P 7, P 8, cv, P 10, P 12, P 14, P 16, P 18, P 19, si, rx, ov, sl, sb, cl, yl, yb, ya, ops, oa, ob, ve, an, so, rg, me, st, li, tk_q n, tk_d P 0, tk_d P 1, tk_d P 2) := ⟨n, S, len, pc, z, c, al, dp, sp, re, ta, ed, rx, ov, sb, sl, cl, yb, ya, yl, w, cv, si, ops, oa, ob, ve, rg, me, st, an, so, li, P, rfl, rfl, h1, h2, h3, h4, hW⟩
        obtain ⟨m', ha', u', v', hm', hR', hX, hY⟩ := rn_all hT3 hN3 N 0 0 ha _ _ hR0 (by omega) (Or.inr ⟨Nat.le_refl 0, by omega⟩)
        refine br_f c1 (br_f c2 (br_t c3 ⟨N + 2, tk_x30 (hX _ ?_)⟩))
        refine br_f c1 (br_f c2 (br_t c3 ⟨N + 2, tk_y28 (hY _ ?_)⟩))
        exact ⟨rfl, T + m', _, ha', by omega, hR'⟩
      · exact br_f c1 (br_f c2 (br_f c3 (br_f c1 (br_f c2 (br_f c3 ⟨rfl, I0⟩)))))
theorem i_vc_pins {k : Nat} {u : SX} {v : SY} (I : i_Rel k u v) (hk : k + 4 ≤ 2048) (v1 : Int32) : wpX_pins (fun r u' => wpY_pins (fun r' v' => r' = r ∧ i_Rel (k + 4) u' v') v v1) u v1 := by
  have I0 := I
  obtain ⟨T, pa, ha, hT, n, S, len, pc, z, c, al, dp, sp, re, ta, ed, rx, ov, sb, sl, cl, yb, ya, yl, w, cv, si, ops, oa, ob, ve, rg, me, st, an, so, li, P, rfl, rfl, h1, h2, h3, h4, hW⟩ := I
  have g3 : tk_I3 cv (upd P 13 (v1 &&& 255)) := tk_3up h3 (by decide) (by decide) (by decide) (by decide) (tk_b _)
  have hX : (P 13 ^^^ (v1 &&& 255)) &&& P 19 = ((P 13 ^^^ v1) &&& P 19) &&& 255 := tk_pins (tk_255 (h3.2.2.1 19))
  by_cases e : ((P 13 ^^^ v1) &&& P 19) &&& 255 = 0
  · exact nm_e (nm_e (br_t (hX.trans e) (br_t e (nm_e (br_t rfl ⟨rfl, rfl, ⟨T, pa, ha, hT, n, S, len, pc, z, c, al, dp, sp, re, ta, ed, rx, ov, sb, sl, cl, yb, ya, yl, w, cv, si, ops, oa, ob, ve, rg, me, st, an, so, li, upd P 13 (v1 &&& 255), rfl, rfl, h1, h2, g3, h4, hW⟩⟩)))))
  · exact nm_e (nm_e (br_f (fun q => e (hX.symm.trans q)) (nm_r (tk_or n 256) (br_f e (nm_e (br_f (by decide) (nm_r (tk_setN n 8) ⟨rfl, rfl, ⟨T, pa, ha, hT, n ||| 2 ^ 8, S, len, pc, z, c, al, dp, sp, re, ta, ed, rx, ov, sb, sl, cl, yb, ya, yl, w, cv, si, ops, oa, ob, ve, rg, me, st, an, so, li, upd P 13 (v1 &&& 255), rfl, rfl, h1, h2, g3, ⟨tk_setlt h4.1 (by decide), h4.2⟩, hW⟩⟩)))))))
theorem i_vc_analog {k : Nat} {u : SX} {v : SY} (I : i_Rel k u v) (hk : k + 4 ≤ 2048) (v1 : Int32) (v2 : Int32) : wpX_analog (fun r u' => wpY_analog (fun r' v' => r' = r ∧ i_Rel (k + 4) u' v') v v1 v2) u v1 v2 := by
  have I0 := I
  obtain ⟨T, pa, ha, hT, n, S, len, pc, z, c, al, dp, sp, re, ta, ed, rx, ov, sb, sl, cl, yb, ya, yl, w, cv, si, ops, oa, ob, ve, rg, me, st, an, so, li, P, rfl, rfl, h1, h2, h3, h4, hW⟩ := I
  rcases pk_ix v1 (n := 4) (by decide) with a | a | ⟨j, hj, rfl⟩
  · exact br_t a (br_t a ⟨rfl, I0⟩)
  · have n0 : ¬ v1 < 0 := Int32.not_lt.mpr (Int32.le_trans (by decide : (0 : Int32) ≤ nI 4) a)
    exact br_f n0 (br_f (Int32.not_lt.mpr a) (br_f n0 (br_f (tk_nl (tk_gt (a := 3) a (by decide) (by decide))) ⟨rfl, I0⟩)))
  · have n0 : ¬ nI j < 0 := nI_pos (by omega)
    have lt : nI j < 4 := nI_lt (b := 4) hj (by decide)
    have le : nI j ≤ 3 := nI_le (b := 3) (by omega) (by decide)
    have hv : vp_in (nI j) 4 := vp_in_nI hj (by decide)
    exact br_f n0 (br_t lt ⟨hv, nm_e (br_f n0 (br_t le ⟨hv, nm_e ⟨rfl, ⟨T, pa, ha, hT, n, S, len, pc, z, c, al, dp, sp, re, ta, ed, rx, ov, sb, sl, cl, yb, ya, yl, w, cv, si, ops, oa, ob, ve, rg, me, st, upd an (nI j).toNatClampNeg (v2 &&& 255), so, li, P, rfl, rfl, ⟨h1.1, h1.2.1, h1.2.2.1, tk_upd h1.2.2.2 (tk_b _)⟩, h2, h3, h4, hW⟩⟩⟩))⟩)
theorem i_vc_receive {k : Nat} {u : SX} {v : SY} (I : i_Rel k u v) (hk : k + 4 ≤ 2048) (v1 : Int32) : wpX_receive (fun r u' => wpY_receive (fun r' v' => r' = r ∧ i_Rel (k + 4) u' v') v v1) u v1 := by
  have I0 := I
  obtain ⟨T, pa, ha, hT, n, S, len, pc, z, c, al, dp, sp, re, ta, ed, rx, ov, sb, sl, cl, yb, ya, yl, w, cv, si, ops, oa, ob, ve, rg, me, st, an, so, li, P, rfl, rfl, h1, h2, h3, h4, hW⟩ := I
  have g3 : tk_I3 cv (upd P 6 (v1 &&& 255)) := tk_3up h3 (by decide) (by decide) (by decide) (by decide) (tk_b _)
  by_cases e : rx = 0
  · exact br_t e (nm_e (nm_r (tk_or n 16) (br_t e (nm_e (nm_r (tk_setN n 4) ⟨rfl, ⟨T, pa, ha, hT, n ||| 2 ^ 4, S, len, pc, z, c, al, dp, sp, re, ta, ed, 1, ov, sb, sl, cl, yb, ya, yl, w, cv, si, ops, oa, ob, ve, rg, me, st, an, so, li, upd P 6 (v1 &&& 255), rfl, rfl, h1, h2, g3, ⟨tk_setlt h4.1 (by decide), h4.2.1, ⟨1, by decide, rfl⟩, h4.2.2.2⟩, hW⟩⟩)))))
  · exact br_f e (br_f e ⟨rfl, ⟨T, pa, ha, hT, n, S, len, pc, z, c, al, dp, sp, re, ta, ed, rx, 1, sb, sl, cl, yb, ya, yl, w, cv, si, ops, oa, ob, ve, rg, me, st, an, so, li, P, rfl, rfl, h1, h2, h3, ⟨h4.1, h4.2.1, h4.2.2.1, ⟨1, by decide, rfl⟩, h4.2.2.2.2⟩, hW⟩⟩)
theorem i_vc_register {k : Nat} {u : SX} {v : SY} (I : i_Rel k u v) (hk : k + 4 ≤ 2048) (v1 : Int32) : wpX_register (fun r => wpY_register (fun r' => r' = r ∧ i_Rel (k + 4) u v) v v1) u v1 := by
  have I0 := I
  obtain ⟨T, pa, ha, hT, n, S, len, pc, z, c, al, dp, sp, re, ta, ed, rx, ov, sb, sl, cl, yb, ya, yl, w, cv, si, ops, oa, ob, ve, rg, me, st, an, so, li, P, rfl, rfl, h1, h2, h3, h4, hW⟩ := I
  rcases pk_ix v1 (n := 8) (by decide) with a | a | ⟨j, hj, rfl⟩
  · exact br_t a (br_t a ⟨rfl, I0⟩)
  · have n0 : ¬ v1 < 0 := Int32.not_lt.mpr (Int32.le_trans (by decide : (0 : Int32) ≤ nI 8) a)
    exact br_f n0 (br_f (Int32.not_lt.mpr a) (br_f n0 (br_f (tk_nl (tk_gt (a := 7) a (by decide) (by decide))) ⟨rfl, I0⟩)))
  · have n0 : ¬ nI j < 0 := nI_pos (by omega)
    have lt : nI j < 8 := nI_lt (b := 8) hj (by decide)
    have le : nI j ≤ 7 := nI_le (b := 7) (by omega) (by decide)
    have hv : vp_in (nI j) 8 := vp_in_nI hj (by decide)
    exact br_f n0 (br_t lt ⟨hv, br_f n0 (br_t le ⟨hv, ⟨rfl, I0⟩⟩)⟩)
theorem i_vc_memory {k : Nat} {u : SX} {v : SY} (I : i_Rel k u v) (hk : k + 4 ≤ 2048) (v1 : Int32) : wpX_memory (fun r => wpY_memory (fun r' => r' = r ∧ i_Rel (k + 4) u v) v v1) u v1 := by
  have I0 := I
  obtain ⟨T, pa, ha, hT, n, S, len, pc, z, c, al, dp, sp, re, ta, ed, rx, ov, sb, sl, cl, yb, ya, yl, w, cv, si, ops, oa, ob, ve, rg, me, st, an, so, li, P, rfl, rfl, h1, h2, h3, h4, hW⟩ := I
  rcases pk_ix v1 (n := 32) (by decide) with a | a | ⟨j, hj, rfl⟩
  · exact br_t a (br_t a ⟨rfl, I0⟩)
  · have n0 : ¬ v1 < 0 := Int32.not_lt.mpr (Int32.le_trans (by decide : (0 : Int32) ≤ nI 32) a)
    exact br_f n0 (br_f (Int32.not_lt.mpr a) (br_f n0 (br_f (tk_nl (tk_gt (a := 31) a (by decide) (by decide))) ⟨rfl, I0⟩)))
  · have n0 : ¬ nI j < 0 := nI_pos (by omega)
    have lt : nI j < 32 := nI_lt (b := 32) hj (by decide)
    have le : nI j ≤ 31 := nI_le (b := 31) (by omega) (by decide)
    have hv : vp_in (nI j) 32 := vp_in_nI hj (by decide)
    exact br_f n0 (br_t lt ⟨hv, br_f n0 (br_t le ⟨hv, ⟨rfl, I0⟩⟩)⟩)
theorem i_vc_stored {k : Nat} {u : SX} {v : SY} (I : i_Rel k u v) (hk : k + 4 ≤ 2048) (v1 : Int32) : wpX_stored (fun r => wpY_stored (fun r' => r' = r ∧ i_Rel (k + 4) u v) v v1) u v1 := by
  have I0 := I
  obtain ⟨T, pa, ha, hT, n, S, len, pc, z, c, al, dp, sp, re, ta, ed, rx, ov, sb, sl, cl, yb, ya, yl, w, cv, si, ops, oa, ob, ve, rg, me, st, an, so, li, P, rfl, rfl, h1, h2, h3, h4, hW⟩ := I
  rcases pk_ix v1 (n := 16) (by decide) with a | a | ⟨j, hj, rfl⟩
  · exact br_t a (br_t a ⟨rfl, I0⟩)
  · have n0 : ¬ v1 < 0 := Int32.not_lt.mpr (Int32.le_trans (by decide : (0 : Int32) ≤ nI 16) a)
    exact br_f n0 (br_f (Int32.not_lt.mpr a) (br_f n0 (br_f (tk_nl (tk_gt (a := 15) a (by decide) (by decide))) ⟨rfl, I0⟩)))
  · have n0 : ¬ nI j < 0 := nI_pos (by omega)
    have lt : nI j < 16 := nI_lt (b := 16) hj (by decide)
    have le : nI j ≤ 15 := nI_le (b := 15) (by omega) (by decide)
    have hv : vp_in (nI j) 16 := vp_in_nI hj (by decide)
    exact br_f n0 (br_t lt ⟨hv, br_f n0 (br_t le ⟨hv, ⟨rfl, I0⟩⟩)⟩)
theorem i_vc_port {k : Nat} {u : SX} {v : SY} (I : i_Rel k u v) (hk : k + 4 ≤ 2048) (v1 : Int32) : wpX_port (fun r => wpY_port (fun r' => r' = r ∧ i_Rel (k + 4) u v) v v1) u v1 := by
  have I0 := I
  obtain ⟨T, pa, ha, hT, n, S, len, pc, z, c, al, dp, sp, re, ta, ed, rx, ov, sb, sl, cl, yb, ya, yl, w, cv, si, ops, oa, ob, ve, rg, me, st, an, so, li, P, rfl, rfl, h1, h2, h3, h4, hW⟩ := I
  rcases pk_ix v1 (n := 20) (by decide) with a | a | ⟨j, hj, rfl⟩
  · exact br_t a (br_t a ⟨rfl, I0⟩)
  · have n0 : ¬ v1 < 0 := Int32.not_lt.mpr (Int32.le_trans (by decide : (0 : Int32) ≤ nI 20) a)
    exact br_f n0 (br_f (Int32.not_lt.mpr a) (br_f n0 (br_f (tk_nl (tk_gt (a := 19) a (by decide) (by decide))) ⟨rfl, I0⟩)))
  · have n0 : ¬ nI j < 0 := nI_pos (by omega)
    have lt : nI j < 20 := nI_lt (b := 20) hj (by decide)
    have le : nI j ≤ 19 := nI_le (b := 19) (by omega) (by decide)
    obtain ⟨r, hr, rX, rY⟩ := rd_all (n := n) (T := T) (S := S) (len := len) (pc := pc) (z := z) (c := c) (al := al) (dp := dp) (sp := sp) (ha := ha) (re := re) (ta := ta) (ed := ed) (rx := rx) (ov := ov) (sb := sb) (sl := sl) (cl := cl) (yb := yb) (ya := ya) (yl := yl) (w := w) (pa := pa) (cv := cv) (si := si) (ops := ops) (oa := oa) (ob := ob) (ve := ve) (rg := rg) (me := me) (st := st) (an := an) (so := so) (li := li) (P := P) h3 h4.1 h4.2.2.2.2.2.2.2.2.2 j (by omega)
    exact br_f n0 (br_t lt (rX _ (br_f n0 (br_t le (rY _ ⟨rfl, I0⟩)))))
theorem i_vc_state {k : Nat} {u : SX} {v : SY} (I : i_Rel k u v) (hk : k + 4 ≤ 2048) (v1 : Int32) : wpX_state (fun r => wpY_state (fun r' => r' = r ∧ i_Rel (k + 4) u v) v v1) u v1 := by
  have I0 := I
  obtain ⟨T, pa, ha, hT, n, S, len, pc, z, c, al, dp, sp, re, ta, ed, rx, ov, sb, sl, cl, yb, ya, yl, w, cv, si, ops, oa, ob, ve, rg, me, st, an, so, li, P, rfl, rfl, h1, h2, h3, h4, hW⟩ := I
  rcases pk_ix v1 (n := 8) (by decide) with a | a | ⟨j, hj, rfl⟩
  · exact br_t a (br_t a ⟨rfl, I0⟩)
  · have n0 : ¬ v1 < 0 := Int32.not_lt.mpr (Int32.le_trans (by decide : (0 : Int32) ≤ nI 8) a)
    have n7 : 7 < v1 := tk_gt (a := 7) a (by decide) (by decide)
    exact br_f n0 (br_t n7 (br_f n0 (br_t n7 ⟨rfl, I0⟩)))
  · rcases (by omega : j = 0 ∨ j = 1 ∨ j = 2 ∨ j = 3 ∨ j = 4 ∨ j = 5 ∨ j = 6 ∨ j = 7) with e | e | e | e | e | e | e | e <;> subst e
    · exact br_f (by decide) (br_f (by decide) (br_t (by decide) (br_f (by decide) (br_f (by decide) (br_t (by decide) (⟨rfl, I0⟩))))))
    · by_cases a1 : z = 0 <;> by_cases a2 : c = 0 <;> by_cases a3 : al = 0
      · exact br_f (by decide) (br_f (by decide) (br_f (by decide) (br_t (by decide) (br_t a1 (br_t a2 (br_t a3 (br_f (by decide) (br_f (by decide) (br_f (by decide) (br_t (by decide) (br_t a1 (br_t a2 (br_t a3 (⟨rfl, I0⟩))))))))))))))
      · exact br_f (by decide) (br_f (by decide) (br_f (by decide) (br_t (by decide) (br_t a1 (br_t a2 (br_f a3 (br_f (by decide) (br_f (by decide) (br_f (by decide) (br_t (by decide) (br_t a1 (br_t a2 (br_f a3 (⟨rfl, I0⟩))))))))))))))
      · exact br_f (by decide) (br_f (by decide) (br_f (by decide) (br_t (by decide) (br_t a1 (br_f a2 (br_t a3 (br_f (by decide) (br_f (by decide) (br_f (by decide) (br_t (by decide) (br_t a1 (br_f a2 (br_t a3 (⟨rfl, I0⟩))))))))))))))
      · exact br_f (by decide) (br_f (by decide) (br_f (by decide) (br_t (by decide) (br_t a1 (br_f a2 (br_f a3 (br_f (by decide) (br_f (by decide) (br_f (by decide) (br_t (by decide) (br_t a1 (br_f a2 (br_f a3 (⟨rfl, I0⟩))))))))))))))
      · exact br_f (by decide) (br_f (by decide) (br_f (by decide) (br_t (by decide) (br_f a1 (br_t a2 (br_t a3 (br_f (by decide) (br_f (by decide) (br_f (by decide) (br_t (by decide) (br_f a1 (br_t a2 (br_t a3 (⟨rfl, I0⟩))))))))))))))
      · exact br_f (by decide) (br_f (by decide) (br_f (by decide) (br_t (by decide) (br_f a1 (br_t a2 (br_f a3 (br_f (by decide) (br_f (by decide) (br_f (by decide) (br_t (by decide) (br_f a1 (br_t a2 (br_f a3 (⟨rfl, I0⟩))))))))))))))
      · exact br_f (by decide) (br_f (by decide) (br_f (by decide) (br_t (by decide) (br_f a1 (br_f a2 (br_t a3 (br_f (by decide) (br_f (by decide) (br_f (by decide) (br_t (by decide) (br_f a1 (br_f a2 (br_t a3 (⟨rfl, I0⟩))))))))))))))
      · exact br_f (by decide) (br_f (by decide) (br_f (by decide) (br_t (by decide) (br_f a1 (br_f a2 (br_f a3 (br_f (by decide) (br_f (by decide) (br_f (by decide) (br_t (by decide) (br_f a1 (br_f a2 (br_f a3 (⟨rfl, I0⟩))))))))))))))
    · exact br_f (by decide) (br_f (by decide) (br_f (by decide) (br_f (by decide) (br_t (by decide) (br_f (by decide) (br_f (by decide) (br_f (by decide) (br_f (by decide) (br_t (by decide) (⟨rfl, I0⟩))))))))))
    · by_cases a1 : ha = 0
      · by_cases a2 : sp = 0
        · exact br_f (by decide) (br_f (by decide) (br_f (by decide) (br_f (by decide) (br_f (by decide) (br_t (by decide) (br_t a1 (br_t a2 (br_f (by decide) (br_f (by decide) (br_f (by decide) (br_f (by decide) (br_f (by decide) (br_t (by decide) (br_t a1 (br_t a2 (⟨rfl, I0⟩))))))))))))))))
        · exact br_f (by decide) (br_f (by decide) (br_f (by decide) (br_f (by decide) (br_f (by decide) (br_t (by decide) (br_t a1 (br_f a2 (br_f (by decide) (br_f (by decide) (br_f (by decide) (br_f (by decide) (br_f (by decide) (br_t (by decide) (br_t a1 (br_f a2 (⟨rfl, I0⟩))))))))))))))))
      · exact br_f (by decide) (br_f (by decide) (br_f (by decide) (br_f (by decide) (br_f (by decide) (br_t (by decide) (br_f a1 (br_f (by decide) (br_f (by decide) (br_f (by decide) (br_f (by decide) (br_f (by decide) (br_t (by decide) (br_f a1 (⟨rfl, I0⟩))))))))))))))
    · exact br_f (by decide) (br_f (by decide) (br_f (by decide) (br_f (by decide) (br_f (by decide) (br_f (by decide) (br_t (by decide) (br_f (by decide) (br_f (by decide) (br_f (by decide) (br_f (by decide) (br_f (by decide) (br_f (by decide) (br_t (by decide) (⟨rfl, I0⟩))))))))))))))
    · exact br_f (by decide) (br_f (by decide) (br_f (by decide) (br_f (by decide) (br_f (by decide) (br_f (by decide) (br_f (by decide) (br_t (by decide) (br_f (by decide) (br_f (by decide) (br_f (by decide) (br_f (by decide) (br_f (by decide) (br_f (by decide) (br_f (by decide) (br_t (by decide) (⟨rfl, I0⟩))))))))))))))))
    · exact br_f (by decide) (br_f (by decide) (br_f (by decide) (br_f (by decide) (br_f (by decide) (br_f (by decide) (br_f (by decide) (br_f (by decide) (br_t (by decide) (br_f (by decide) (br_f (by decide) (br_f (by decide) (br_f (by decide) (br_f (by decide) (br_f (by decide) (br_f (by decide) (br_f (by decide) (br_t (by decide) (⟨rfl, I0⟩))))))))))))))))))
    · exact br_f (by decide) (br_f (by decide) (br_f (by decide) (br_f (by decide) (br_f (by decide) (br_f (by decide) (br_f (by decide) (br_f (by decide) (br_f (by decide) (br_t (by decide) (br_f (by decide) (br_f (by decide) (br_f (by decide) (br_f (by decide) (br_f (by decide) (br_f (by decide) (br_f (by decide) (br_f (by decide) (br_f (by decide) (br_t (by decide) (⟨rfl, I0⟩))))))))))))))))))))
theorem i_vc_line {k : Nat} {u : SX} {v : SY} (I : i_Rel k u v) (hk : k + 4 ≤ 2048) (v1 : Int32) : wpX_line (fun r => wpY_line (fun r' => r' = r ∧ i_Rel (k + 4) u v) v v1) u v1 := by
  have I0 := I
  obtain ⟨T, pa, ha, hT, n, S, len, pc, z, c, al, dp, sp, re, ta, ed, rx, ov, sb, sl, cl, yb, ya, yl, w, cv, si, ops, oa, ob, ve, rg, me, st, an, so, li, P, rfl, rfl, h1, h2, h3, h4, hW⟩ := I
  have hS : S < 2 ^ 31 := by have := h4.2.1; omega
  rcases pk_ix v1 (n := 32) (by decide) with a | a | ⟨j, hj, rfl⟩
  · exact br_t a (br_t a ⟨rfl, I0⟩)
  · have n0 : ¬ v1 < 0 := Int32.not_lt.mpr (Int32.le_trans (by decide : (0 : Int32) ≤ nI 32) a)
    by_cases b : nI S ≤ v1
    · exact br_f n0 (br_t a (br_f n0 (br_t b ⟨rfl, I0⟩)))
    · exact br_f n0 (br_t a (br_f n0 (br_f b (br_f (tk_nl (tk_gt (a := 31) a (by decide) (by decide))) ⟨rfl, I0⟩))))
  · have n0 : ¬ nI j < 0 := nI_pos (by omega)
    have n1 : ¬ (32 : Int32) ≤ nI j := nI_ge (b := 32) hj (by decide)
    have hv : vp_in (nI j) 32 := vp_in_nI hj (by decide)
    have le : nI j ≤ 31 := nI_le (b := 31) (by omega) (by decide)
    by_cases b : j < S
    · exact br_f n0 (br_f n1 (br_t (nI_lt b hS) ⟨hv, br_f n0 (br_f (nI_ge b hS) (br_t le ⟨hv, ⟨rfl, I0⟩⟩))⟩))
    · exact br_f n0 (br_f n1 (br_f (nI_nlt (by omega) (by omega)) (br_f n0 (br_t (nI_le (by omega) (by omega)) ⟨rfl, I0⟩))))
theorem i_vc_sent {k : Nat} {u : SX} {v : SY} (I : i_Rel k u v) (hk : k + 4 ≤ 2048) : wpX_sent (fun r => wpY_sent (fun r' => r' = r ∧ i_Rel (k + 4) u v) v) u := by
  have I0 := I
  obtain ⟨T, pa, ha, hT, n, S, len, pc, z, c, al, dp, sp, re, ta, ed, rx, ov, sb, sl, cl, yb, ya, yl, w, cv, si, ops, oa, ob, ve, rg, me, st, an, so, li, P, rfl, rfl, h1, h2, h3, h4, hW⟩ := I
  exact ⟨rfl, I0⟩
end
