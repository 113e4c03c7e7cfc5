section
/-! rows taken from the rows to paste -/
theorem pk_us {f : Nat → Int32} {k : Nat} {x : Int32} : upd f k x k = x := if_pos rfl
theorem pk_un {f : Nat → Int32} {k j : Nat} {x : Int32} (h : j ≠ k) : upd f k x j = f j := if_neg h
theorem pk_sub {a b : Nat} (h : b ≤ a) : nI a - nI b = nI (a - b) := by
  obtain ⟨c, rfl⟩ : ∃ c, a = c + b := ⟨a - b, by omega⟩
  rw [← nI_add, Int32.add_sub_cancel, Nat.add_sub_cancel]
theorem pk_m1 (n : Nat) : nI (n + 1) + (-1) = nI n := by
  rw [← nI_1, Int32.add_assoc, show (1 : Int32) + (-1) = 0 from rfl, Int32.add_zero]
theorem pk_mul (a b : Nat) : nI a * nI b = nI (a * b) := (Int32.ofNat_mul a b).symm
theorem pk_div {a d : Nat} (ha : a < 2 ^ 31) (h0 : 0 < d) (hd : d < 2 ^ 31) : nI a / nI d = nI (a / d) := by
  apply Int32.toInt_inj.mp
  rw [lg_idiv_nonneg (by rw [nI_toInt ha]; omega) (by rw [nI_toInt hd]; omega), nI_toInt ha, nI_toInt hd, nI_toInt (Nat.lt_of_le_of_lt (Nat.div_le_self a d) ha)]
  first | rfl | exact (Int.natCast_ediv _ _).symm
theorem pk_rem {a d : Nat} (ha : a < 2 ^ 31) (h0 : 0 < d) (hd : d < 2 ^ 31) : nI a - nI a / nI d * nI d = nI (a % d) := by
  rw [pk_div ha h0 hd, pk_mul, pk_sub (Nat.div_mul_le_self a d)]
  exact congrArg nI (by have := Nat.div_add_mod' a d; omega)
theorem pk_ix (x : Int32) {n : Nat} (hn : n < 2 ^ 31) : x < 0 ∨ nI n ≤ x ∨ ∃ j : Nat, j < n ∧ x = nI j := by
  by_cases h : x < 0
  · exact Or.inl h
  · obtain ⟨j, hj, rfl⟩ := nI_of h
    by_cases h2 : j < n
    · exact Or.inr (Or.inr ⟨j, h2, rfl⟩)
    · exact Or.inr (Or.inl (nI_le (by omega) hj))
theorem pk_le {x y : Int32} {A B : Prop} (a b : Nat) (f : a ≤ b → A) (g : b < a → B) (hx : x = nI a := by rfl) (hy : y = nI b := by rfl) (ha : a < 2 ^ 31 := by omega) (hb : b < 2 ^ 31 := by omega) : (x ≤ y → A) ∧ (¬ x ≤ y → B) := by
  subst hx hy
  rw [nI_leI ha hb]
  exact ⟨f, fun z => g (by omega)⟩
theorem pk_lt {x y : Int32} {A B : Prop} (a b : Nat) (f : a < b → A) (g : b ≤ a → B) (hx : x = nI a := by rfl) (hy : y = nI b := by rfl) (ha : a < 2 ^ 31 := by omega) (hb : b < 2 ^ 31 := by omega) : (x < y → A) ∧ (¬ x < y → B) := by
  subst hx hy
  rw [nI_ltI ha hb]
  exact ⟨f, fun z => g (by omega)⟩
theorem pk_eq {x y : Int32} {A B : Prop} (a b : Nat) (f : a = b → A) (g : a ≠ b → B) (hx : x = nI a := by rfl) (hy : y = nI b := by rfl) (ha : a < 2 ^ 31 := by omega) (hb : b < 2 ^ 31 := by omega) : (x = y → A) ∧ (¬ x = y → B) := by
  subst hx hy
  rw [nI_eq ha hb]
  exact ⟨f, g⟩
theorem pk_in {x : Int32} (n N : Nat) (h : n < N) (hx : x = nI n := by rfl) (hN : N < 2 ^ 31 := by omega) : vp_in x N := by
  subst hx
  exact vp_in_nI h hN
theorem pk_cl {x : Int32} (n : Nat) (hx : x = nI n := by rfl) (h : n < 2 ^ 31 := by omega) : x.toNatClampNeg = n := by
  subst hx
  exact nI_clamp h
theorem pk_tn {n : Nat} (h : n < 2 ^ 32) : (nI n).toBitVec.toNat = n := Nat.mod_eq_of_lt h
theorem pk_and (x : Int32) {m : Int32} (k : Nat) (hm : m.toBitVec.toNat = 2 ^ k - 1) : x &&& m = nI (x.toBitVec.toNat % 2 ^ k) := by
  apply Int32.toBitVec_inj.mp
  apply BitVec.eq_of_toNat_eq
  rw [Int32.toBitVec_and, BitVec.toNat_and, hm, Nat.and_two_pow_sub_one_eq_mod]
  show _ = (BitVec.ofNat 32 _).toNat
  rw [BitVec.toNat_ofNat]
  exact (Nat.mod_eq_of_lt (Nat.lt_of_le_of_lt (Nat.mod_le _ _) x.toBitVec.isLt)).symm
theorem pk_andN {n : Nat} (h : n < 2 ^ 32) {m : Int32} (k : Nat) (hm : m.toBitVec.toNat = 2 ^ k - 1) : nI n &&& m = nI (n % 2 ^ k) := by
  rw [pk_and _ k hm, pk_tn h]
theorem pk_andE (x : Int32) {m : Int32} (k : Nat) (hm : m.toBitVec.toNat = 2 ^ k - 1) : ∃ j : Nat, j < 2 ^ k ∧ x &&& m = nI j := ⟨_, Nat.mod_lt _ (Nat.two_pow_pos k), pk_and x k hm⟩
theorem pk_andIn (x : Int32) {m : Int32} (k : Nat) (hm : m.toBitVec.toNat = 2 ^ k - 1) (hk : k ≤ 30) : vp_in (x &&& m) (2 ^ k) := by
  obtain ⟨j, hj, e⟩ := pk_andE x k hm
  rw [e]
  exact vp_in_nI hj (Nat.lt_of_le_of_lt (Nat.pow_le_pow_right (by decide) hk) (by decide))
theorem pk_shl (a s : Int32) (k : Nat) (hs : (s.toBitVec.smod 32).toNat = k) : (a <<< s).toBitVec.toNat = a.toBitVec.toNat * 2 ^ k % 2 ^ 32 := by
  show (a.toBitVec <<< (s.toBitVec.smod 32).toNat).toNat = _
  rw [hs, BitVec.toNat_shiftLeft, Nat.shiftLeft_eq]
theorem pk_shlN {n : Nat} (s : Int32) (k : Nat) (hs : (s.toBitVec.smod 32).toNat = k) (h : n * 2 ^ k < 2 ^ 32) : nI n <<< s = nI (n * 2 ^ k) := by
  apply Int32.toBitVec_inj.mp
  apply BitVec.eq_of_toNat_eq
  have hn : n < 2 ^ 32 := Nat.lt_of_le_of_lt (Nat.le_mul_of_pos_right n (Nat.two_pow_pos k)) h
  rw [pk_shl _ _ k hs, pk_tn hn, pk_tn h, Nat.mod_eq_of_lt h]
theorem pk_shr (a s : Int32) (k : Nat) (hs : (s.toBitVec.smod 32).toNat = k) : (a >>> s).toInt = a.toInt >>> k := by
  show (a.toBitVec.sshiftRight (s.toBitVec.smod 32).toNat).toInt = _
  rw [hs, BitVec.toInt_sshiftRight]
  rfl
theorem pk_shrN {n : Nat} (h : n < 2 ^ 31) (s : Int32) (k : Nat) (hs : (s.toBitVec.smod 32).toNat = k) : nI n >>> s = nI (n / 2 ^ k) := by
  apply Int32.toInt_inj.mp
  have h2 : n / 2 ^ k ≤ n := Nat.div_le_self _ _
  rw [pk_shr _ _ k hs, nI_toInt h, nI_toInt (by omega), Int.shiftRight_eq_div_pow]
  rfl
def bt (x : Int32) (i : Nat) : Bool := x.toBitVec.getLsbD i
theorem b_ext {x y : Int32} (h : ∀ i, i < 32 → bt x i = bt y i) : x = y := Int32.toBitVec_inj.mp (BitVec.eq_of_getLsbD_eq (fun i hi => h i hi))
theorem b_or (x y : Int32) (i : Nat) : bt (x ||| y) i = (bt x i || bt y i) := by unfold bt; rw [Int32.toBitVec_or, BitVec.getLsbD_or]
theorem b_and (x y : Int32) (i : Nat) : bt (x &&& y) i = (bt x i && bt y i) := by unfold bt; rw [Int32.toBitVec_and, BitVec.getLsbD_and]
theorem b_xor (x y : Int32) (i : Nat) : bt (x ^^^ y) i = (bt x i ^^ bt y i) := by unfold bt; rw [Int32.toBitVec_xor, BitVec.getLsbD_xor]
theorem b_big {x : Int32} {i : Nat} (h : 32 ≤ i) : bt x i = false := BitVec.getLsbD_of_ge _ _ h
theorem b_255 (i : Nat) : bt 255 i = decide (i < 8) := by
  rcases Nat.lt_or_ge i 32 with h | h
  · exact (by decide +kernel : ∀ i, i < 32 → bt 255 i = decide (i < 8)) i h
  · rw [b_big h, decide_eq_false (by omega)]
theorem s_l : ∀ n, n < 32 → ((nI n &&& 31).toBitVec.smod 32).toNat = n := by decide +kernel
theorem nx_and (a b : Nat) : nI a &&& nI b = nI (a &&& b) := by
  apply Int32.toBitVec_inj.1
  show BitVec.ofNat 32 a &&& BitVec.ofNat 32 b = BitVec.ofNat 32 (a &&& b)
  apply BitVec.eq_of_getLsbD_eq
  intro i hi
  simp [hi]
theorem nx_xor (a b : Nat) : nI a ^^^ nI b = nI (a ^^^ b) := by
  apply Int32.toBitVec_inj.1
  show BitVec.ofNat 32 a ^^^ BitVec.ofNat 32 b = BitVec.ofNat 32 (a ^^^ b)
  apply BitVec.eq_of_getLsbD_eq
  intro i hi
  simp [hi]
end
section
/-! pure facts: naturals below a bound, the pending bits as an array, one bit by a shift -/
def tk_lt (m : Nat) (x : Int32) : Prop := ∃ n : Nat, n < m ∧ x = nI n
theorem tk_mk {m n : Nat} (h : n < m) : tk_lt m (nI n) := ⟨n, h, rfl⟩
theorem tk_0 {m : Nat} (h : 0 < m) : tk_lt m 0 := ⟨0, h, nI_0.symm⟩
theorem tk_le {m k : Nat} {x : Int32} (h : tk_lt m x) (hk : m ≤ k) : tk_lt k x := by
  obtain ⟨n, hn, e⟩ := h
  exact ⟨n, Nat.lt_of_lt_of_le hn hk, e⟩
theorem tk_b (x : Int32) : tk_lt 256 (x &&& 255) := by
  obtain ⟨j, hj, e⟩ := pk_andE x (m := 255) 8 (by decide)
  exact ⟨j, hj, e⟩
theorem tk_7 (x : Int32) : tk_lt 8 (x &&& 7) := by
  obtain ⟨j, hj, e⟩ := pk_andE x (m := 7) 3 (by decide)
  exact ⟨j, hj, e⟩
theorem tk_31 (x : Int32) : tk_lt 32 (x &&& 31) := by
  obtain ⟨j, hj, e⟩ := pk_andE x (m := 31) 5 (by decide)
  exact ⟨j, hj, e⟩
theorem tk_in {m : Nat} {x : Int32} (h : tk_lt m x) (hm : m < 2 ^ 31) : vp_in x m := by
  obtain ⟨n, hn, rfl⟩ := h
  exact vp_in_nI hn hm
theorem tk_upd {m k : Nat} {f : Nat → Int32} {x : Int32} (h : ∀ j, tk_lt m (f j)) (hx : tk_lt m x) : ∀ j, tk_lt m (upd f k x j) := by
  intro j
  unfold upd
  by_cases e : j = k
  · rw [if_pos e]; exact hx
  · rw [if_neg e]; exact h j
theorem tk_or (a b : Nat) : nI a ||| nI b = nI (a ||| b) := by
  apply Int32.toBitVec_inj.1
  show BitVec.ofNat 32 a ||| BitVec.ofNat 32 b = BitVec.ofNat 32 (a ||| b)
  apply BitVec.eq_of_getLsbD_eq
  intro i hi
  simp [hi]
theorem tk_255 {x : Int32} (h : tk_lt 256 x) : x &&& 255 = x := by
  obtain ⟨n, hn, rfl⟩ := h
  rw [pk_andN (by omega) (m := 255) 8 (by decide), Nat.mod_eq_of_lt hn]
theorem tk_and2 {x y : Int32} (h : tk_lt 256 x) : (x &&& y) &&& 255 = x &&& y := by
  rw [Int32.and_assoc, Int32.and_comm y, ← Int32.and_assoc, tk_255 h]
theorem tk_andB {x y : Int32} (h : tk_lt 256 x) : tk_lt 256 (x &&& y) := by
  rw [← tk_and2 h]; exact tk_b _
theorem tk_xorB {x y : Int32} (h : tk_lt 256 x) (h' : tk_lt 256 y) : tk_lt 256 (x ^^^ y) := by
  obtain ⟨a, ha, rfl⟩ := h
  obtain ⟨b, hb, rfl⟩ := h'
  rw [nx_xor]
  exact ⟨_, Nat.xor_lt_two_pow (n := 8) ha hb, rfl⟩
theorem tk_shr {x : Int32} (h : tk_lt 256 x) : tk_lt 256 (x >>> ((1 : Int32) &&& 31)) := by
  obtain ⟨a, ha, rfl⟩ := h
  rw [pk_shrN (by omega) _ 1 (by decide)]
  exact ⟨_, by omega, rfl⟩
/-! the pending array of the reference, as the bits of a number -/
def tk_q (n : Nat) : Nat → Int32 := fun k => if n.testBit k then 1 else 0
theorem tk_q0 : tk_q 0 = fun _ => 0 := by
  funext k
  simp [tk_q]
theorem tk_q01 (n k : Nat) : tk_q n k = 0 ∨ tk_q n k = 1 := by
  unfold tk_q
  cases n.testBit k
  · exact Or.inl rfl
  · exact Or.inr rfl
theorem tk_qt {n k : Nat} (h : n.testBit k = true) : tk_q n k = 1 := by unfold tk_q; rw [if_pos h]
theorem tk_qf {n k : Nat} (h : n.testBit k = false) : tk_q n k = 0 := by unfold tk_q; rw [h]; rfl
theorem tk_set (n k : Nat) : upd (tk_q n) k 1 = tk_q (n ||| 2 ^ k) := by
  funext j
  unfold upd tk_q
  rw [Nat.testBit_or, Nat.testBit_two_pow]
  by_cases h : j = k
  · subst h; simp
  · have h' : ¬ k = j := fun e => h e.symm
    simp [h, h']
theorem tk_setlt {n k : Nat} (hn : n < 512) (hk : k < 9) : n ||| 2 ^ k < 512 := Nat.or_lt_two_pow (n := 9) hn (Nat.pow_lt_pow_right (by decide) hk)
theorem tk_tb : ∀ a, a < 512 → ∀ j, j < 9 → (511 - a).testBit j = !(a.testBit j) := by decide +kernel
theorem tk_hi {n j : Nat} (hn : n < 512) (hj : 9 ≤ j) : n.testBit j = false := Nat.testBit_lt_two_pow (Nat.lt_of_lt_of_le hn (Nat.pow_le_pow_right (n := 2) (by decide) hj))
theorem tk_clr {n a : Nat} (hn : n < 512) (ha : a < 512) (j : Nat) : tk_q (n &&& (511 - a)) j = if a.testBit j = true then 0 else tk_q n j := by
  unfold tk_q
  rw [Nat.testBit_and]
  by_cases hj : j < 9
  · rw [tk_tb a ha j hj]
    cases a.testBit j <;> cases n.testBit j <;> rfl
  · rw [tk_hi hn (by omega)]
    cases a.testBit j <;> rfl
theorem tk_clrlt {n a : Nat} (hn : n < 512) : n &&& (511 - a) < 512 := Nat.lt_of_le_of_lt Nat.and_le_left hn
theorem tk_unset {n k : Nat} (hn : n < 512) (hk : k < 9) : upd (tk_q n) k 0 = tk_q (n &&& (511 - 2 ^ k)) := by
  funext j
  rw [tk_clr hn (show 2 ^ k < 2 ^ 9 from Nat.pow_lt_pow_right (by decide) hk), Nat.testBit_two_pow]
  unfold upd
  by_cases h : j = k
  · subst h; simp
  · have h' : ¬ k = j := fun e => h e.symm
    simp [h, h']
theorem tk_n511 {n : Nat} (h : n < 512) (x : Int32) : nI n &&& x = nI n &&& (nI 511 &&& x) := by
  have e : nI n &&& nI 511 = nI n := by
    rw [nx_and, show (511 : Nat) = 2 ^ 9 - 1 from rfl, Nat.and_two_pow_sub_one_eq_mod, Nat.mod_eq_of_lt h]
  rw [← Int32.and_assoc, e]
theorem tk_cv : ∀ a, a < 256 → nI 511 &&& (nI a ^^^ (-1)) = nI (511 - a) := by decide +kernel
theorem tk_ck : ∀ k, k < 9 → nI 511 &&& (((1 : Int32) <<< (nI k &&& 31)) ^^^ (-1)) = nI (511 - 2 ^ k) := by decide +kernel
theorem tk_clrV {n a : Nat} (hn : n < 512) (ha : a < 256) : nI n &&& (nI a ^^^ (-1)) = nI (n &&& (511 - a)) := by
  rw [tk_n511 hn, tk_cv a ha, nx_and]
theorem tk_clrK {n k : Nat} (hn : n < 512) (hk : k < 9) : nI n &&& (((1 : Int32) <<< (nI k &&& 31)) ^^^ (-1)) = nI (n &&& (511 - 2 ^ k)) := by
  rw [tk_n511 hn, tk_ck k hk, nx_and]
theorem tk_shr1 {a k : Nat} (ha : a < 2 ^ 31) (hk : k < 32) : (nI a >>> (nI k &&& 31)) &&& 1 = tk_q a k := by
  have hd : a / 2 ^ k ≤ a := Nat.div_le_self a (2 ^ k)
  rw [pk_shrN ha _ k (s_l k hk), pk_andN (by omega) (m := 1) 1 (by decide)]
  unfold tk_q
  rw [Nat.testBit_eq_decide_div_mod_eq]
  generalize a / 2 ^ k = z
  rcases (by omega : z % 2 = 0 ∨ z % 2 = 1) with h | h
  · rw [show z % 2 ^ 1 = 0 from h]; rfl
  · rw [show z % 2 ^ 1 = 1 from h]; rfl
theorem tk_xor (o v k : Nat) : tk_q (o ^^^ v) k = if tk_q v k = tk_q o k then 0 else 1 := by
  unfold tk_q
  rw [Nat.testBit_xor]
  cases o.testBit k <;> cases v.testBit k <;> rfl
theorem tk_least (r : Nat) : ∀ m, (∀ j, j < m → r.testBit j = false) ∨ ∃ k, k < m ∧ r.testBit k = true ∧ ∀ j, j < k → r.testBit j = false := by
  intro m
  induction m with
  | zero => exact Or.inl (fun j hj => absurd hj (Nat.not_lt_zero j))
  | succ m ih =>
    rcases ih with h | ⟨k, hk, h1, h2⟩
    · cases e : r.testBit m
      · refine Or.inl (fun j hj => ?_)
        rcases (by omega : j < m ∨ j = m) with z | z
        · exact h j z
        · rw [z]; exact e
      · exact Or.inr ⟨m, Nat.lt_succ_self m, e, h⟩
    · exact Or.inr ⟨k, by omega, h1, h2⟩
theorem tk_none {r : Nat} (h : r < 512) (hz : ∀ j, j < 9 → r.testBit j = false) : r = 0 := by
  apply Nat.eq_of_testBit_eq
  intro i
  rw [Nat.zero_testBit]
  by_cases hi : i < 9
  · exact hz i hi
  · exact tk_hi h (by omega)
theorem tk_some {r k : Nat} (h : r.testBit k = true) : r ≠ 0 := by
  intro e
  rw [e, Nat.zero_testBit] at h
  cases h
theorem tk_sum (n i : Nat) : n % 2 ^ (i + 1) = n % 2 ^ i + (if n.testBit i = true then 2 ^ i else 0) := by
  rw [Nat.testBit_eq_decide_div_mod_eq, Nat.mod_pow_succ]
  generalize n / 2 ^ i = z
  rcases (by omega : z % 2 = 0 ∨ z % 2 = 1) with h | h
  · rw [h]; simp
  · rw [h]; simp
/-! the enabled interrupts as one number -/
def tk_E (a b c d e f : Nat) : Nat := a / 8 % 4 + 4 * (b / 8 % 4) + 16 * (c / 8 % 4) + 64 * (d / 8 % 2) + 128 * (e / 8 % 2) + 256 * f
theorem tk_s3 : ∀ x, x < 256 → (nI x >>> ((3 : Int32) &&& 31)) &&& 3 = nI (x / 8 % 4) := by decide +kernel
theorem tk_s1 : ∀ x, x < 256 → (nI x >>> ((3 : Int32) &&& 31)) &&& 1 = nI (x / 8 % 2) := by decide +kernel
theorem tk_s41 : ∀ x, x < 256 → (nI x >>> ((4 : Int32) &&& 31)) &&& 1 = nI (x / 8 % 4 / 2) := by decide +kernel
theorem tk_s31 : ∀ x, x < 256 → (nI x >>> ((3 : Int32) &&& 31)) &&& 1 = nI (x / 8 % 4 % 2) := by decide +kernel
theorem tk_s8 : ∀ x, x < 256 → ((nI x &&& 8 = 0) ↔ x / 8 % 2 = 0) := by decide +kernel
theorem tk_or5 : ∀ a, a < 4 → ∀ b, b < 4 → ∀ c, c < 4 → ∀ d, d < 2 → ∀ e, e < 2 → (((nI a ||| (nI b <<< ((2 : Int32) &&& 31))) ||| (nI c <<< ((4 : Int32) &&& 31))) ||| (nI d <<< ((6 : Int32) &&& 31))) ||| (nI e <<< ((7 : Int32) &&& 31)) = nI (a + 4 * b + 16 * c + 64 * d + 128 * e) := by decide +kernel
theorem tk_or6 : ∀ r, r < 256 → nI r ||| 256 = nI (r + 256) := by decide +kernel
theorem tk_E0 {a b c d e f : Nat} (ha : a < 4) (hb : b < 4) (hc : c < 4) (hd : d < 2) (he : e < 2) (hf : f < 2) : (a + 4 * b + 16 * c + 64 * d + 128 * e + 256 * f).testBit 0 = decide (a % 2 = 1) := by
  rw [Nat.testBit_eq_decide_div_mod_eq]
  exact decide_eq_decide.mpr (by omega)
theorem tk_E1 {a b c d e f : Nat} (ha : a < 4) (hb : b < 4) (hc : c < 4) (hd : d < 2) (he : e < 2) (hf : f < 2) : (a + 4 * b + 16 * c + 64 * d + 128 * e + 256 * f).testBit 1 = decide (a / 2 = 1) := by
  rw [Nat.testBit_eq_decide_div_mod_eq]
  exact decide_eq_decide.mpr (by omega)
theorem tk_E2 {a b c d e f : Nat} (ha : a < 4) (hb : b < 4) (hc : c < 4) (hd : d < 2) (he : e < 2) (hf : f < 2) : (a + 4 * b + 16 * c + 64 * d + 128 * e + 256 * f).testBit 2 = decide (b % 2 = 1) := by
  rw [Nat.testBit_eq_decide_div_mod_eq]
  exact decide_eq_decide.mpr (by omega)
theorem tk_E3 {a b c d e f : Nat} (ha : a < 4) (hb : b < 4) (hc : c < 4) (hd : d < 2) (he : e < 2) (hf : f < 2) : (a + 4 * b + 16 * c + 64 * d + 128 * e + 256 * f).testBit 3 = decide (b / 2 = 1) := by
  rw [Nat.testBit_eq_decide_div_mod_eq]
  exact decide_eq_decide.mpr (by omega)
theorem tk_E4 {a b c d e f : Nat} (ha : a < 4) (hb : b < 4) (hc : c < 4) (hd : d < 2) (he : e < 2) (hf : f < 2) : (a + 4 * b + 16 * c + 64 * d + 128 * e + 256 * f).testBit 4 = decide (c % 2 = 1) := by
  rw [Nat.testBit_eq_decide_div_mod_eq]
  exact decide_eq_decide.mpr (by omega)
theorem tk_E5 {a b c d e f : Nat} (ha : a < 4) (hb : b < 4) (hc : c < 4) (hd : d < 2) (he : e < 2) (hf : f < 2) : (a + 4 * b + 16 * c + 64 * d + 128 * e + 256 * f).testBit 5 = decide (c / 2 = 1) := by
  rw [Nat.testBit_eq_decide_div_mod_eq]
  exact decide_eq_decide.mpr (by omega)
theorem tk_E6 {a b c d e f : Nat} (ha : a < 4) (hb : b < 4) (hc : c < 4) (hd : d < 2) (he : e < 2) (hf : f < 2) : (a + 4 * b + 16 * c + 64 * d + 128 * e + 256 * f).testBit 6 = decide (d = 1) := by
  rw [Nat.testBit_eq_decide_div_mod_eq]
  exact decide_eq_decide.mpr (by omega)
theorem tk_E7 {a b c d e f : Nat} (ha : a < 4) (hb : b < 4) (hc : c < 4) (hd : d < 2) (he : e < 2) (hf : f < 2) : (a + 4 * b + 16 * c + 64 * d + 128 * e + 256 * f).testBit 7 = decide (e = 1) := by
  rw [Nat.testBit_eq_decide_div_mod_eq]
  exact decide_eq_decide.mpr (by omega)
theorem tk_E8 {a b c d e f : Nat} (ha : a < 4) (hb : b < 4) (hc : c < 4) (hd : d < 2) (he : e < 2) (hf : f < 2) : (a + 4 * b + 16 * c + 64 * d + 128 * e + 256 * f).testBit 8 = decide (f = 1) := by
  rw [Nat.testBit_eq_decide_div_mod_eq]
  exact decide_eq_decide.mpr (by omega)
/-! counting and the converter's port -/
theorem tk_inc : ∀ c, c < 256 → (nI c + 1) &&& 255 = nI ((c + 1) % 256) := by decide +kernel
theorem tk_cm4 : ∀ c, c < 256 → ∃ m, m < 252 ∧ nI c &&& (-5) = nI m := by
  intro c hc
  exact ⟨c - c / 4 % 2 * 4, (by decide +kernel : ∀ c, c < 256 → c - c / 4 % 2 * 4 < 252) c hc, (by decide +kernel : ∀ c, c < 256 → nI c &&& (-5) = nI (c - c / 4 % 2 * 4)) c hc⟩
theorem tk_cm3 : ∀ c, c < 256 → (nI c &&& (-5)) &&& 3 = nI c &&& 3 := by decide +kernel
theorem tk_cm8 : ∀ c, c < 256 → (nI c &&& (-5)) &&& 8 = nI c &&& 8 := by decide +kernel
theorem tk_24 : ∀ c, c < 256 → nI c &&& 24 = nI (c / 8 % 4 * 8) := by decide +kernel
theorem tk_15 : ∀ c, c < 256 → nI c &&& 15 = nI (c % 16) := by decide +kernel
theorem tk_a8 : ∀ c, c < 256 → nI c &&& 8 = nI (c / 8 % 2 * 8) := by decide +kernel
theorem tk_pins {a v c : Int32} (hc : c &&& 255 = c) : (a ^^^ (v &&& 255)) &&& c = ((a ^^^ v) &&& c) &&& 255 := by
  apply b_ext
  intro i _
  have h := congrArg (fun z => bt z i) hc
  simp only [b_and, b_xor] at h ⊢
  revert h
  cases bt a i <;> cases bt v i <;> cases bt c i <;> cases bt 255 i <;> simp
end
section
/-! the relation: both states as functions of shared names; what holds of them -/
def tk_d (P : Nat → Int32) (i : Nat) : Nat → Int32 := fun j => if j = 0 then P i else if j = 1 then P (i + 3) else 0
theorem tk_d0 (P : Nat → Int32) (i : Nat) (x : Int32) : upd (tk_d P i) 0 x = tk_d (upd P i x) i := by
  funext j
  by_cases h : j = 0
  · subst h
    show x = upd P i x i
    exact pk_us.symm
  · rw [pk_un h]
    unfold tk_d
    rw [if_neg h, if_neg h, pk_un (by omega : i + 3 ≠ i)]
theorem tk_d1 (P : Nat → Int32) (i : Nat) (x : Int32) : upd (tk_d P i) 1 x = tk_d (upd P (i + 3) x) i := by
  funext j
  by_cases h : j = 1
  · subst h
    show x = upd P (i + 3) x (i + 3)
    exact pk_us.symm
  · rw [pk_un h]
    unfold tk_d
    by_cases h0 : j = 0
    · rw [if_pos h0, if_pos h0, pk_un (by omega : i ≠ i + 3)]
    · rw [if_neg h0, if_neg h, if_neg h0, if_neg h]
def tk_I1 (len : Int32) (ops ve an : Nat → Int32) : Prop := tk_lt 49 len ∧ (∀ j, tk_lt 27 (ops j)) ∧ (∀ j, tk_lt 48 (ve j)) ∧ (∀ j, tk_lt 256 (an j))
def tk_I2 (pc dp : Int32) (rg me st : Nat → Int32) : Prop := tk_lt 256 pc ∧ tk_lt 17 dp ∧ (∀ j, tk_lt 256 (rg j)) ∧ (∀ j, tk_lt 256 (me j)) ∧ (∀ j, tk_lt 256 (st j))
def tk_I3 (cv : Int32) (P : Nat → Int32) : Prop := tk_lt 256 cv ∧ P 9 = cv &&& (-5) ∧ (∀ j, tk_lt 256 (P j)) ∧ tk_lt 32 (P 7) ∧ tk_lt 16 (P 16) ∧ tk_lt 16 (P 18)
def tk_I4 (n S T : Nat) (rx ov sl cl yb ya yl : Int32) (so : Nat → Int32) : Prop := n < 512 ∧ S ≤ T ∧ tk_lt 2 rx ∧ tk_lt 2 ov ∧ tk_lt 2049 sl ∧ tk_lt 53 cl ∧ tk_lt 256 yb ∧ tk_lt 16 ya ∧ tk_lt 41 yl ∧ (∀ j, tk_lt 256 (so j))
def tk_W (x w s : Int32) : Prop := x &&& 7 = 0 ∨ (w = s ∧ ∃ L m : Nat, 0 < L ∧ L < 8 ∧ x &&& 7 = nI L ∧ m < 2 ^ (L + 4) ∧ w = nI m)
def tk_R (T : Nat) (pa ha : Int32) (u : SX) (v : SY) : Prop := ∃ (n S : Nat) (len pc z c al dp sp re ta ed rx ov sb sl cl yb ya yl w cv si : Int32) (ops oa ob ve rg me st an so li P : Nat → Int32), u = (len, pc, z, c, al, dp, sp, ha, nI T, re, ta, ed, nI n, rx, ov, sb, sl, nI S, cl, yb, ya, yl, w, ops, oa, ob, ve, rg, me, st, an, so, li, P) ∧ v = (len, P 13, z, c, al, sp, ha, dp, pc, nI T, pa, ta, re, ed, nI S, P 6, P 7, P 8, cv, P 10, P 12, P 14, P 16, P 18, P 19, si, rx, ov, sl, sb, cl, yl, yb, ya, ops, oa, ob, ve, an, so, rg, me, st, li, tk_q n, tk_d P 0, tk_d P 1, tk_d P 2) ∧ tk_I1 len ops ve an ∧ tk_I2 pc dp rg me st ∧ tk_I3 cv P ∧ tk_I4 n S T rx ov sl cl yb ya yl so ∧ tk_W (P 14) w si
def i_Rel (_ : Nat) (u : SX) (v : SY) : Prop := ∃ (T : Nat) (pa ha : Int32), T ≤ 1000003002 ∧ tk_R T pa ha u v
end
section
/-! the output pins, and the timers -/
section
variable {n T S : Nat} {len pc z c al dp sp ha re ta ed rx ov sb sl cl yb ya yl w pa cv si : Int32} {ops oa ob ve rg me st an so li P : Nat → Int32}
theorem tk_nb1 : vp_nar .boolean 1 = 1 := by decide
theorem tk_nb0 : vp_nar .boolean 0 = 0 := by decide
theorem tk_setN (n k : Nat) : upd (tk_q n) k (vp_nar .boolean 1) = tk_q (n ||| 2 ^ k) := by rw [tk_nb1, tk_set]
theorem sh_loop {o v : Nat} (ho : o < 256) (hv : v < 256) (hP : P 12 = nI o) : ∀ (d j : Nat) (ed : Int32), j + d = 8 → ∃ ed' : Int32,
    (∀ post : SX → Prop, post (len, pc, z, c, al, dp, sp, ha, nI T, re, ta, ed', nI n, rx, ov, sb, sl, nI S, cl, yb, ya, yl, w, ops, oa, ob, ve, rg, me, st, an, so, li, upd P 12 (nI v)) → wX_setOutputPins_12 post (nI v) (nI (o ^^^ v)) len pc z c al dp sp ha (nI T) re ta (nI n) rx ov sb sl (nI S) cl yb ya yl w ops oa ob ve rg me st an so li P (d + 1) (nI j) ed) ∧
    (∀ post : SY → Prop, post (len, (upd P 12 (nI v)) 13, z, c, al, sp, ha, dp, pc, nI T, pa, ta, re, ed', nI S, (upd P 12 (nI v)) 6, (upd P 12 (nI v)) 7, (upd P 12 (nI v)) 8, cv, (upd P 12 (nI v)) 10, (upd P 12 (nI v)) 12, (upd P 12 (nI v)) 14, (upd P 12 (nI v)) 16, (upd P 12 (nI v)) 18, (upd P 12 (nI v)) 19, si, rx, ov, sl, sb, cl, yl, yb, ya, ops, oa, ob, ve, an, so, rg, me, st, li, tk_q n, tk_d (upd P 12 (nI v)) 0, tk_d (upd P 12 (nI v)) 1, tk_d (upd P 12 (nI v)) 2) → wY_show_2 post (nI v) len (P 13) z c al sp ha dp pc (nI T) pa ta re (nI S) (P 6) (P 7) (P 8) cv (P 10) (P 12) (P 14) (P 16) (P 18) (P 19) si rx ov sl sb cl yl yb ya ops oa ob ve an so rg me st li (tk_q n) (tk_d P 0) (tk_d P 1) (tk_d P 2) (d + 1) (nI j) ed) := by
  intro d
  induction d with
  | zero =>
    intro j ed hj
    have h : (8 : Int32) ≤ nI j := nI_le (a := 8) (by omega) (by omega)
    exact ⟨ed, fun post hp => br_t h (nm_e hp), fun post hp => br_t h hp⟩
  | succ d ih =>
    intro j ed hj
    have h : ¬ (8 : Int32) ≤ nI j := nI_ge (b := 8) (by omega) (by decide)
    have bX : (nI (o ^^^ v) >>> (nI j &&& 31)) &&& 1 = tk_q (o ^^^ v) j := tk_shr1 (Nat.lt_trans (Nat.xor_lt_two_pow (n := 8) ho hv) (by decide)) (by omega)
    have bV : (nI v >>> (nI j &&& 31)) &&& 1 = tk_q v j := tk_shr1 (by omega) (by omega)
    have bO : (P 12 >>> (nI j &&& 31)) &&& 1 = tk_q o j := by rw [hP]; exact tk_shr1 (by omega) (by omega)
    by_cases e : tk_q v j = tk_q o j
    · have bx : ed + ((nI (o ^^^ v) >>> (nI j &&& 31)) &&& 1) = ed := by rw [bX, tk_xor, if_pos e, Int32.add_zero]
      obtain ⟨ed', hX, hY⟩ := ih (j + 1) ed (by omega)
      exact ⟨ed', fun post hp => br_f h (nm_r bx (nm_r (nI_1 j) (hX post hp))), fun post hp => br_f h (br_t (bV.trans (e.trans bO.symm)) (nm_r (nI_1 j) (hY post hp)))⟩
    · have bx : ed + ((nI (o ^^^ v) >>> (nI j &&& 31)) &&& 1) = ed + 1 := by rw [bX, tk_xor, if_neg e]
      obtain ⟨ed', hX, hY⟩ := ih (j + 1) (ed + 1) (by omega)
      exact ⟨ed', fun post hp => br_f h (nm_r bx (nm_r (nI_1 j) (hX post hp))), fun post hp => br_f h (br_f (fun q => e (bV.symm.trans (q.trans bO))) (nm_e (nm_r (nI_1 j) (hY post hp))))⟩
theorem sh_pins {o v : Nat} (ho : o < 256) (hv : v < 256) (hP : P 12 = nI o) : ∃ ed' : Int32,
    (∀ post : SX → Prop, post (len, pc, z, c, al, dp, sp, ha, nI T, re, ta, ed', nI n, rx, ov, sb, sl, nI S, cl, yb, ya, yl, w, ops, oa, ob, ve, rg, me, st, an, so, li, upd P 12 (nI v)) → wpX_setOutputPins post (len, pc, z, c, al, dp, sp, ha, nI T, re, ta, ed, nI n, rx, ov, sb, sl, nI S, cl, yb, ya, yl, w, ops, oa, ob, ve, rg, me, st, an, so, li, P) (nI v)) ∧
    (∀ post : SY → Prop, post (len, (upd P 12 (nI v)) 13, z, c, al, sp, ha, dp, pc, nI T, pa, ta, re, ed', nI S, (upd P 12 (nI v)) 6, (upd P 12 (nI v)) 7, (upd P 12 (nI v)) 8, cv, (upd P 12 (nI v)) 10, (upd P 12 (nI v)) 12, (upd P 12 (nI v)) 14, (upd P 12 (nI v)) 16, (upd P 12 (nI v)) 18, (upd P 12 (nI v)) 19, si, rx, ov, sl, sb, cl, yl, yb, ya, ops, oa, ob, ve, an, so, rg, me, st, li, tk_q n, tk_d (upd P 12 (nI v)) 0, tk_d (upd P 12 (nI v)) 1, tk_d (upd P 12 (nI v)) 2) → wpY_show post (len, P 13, z, c, al, sp, ha, dp, pc, nI T, pa, ta, re, ed, nI S, P 6, P 7, P 8, cv, P 10, P 12, P 14, P 16, P 18, P 19, si, rx, ov, sl, sb, cl, yl, yb, ya, ops, oa, ob, ve, an, so, rg, me, st, li, tk_q n, tk_d P 0, tk_d P 1, tk_d P 2) (nI v)) := by
  obtain ⟨ed', hX, hY⟩ := sh_loop (n := n) (T := T) (S := S) (len := len) (pc := pc) (z := z) (c := c) (al := al) (dp := dp) (sp := sp) (ha := ha) (re := re) (ta := ta) (rx := rx) (ov := ov) (sb := sb) (sl := sl) (cl := cl) (yb := yb) (ya := ya) (yl := yl) (w := w) (pa := pa) (cv := cv) (si := si) (ops := ops) (oa := oa) (ob := ob) (ve := ve) (rg := rg) (me := me) (st := st) (an := an) (so := so) (li := li) (P := P) ho hv hP 8 0 ed rfl
  refine ⟨ed', fun post hp => ?_, fun post hp => ?_⟩
  · unfold wpX_setOutputPins
    exact nm_r (by rw [hP, nx_xor]) ⟨9, hX post hp⟩
  · unfold wpY_show
    exact ⟨9, hY post hp⟩
end
end
section
/-! the timers -/
section
variable {n T S : Nat} {len pc z c al dp sp ha re ta ed rx ov sb sl cl yb ya yl w pa cv si : Int32} {ops oa ob ve rg me st an so li P : Nat → Int32}
theorem tk_3up (h : tk_I3 cv P) {k : Nat} {x : Int32} (h7 : 7 ≠ k) (h9 : 9 ≠ k) (h16 : 16 ≠ k) (h18 : 18 ≠ k) (hx : tk_lt 256 x) : tk_I3 cv (upd P k x) :=
  ⟨h.1, by rw [pk_un h9]; exact h.2.1, tk_upd h.2.2.1 hx, by rw [pk_un h7]; exact h.2.2.2.1, by rw [pk_un h16]; exact h.2.2.2.2.1, by rw [pk_un h18]; exact h.2.2.2.2.2⟩
theorem tk_uu (P : Nat → Int32) (k : Nat) (x y : Int32) : upd (upd P k x) k y = upd P k y := by
  funext j
  unfold upd
  by_cases h : j = k
  · rw [if_pos h, if_pos h]
  · rw [if_neg h, if_neg h, if_neg h]
theorem te_0 (h3 : tk_I3 cv P) (hn : n < 512) : ∃ (n' : Nat) (ed' : Int32) (P' : Nat → Int32), n' < 512 ∧ tk_I3 cv P' ∧ P' 14 = P 14 ∧
    (∀ post : SX → Prop, post (len, pc, z, c, al, dp, sp, ha, nI T, re, ta, ed', nI n', rx, ov, sb, sl, nI S, cl, yb, ya, yl, w, ops, oa, ob, ve, rg, me, st, an, so, li, P') → wX_passTimer_102 post 0 0 (P 1) (P 2) len pc z c al dp sp ha (nI T) re ta ed (nI n) rx ov sb sl (nI S) cl yb ya yl w ops oa ob ve rg me st an so li P) ∧
    (∀ post : SY → Prop, post (len, P' 13, z, c, al, sp, ha, dp, pc, nI T, pa, ta, re, ed', nI S, P' 6, P' 7, P' 8, cv, P' 10, P' 12, P' 14, P' 16, P' 18, P' 19, si, rx, ov, sl, sb, cl, yl, yb, ya, ops, oa, ob, ve, an, so, rg, me, st, li, tk_q n', tk_d P' 0, tk_d P' 1, tk_d P' 2) → wY_timer_119 post 0 len (P 13) z c al sp ha dp pc (nI T) pa ta re ed (nI S) (P 6) (P 7) (P 8) cv (P 10) (P 12) (P 14) (P 16) (P 18) (P 19) si rx ov sl sb cl yl yb ya ops oa ob ve an so rg me st li (tk_q n) (tk_d P 0) (tk_d P 1) (tk_d P 2)) := by
  have pe : nI n ||| ((1 : Int32) <<< ((2 * 0) &&& 31)) = nI (n ||| 2 ^ 0) := by
    rw [show ((1 : Int32) <<< ((2 * 0) &&& 31)) = nI (2 ^ 0) from by decide]
    exact tk_or n (2 ^ 0)
  have hk : n ||| 2 ^ 0 < 512 := tk_setlt hn (by decide)
  by_cases e : P 0 = P 2
  · by_cases b : P 1 &&& 32 = 0
    · exact ⟨n ||| 2 ^ 0, ed, P, hk, h3, rfl, fun post hp => ⟨(vp_in_iff.mpr (by decide)), br_t e (nm_r pe (br_t b hp))⟩, fun post hp => ⟨(vp_in_iff.mpr (by decide)), (vp_in_iff.mpr (by decide)), br_t e ⟨(vp_in_iff.mpr (by decide)), nm_r (tk_setN n 0) ⟨(vp_in_iff.mpr (by decide)), br_t b hp⟩⟩⟩⟩
    · obtain ⟨o, ho, eo⟩ := h3.2.2.1 12
      have hx : P 12 ^^^ ((1 : Int32) <<< ((0 : Int32) &&& 31)) = nI (o ^^^ 2 ^ 0) := by
        rw [eo, show ((1 : Int32) <<< ((0 : Int32) &&& 31)) = nI (2 ^ 0) from by decide, nx_xor]
      have hv : o ^^^ 2 ^ 0 < 256 := Nat.xor_lt_two_pow (n := 8) ho (by decide)
      obtain ⟨ed', hX, hY⟩ := sh_pins (n := n ||| 2 ^ 0) (T := T) (S := S) (len := len) (pc := pc) (z := z) (c := c) (al := al) (dp := dp) (sp := sp) (ha := ha) (re := re) (ta := ta) (ed := ed) (rx := rx) (ov := ov) (sb := sb) (sl := sl) (cl := cl) (yb := yb) (ya := ya) (yl := yl) (w := w) (pa := pa) (cv := cv) (si := si) (ops := ops) (oa := oa) (ob := ob) (ve := ve) (rg := rg) (me := me) (st := st) (an := an) (so := so) (li := li) (P := P) ho hv eo
      refine ⟨n ||| 2 ^ 0, ed', upd P 12 (nI (o ^^^ 2 ^ 0)), hk, tk_3up h3 (by decide) (by decide) (by decide) (by decide) (tk_mk hv), rfl, fun post hp => ⟨(vp_in_iff.mpr (by decide)), br_t e (nm_r pe (br_f b ?_))⟩, fun post hp => ⟨(vp_in_iff.mpr (by decide)), (vp_in_iff.mpr (by decide)), br_t e ⟨(vp_in_iff.mpr (by decide)), nm_r (tk_setN n 0) ⟨(vp_in_iff.mpr (by decide)), br_f b ?_⟩⟩⟩⟩
      · rw [hx]; exact hX _ hp
      · rw [hx]; exact hY _ hp
  · exact ⟨n, ed, P, hn, h3, rfl, fun post hp => ⟨(vp_in_iff.mpr (by decide)), br_f e hp⟩, fun post hp => ⟨(vp_in_iff.mpr (by decide)), (vp_in_iff.mpr (by decide)), br_f e hp⟩⟩
theorem tt_0 : ((∀ post : Int32 → Prop, post 0 → wpX_ticksNow post (len, pc, z, c, al, dp, sp, ha, nI T, re, ta, ed, nI n, rx, ov, sb, sl, nI S, cl, yb, ya, yl, w, ops, oa, ob, ve, rg, me, st, an, so, li, P) (P 1 &&& 3)) ∧ (∀ post : SY → Prop, post (len, P 13, z, c, al, sp, ha, dp, pc, nI T, pa, ta, re, ed, nI S, P 6, P 7, P 8, cv, P 10, P 12, P 14, P 16, P 18, P 19, si, rx, ov, sl, sb, cl, yl, yb, ya, ops, oa, ob, ve, an, so, rg, me, st, li, tk_q n, tk_d P 0, tk_d P 1, tk_d P 2) → wpY_timer post (len, P 13, z, c, al, sp, ha, dp, pc, nI T, pa, ta, re, ed, nI S, P 6, P 7, P 8, cv, P 10, P 12, P 14, P 16, P 18, P 19, si, rx, ov, sl, sb, cl, yl, yb, ya, ops, oa, ob, ve, an, so, rg, me, st, li, tk_q n, tk_d P 0, tk_d P 1, tk_d P 2) 0)) ∨ ((∀ post : Int32 → Prop, post 1 → wpX_ticksNow post (len, pc, z, c, al, dp, sp, ha, nI T, re, ta, ed, nI n, rx, ov, sb, sl, nI S, cl, yb, ya, yl, w, ops, oa, ob, ve, rg, me, st, an, so, li, P) (P 1 &&& 3)) ∧ (∀ post : SY → Prop, wY_timer_43 post 0 len (P 13) z c al sp ha dp pc (nI T) pa ta re ed (nI S) (P 6) (P 7) (P 8) cv (P 10) (P 12) (P 14) (P 16) (P 18) (P 19) si rx ov sl sb cl yl yb ya ops oa ob ve an so rg me st li (tk_q n) (tk_d P 0) (tk_d P 1) (tk_d P 2) → wpY_timer post (len, P 13, z, c, al, sp, ha, dp, pc, nI T, pa, ta, re, ed, nI S, P 6, P 7, P 8, cv, P 10, P 12, P 14, P 16, P 18, P 19, si, rx, ov, sl, sb, cl, yl, yb, ya, ops, oa, ob, ve, an, so, rg, me, st, li, tk_q n, tk_d P 0, tk_d P 1, tk_d P 2) 0)) := by
  obtain ⟨h, hh, e⟩ := pk_andE (P 1) (m := 3) 2 (by decide)
  rcases (by omega : h = 0 ∨ h = 1 ∨ h = 2 ∨ h = 3) with z | z | z | z <;> subst z
  · refine Or.inl ⟨fun post hp => ?_, fun post hp => ?_⟩
    · rw [e]; exact br_t (by decide) hp
    · exact ⟨(vp_in_iff.mpr (by decide)), nm_r e (br_t (by decide) hp)⟩
  · refine Or.inr ⟨fun post hp => ?_, fun post hp => ?_⟩
    · rw [e]; exact br_f (by decide) (br_f (by decide) (br_t (by decide) hp))
    · exact ⟨(vp_in_iff.mpr (by decide)), nm_r e (br_f (by decide) (br_f (by decide) (br_f (by decide) hp)))⟩
  · by_cases q : nI T - nI T / 4 * 4 = 0
    · refine Or.inr ⟨fun post hp => ?_, fun post hp => ?_⟩
      · rw [e]; exact br_f (by decide) (br_f (by decide) (br_f (by decide) (br_t (by decide) ⟨by decide, br_t q hp⟩)))
      · exact ⟨(vp_in_iff.mpr (by decide)), nm_r e (br_f (by decide) (br_t (by decide) ⟨by decide, br_t q (br_f (by decide) hp)⟩))⟩
    · refine Or.inl ⟨fun post hp => ?_, fun post hp => ?_⟩
      · rw [e]; exact br_f (by decide) (br_f (by decide) (br_f (by decide) (br_t (by decide) ⟨by decide, br_f q hp⟩)))
      · exact ⟨(vp_in_iff.mpr (by decide)), nm_r e (br_f (by decide) (br_t (by decide) ⟨by decide, br_f q hp⟩))⟩
  · by_cases q : nI T - nI T / 16 * 16 = 0
    · refine Or.inr ⟨fun post hp => ?_, fun post hp => ?_⟩
      · rw [e]; exact br_f (by decide) (br_f (by decide) (br_f (by decide) (br_f (by decide) (br_t (by decide) ⟨by decide, br_t q hp⟩))))
      · exact ⟨(vp_in_iff.mpr (by decide)), nm_r e (br_f (by decide) (br_f (by decide) (br_t (by decide) ⟨by decide, br_t q hp⟩)))⟩
    · refine Or.inl ⟨fun post hp => ?_, fun post hp => ?_⟩
      · rw [e]; exact br_f (by decide) (br_f (by decide) (br_f (by decide) (br_f (by decide) (br_t (by decide) ⟨by decide, br_f q hp⟩))))
      · exact ⟨(vp_in_iff.mpr (by decide)), nm_r e (br_f (by decide) (br_f (by decide) (br_t (by decide) ⟨by decide, br_f q hp⟩)))⟩
theorem tm_0 (h3 : tk_I3 cv P) (hn : n < 512) : ∃ (n' : Nat) (ed' : Int32) (P' : Nat → Int32), n' < 512 ∧ tk_I3 cv P' ∧ P' 14 = P 14 ∧
    (∀ post : SX → Prop, post (len, pc, z, c, al, dp, sp, ha, nI T, re, ta, ed', nI n', rx, ov, sb, sl, nI S, cl, yb, ya, yl, w, ops, oa, ob, ve, rg, me, st, an, so, li, P') → wpX_passTimer post (len, pc, z, c, al, dp, sp, ha, nI T, re, ta, ed, nI n, rx, ov, sb, sl, nI S, cl, yb, ya, yl, w, ops, oa, ob, ve, rg, me, st, an, so, li, P) 0) ∧
    (∀ post : SY → Prop, post (len, P' 13, z, c, al, sp, ha, dp, pc, nI T, pa, ta, re, ed', nI S, P' 6, P' 7, P' 8, cv, P' 10, P' 12, P' 14, P' 16, P' 18, P' 19, si, rx, ov, sl, sb, cl, yl, yb, ya, ops, oa, ob, ve, an, so, rg, me, st, li, tk_q n', tk_d P' 0, tk_d P' 1, tk_d P' 2) → wpY_timer post (len, P 13, z, c, al, sp, ha, dp, pc, nI T, pa, ta, re, ed, nI S, P 6, P 7, P 8, cv, P 10, P 12, P 14, P 16, P 18, P 19, si, rx, ov, sl, sb, cl, yl, yb, ya, ops, oa, ob, ve, an, so, rg, me, st, li, tk_q n, tk_d P 0, tk_d P 1, tk_d P 2) 0) := by
  have pe : nI n ||| ((2 : Int32) <<< ((2 * 0) &&& 31)) = nI (n ||| 2 ^ 1) := by
    rw [show ((2 : Int32) <<< ((2 * 0) &&& 31)) = nI (2 ^ 1) from by decide]
    exact tk_or n (2 ^ 1)
  have hk : n ||| 2 ^ 1 < 512 := tk_setlt hn (by decide)
  rcases tt_0 (n := n) (T := T) (S := S) (len := len) (pc := pc) (z := z) (c := c) (al := al) (dp := dp) (sp := sp) (ha := ha) (re := re) (ta := ta) (ed := ed) (rx := rx) (ov := ov) (sb := sb) (sl := sl) (cl := cl) (yb := yb) (ya := ya) (yl := yl) (w := w) (pa := pa) (cv := cv) (si := si) (ops := ops) (oa := oa) (ob := ob) (ve := ve) (rg := rg) (me := me) (st := st) (an := an) (so := so) (li := li) (P := P) with ⟨tX, tY⟩ | ⟨tX, tY⟩
  · refine ⟨n, ed, P, hn, h3, rfl, fun post hp => ?_, tY⟩
    · unfold wpX_passTimer
      refine nm_r (e' := 0) rfl ⟨(vp_in_iff.mpr (by decide)), nm_r (e' := P 1) rfl ⟨(vp_in_iff.mpr (by decide)), nm_r (e' := P 2) rfl ?_⟩⟩
      exact tX _ (br_t rfl hp)
  · have go : (¬ P 1 &&& 4 = 0 ∧ P 0 = P 2) ∨ (P 1 &&& 4 = 0 ∨ (¬ P 1 &&& 4 = 0 ∧ ¬ P 0 = P 2)) := by
      by_cases a : P 1 &&& 4 = 0
      · exact Or.inr (Or.inl a)
      · by_cases b : P 0 = P 2
        · exact Or.inl ⟨a, b⟩
        · exact Or.inr (Or.inr ⟨a, b⟩)
    rcases go with ⟨c4, e⟩ | go
    · obtain ⟨n', ed', P', a1, a2, a3, hX, hY⟩ := te_0 (n := n) (T := T) (S := S) (len := len) (pc := pc) (z := z) (c := c) (al := al) (dp := dp) (sp := sp) (ha := ha) (re := re) (ta := ta) (ed := ed) (rx := rx) (ov := ov) (sb := sb) (sl := sl) (cl := cl) (yb := yb) (ya := ya) (yl := yl) (w := w) (pa := pa) (cv := cv) (si := si) (ops := ops) (oa := oa) (ob := ob) (ve := ve) (rg := rg) (me := me) (st := st) (an := an) (so := so) (li := li) (P := upd P 0 0) (tk_3up (k := 0) (x := 0) h3 (by decide) (by decide) (by decide) (by decide) (tk_0 (by decide))) hn
      refine ⟨n', ed', P', a1, a2, a3, fun post hp => ?_, fun post hp => tY post ?_⟩
      · unfold wpX_passTimer
        refine nm_r (e' := 0) rfl ⟨(vp_in_iff.mpr (by decide)), nm_r (e' := P 1) rfl ⟨(vp_in_iff.mpr (by decide)), nm_r (e' := P 2) rfl ?_⟩⟩
        exact tX _ (br_f (by decide) (br_f c4 ⟨(vp_in_iff.mpr (by decide)), br_t e ⟨(vp_in_iff.mpr (by decide)), nm_e (hX post hp)⟩⟩))
      · exact ⟨(vp_in_iff.mpr (by decide)), br_f c4 ⟨(vp_in_iff.mpr (by decide)), (vp_in_iff.mpr (by decide)), br_t e ⟨(vp_in_iff.mpr (by decide)), nm_r (tk_d0 P 0 0) (hY post hp)⟩⟩⟩
    · obtain ⟨m, hm, em⟩ := h3.2.2.1 0
      by_cases m255 : m = 255
      · subst m255
        have hk0 : (P 0 + 1) &&& 255 = 0 := by rw [em]; decide
        have h256 : P 0 + 1 = 256 := by rw [em]; decide
        have hdd : upd (upd (tk_d P 0) 0 (P 0 + 1)) 0 0 = tk_d (upd P 0 0) 0 := by rw [tk_uu]; exact tk_d0 P 0 0
        obtain ⟨n', ed', P', a1, a2, a3, hX, hY⟩ := te_0 (n := n ||| 2 ^ 1) (T := T) (S := S) (len := len) (pc := pc) (z := z) (c := c) (al := al) (dp := dp) (sp := sp) (ha := ha) (re := re) (ta := ta) (ed := ed) (rx := rx) (ov := ov) (sb := sb) (sl := sl) (cl := cl) (yb := yb) (ya := ya) (yl := yl) (w := w) (pa := pa) (cv := cv) (si := si) (ops := ops) (oa := oa) (ob := ob) (ve := ve) (rg := rg) (me := me) (st := st) (an := an) (so := so) (li := li) (P := upd P 0 0) (tk_3up (k := 0) (x := 0) h3 (by decide) (by decide) (by decide) (by decide) (tk_0 (by decide))) hk
        refine ⟨n', ed', P', a1, a2, a3, fun post hp => ?_, fun post hp => tY post ?_⟩
        · unfold wpX_passTimer
          refine nm_r (e' := 0) rfl ⟨(vp_in_iff.mpr (by decide)), nm_r (e' := P 1) rfl ⟨(vp_in_iff.mpr (by decide)), nm_r (e' := P 2) rfl ?_⟩⟩
          rcases go with c4 | ⟨c4, e⟩
          · exact tX _ (br_f (by decide) (br_t c4 ⟨(vp_in_iff.mpr (by decide)), (vp_in_iff.mpr (by decide)), nm_r (congrArg (upd P 0) hk0) ⟨(vp_in_iff.mpr (by decide)), br_t (show nI 0 = 0 from rfl) (nm_r pe (hX post hp))⟩⟩))
          · exact tX _ (br_f (by decide) (br_f c4 ⟨(vp_in_iff.mpr (by decide)), br_f e ⟨(vp_in_iff.mpr (by decide)), (vp_in_iff.mpr (by decide)), nm_r (congrArg (upd P 0) hk0) ⟨(vp_in_iff.mpr (by decide)), br_t (show nI 0 = 0 from rfl) (nm_r pe (hX post hp))⟩⟩⟩))
        · rcases go with c4 | ⟨c4, e⟩
          · exact ⟨(vp_in_iff.mpr (by decide)), br_t c4 ⟨(vp_in_iff.mpr (by decide)), (vp_in_iff.mpr (by decide)), nm_e ⟨(vp_in_iff.mpr (by decide)), br_t h256 ⟨(vp_in_iff.mpr (by decide)), nm_r hdd ⟨(vp_in_iff.mpr (by decide)), nm_r (tk_setN n 1) (hY post hp)⟩⟩⟩⟩⟩
          · exact ⟨(vp_in_iff.mpr (by decide)), br_f c4 ⟨(vp_in_iff.mpr (by decide)), (vp_in_iff.mpr (by decide)), br_f e ⟨(vp_in_iff.mpr (by decide)), (vp_in_iff.mpr (by decide)), nm_e ⟨(vp_in_iff.mpr (by decide)), br_t h256 ⟨(vp_in_iff.mpr (by decide)), nm_r hdd ⟨(vp_in_iff.mpr (by decide)), nm_r (tk_setN n 1) (hY post hp)⟩⟩⟩⟩⟩⟩
      · have hk0 : (P 0 + 1) &&& 255 = nI (m + 1) := by rw [em, tk_inc m hm, Nat.mod_eq_of_lt (by omega)]
        have hz : ¬ nI (m + 1) = 0 := nI_ne0 (by omega) (by omega)
        have h256 : ¬ nI (m + 1) = 256 := fun q => by
          have := (nI_eq (a := m + 1) (b := 256) (by omega) (by decide)).mp q
          omega
        have hd1 : upd (tk_d P 0) 0 (P 0 + 1) = tk_d (upd P 0 (nI (m + 1))) 0 := by rw [em, nI_1]; exact tk_d0 P 0 (nI (m + 1))
        obtain ⟨n', ed', P', a1, a2, a3, hX, hY⟩ := te_0 (n := n) (T := T) (S := S) (len := len) (pc := pc) (z := z) (c := c) (al := al) (dp := dp) (sp := sp) (ha := ha) (re := re) (ta := ta) (ed := ed) (rx := rx) (ov := ov) (sb := sb) (sl := sl) (cl := cl) (yb := yb) (ya := ya) (yl := yl) (w := w) (pa := pa) (cv := cv) (si := si) (ops := ops) (oa := oa) (ob := ob) (ve := ve) (rg := rg) (me := me) (st := st) (an := an) (so := so) (li := li) (P := upd P 0 (nI (m + 1))) (tk_3up (k := 0) (x := nI (m + 1)) h3 (by decide) (by decide) (by decide) (by decide) (tk_mk (by omega))) hn
        refine ⟨n', ed', P', a1, a2, a3, fun post hp => ?_, fun post hp => tY post ?_⟩
        · unfold wpX_passTimer
          refine nm_r (e' := 0) rfl ⟨(vp_in_iff.mpr (by decide)), nm_r (e' := P 1) rfl ⟨(vp_in_iff.mpr (by decide)), nm_r (e' := P 2) rfl ?_⟩⟩
          rcases go with c4 | ⟨c4, e⟩
          · exact tX _ (br_f (by decide) (br_t c4 ⟨(vp_in_iff.mpr (by decide)), (vp_in_iff.mpr (by decide)), nm_r (congrArg (upd P 0) hk0) ⟨(vp_in_iff.mpr (by decide)), br_f hz (hX post hp)⟩⟩))
          · exact tX _ (br_f (by decide) (br_f c4 ⟨(vp_in_iff.mpr (by decide)), br_f e ⟨(vp_in_iff.mpr (by decide)), (vp_in_iff.mpr (by decide)), nm_r (congrArg (upd P 0) hk0) ⟨(vp_in_iff.mpr (by decide)), br_f hz (hX post hp)⟩⟩⟩))
        · rcases go with c4 | ⟨c4, e⟩
          · exact ⟨(vp_in_iff.mpr (by decide)), br_t c4 ⟨(vp_in_iff.mpr (by decide)), (vp_in_iff.mpr (by decide)), nm_r hd1 ⟨(vp_in_iff.mpr (by decide)), br_f h256 (hY post hp)⟩⟩⟩
          · exact ⟨(vp_in_iff.mpr (by decide)), br_f c4 ⟨(vp_in_iff.mpr (by decide)), (vp_in_iff.mpr (by decide)), br_f e ⟨(vp_in_iff.mpr (by decide)), (vp_in_iff.mpr (by decide)), nm_r hd1 ⟨(vp_in_iff.mpr (by decide)), br_f h256 (hY post hp)⟩⟩⟩⟩
theorem te_1 (h3 : tk_I3 cv P) (hn : n < 512) : ∃ (n' : Nat) (ed' : Int32) (P' : Nat → Int32), n' < 512 ∧ tk_I3 cv P' ∧ P' 14 = P 14 ∧
    (∀ post : SX → Prop, post (len, pc, z, c, al, dp, sp, ha, nI T, re, ta, ed', nI n', rx, ov, sb, sl, nI S, cl, yb, ya, yl, w, ops, oa, ob, ve, rg, me, st, an, so, li, P') → wX_passTimer_102 post 1 3 (P 4) (P 5) len pc z c al dp sp ha (nI T) re ta ed (nI n) rx ov sb sl (nI S) cl yb ya yl w ops oa ob ve rg me st an so li P) ∧
    (∀ post : SY → Prop, post (len, P' 13, z, c, al, sp, ha, dp, pc, nI T, pa, ta, re, ed', nI S, P' 6, P' 7, P' 8, cv, P' 10, P' 12, P' 14, P' 16, P' 18, P' 19, si, rx, ov, sl, sb, cl, yl, yb, ya, ops, oa, ob, ve, an, so, rg, me, st, li, tk_q n', tk_d P' 0, tk_d P' 1, tk_d P' 2) → wY_timer_119 post 1 len (P 13) z c al sp ha dp pc (nI T) pa ta re ed (nI S) (P 6) (P 7) (P 8) cv (P 10) (P 12) (P 14) (P 16) (P 18) (P 19) si rx ov sl sb cl yl yb ya ops oa ob ve an so rg me st li (tk_q n) (tk_d P 0) (tk_d P 1) (tk_d P 2)) := by
  have pe : nI n ||| ((1 : Int32) <<< ((2 * 1) &&& 31)) = nI (n ||| 2 ^ 2) := by
    rw [show ((1 : Int32) <<< ((2 * 1) &&& 31)) = nI (2 ^ 2) from by decide]
    exact tk_or n (2 ^ 2)
  have hk : n ||| 2 ^ 2 < 512 := tk_setlt hn (by decide)
  by_cases e : P 3 = P 5
  · by_cases b : P 4 &&& 32 = 0
    · exact ⟨n ||| 2 ^ 2, ed, P, hk, h3, rfl, fun post hp => ⟨(vp_in_iff.mpr (by decide)), br_t e (nm_r pe (br_t b hp))⟩, fun post hp => ⟨(vp_in_iff.mpr (by decide)), (vp_in_iff.mpr (by decide)), br_t e ⟨(vp_in_iff.mpr (by decide)), nm_r (tk_setN n 2) ⟨(vp_in_iff.mpr (by decide)), br_t b hp⟩⟩⟩⟩
    · obtain ⟨o, ho, eo⟩ := h3.2.2.1 12
      have hx : P 12 ^^^ ((1 : Int32) <<< ((1 : Int32) &&& 31)) = nI (o ^^^ 2 ^ 1) := by
        rw [eo, show ((1 : Int32) <<< ((1 : Int32) &&& 31)) = nI (2 ^ 1) from by decide, nx_xor]
      have hv : o ^^^ 2 ^ 1 < 256 := Nat.xor_lt_two_pow (n := 8) ho (by decide)
      obtain ⟨ed', hX, hY⟩ := sh_pins (n := n ||| 2 ^ 2) (T := T) (S := S) (len := len) (pc := pc) (z := z) (c := c) (al := al) (dp := dp) (sp := sp) (ha := ha) (re := re) (ta := ta) (ed := ed) (rx := rx) (ov := ov) (sb := sb) (sl := sl) (cl := cl) (yb := yb) (ya := ya) (yl := yl) (w := w) (pa := pa) (cv := cv) (si := si) (ops := ops) (oa := oa) (ob := ob) (ve := ve) (rg := rg) (me := me) (st := st) (an := an) (so := so) (li := li) (P := P) ho hv eo
      refine ⟨n ||| 2 ^ 2, ed', upd P 12 (nI (o ^^^ 2 ^ 1)), hk, tk_3up h3 (by decide) (by decide) (by decide) (by decide) (tk_mk hv), rfl, fun post hp => ⟨(vp_in_iff.mpr (by decide)), br_t e (nm_r pe (br_f b ?_))⟩, fun post hp => ⟨(vp_in_iff.mpr (by decide)), (vp_in_iff.mpr (by decide)), br_t e ⟨(vp_in_iff.mpr (by decide)), nm_r (tk_setN n 2) ⟨(vp_in_iff.mpr (by decide)), br_f b ?_⟩⟩⟩⟩
      · rw [hx]; exact hX _ hp
      · rw [hx]; exact hY _ hp
  · exact ⟨n, ed, P, hn, h3, rfl, fun post hp => ⟨(vp_in_iff.mpr (by decide)), br_f e hp⟩, fun post hp => ⟨(vp_in_iff.mpr (by decide)), (vp_in_iff.mpr (by decide)), br_f e hp⟩⟩
theorem tt_1 : ((∀ post : Int32 → Prop, post 0 → wpX_ticksNow post (len, pc, z, c, al, dp, sp, ha, nI T, re, ta, ed, nI n, rx, ov, sb, sl, nI S, cl, yb, ya, yl, w, ops, oa, ob, ve, rg, me, st, an, so, li, P) (P 4 &&& 3)) ∧ (∀ post : SY → Prop, post (len, P 13, z, c, al, sp, ha, dp, pc, nI T, pa, ta, re, ed, nI S, P 6, P 7, P 8, cv, P 10, P 12, P 14, P 16, P 18, P 19, si, rx, ov, sl, sb, cl, yl, yb, ya, ops, oa, ob, ve, an, so, rg, me, st, li, tk_q n, tk_d P 0, tk_d P 1, tk_d P 2) → wpY_timer post (len, P 13, z, c, al, sp, ha, dp, pc, nI T, pa, ta, re, ed, nI S, P 6, P 7, P 8, cv, P 10, P 12, P 14, P 16, P 18, P 19, si, rx, ov, sl, sb, cl, yl, yb, ya, ops, oa, ob, ve, an, so, rg, me, st, li, tk_q n, tk_d P 0, tk_d P 1, tk_d P 2) 1)) ∨ ((∀ post : Int32 → Prop, post 1 → wpX_ticksNow post (len, pc, z, c, al, dp, sp, ha, nI T, re, ta, ed, nI n, rx, ov, sb, sl, nI S, cl, yb, ya, yl, w, ops, oa, ob, ve, rg, me, st, an, so, li, P) (P 4 &&& 3)) ∧ (∀ post : SY → Prop, wY_timer_43 post 1 len (P 13) z c al sp ha dp pc (nI T) pa ta re ed (nI S) (P 6) (P 7) (P 8) cv (P 10) (P 12) (P 14) (P 16) (P 18) (P 19) si rx ov sl sb cl yl yb ya ops oa ob ve an so rg me st li (tk_q n) (tk_d P 0) (tk_d P 1) (tk_d P 2) → wpY_timer post (len, P 13, z, c, al, sp, ha, dp, pc, nI T, pa, ta, re, ed, nI S, P 6, P 7, P 8, cv, P 10, P 12, P 14, P 16, P 18, P 19, si, rx, ov, sl, sb, cl, yl, yb, ya, ops, oa, ob, ve, an, so, rg, me, st, li, tk_q n, tk_d P 0, tk_d P 1, tk_d P 2) 1)) := by
  obtain ⟨h, hh, e⟩ := pk_andE (P 4) (m := 3) 2 (by decide)
  rcases (by omega : h = 0 ∨ h = 1 ∨ h = 2 ∨ h = 3) with z | z | z | z <;> subst z
  · refine Or.inl ⟨fun post hp => ?_, fun post hp => ?_⟩
    · rw [e]; exact br_t (by decide) hp
    · exact ⟨(vp_in_iff.mpr (by decide)), nm_r e (br_t (by decide) hp)⟩
  · refine Or.inr ⟨fun post hp => ?_, fun post hp => ?_⟩
    · rw [e]; exact br_f (by decide) (br_f (by decide) (br_t (by decide) hp))
    · exact ⟨(vp_in_iff.mpr (by decide)), nm_r e (br_f (by decide) (br_f (by decide) (br_f (by decide) hp)))⟩
  · by_cases q : nI T - nI T / 4 * 4 = 0
    · refine Or.inr ⟨fun post hp => ?_, fun post hp => ?_⟩
      · rw [e]; exact br_f (by decide) (br_f (by decide) (br_f (by decide) (br_t (by decide) ⟨by decide, br_t q hp⟩)))
      · exact ⟨(vp_in_iff.mpr (by decide)), nm_r e (br_f (by decide) (br_t (by decide) ⟨by decide, br_t q (br_f (by decide) hp)⟩))⟩
    · refine Or.inl ⟨fun post hp => ?_, fun post hp => ?_⟩
      · rw [e]; exact br_f (by decide) (br_f (by decide) (br_f (by decide) (br_t (by decide) ⟨by decide, br_f q hp⟩)))
      · exact ⟨(vp_in_iff.mpr (by decide)), nm_r e (br_f (by decide) (br_t (by decide) ⟨by decide, br_f q hp⟩))⟩
  · by_cases q : nI T - nI T / 16 * 16 = 0
    · refine Or.inr ⟨fun post hp => ?_, fun post hp => ?_⟩
      · rw [e]; exact br_f (by decide) (br_f (by decide) (br_f (by decide) (br_f (by decide) (br_t (by decide) ⟨by decide, br_t q hp⟩))))
      · exact ⟨(vp_in_iff.mpr (by decide)), nm_r e (br_f (by decide) (br_f (by decide) (br_t (by decide) ⟨by decide, br_t q hp⟩)))⟩
    · refine Or.inl ⟨fun post hp => ?_, fun post hp => ?_⟩
      · rw [e]; exact br_f (by decide) (br_f (by decide) (br_f (by decide) (br_f (by decide) (br_t (by decide) ⟨by decide, br_f q hp⟩))))
      · exact ⟨(vp_in_iff.mpr (by decide)), nm_r e (br_f (by decide) (br_f (by decide) (br_t (by decide) ⟨by decide, br_f q hp⟩)))⟩
theorem tm_1 (h3 : tk_I3 cv P) (hn : n < 512) : ∃ (n' : Nat) (ed' : Int32) (P' : Nat → Int32), n' < 512 ∧ tk_I3 cv P' ∧ P' 14 = P 14 ∧
    (∀ post : SX → Prop, post (len, pc, z, c, al, dp, sp, ha, nI T, re, ta, ed', nI n', rx, ov, sb, sl, nI S, cl, yb, ya, yl, w, ops, oa, ob, ve, rg, me, st, an, so, li, P') → wpX_passTimer post (len, pc, z, c, al, dp, sp, ha, nI T, re, ta, ed, nI n, rx, ov, sb, sl, nI S, cl, yb, ya, yl, w, ops, oa, ob, ve, rg, me, st, an, so, li, P) 1) ∧
    (∀ post : SY → Prop, post (len, P' 13, z, c, al, sp, ha, dp, pc, nI T, pa, ta, re, ed', nI S, P' 6, P' 7, P' 8, cv, P' 10, P' 12, P' 14, P' 16, P' 18, P' 19, si, rx, ov, sl, sb, cl, yl, yb, ya, ops, oa, ob, ve, an, so, rg, me, st, li, tk_q n', tk_d P' 0, tk_d P' 1, tk_d P' 2) → wpY_timer post (len, P 13, z, c, al, sp, ha, dp, pc, nI T, pa, ta, re, ed, nI S, P 6, P 7, P 8, cv, P 10, P 12, P 14, P 16, P 18, P 19, si, rx, ov, sl, sb, cl, yl, yb, ya, ops, oa, ob, ve, an, so, rg, me, st, li, tk_q n, tk_d P 0, tk_d P 1, tk_d P 2) 1) := by
  have pe : nI n ||| ((2 : Int32) <<< ((2 * 1) &&& 31)) = nI (n ||| 2 ^ 3) := by
    rw [show ((2 : Int32) <<< ((2 * 1) &&& 31)) = nI (2 ^ 3) from by decide]
    exact tk_or n (2 ^ 3)
  have hk : n ||| 2 ^ 3 < 512 := tk_setlt hn (by decide)
  rcases tt_1 (n := n) (T := T) (S := S) (len := len) (pc := pc) (z := z) (c := c) (al := al) (dp := dp) (sp := sp) (ha := ha) (re := re) (ta := ta) (ed := ed) (rx := rx) (ov := ov) (sb := sb) (sl := sl) (cl := cl) (yb := yb) (ya := ya) (yl := yl) (w := w) (pa := pa) (cv := cv) (si := si) (ops := ops) (oa := oa) (ob := ob) (ve := ve) (rg := rg) (me := me) (st := st) (an := an) (so := so) (li := li) (P := P) with ⟨tX, tY⟩ | ⟨tX, tY⟩
  · refine ⟨n, ed, P, hn, h3, rfl, fun post hp => ?_, tY⟩
    · unfold wpX_passTimer
      refine nm_r (e' := 3) rfl ⟨(vp_in_iff.mpr (by decide)), nm_r (e' := P 4) rfl ⟨(vp_in_iff.mpr (by decide)), nm_r (e' := P 5) rfl ?_⟩⟩
      exact tX _ (br_t rfl hp)
  · have go : (¬ P 4 &&& 4 = 0 ∧ P 3 = P 5) ∨ (P 4 &&& 4 = 0 ∨ (¬ P 4 &&& 4 = 0 ∧ ¬ P 3 = P 5)) := by
      by_cases a : P 4 &&& 4 = 0
      · exact Or.inr (Or.inl a)
      · by_cases b : P 3 = P 5
        · exact Or.inl ⟨a, b⟩
        · exact Or.inr (Or.inr ⟨a, b⟩)
    rcases go with ⟨c4, e⟩ | go
    · obtain ⟨n', ed', P', a1, a2, a3, hX, hY⟩ := te_1 (n := n) (T := T) (S := S) (len := len) (pc := pc) (z := z) (c := c) (al := al) (dp := dp) (sp := sp) (ha := ha) (re := re) (ta := ta) (ed := ed) (rx := rx) (ov := ov) (sb := sb) (sl := sl) (cl := cl) (yb := yb) (ya := ya) (yl := yl) (w := w) (pa := pa) (cv := cv) (si := si) (ops := ops) (oa := oa) (ob := ob) (ve := ve) (rg := rg) (me := me) (st := st) (an := an) (so := so) (li := li) (P := upd P 3 0) (tk_3up (k := 3) (x := 0) h3 (by decide) (by decide) (by decide) (by decide) (tk_0 (by decide))) hn
      refine ⟨n', ed', P', a1, a2, a3, fun post hp => ?_, fun post hp => tY post ?_⟩
      · unfold wpX_passTimer
        refine nm_r (e' := 3) rfl ⟨(vp_in_iff.mpr (by decide)), nm_r (e' := P 4) rfl ⟨(vp_in_iff.mpr (by decide)), nm_r (e' := P 5) rfl ?_⟩⟩
        exact tX _ (br_f (by decide) (br_f c4 ⟨(vp_in_iff.mpr (by decide)), br_t e ⟨(vp_in_iff.mpr (by decide)), nm_e (hX post hp)⟩⟩))
      · exact ⟨(vp_in_iff.mpr (by decide)), br_f c4 ⟨(vp_in_iff.mpr (by decide)), (vp_in_iff.mpr (by decide)), br_t e ⟨(vp_in_iff.mpr (by decide)), nm_r (tk_d1 P 0 0) (hY post hp)⟩⟩⟩
    · obtain ⟨m, hm, em⟩ := h3.2.2.1 3
      by_cases m255 : m = 255
      · subst m255
        have hk0 : (P 3 + 1) &&& 255 = 0 := by rw [em]; decide
        have h256 : P 3 + 1 = 256 := by rw [em]; decide
        have hdd : upd (upd (tk_d P 0) 1 (P 3 + 1)) 1 0 = tk_d (upd P 3 0) 0 := by rw [tk_uu]; exact tk_d1 P 0 0
        obtain ⟨n', ed', P', a1, a2, a3, hX, hY⟩ := te_1 (n := n ||| 2 ^ 3) (T := T) (S := S) (len := len) (pc := pc) (z := z) (c := c) (al := al) (dp := dp) (sp := sp) (ha := ha) (re := re) (ta := ta) (ed := ed) (rx := rx) (ov := ov) (sb := sb) (sl := sl) (cl := cl) (yb := yb) (ya := ya) (yl := yl) (w := w) (pa := pa) (cv := cv) (si := si) (ops := ops) (oa := oa) (ob := ob) (ve := ve) (rg := rg) (me := me) (st := st) (an := an) (so := so) (li := li) (P := upd P 3 0) (tk_3up (k := 3) (x := 0) h3 (by decide) (by decide) (by decide) (by decide) (tk_0 (by decide))) hk
        refine ⟨n', ed', P', a1, a2, a3, fun post hp => ?_, fun post hp => tY post ?_⟩
        · unfold wpX_passTimer
          refine nm_r (e' := 3) rfl ⟨(vp_in_iff.mpr (by decide)), nm_r (e' := P 4) rfl ⟨(vp_in_iff.mpr (by decide)), nm_r (e' := P 5) rfl ?_⟩⟩
          rcases go with c4 | ⟨c4, e⟩
          · exact tX _ (br_f (by decide) (br_t c4 ⟨(vp_in_iff.mpr (by decide)), (vp_in_iff.mpr (by decide)), nm_r (congrArg (upd P 3) hk0) ⟨(vp_in_iff.mpr (by decide)), br_t (show nI 0 = 0 from rfl) (nm_r pe (hX post hp))⟩⟩))
          · exact tX _ (br_f (by decide) (br_f c4 ⟨(vp_in_iff.mpr (by decide)), br_f e ⟨(vp_in_iff.mpr (by decide)), (vp_in_iff.mpr (by decide)), nm_r (congrArg (upd P 3) hk0) ⟨(vp_in_iff.mpr (by decide)), br_t (show nI 0 = 0 from rfl) (nm_r pe (hX post hp))⟩⟩⟩))
        · rcases go with c4 | ⟨c4, e⟩
          · exact ⟨(vp_in_iff.mpr (by decide)), br_t c4 ⟨(vp_in_iff.mpr (by decide)), (vp_in_iff.mpr (by decide)), nm_e ⟨(vp_in_iff.mpr (by decide)), br_t h256 ⟨(vp_in_iff.mpr (by decide)), nm_r hdd ⟨(vp_in_iff.mpr (by decide)), nm_r (tk_setN n 3) (hY post hp)⟩⟩⟩⟩⟩
          · exact ⟨(vp_in_iff.mpr (by decide)), br_f c4 ⟨(vp_in_iff.mpr (by decide)), (vp_in_iff.mpr (by decide)), br_f e ⟨(vp_in_iff.mpr (by decide)), (vp_in_iff.mpr (by decide)), nm_e ⟨(vp_in_iff.mpr (by decide)), br_t h256 ⟨(vp_in_iff.mpr (by decide)), nm_r hdd ⟨(vp_in_iff.mpr (by decide)), nm_r (tk_setN n 3) (hY post hp)⟩⟩⟩⟩⟩⟩
      · have hk0 : (P 3 + 1) &&& 255 = nI (m + 1) := by rw [em, tk_inc m hm, Nat.mod_eq_of_lt (by omega)]
        have hz : ¬ nI (m + 1) = 0 := nI_ne0 (by omega) (by omega)
        have h256 : ¬ nI (m + 1) = 256 := fun q => by
          have := (nI_eq (a := m + 1) (b := 256) (by omega) (by decide)).mp q
          omega
        have hd1 : upd (tk_d P 0) 1 (P 3 + 1) = tk_d (upd P 3 (nI (m + 1))) 0 := by rw [em, nI_1]; exact tk_d1 P 0 (nI (m + 1))
        obtain ⟨n', ed', P', a1, a2, a3, hX, hY⟩ := te_1 (n := n) (T := T) (S := S) (len := len) (pc := pc) (z := z) (c := c) (al := al) (dp := dp) (sp := sp) (ha := ha) (re := re) (ta := ta) (ed := ed) (rx := rx) (ov := ov) (sb := sb) (sl := sl) (cl := cl) (yb := yb) (ya := ya) (yl := yl) (w := w) (pa := pa) (cv := cv) (si := si) (ops := ops) (oa := oa) (ob := ob) (ve := ve) (rg := rg) (me := me) (st := st) (an := an) (so := so) (li := li) (P := upd P 3 (nI (m + 1))) (tk_3up (k := 3) (x := nI (m + 1)) h3 (by decide) (by decide) (by decide) (by decide) (tk_mk (by omega))) hn
        refine ⟨n', ed', P', a1, a2, a3, fun post hp => ?_, fun post hp => tY post ?_⟩
        · unfold wpX_passTimer
          refine nm_r (e' := 3) rfl ⟨(vp_in_iff.mpr (by decide)), nm_r (e' := P 4) rfl ⟨(vp_in_iff.mpr (by decide)), nm_r (e' := P 5) rfl ?_⟩⟩
          rcases go with c4 | ⟨c4, e⟩
          · exact tX _ (br_f (by decide) (br_t c4 ⟨(vp_in_iff.mpr (by decide)), (vp_in_iff.mpr (by decide)), nm_r (congrArg (upd P 3) hk0) ⟨(vp_in_iff.mpr (by decide)), br_f hz (hX post hp)⟩⟩))
          · exact tX _ (br_f (by decide) (br_f c4 ⟨(vp_in_iff.mpr (by decide)), br_f e ⟨(vp_in_iff.mpr (by decide)), (vp_in_iff.mpr (by decide)), nm_r (congrArg (upd P 3) hk0) ⟨(vp_in_iff.mpr (by decide)), br_f hz (hX post hp)⟩⟩⟩))
        · rcases go with c4 | ⟨c4, e⟩
          · exact ⟨(vp_in_iff.mpr (by decide)), br_t c4 ⟨(vp_in_iff.mpr (by decide)), (vp_in_iff.mpr (by decide)), nm_r hd1 ⟨(vp_in_iff.mpr (by decide)), br_f h256 (hY post hp)⟩⟩⟩
          · exact ⟨(vp_in_iff.mpr (by decide)), br_f c4 ⟨(vp_in_iff.mpr (by decide)), (vp_in_iff.mpr (by decide)), br_f e ⟨(vp_in_iff.mpr (by decide)), (vp_in_iff.mpr (by decide)), nm_r hd1 ⟨(vp_in_iff.mpr (by decide)), br_f h256 (hY post hp)⟩⟩⟩⟩
end
end
