/-! the relation: both states as functions of shared names; what holds of them -/
def tk_d (P : Nat → Int32) (i : Nat) : Nat → Int32 := fun j => if j = 0 then P i else if j = 1 then P (i + 3) else 0
theorem tk_d0 (P : Nat → Int32) (i : Nat) (x : Int32) : upd (tk_d P i) 0 x = tk_d (upd P i x) i := by
  funext j
  by_cases h : j = 0
  · subst h
    show x = upd P i x i
    exact pk_us.symm
  · rw [pk_un h]
    unfold tk_d
    rw [if_neg h, if_neg h, pk_un (by omega : i + 3 ≠ i)]
theorem tk_d1 (P : Nat → Int32) (i : Nat) (x : Int32) : upd (tk_d P i) 1 x = tk_d (upd P (i + 3) x) i := by
  funext j
  by_cases h : j = 1
  · subst h
    show x = upd P (i + 3) x (i + 3)
    exact pk_us.symm
  · rw [pk_un h]
    unfold tk_d
    by_cases h0 : j = 0
    · rw [if_pos h0, if_pos h0, pk_un (by omega : i ≠ i + 3)]
    · rw [if_neg h0, if_neg h, if_neg h0, if_neg h]
def tk_I1 (len : Int32) (ops ve an : Nat → Int32) : Prop := tk_lt 49 len ∧ (∀ j, tk_lt 27 (ops j)) ∧ (∀ j, tk_lt 48 (ve j)) ∧ (∀ j, tk_lt 256 (an j))
def tk_I2 (pc dp : Int32) (rg me st : Nat → Int32) : Prop := tk_lt 256 pc ∧ tk_lt 17 dp ∧ (∀ j, tk_lt 256 (rg j)) ∧ (∀ j, tk_lt 256 (me j)) ∧ (∀ j, tk_lt 256 (st j))
def tk_I3 (cv : Int32) (P : Nat → Int32) : Prop := tk_lt 256 cv ∧ P 9 = cv &&& (-5) ∧ (∀ j, tk_lt 256 (P j)) ∧ tk_lt 32 (P 7) ∧ tk_lt 16 (P 16) ∧ tk_lt 16 (P 18)
def tk_I4 (n S T : Nat) (rx ov sl cl yb ya yl : Int32) (so : Nat → Int32) : Prop := n < 512 ∧ S ≤ T ∧ tk_lt 2 rx ∧ tk_lt 2 ov ∧ tk_lt 2049 sl ∧ tk_lt 53 cl ∧ tk_lt 256 yb ∧ tk_lt 16 ya ∧ tk_lt 41 yl ∧ (∀ j, tk_lt 256 (so j))
def tk_W (x w s : Int32) : Prop := x &&& 7 = 0 ∨ (w = s ∧ ∃ L m : Nat, 0 < L ∧ L < 8 ∧ x &&& 7 = nI L ∧ m < 2 ^ (L + 4) ∧ w = nI m)
def tk_R (T : Nat) (pa ha : Int32) (u : SX) (v : SY) : Prop := ∃ (n S : Nat) (len pc z c al dp sp re ta ed rx ov sb sl cl yb ya yl w cv si : Int32) (ops oa ob ve rg me st an so li P : Nat → Int32), u = (len, pc, z, c, al, dp, sp, ha, nI T, re, ta, ed, nI n, rx, ov, sb, sl, nI S, cl, yb, ya, yl, w, ops, oa, ob, ve, rg, me, st, an, so, li, P) ∧ v = (len, P 13, z, c, al, sp, ha, dp, pc, nI T, pa, ta, re, ed, nI S, P 6, P 7, P 8, cv, P 10, P 12, P 14, P 16, P 18, P 19, si, rx, ov, sl, sb, cl, yl, yb, ya, ops, oa, ob, ve, an, so, rg, me, st, li, tk_q n, tk_d P 0, tk_d P 1, tk_d P 2) ∧ tk_I1 len ops ve an ∧ tk_I2 pc dp rg me st ∧ tk_I3 cv P ∧ tk_I4 n S T rx ov sl cl yb ya yl so ∧ tk_W (P 14) w si
def i_Rel (_ : Nat) (u : SX) (v : SY) : Prop := ∃ (T : Nat) (pa ha : Int32), T ≤ 1000003002 ∧ tk_R T pa ha u v
