/-! the output pins, and the timers -/
section
variable {n T S : Nat} {len pc z c al dp sp ha re ta ed rx ov sb sl cl yb ya yl w pa cv si : Int32} {ops oa ob ve rg me st an so li P : Nat → Int32}
theorem tk_nb1 : vp_nar .boolean 1 = 1 := by decide
theorem tk_nb0 : vp_nar .boolean 0 = 0 := by decide
theorem tk_setN (n k : Nat) : upd (tk_q n) k (vp_nar .boolean 1) = tk_q (n ||| 2 ^ k) := by rw [tk_nb1, tk_set]
theorem sh_loop {o v : Nat} (ho : o < 256) (hv : v < 256) (hP : P 12 = nI o) : ∀ (d j : Nat) (ed : Int32), j + d = 8 → ∃ ed' : Int32,
    (∀ post : SX → Prop, post (len, pc, z, c, al, dp, sp, ha, nI T, re, ta, ed', nI n, rx, ov, sb, sl, nI S, cl, yb, ya, yl, w, ops, oa, ob, ve, rg, me, st, an, so, li, upd P 12 (nI v)) → wX_setOutputPins_12 post (nI v) (nI (o ^^^ v)) len pc z c al dp sp ha (nI T) re ta (nI n) rx ov sb sl (nI S) cl yb ya yl w ops oa ob ve rg me st an so li P (d + 1) (nI j) ed) ∧
    (∀ post : SY → Prop, post (len, (upd P 12 (nI v)) 13, z, c, al, sp, ha, dp, pc, nI T, pa, ta, re, ed', nI S, (upd P 12 (nI v)) 6, (upd P 12 (nI v)) 7, (upd P 12 (nI v)) 8, cv, (upd P 12 (nI v)) 10, (upd P 12 (nI v)) 12, (upd P 12 (nI v)) 14, (upd P 12 (nI v)) 16, (upd P 12 (nI v)) 18, (upd P 12 (nI v)) 19, si, rx, ov, sl, sb, cl, yl, yb, ya, ops, oa, ob, ve, an, so, rg, me, st, li, tk_q n, tk_d (upd P 12 (nI v)) 0, tk_d (upd P 12 (nI v)) 1, tk_d (upd P 12 (nI v)) 2) → wY_show_2 post (nI v) len (P 13) z c al sp ha dp pc (nI T) pa ta re (nI S) (P 6) (P 7) (P 8) cv (P 10) (P 12) (P 14) (P 16) (P 18) (P 19) si rx ov sl sb cl yl yb ya ops oa ob ve an so rg me st li (tk_q n) (tk_d P 0) (tk_d P 1) (tk_d P 2) (d + 1) (nI j) ed) := by
  intro d
  induction d with
  | zero =>
    intro j ed hj
    have h : (8 : Int32) ≤ nI j := nI_le (a := 8) (by omega) (by omega)
    exact ⟨ed, fun post hp => br_t h (nm_e hp), fun post hp => br_t h hp⟩
  | succ d ih =>
    intro j ed hj
    have h : ¬ (8 : Int32) ≤ nI j := nI_ge (b := 8) (by omega) (by decide)
    have bX : (nI (o ^^^ v) >>> (nI j &&& 31)) &&& 1 = tk_q (o ^^^ v) j := tk_shr1 (Nat.lt_trans (Nat.xor_lt_two_pow (n := 8) ho hv) (by decide)) (by omega)
    have bV : (nI v >>> (nI j &&& 31)) &&& 1 = tk_q v j := tk_shr1 (by omega) (by omega)
    have bO : (P 12 >>> (nI j &&& 31)) &&& 1 = tk_q o j := by rw [hP]; exact tk_shr1 (by omega) (by omega)
    by_cases e : tk_q v j = tk_q o j
    · have bx : ed + ((nI (o ^^^ v) >>> (nI j &&& 31)) &&& 1) = ed := by rw [bX, tk_xor, if_pos e, Int32.add_zero]
      obtain ⟨ed', hX, hY⟩ := ih (j + 1) ed (by omega)
      exact ⟨ed', fun post hp => br_f h (nm_r bx (nm_r (nI_1 j) (hX post hp))), fun post hp => br_f h (br_t (bV.trans (e.trans bO.symm)) (nm_r (nI_1 j) (hY post hp)))⟩
    · have bx : ed + ((nI (o ^^^ v) >>> (nI j &&& 31)) &&& 1) = ed + 1 := by rw [bX, tk_xor, if_neg e]
      obtain ⟨ed', hX, hY⟩ := ih (j + 1) (ed + 1) (by omega)
      exact ⟨ed', fun post hp => br_f h (nm_r bx (nm_r (nI_1 j) (hX post hp))), fun post hp => br_f h (br_f (fun q => e (bV.symm.trans (q.trans bO))) (nm_e (nm_r (nI_1 j) (hY post hp))))⟩
theorem sh_pins {o v : Nat} (ho : o < 256) (hv : v < 256) (hP : P 12 = nI o) : ∃ ed' : Int32,
    (∀ post : SX → Prop, post (len, pc, z, c, al, dp, sp, ha, nI T, re, ta, ed', nI n, rx, ov, sb, sl, nI S, cl, yb, ya, yl, w, ops, oa, ob, ve, rg, me, st, an, so, li, upd P 12 (nI v)) → wpX_setOutputPins post (len, pc, z, c, al, dp, sp, ha, nI T, re, ta, ed, nI n, rx, ov, sb, sl, nI S, cl, yb, ya, yl, w, ops, oa, ob, ve, rg, me, st, an, so, li, P) (nI v)) ∧
    (∀ post : SY → Prop, post (len, (upd P 12 (nI v)) 13, z, c, al, sp, ha, dp, pc, nI T, pa, ta, re, ed', nI S, (upd P 12 (nI v)) 6, (upd P 12 (nI v)) 7, (upd P 12 (nI v)) 8, cv, (upd P 12 (nI v)) 10, (upd P 12 (nI v)) 12, (upd P 12 (nI v)) 14, (upd P 12 (nI v)) 16, (upd P 12 (nI v)) 18, (upd P 12 (nI v)) 19, si, rx, ov, sl, sb, cl, yl, yb, ya, ops, oa, ob, ve, an, so, rg, me, st, li, tk_q n, tk_d (upd P 12 (nI v)) 0, tk_d (upd P 12 (nI v)) 1, tk_d (upd P 12 (nI v)) 2) → wpY_show post (len, P 13, z, c, al, sp, ha, dp, pc, nI T, pa, ta, re, ed, nI S, P 6, P 7, P 8, cv, P 10, P 12, P 14, P 16, P 18, P 19, si, rx, ov, sl, sb, cl, yl, yb, ya, ops, oa, ob, ve, an, so, rg, me, st, li, tk_q n, tk_d P 0, tk_d P 1, tk_d P 2) (nI v)) := by
  obtain ⟨ed', hX, hY⟩ := sh_loop (n := n) (T := T) (S := S) (len := len) (pc := pc) (z := z) (c := c) (al := al) (dp := dp) (sp := sp) (ha := ha) (re := re) (ta := ta) (rx := rx) (ov := ov) (sb := sb) (sl := sl) (cl := cl) (yb := yb) (ya := ya) (yl := yl) (w := w) (pa := pa) (cv := cv) (si := si) (ops := ops) (oa := oa) (ob := ob) (ve := ve) (rg := rg) (me := me) (st := st) (an := an) (so := so) (li := li) (P := P) ho hv hP 8 0 ed rfl
  refine ⟨ed', fun post hp => ?_, fun post hp => ?_⟩
  · unfold wpX_setOutputPins
    exact nm_r (by rw [hP, nx_xor]) ⟨9, hX post hp⟩
  · unfold wpY_show
    exact ⟨9, hY post hp⟩
end
