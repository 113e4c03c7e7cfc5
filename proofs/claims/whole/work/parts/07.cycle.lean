/-! the watchdog, and one cycle -/
section
variable {n T S : Nat} {len pc z c al dp sp ha re ta ed rx ov sb sl cl yb ya yl w pa cv si : Int32} {ops oa ob ve rg me st an so li P : Nat → Int32}
theorem tk_wX : ∀ L, L < 8 → (1 : Int32) <<< ((nI L + 4) &&& 31) = nI (2 ^ (L + 4)) := by decide +kernel
theorem tk_wY : ∀ L, L < 8 → (16 : Int32) <<< (nI L &&& 31) = nI (2 ^ (L + 4)) := by decide +kernel
theorem tk_r3 (h : ∀ j, tk_lt 256 (P j)) : tk_I3 0 (tk_ri P 20) := by
  have z16 : tk_lt 16 0 := tk_0 (by decide)
  have z32 : tk_lt 32 0 := tk_0 (by decide)
  have z9 : (0 : Int32) = 0 &&& (-5) := by decide
  exact ⟨tk_0 (by decide), z9, tk_riB h 20, z32, z16, z16⟩
theorem wd_all (hn : n < 512) (hW : tk_W (P 14) w si) :
    (∃ w' : Int32, tk_W (P 14) w' (si + 1) ∧ (∀ post : SX → Prop, post (len, pc, z, c, al, dp, sp, ha, nI T, re, ta, ed, nI n, rx, ov, sb, sl, nI S, cl, yb, ya, yl, w', ops, oa, ob, ve, rg, me, st, an, so, li, P) → wpX_passWatchdog post (len, pc, z, c, al, dp, sp, ha, nI T, re, ta, ed, nI n, rx, ov, sb, sl, nI S, cl, yb, ya, yl, w, ops, oa, ob, ve, rg, me, st, an, so, li, P)) ∧ (∀ post : SY → Prop, post (len, P 13, z, c, al, sp, ha, dp, pc, nI T, pa, ta, re, ed, nI S, P 6, P 7, P 8, cv, P 10, P 12, P 14, P 16, P 18, P 19, si + 1, rx, ov, sl, sb, cl, yl, yb, ya, ops, oa, ob, ve, an, so, rg, me, st, li, tk_q n, tk_d P 0, tk_d P 1, tk_d P 2) → wY_cycle_195 post len (P 13) z c al sp ha dp pc (nI T) pa ta re ed (nI S) (P 6) (P 7) (P 8) cv (P 10) (P 12) (P 14) (P 16) (P 18) (P 19) (si + 1) rx ov sl sb cl yl yb ya ops oa ob ve an so rg me st li (tk_q n) (tk_d P 0) (tk_d P 1) (tk_d P 2))) ∨
    ((∀ post : SX → Prop, post (len, 0, z, c, 0, 0, 0, ha, nI T, re + 1, ta, ed, nI 0, 0, 0, sb, 0, nI S, 0, yb, ya, 0, 0, ops, oa, ob, ve, rg, me, st, an, so, li, tk_ri P 20) → wpX_passWatchdog post (len, pc, z, c, al, dp, sp, ha, nI T, re, ta, ed, nI n, rx, ov, sb, sl, nI S, cl, yb, ya, yl, w, ops, oa, ob, ve, rg, me, st, an, so, li, P)) ∧ (∀ post : SY → Prop, post (len, (tk_ri P 20) 13, z, c, 0, 0, ha, 0, 0, nI T, pa, ta, re + 1, ed, nI S, (tk_ri P 20) 6, (tk_ri P 20) 7, (tk_ri P 20) 8, 0, (tk_ri P 20) 10, (tk_ri P 20) 12, (tk_ri P 20) 14, (tk_ri P 20) 16, (tk_ri P 20) 18, (tk_ri P 20) 19, 0, 0, 0, 0, sb, 0, 0, yb, ya, ops, oa, ob, ve, an, so, rg, me, st, li, tk_q 0, tk_d (tk_ri P 20) 0, tk_d (tk_ri P 20) 1, tk_d (tk_ri P 20) 2) → wY_cycle_195 post len (P 13) z c al sp ha dp pc (nI T) pa ta re ed (nI S) (P 6) (P 7) (P 8) cv (P 10) (P 12) (P 14) (P 16) (P 18) (P 19) (si + 1) rx ov sl sb cl yl yb ya ops oa ob ve an so rg me st li (tk_q n) (tk_d P 0) (tk_d P 1) (tk_d P 2))) := by
  rcases hW with h0 | ⟨rfl, L, m, hL0, hL8, eL, hm, rfl⟩
  · exact Or.inl ⟨w, Or.inl h0, fun post hp => nm_r h0 (br_t rfl hp), fun post hp => br_t (by rw [h0]; decide) hp⟩
  · have sX := tk_wX L hL8
    have sY := tk_wY L hL8
    have hB : 2 ^ (L + 4) ≤ 2 ^ 11 := Nat.pow_le_pow_right (by decide) (by omega)
    have e0 : ¬ nI L = 0 := nI_ne0 hL0 (by omega)
    have e1 : ¬ (P 14 &&& 7) ≤ 0 := by rw [eL]; exact nI_nle hL0 (by omega)
    by_cases hz : m + 1 < 2 ^ (L + 4)
    · have hx : nI (m + 1) < (1 : Int32) <<< ((nI L + 4) &&& 31) := by rw [sX]; exact nI_lt hz (by omega)
      have hy : ¬ nI m + 1 = (16 : Int32) <<< ((P 14 &&& 7) &&& 31) := by
        rw [eL, sY, nI_1]
        intro q
        have := (nI_eq (by omega) (by omega)).mp q
        omega
      exact Or.inl ⟨nI (m + 1), Or.inr ⟨(nI_1 m).symm, L, m + 1, hL0, hL8, eL, hz, rfl⟩, fun post hp => nm_r eL (br_f e0 (nm_r (nI_1 m) (br_t hx hp))), fun post hp => br_f e1 (br_f hy hp)⟩
    · have hx : ¬ nI (m + 1) < (1 : Int32) <<< ((nI L + 4) &&& 31) := by rw [sX]; exact nI_nlt (by omega) (by omega)
      have hy : nI m + 1 = (16 : Int32) <<< ((P 14 &&& 7) &&& 31) := by
        rw [eL, sY, nI_1, show m + 1 = 2 ^ (L + 4) from by omega]
      refine Or.inr ⟨fun post hp => nm_r eL (br_f e0 (nm_r (nI_1 m) (br_f hx ?_))), fun post hp => br_f e1 (br_t hy ?_)⟩
      · exact rs_X _ (nm_e hp)
      · exact rs_Y (P := P) hn _ (nm_e hp)
theorem cy_all {u : SX} {v : SY} (hR : tk_R T pa ha u v) (hT : T < 1073741000) : ∃ (u' : SX) (v' : SY), tk_R (T + 1) (pa + 1) ha u' v' ∧ (∀ post : SX → Prop, post u' → wpX_passCycle post u) ∧ (∀ post : SY → Prop, post v' → wpY_cycle post v) := by
  obtain ⟨n, S, len, pc, z, c, al, dp, sp, re, ta, ed, rx, ov, sb, sl, cl, yb, ya, yl, w, cv, si, ops, oa, ob, ve, rg, me, st, an, so, li, P, rfl, rfl, h1, h2, h3, h4, hW⟩ := hR
  obtain ⟨hn, hST, hrx, hov, hsl, hcl, hyb, hya, hyl, hso⟩ := h4
  obtain ⟨n1, ed1, P1, a1, b1, c1, t0X, t0Y⟩ := tm_0 (n := n) (T := T + 1) (S := S) (len := len) (pc := pc) (z := z) (c := c) (al := al) (dp := dp) (sp := sp) (ha := ha) (re := re) (ta := ta) (ed := ed) (rx := rx) (ov := ov) (sb := sb) (sl := sl) (cl := cl) (yb := yb) (ya := ya) (yl := yl) (w := w) (pa := pa + 1) (cv := cv) (si := si + 1) (ops := ops) (oa := oa) (ob := ob) (ve := ve) (rg := rg) (me := me) (st := st) (an := an) (so := so) (li := li) (P := P) h3 hn
  obtain ⟨n2, ed2, P2, a2, b2, c2, t1X, t1Y⟩ := tm_1 (n := n1) (T := T + 1) (S := S) (len := len) (pc := pc) (z := z) (c := c) (al := al) (dp := dp) (sp := sp) (ha := ha) (re := re) (ta := ta) (ed := ed1) (rx := rx) (ov := ov) (sb := sb) (sl := sl) (cl := cl) (yb := yb) (ya := ya) (yl := yl) (w := w) (pa := pa + 1) (cv := cv) (si := si + 1) (ops := ops) (oa := oa) (ob := ob) (ve := ve) (rg := rg) (me := me) (st := st) (an := an) (so := so) (li := li) (P := P1) b1 a1
  obtain ⟨n3, S3, sl3, li3, a3, d3, e3, sX, sY⟩ := ps_ser (n := n2) (T := T + 1) (S := S) (len := len) (pc := pc) (z := z) (c := c) (al := al) (dp := dp) (sp := sp) (ha := ha) (re := re) (ta := ta) (ed := ed2) (rx := rx) (ov := ov) (sb := sb) (sl := sl) (cl := cl) (yb := yb) (ya := ya) (yl := yl) (w := w) (pa := pa + 1) (cv := cv) (si := si + 1) (ops := ops) (oa := oa) (ob := ob) (ve := ve) (rg := rg) (me := me) (st := st) (an := an) (so := so) (li := li) (P := P2) a2 (by omega) hsl
  obtain ⟨n4, cl4, P4, a4, d4, b4, c4, cX, cY⟩ := ps_conv (n := n3) (T := T + 1) (S := S3) (len := len) (pc := pc) (z := z) (c := c) (al := al) (dp := dp) (sp := sp) (ha := ha) (re := re) (ta := ta) (ed := ed2) (rx := rx) (ov := ov) (sb := sb) (sl := sl3) (cl := cl) (yb := yb) (ya := ya) (yl := yl) (w := w) (pa := pa + 1) (cv := cv) (si := si + 1) (ops := ops) (oa := oa) (ob := ob) (ve := ve) (rg := rg) (me := me) (st := st) (an := an) (so := so) (li := li3) (P := P2) b2 h1.2.2.2 a3 hcl
  obtain ⟨n5, yl5, so5, a5, d5, e5, oX, oY⟩ := ps_store (n := n4) (T := T + 1) (S := S3) (len := len) (pc := pc) (z := z) (c := c) (al := al) (dp := dp) (sp := sp) (ha := ha) (re := re) (ta := ta) (ed := ed2) (rx := rx) (ov := ov) (sb := sb) (sl := sl3) (cl := cl4) (yb := yb) (ya := ya) (yl := yl) (w := w) (pa := pa + 1) (cv := cv) (si := si + 1) (ops := ops) (oa := oa) (ob := ob) (ve := ve) (rg := rg) (me := me) (st := st) (an := an) (so := so) (li := li3) (P := P4) a4 hyl hya hyb hso
  have hW5 : tk_W (P4 14) w si := by rw [c4, c2, c1]; exact hW
  rcases wd_all (n := n5) (T := T + 1) (S := S3) (len := len) (pc := pc) (z := z) (c := c) (al := al) (dp := dp) (sp := sp) (ha := ha) (re := re) (ta := ta) (ed := ed2) (rx := rx) (ov := ov) (sb := sb) (sl := sl3) (cl := cl4) (yb := yb) (ya := ya) (yl := yl5) (w := w) (pa := pa + 1) (cv := cv) (si := si) (ops := ops) (oa := oa) (ob := ob) (ve := ve) (rg := rg) (me := me) (st := st) (an := an) (so := so5) (li := li3) (P := P4) a5 hW5 with ⟨w6, hw, wX, wY⟩ | ⟨wX, wY⟩
  · refine ⟨_, _, ⟨n5, S3, len, pc, z, c, al, dp, sp, re, ta, ed2, rx, ov, sb, sl3, cl4, yb, ya, yl5, w6, cv, si + 1, ops, oa, ob, ve, rg, me, st, an, so5, li3, P4, rfl, rfl, h1, h2, b4, ⟨a5, by omega, hrx, hov, e3, d4, hyb, hya, d5, e5⟩, hw⟩, fun post hp => ?_, fun post hp => ?_⟩
    · unfold wpX_passCycle
      refine nm_r (nI_1 T) ?_
      refine t0X _ ?_
      refine t1X _ ?_
      refine sX _ ?_
      refine cX _ ?_
      refine oX _ ?_
      refine wX _ ?_
      exact hp
    · unfold wpY_cycle
      refine nm_e (nm_r (nI_1 T) (nm_e ?_))
      refine t0Y _ ?_
      refine t1Y _ ?_
      refine sY _ ?_
      refine cY _ ?_
      refine oY _ ?_
      refine wY _ ?_
      exact hp
  · refine ⟨_, _, ⟨0, S3, len, 0, z, c, 0, 0, 0, re + 1, ta, ed2, 0, 0, sb, 0, 0, yb, ya, 0, 0, 0, 0, ops, oa, ob, ve, rg, me, st, an, so5, li3, tk_ri P4 20, rfl, rfl, h1, ⟨tk_0 (by decide), tk_0 (by decide), h2.2.2⟩, tk_r3 b4.2.2.1, ⟨by decide, by omega, tk_0 (by decide), tk_0 (by decide), tk_0 (by decide), tk_0 (by decide), hyb, hya, tk_0 (by decide), e5⟩, Or.inl (by decide : (0 : Int32) &&& 7 = 0)⟩, fun post hp => ?_, fun post hp => ?_⟩
    · unfold wpX_passCycle
      refine nm_r (nI_1 T) ?_
      refine t0X _ ?_
      refine t1X _ ?_
      refine sX _ ?_
      refine cX _ ?_
      refine oX _ ?_
      refine wX _ ?_
      exact hp
    · unfold wpY_cycle
      refine nm_e (nm_r (nI_1 T) (nm_e ?_))
      refine t0Y _ ?_
      refine t1Y _ ?_
      refine sY _ ?_
      refine cY _ ?_
      refine oY _ ?_
      refine wY _ ?_
      exact hp
end
