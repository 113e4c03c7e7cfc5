/-! power -/
section
variable {n T S : Nat} {len pc z c al dp sp ha re ta ed rx ov sb sl cl yb ya yl w pa cv si : Int32} {ops oa ob ve rg me st an so li P : Nat → Int32}
theorem pw_X35 (post : SX → Prop) (hp : post (len, pc, 0, 0, al, dp, sp, 0, nI 0, 0, 0, 0, nI n, rx, ov, sb, sl, nI 0, cl, yb, ya, yl, w, ops, oa, ob, ve, rg, tk_qi me 32, st, an, so, li, P)) : ∀ d i : Nat, i + d = 32 → wX_power_35 post len pc z c al dp sp ha (nI T) re ta ed (nI n) rx ov sb sl (nI S) cl yb ya yl w (d + 1) (nI i) ops oa ob ve rg (tk_qi me i) st an so li P := by
  intro d
  induction d with
  | zero =>
    intro i hi
    have e : i = 32 := by omega
    subst e
    exact br_t (by decide) hp
  | succ d ih =>
    intro i hi
    have h : ¬ (32 : Int32) ≤ nI i := nI_ge (b := 32) (by omega) (by decide)
    exact br_f h ⟨vp_in_nI (by omega) (by decide), nm_r (by rw [nI_clamp (by omega)]; exact tk_qiS me i) (nm_r (nI_1 i) (ih (i + 1) (by omega)))⟩
theorem pw_Y27 (post : SY → Prop) (hp : post (len, (upd P 12 0) 13, 0, 0, al, sp, 0, dp, pc, nI 0, pa, 0, 0, 0, nI 0, (upd P 12 0) 6, (upd P 12 0) 7, (upd P 12 0) 8, cv, (upd P 12 0) 10, (upd P 12 0) 12, (upd P 12 0) 14, (upd P 12 0) 16, (upd P 12 0) 18, (upd P 12 0) 19, si, rx, ov, sl, sb, cl, yl, yb, ya, ops, oa, ob, ve, an, so, rg, tk_qi me 32, st, li, tk_q n, tk_d (upd P 12 0) 0, tk_d (upd P 12 0) 1, tk_d (upd P 12 0) 2)) : ∀ d i : Nat, i + d = 32 → wY_power_27 post len (P 13) z c al sp ha dp pc (nI T) pa ta re ed (nI S) (P 6) (P 7) (P 8) cv (P 10) (P 12) (P 14) (P 16) (P 18) (P 19) si rx ov sl sb cl yl yb ya (d + 1) (nI i) ops oa ob ve an so rg (tk_qi me i) st li (tk_q n) (tk_d P 0) (tk_d P 1) (tk_d P 2) := by
  intro d
  induction d with
  | zero =>
    intro i hi
    have e : i = 32 := by omega
    subst e
    exact br_t (by decide) hp
  | succ d ih =>
    intro i hi
    have h : ¬ (32 : Int32) ≤ nI i := nI_ge (b := 32) (by omega) (by decide)
    exact br_f h ⟨vp_in_nI (by omega) (by decide), nm_r (by rw [nI_clamp (by omega)]; exact tk_qiS me i) (nm_r (nI_1 i) (ih (i + 1) (by omega)))⟩
theorem pw_X14 (post : SX → Prop) (hp : post (len, pc, 0, 0, al, dp, sp, 0, nI 0, 0, 0, 0, nI n, rx, ov, sb, sl, nI 0, cl, yb, ya, yl, w, ops, oa, ob, ve, tk_qi rg 8, tk_qi me 32, st, an, so, li, P)) : ∀ d i : Nat, i + d = 8 → wX_power_14 post len pc z c al dp sp ha (nI T) re ta ed (nI n) rx ov sb sl (nI S) cl yb ya yl w (d + 1) (nI i) ops oa ob ve (tk_qi rg i) me st an so li P := by
  intro d
  induction d with
  | zero =>
    intro i hi
    have e : i = 8 := by omega
    subst e
    exact br_t (by decide) ⟨33, by have := pw_X35 (n := n) (T := T) (S := S) (len := len) (pc := pc) (z := z) (c := c) (al := al) (dp := dp) (sp := sp) (ha := ha) (re := re) (ta := ta) (ed := ed) (rx := rx) (ov := ov) (sb := sb) (sl := sl) (cl := cl) (yb := yb) (ya := ya) (yl := yl) (w := w) (ops := ops) (oa := oa) (ob := ob) (ve := ve) (rg := tk_qi rg 8) (me := me) (st := st) (an := an) (so := so) (li := li) (P := P) post hp 32 0 rfl; rw [tk_qi0] at this; exact this⟩
  | succ d ih =>
    intro i hi
    have h : ¬ (8 : Int32) ≤ nI i := nI_ge (b := 8) (by omega) (by decide)
    exact br_f h ⟨vp_in_nI (by omega) (by decide), nm_r (by rw [nI_clamp (by omega)]; exact tk_qiS rg i) (nm_r (nI_1 i) (ih (i + 1) (by omega)))⟩
theorem pw_Y6 (post : SY → Prop) (hp : post (len, (upd P 12 0) 13, 0, 0, al, sp, 0, dp, pc, nI 0, pa, 0, 0, 0, nI 0, (upd P 12 0) 6, (upd P 12 0) 7, (upd P 12 0) 8, cv, (upd P 12 0) 10, (upd P 12 0) 12, (upd P 12 0) 14, (upd P 12 0) 16, (upd P 12 0) 18, (upd P 12 0) 19, si, rx, ov, sl, sb, cl, yl, yb, ya, ops, oa, ob, ve, an, so, tk_qi rg 8, tk_qi me 32, st, li, tk_q n, tk_d (upd P 12 0) 0, tk_d (upd P 12 0) 1, tk_d (upd P 12 0) 2)) : ∀ d i : Nat, i + d = 8 → wY_power_6 post len (P 13) z c al sp ha dp pc (nI T) pa ta re ed (nI S) (P 6) (P 7) (P 8) cv (P 10) (P 12) (P 14) (P 16) (P 18) (P 19) si rx ov sl sb cl yl yb ya (d + 1) (nI i) ops oa ob ve an so (tk_qi rg i) me st li (tk_q n) (tk_d P 0) (tk_d P 1) (tk_d P 2) := by
  intro d
  induction d with
  | zero =>
    intro i hi
    have e : i = 8 := by omega
    subst e
    exact br_t (by decide) ⟨33, by have := pw_Y27 (n := n) (T := T) (S := S) (len := len) (pc := pc) (z := z) (c := c) (al := al) (dp := dp) (sp := sp) (ha := ha) (re := re) (ta := ta) (ed := ed) (rx := rx) (ov := ov) (sb := sb) (sl := sl) (cl := cl) (yb := yb) (ya := ya) (yl := yl) (pa := pa) (cv := cv) (si := si) (ops := ops) (oa := oa) (ob := ob) (ve := ve) (rg := tk_qi rg 8) (me := me) (st := st) (an := an) (so := so) (li := li) (P := P) post hp 32 0 rfl; rw [tk_qi0] at this; exact this⟩
  | succ d ih =>
    intro i hi
    have h : ¬ (8 : Int32) ≤ nI i := nI_ge (b := 8) (by omega) (by decide)
    exact br_f h ⟨vp_in_nI (by omega) (by decide), nm_r (by rw [nI_clamp (by omega)]; exact tk_qiS rg i) (nm_r (nI_1 i) (ih (i + 1) (by omega)))⟩
theorem pw_X (post : SX → Prop) (hp : post (len, 0, 0, 0, 0, 0, 0, 0, nI 0, 0, 0, 0, nI 0, 0, 0, sb, 0, nI 0, 0, yb, ya, 0, 0, ops, oa, ob, ve, tk_qi rg 8, tk_qi me 32, st, an, so, li, upd (tk_ri P 20) 12 0)) : wpX_power post (len, pc, z, c, al, dp, sp, ha, nI T, re, ta, ed, nI n, rx, ov, sb, sl, nI S, cl, yb, ya, yl, w, ops, oa, ob, ve, rg, me, st, an, so, li, P) := by
  unfold wpX_power
  refine rs_X _ (nm_e ⟨9, ?_⟩)
  have := pw_X14 (n := 0) (T := T) (S := S) (len := len) (pc := 0) (z := z) (c := c) (al := 0) (dp := 0) (sp := 0) (ha := ha) (re := re) (ta := ta) (ed := ed) (rx := 0) (ov := 0) (sb := sb) (sl := 0) (cl := 0) (yb := yb) (ya := ya) (yl := 0) (w := 0) (ops := ops) (oa := oa) (ob := ob) (ve := ve) (rg := rg) (me := me) (st := st) (an := an) (so := so) (li := li) (P := upd (tk_ri P 20) 12 0) post hp 8 0 rfl
  rw [tk_qi0] at this
  exact this
theorem pw_Y (hn : n < 512) (post : SY → Prop) (hp : post (len, (upd (tk_ri P 20) 12 0) 13, 0, 0, 0, 0, 0, 0, 0, nI 0, pa, 0, 0, 0, nI 0, (upd (tk_ri P 20) 12 0) 6, (upd (tk_ri P 20) 12 0) 7, (upd (tk_ri P 20) 12 0) 8, 0, (upd (tk_ri P 20) 12 0) 10, (upd (tk_ri P 20) 12 0) 12, (upd (tk_ri P 20) 12 0) 14, (upd (tk_ri P 20) 12 0) 16, (upd (tk_ri P 20) 12 0) 18, (upd (tk_ri P 20) 12 0) 19, 0, 0, 0, 0, sb, 0, 0, yb, ya, ops, oa, ob, ve, an, so, tk_qi rg 8, tk_qi me 32, st, li, tk_q 0, tk_d (upd (tk_ri P 20) 12 0) 0, tk_d (upd (tk_ri P 20) 12 0) 1, tk_d (upd (tk_ri P 20) 12 0) 2)) : wpY_power post (len, P 13, z, c, al, sp, ha, dp, pc, nI T, pa, ta, re, ed, nI S, P 6, P 7, P 8, cv, P 10, P 12, P 14, P 16, P 18, P 19, si, rx, ov, sl, sb, cl, yl, yb, ya, ops, oa, ob, ve, an, so, rg, me, st, li, tk_q n, tk_d P 0, tk_d P 1, tk_d P 2) := by
  unfold wpY_power
  refine rs_Y (P := P) hn _ ⟨9, ?_⟩
  have := pw_Y6 (n := 0) (T := T) (S := S) (len := len) (pc := 0) (z := z) (c := c) (al := 0) (dp := 0) (sp := 0) (ha := ha) (re := re) (ta := ta) (ed := ed) (rx := 0) (ov := 0) (sb := sb) (sl := 0) (cl := 0) (yb := yb) (ya := ya) (yl := 0) (pa := pa) (cv := 0) (si := 0) (ops := ops) (oa := oa) (ob := ob) (ve := ve) (rg := rg) (me := me) (st := st) (an := an) (so := so) (li := li) (P := tk_ri P 20) post hp 8 0 rfl
  rw [tk_qi0] at this
  exact this
end
