/-! reset, serial line, converter, store, watchdog -/
section
variable {n T S : Nat} {len pc z c al dp sp ha re ta ed rx ov sb sl cl yb ya yl w pa cv si : Int32} {ops oa ob ve rg me st an so li P : Nat → Int32}
def tk_ri (P : Nat → Int32) (i : Nat) : Nat → Int32 := fun j => if j < i ∧ j ≠ 12 ∧ j ≠ 13 then 0 else P j
theorem tk_ri0 (P : Nat → Int32) : tk_ri P 0 = P := by
  funext j
  unfold tk_ri
  rw [if_neg (by omega)]
theorem tk_riK (P : Nat → Int32) {i : Nat} (h : i = 12 ∨ i = 13) : tk_ri P (i + 1) = tk_ri P i := by
  funext j
  unfold tk_ri
  by_cases z : j < i ∧ j ≠ 12 ∧ j ≠ 13
  · rw [if_pos z, if_pos (by omega)]
  · rw [if_neg z, if_neg (by omega)]
theorem tk_riS (P : Nat → Int32) {i : Nat} (h1 : i ≠ 12) (h2 : i ≠ 13) : upd (tk_ri P i) i 0 = tk_ri P (i + 1) := by
  funext j
  unfold upd tk_ri
  by_cases z : j = i
  · rw [if_pos z, if_pos (by omega)]
  · rw [if_neg z]
    by_cases y : j < i ∧ j ≠ 12 ∧ j ≠ 13
    · rw [if_pos y, if_pos (by omega)]
    · rw [if_neg y, if_neg (by omega)]
theorem tk_riB {P : Nat → Int32} (h : ∀ j, tk_lt 256 (P j)) (i : Nat) : ∀ j, tk_lt 256 (tk_ri P i j) := by
  intro j
  unfold tk_ri
  by_cases z : j < i ∧ j ≠ 12 ∧ j ≠ 13
  · rw [if_pos z]; exact tk_0 (by decide)
  · rw [if_neg z]; exact h j
def tk_qi (q : Nat → Int32) (i : Nat) : Nat → Int32 := fun j => if j < i then 0 else q j
theorem tk_qi0 (q : Nat → Int32) : tk_qi q 0 = q := by
  funext j
  unfold tk_qi
  rw [if_neg (by omega)]
theorem tk_qiS (q : Nat → Int32) (i : Nat) : upd (tk_qi q i) i 0 = tk_qi q (i + 1) := by
  funext j
  unfold upd tk_qi
  by_cases z : j = i
  · rw [if_pos z, if_pos (by omega)]
  · rw [if_neg z]
    by_cases y : j < i
    · rw [if_pos y, if_pos (by omega)]
    · rw [if_neg y, if_neg (by omega)]
theorem tk_qiB {q : Nat → Int32} {m : Nat} (hm : 0 < m) (h : ∀ j, tk_lt m (q j)) (i : Nat) : ∀ j, tk_lt m (tk_qi q i j) := by
  intro j
  unfold tk_qi
  by_cases z : j < i
  · rw [if_pos z]; exact tk_0 hm
  · rw [if_neg z]; exact h j
theorem tk_qi9 {n : Nat} (hn : n < 512) : tk_qi (tk_q n) 9 = tk_q 0 := by
  funext j
  rw [tk_q0]
  unfold tk_qi
  by_cases y : j < 9
  · rw [if_pos y]
  · rw [if_neg y]; exact tk_qf (tk_hi hn (by omega))
theorem tk_dz (P : Nat → Int32) (i : Nat) (hi : i < 3) : upd (upd (tk_d P i) 0 0) 1 0 = tk_d (tk_ri P 20) i := by
  funext j
  by_cases z : j = 1
  · subst z
    show (0 : Int32) = tk_ri P 20 (i + 3)
    unfold tk_ri
    rw [if_pos (by omega)]
  · rw [pk_un z]
    by_cases y : j = 0
    · subst y
      show (0 : Int32) = tk_ri P 20 i
      unfold tk_ri
      rw [if_pos (by omega)]
    · rw [pk_un y]
      unfold tk_d
      rw [if_neg y, if_neg z, if_neg y, if_neg z]
theorem rs_Xl (post : SX → Prop) (hp : post (len, 0, z, c, 0, 0, 0, ha, nI T, re, ta, ed, nI 0, 0, 0, sb, 0, nI S, 0, yb, ya, 0, 0, ops, oa, ob, ve, rg, me, st, an, so, li, tk_ri P 20)) : ∀ d i : Nat, i + d = 20 → wX_reset_22 post len 0 z c 0 0 0 ha (nI T) re ta ed (nI n) rx ov sb sl (nI S) cl yb ya yl w (d + 1) (nI i) ops oa ob ve rg me st an so li (tk_ri P i) := by
  intro d
  induction d with
  | zero =>
    intro i hi
    have e : i = 20 := by omega
    subst e
    exact br_t (by decide) hp
  | succ d ih =>
    intro i hi
    have h : ¬ (20 : Int32) ≤ nI i := nI_ge (b := 20) (by omega) (by decide)
    by_cases e12 : i = 12
    · have := ih (i + 1) (by omega)
      rw [tk_riK P (Or.inl e12)] at this
      exact br_f h (br_t (by rw [e12]; rfl) (nm_r (nI_1 i) this))
    · have f12 : ¬ nI i = 12 := fun q => e12 ((nI_eq (b := 12) (by omega) (by decide)).mp q)
      by_cases e13 : i = 13
      · have := ih (i + 1) (by omega)
        rw [tk_riK P (Or.inr e13)] at this
        exact br_f h (br_f f12 (br_t (by rw [e13]; rfl) (nm_r (nI_1 i) this)))
      · have f13 : ¬ nI i = 13 := fun q => e13 ((nI_eq (b := 13) (by omega) (by decide)).mp q)
        exact br_f h (br_f f12 (br_f f13 ⟨vp_in_nI (by omega) (by decide), nm_r (by rw [nI_clamp (by omega)]; exact tk_riS P e12 e13) (nm_r (nI_1 i) (ih (i + 1) (by omega)))⟩))
theorem rs_X (post : SX → Prop) (hp : post (len, 0, z, c, 0, 0, 0, ha, nI T, re, ta, ed, nI 0, 0, 0, sb, 0, nI S, 0, yb, ya, 0, 0, ops, oa, ob, ve, rg, me, st, an, so, li, tk_ri P 20)) : wpX_reset post (len, pc, z, c, al, dp, sp, ha, nI T, re, ta, ed, nI n, rx, ov, sb, sl, nI S, cl, yb, ya, yl, w, ops, oa, ob, ve, rg, me, st, an, so, li, P) := by
  unfold wpX_reset
  have := rs_Xl (n := n) (T := T) (S := S) (len := len) (z := z) (c := c) (ha := ha) (re := re) (ta := ta) (ed := ed) (rx := rx) (ov := ov) (sb := sb) (sl := sl) (cl := cl) (yb := yb) (ya := ya) (yl := yl) (w := w) (ops := ops) (oa := oa) (ob := ob) (ve := ve) (rg := rg) (me := me) (st := st) (an := an) (so := so) (li := li) (P := P) post hp 20 0 rfl
  rw [tk_ri0] at this
  exact ⟨21, this⟩
theorem rs_Yl (hn : n < 512) (post : SY → Prop) (hp : post (len, (tk_ri P 20) 13, z, c, 0, 0, ha, 0, 0, nI T, pa, ta, re, ed, nI S, (tk_ri P 20) 6, (tk_ri P 20) 7, (tk_ri P 20) 8, 0, (tk_ri P 20) 10, (tk_ri P 20) 12, (tk_ri P 20) 14, (tk_ri P 20) 16, (tk_ri P 20) 18, (tk_ri P 20) 19, 0, 0, 0, 0, sb, 0, 0, yb, ya, ops, oa, ob, ve, an, so, rg, me, st, li, tk_q 0, tk_d (tk_ri P 20) 0, tk_d (tk_ri P 20) 1, tk_d (tk_ri P 20) 2)) : ∀ d i : Nat, i + d = 9 → wY_reset_22 post len (P 13) z c 0 0 ha 0 0 (nI T) pa ta re ed (nI S) (P 6) (P 7) (P 8) cv (P 10) (P 12) (P 14) (P 16) (P 18) (P 19) si rx ov sl sb cl yl yb ya (d + 1) (nI i) ops oa ob ve an so rg me st li (tk_qi (tk_q n) i) (tk_d P 0) (tk_d P 1) (tk_d P 2) := by
  intro d
  induction d with
  | zero =>
    intro i hi
    have e : i = 9 := by omega
    subst e
    rw [tk_qi9 hn]
    exact br_t (by decide) ⟨3, br_f (by decide) ⟨(vp_in_iff.mpr (by decide)), nm_e ⟨(vp_in_iff.mpr (by decide)), nm_e ⟨(vp_in_iff.mpr (by decide)), nm_e (nm_r (e' := 1) rfl (br_f (by decide) ⟨(vp_in_iff.mpr (by decide)), nm_r (tk_dz P 0 (by decide)) ⟨(vp_in_iff.mpr (by decide)), nm_r (tk_dz P 1 (by decide)) ⟨(vp_in_iff.mpr (by decide)), nm_r (tk_dz P 2 (by decide)) (nm_r (e' := 2) rfl (br_t (by decide) hp))⟩⟩⟩))⟩⟩⟩⟩
  | succ d ih =>
    intro i hi
    have h : ¬ (9 : Int32) ≤ nI i := nI_ge (b := 9) (by omega) (by decide)
    exact br_f h ⟨vp_in_nI (by omega) (by decide), nm_r (by rw [nI_clamp (by omega), tk_nb0]; exact tk_qiS (tk_q n) i) (nm_r (nI_1 i) (ih (i + 1) (by omega)))⟩
theorem rs_Y (hn : n < 512) (post : SY → Prop) (hp : post (len, (tk_ri P 20) 13, z, c, 0, 0, ha, 0, 0, nI T, pa, ta, re, ed, nI S, (tk_ri P 20) 6, (tk_ri P 20) 7, (tk_ri P 20) 8, 0, (tk_ri P 20) 10, (tk_ri P 20) 12, (tk_ri P 20) 14, (tk_ri P 20) 16, (tk_ri P 20) 18, (tk_ri P 20) 19, 0, 0, 0, 0, sb, 0, 0, yb, ya, ops, oa, ob, ve, an, so, rg, me, st, li, tk_q 0, tk_d (tk_ri P 20) 0, tk_d (tk_ri P 20) 1, tk_d (tk_ri P 20) 2)) : wpY_reset post (len, P 13, z, c, al, sp, ha, dp, pc, nI T, pa, ta, re, ed, nI S, P 6, P 7, P 8, cv, P 10, P 12, P 14, P 16, P 18, P 19, si, rx, ov, sl, sb, cl, yl, yb, ya, ops, oa, ob, ve, an, so, rg, me, st, li, tk_q n, tk_d P 0, tk_d P 1, tk_d P 2) := by
  unfold wpY_reset
  have := rs_Yl (n := n) (T := T) (S := S) (len := len) (z := z) (c := c) (ha := ha) (re := re) (ta := ta) (ed := ed) (rx := rx) (ov := ov) (sb := sb) (sl := sl) (cl := cl) (yb := yb) (ya := ya) (yl := yl) (pa := pa) (cv := cv) (si := si) (ops := ops) (oa := oa) (ob := ob) (ve := ve) (rg := rg) (me := me) (st := st) (an := an) (so := so) (li := li) (P := P) hn post hp 9 0 rfl
  rw [tk_qi0] at this
  exact ⟨10, this⟩
theorem ps_ser (hn : n < 512) (hS : S < 2 ^ 30) (hl : tk_lt 2049 sl) : ∃ (n' S' : Nat) (sl' : Int32) (li' : Nat → Int32), n' < 512 ∧ S' ≤ S + 1 ∧ tk_lt 2049 sl' ∧
    (∀ post : SX → Prop, post (len, pc, z, c, al, dp, sp, ha, nI T, re, ta, ed, nI n', rx, ov, sb, sl', nI S', cl, yb, ya, yl, w, ops, oa, ob, ve, rg, me, st, an, so, li', P) → wpX_passSerial post (len, pc, z, c, al, dp, sp, ha, nI T, re, ta, ed, nI n, rx, ov, sb, sl, nI S, cl, yb, ya, yl, w, ops, oa, ob, ve, rg, me, st, an, so, li, P)) ∧
    (∀ post : SY → Prop, wY_cycle_103 post len (P 13) z c al sp ha dp pc (nI T) pa ta re ed (nI S') (P 6) (P 7) (P 8) cv (P 10) (P 12) (P 14) (P 16) (P 18) (P 19) si rx ov sl' sb cl yl yb ya ops oa ob ve an so rg me st li' (tk_q n') (tk_d P 0) (tk_d P 1) (tk_d P 2) → ((sl ≤ 0 → wY_cycle_103 post len (P 13) z c al sp ha dp pc (nI T) pa ta re ed (nI S) (P 6) (P 7) (P 8) cv (P 10) (P 12) (P 14) (P 16) (P 18) (P 19) si rx ov sl sb cl yl yb ya ops oa ob ve an so rg me st li (tk_q n) (tk_d P 0) (tk_d P 1) (tk_d P 2)) ∧ (¬ sl ≤ 0 → (∀ y : Int32, y = sl - 1 → ((y = 0 → ((32 ≤ nI S → wY_cycle_86 post len (P 13) z c al sp ha dp pc (nI T) pa ta re ed (nI S) (P 6) (P 7) (P 8) cv (P 10) (P 12) (P 14) (P 16) (P 18) (P 19) si rx ov y sb cl yl yb ya ops oa ob ve an so rg me st li (tk_q n) (tk_d P 0) (tk_d P 1) (tk_d P 2)) ∧ (¬ 32 ≤ nI S → (vp_in (nI S) 32 ∧ ∀ a : Nat → Int32, a = upd li (nI S).toNatClampNeg sb → wY_cycle_86 post len (P 13) z c al sp ha dp pc (nI T) pa ta re ed (nI S) (P 6) (P 7) (P 8) cv (P 10) (P 12) (P 14) (P 16) (P 18) (P 19) si rx ov y sb cl yl yb ya ops oa ob ve an so rg me st a (tk_q n) (tk_d P 0) (tk_d P 1) (tk_d P 2))))) ∧ (¬ y = 0 → wY_cycle_103 post len (P 13) z c al sp ha dp pc (nI T) pa ta re ed (nI S) (P 6) (P 7) (P 8) cv (P 10) (P 12) (P 14) (P 16) (P 18) (P 19) si rx ov y sb cl yl yb ya ops oa ob ve an so rg me st li (tk_q n) (tk_d P 0) (tk_d P 1) (tk_d P 2))))))) := by
  have hk : n ||| 2 ^ 5 < 512 := tk_setlt hn (by decide)
  obtain ⟨s, hs, rfl⟩ := hl
  rcases (by omega : s = 0 ∨ s = 1 ∨ 2 ≤ s) with z | z | z
  · subst z
    exact ⟨n, S, 0, li, hn, by omega, tk_0 (by decide), fun post hp => br_t (by decide) hp, fun post hp => br_t (by decide) hp⟩
  · subst z
    by_cases h32 : 32 ≤ S
    · have h : (32 : Int32) ≤ nI S := nI_le (a := 32) h32 (by omega)
      exact ⟨n ||| 2 ^ 5, S + 1, 0, li, hk, by omega, tk_0 (by decide), fun post hp => br_f (by decide) (nm_r (e' := 0) (by decide) (br_t rfl (br_t h (nm_r (nI_1 S) (nm_r (tk_or n 32) hp))))), fun post hp => br_f (by decide) (nm_r (e' := 0) (by decide) (br_t rfl (br_t h (nm_r (nI_1 S) (nm_r (tk_setN n 5) hp)))))⟩
    · have h : ¬ (32 : Int32) ≤ nI S := nI_ge (b := 32) (by omega) (by decide)
      have hi : vp_in (nI S) 32 := vp_in_nI (by omega) (by decide)
      exact ⟨n ||| 2 ^ 5, S + 1, 0, upd li (nI S).toNatClampNeg sb, hk, by omega, tk_0 (by decide), fun post hp => br_f (by decide) (nm_r (e' := 0) (by decide) (br_t rfl (br_f h ⟨hi, nm_e (nm_r (nI_1 S) (nm_r (tk_or n 32) hp))⟩))), fun post hp => br_f (by decide) (nm_r (e' := 0) (by decide) (br_t rfl (br_f h ⟨hi, nm_e (nm_r (nI_1 S) (nm_r (tk_setN n 5) hp))⟩)))⟩
  · obtain ⟨k, rfl⟩ : ∃ k, s = k + 2 := ⟨s - 2, by omega⟩
    have h1 : ¬ nI (k + 2) = 0 := nI_ne0 (by omega) (by omega)
    have h2 : ¬ nI (k + 2) ≤ 0 := nI_nle (by omega) (by omega)
    have h3 : ¬ nI (k + 1) = 0 := nI_ne0 (by omega) (by omega)
    exact ⟨n, S, nI (k + 1), li, hn, by omega, tk_mk (by omega), fun post hp => br_f h1 (nm_r (nI_pred (k + 1)) (br_f h3 hp)), fun post hp => br_f h2 (nm_r (nI_pred (k + 1)) (br_f h3 hp))⟩
theorem ps_conv (h3 : tk_I3 cv P) (hA : ∀ j, tk_lt 256 (an j)) (hn : n < 512) (hl : tk_lt 53 cl) : ∃ (n' : Nat) (cl' : Int32) (P' : Nat → Int32), n' < 512 ∧ tk_lt 53 cl' ∧ tk_I3 cv P' ∧ P' 14 = P 14 ∧
    (∀ post : SX → Prop, post (len, pc, z, c, al, dp, sp, ha, nI T, re, ta, ed, nI n', rx, ov, sb, sl, nI S, cl', yb, ya, yl, w, ops, oa, ob, ve, rg, me, st, an, so, li, P') → wpX_passConverter post (len, pc, z, c, al, dp, sp, ha, nI T, re, ta, ed, nI n, rx, ov, sb, sl, nI S, cl, yb, ya, yl, w, ops, oa, ob, ve, rg, me, st, an, so, li, P)) ∧
    (∀ post : SY → Prop, wY_cycle_150 post len (P' 13) z c al sp ha dp pc (nI T) pa ta re ed (nI S) (P' 6) (P' 7) (P' 8) cv (P' 10) (P' 12) (P' 14) (P' 16) (P' 18) (P' 19) si rx ov sl sb cl' yl yb ya ops oa ob ve an so rg me st li (tk_q n') (tk_d P' 0) (tk_d P' 1) (tk_d P' 2) → wY_cycle_103 post len (P 13) z c al sp ha dp pc (nI T) pa ta re ed (nI S) (P 6) (P 7) (P 8) cv (P 10) (P 12) (P 14) (P 16) (P 18) (P 19) si rx ov sl sb cl yl yb ya ops oa ob ve an so rg me st li (tk_q n) (tk_d P 0) (tk_d P 1) (tk_d P 2)) := by
  have hk : n ||| 2 ^ 6 < 512 := tk_setlt hn (by decide)
  obtain ⟨s, hs, rfl⟩ := hl
  rcases (by omega : s = 0 ∨ s = 1 ∨ 2 ≤ s) with z | z | z
  · subst z
    exact ⟨n, 0, P, hn, tk_0 (by decide), h3, rfl, fun post hp => br_t (by decide) hp, fun post hp => br_t (by decide) hp⟩
  · subst z
    have e9 : P 9 &&& 3 = cv &&& 3 := by
      obtain ⟨m, hm, em⟩ := h3.1
      rw [h3.2.1, em]
      exact tk_cm3 m hm
    have hi : vp_in (cv &&& 3) 4 := pk_andIn cv (m := 3) 2 (by decide) (by decide)
    refine ⟨n ||| 2 ^ 6, 0, upd P 10 (an (cv &&& 3).toNatClampNeg), hk, tk_0 (by decide), tk_3up h3 (by decide) (by decide) (by decide) (by decide) (hA _), rfl, fun post hp => br_f (by decide) (nm_r (e' := 0) (by decide) (br_t rfl ⟨by rw [e9]; exact hi, nm_r (by rw [e9]) (nm_r (tk_or n 64) hp)⟩)), fun post hp => br_f (by decide) (nm_r (e' := 0) (by decide) (br_t rfl ⟨hi, nm_e (nm_r (tk_setN n 6) hp)⟩))⟩
  · obtain ⟨k, rfl⟩ : ∃ k, s = k + 2 := ⟨s - 2, by omega⟩
    have h1 : ¬ nI (k + 2) = 0 := nI_ne0 (by omega) (by omega)
    have h2 : ¬ nI (k + 2) ≤ 0 := nI_nle (by omega) (by omega)
    have h4 : ¬ nI (k + 1) = 0 := nI_ne0 (by omega) (by omega)
    exact ⟨n, nI (k + 1), P, hn, tk_mk (by omega), h3, rfl, fun post hp => br_f h1 (nm_r (nI_pred (k + 1)) (br_f h4 hp)), fun post hp => br_f h2 (nm_r (nI_pred (k + 1)) (br_f h4 hp))⟩
theorem ps_store (hn : n < 512) (hl : tk_lt 41 yl) (hy : tk_lt 16 ya) (hb : tk_lt 256 yb) (hs : ∀ j, tk_lt 256 (so j)) : ∃ (n' : Nat) (yl' : Int32) (so' : Nat → Int32), n' < 512 ∧ tk_lt 41 yl' ∧ (∀ j, tk_lt 256 (so' j)) ∧
    (∀ post : SX → Prop, post (len, pc, z, c, al, dp, sp, ha, nI T, re, ta, ed, nI n', rx, ov, sb, sl, nI S, cl, yb, ya, yl', w, ops, oa, ob, ve, rg, me, st, an, so', li, P) → wpX_passStore post (len, pc, z, c, al, dp, sp, ha, nI T, re, ta, ed, nI n, rx, ov, sb, sl, nI S, cl, yb, ya, yl, w, ops, oa, ob, ve, rg, me, st, an, so, li, P)) ∧
    (∀ post : SY → Prop, wY_cycle_195 post len (P 13) z c al sp ha dp pc (nI T) pa ta re ed (nI S) (P 6) (P 7) (P 8) cv (P 10) (P 12) (P 14) (P 16) (P 18) (P 19) si rx ov sl sb cl yl' yb ya ops oa ob ve an so' rg me st li (tk_q n') (tk_d P 0) (tk_d P 1) (tk_d P 2) → wY_cycle_150 post len (P 13) z c al sp ha dp pc (nI T) pa ta re ed (nI S) (P 6) (P 7) (P 8) cv (P 10) (P 12) (P 14) (P 16) (P 18) (P 19) si rx ov sl sb cl yl yb ya ops oa ob ve an so rg me st li (tk_q n) (tk_d P 0) (tk_d P 1) (tk_d P 2)) := by
  have hk : n ||| 2 ^ 7 < 512 := tk_setlt hn (by decide)
  obtain ⟨s, hs', rfl⟩ := hl
  rcases (by omega : s = 0 ∨ s = 1 ∨ 2 ≤ s) with z | z | z
  · subst z
    exact ⟨n, 0, so, hn, tk_0 (by decide), hs, fun post hp => br_t (by decide) hp, fun post hp => br_t (by decide) hp⟩
  · subst z
    have hi : vp_in ya 16 := tk_in hy (by decide)
    exact ⟨n ||| 2 ^ 7, 0, upd so ya.toNatClampNeg yb, hk, tk_0 (by decide), tk_upd hs hb, fun post hp => br_f (by decide) (nm_r (e' := 0) (by decide) (br_t rfl ⟨hi, nm_e (nm_r (tk_or n 128) hp)⟩)), fun post hp => br_f (by decide) (nm_r (e' := 0) (by decide) (br_t rfl ⟨hi, nm_e (nm_r (tk_setN n 7) hp)⟩))⟩
  · obtain ⟨k, rfl⟩ : ∃ k, s = k + 2 := ⟨s - 2, by omega⟩
    have h1 : ¬ nI (k + 2) = 0 := nI_ne0 (by omega) (by omega)
    have h2 : ¬ nI (k + 2) ≤ 0 := nI_nle (by omega) (by omega)
    have h4 : ¬ nI (k + 1) = 0 := nI_ne0 (by omega) (by omega)
    exact ⟨n, nI (k + 1), so, hn, tk_mk (by omega), hs, fun post hp => br_f h1 (nm_r (nI_pred (k + 1)) (br_f h4 hp)), fun post hp => br_f h2 (nm_r (nI_pred (k + 1)) (br_f h4 hp))⟩
end
