/-! the timers -/
section
variable {n T S : Nat} {len pc z c al dp sp ha re ta ed rx ov sb sl cl yb ya yl w pa cv si : Int32} {ops oa ob ve rg me st an so li P : Nat → Int32}
theorem tk_3up (h : tk_I3 cv P) {k : Nat} {x : Int32} (h7 : 7 ≠ k) (h9 : 9 ≠ k) (h16 : 16 ≠ k) (h18 : 18 ≠ k) (hx : tk_lt 256 x) : tk_I3 cv (upd P k x) :=
  ⟨h.1, by rw [pk_un h9]; exact h.2.1, tk_upd h.2.2.1 hx, by rw [pk_un h7]; exact h.2.2.2.1, by rw [pk_un h16]; exact h.2.2.2.2.1, by rw [pk_un h18]; exact h.2.2.2.2.2⟩
theorem tk_uu (P : Nat → Int32) (k : Nat) (x y : Int32) : upd (upd P k x) k y = upd P k y := by
  funext j
  unfold upd
  by_cases h : j = k
  · rw [if_pos h, if_pos h]
  · rw [if_neg h, if_neg h, if_neg h]
theorem te_0 (h3 : tk_I3 cv P) (hn : n < 512) : ∃ (n' : Nat) (ed' : Int32) (P' : Nat → Int32), n' < 512 ∧ tk_I3 cv P' ∧ P' 14 = P 14 ∧
    (∀ post : SX → Prop, post (len, pc, z, c, al, dp, sp, ha, nI T, re, ta, ed', nI n', rx, ov, sb, sl, nI S, cl, yb, ya, yl, w, ops, oa, ob, ve, rg, me, st, an, so, li, P') → wX_passTimer_102 post 0 0 (P 1) (P 2) len pc z c al dp sp ha (nI T) re ta ed (nI n) rx ov sb sl (nI S) cl yb ya yl w ops oa ob ve rg me st an so li P) ∧
    (∀ post : SY → Prop, post (len, P' 13, z, c, al, sp, ha, dp, pc, nI T, pa, ta, re, ed', nI S, P' 6, P' 7, P' 8, cv, P' 10, P' 12, P' 14, P' 16, P' 18, P' 19, si, rx, ov, sl, sb, cl, yl, yb, ya, ops, oa, ob, ve, an, so, rg, me, st, li, tk_q n', tk_d P' 0, tk_d P' 1, tk_d P' 2) → wY_timer_119 post 0 len (P 13) z c al sp ha dp pc (nI T) pa ta re ed (nI S) (P 6) (P 7) (P 8) cv (P 10) (P 12) (P 14) (P 16) (P 18) (P 19) si rx ov sl sb cl yl yb ya ops oa ob ve an so rg me st li (tk_q n) (tk_d P 0) (tk_d P 1) (tk_d P 2)) := by
  have pe : nI n ||| ((1 : Int32) <<< ((2 * 0) &&& 31)) = nI (n ||| 2 ^ 0) := by
    rw [show ((1 : Int32) <<< ((2 * 0) &&& 31)) = nI (2 ^ 0) from by decide]
    exact tk_or n (2 ^ 0)
  have hk : n ||| 2 ^ 0 < 512 := tk_setlt hn (by decide)
  by_cases e : P 0 = P 2
  · by_cases b : P 1 &&& 32 = 0
    · exact ⟨n ||| 2 ^ 0, ed, P, hk, h3, rfl, fun post hp => ⟨(vp_in_iff.mpr (by decide)), br_t e (nm_r pe (br_t b hp))⟩, fun post hp => ⟨(vp_in_iff.mpr (by decide)), (vp_in_iff.mpr (by decide)), br_t e ⟨(vp_in_iff.mpr (by decide)), nm_r (tk_setN n 0) ⟨(vp_in_iff.mpr (by decide)), br_t b hp⟩⟩⟩⟩
    · obtain ⟨o, ho, eo⟩ := h3.2.2.1 12
      have hx : P 12 ^^^ ((1 : Int32) <<< ((0 : Int32) &&& 31)) = nI (o ^^^ 2 ^ 0) := by
        rw [eo, show ((1 : Int32) <<< ((0 : Int32) &&& 31)) = nI (2 ^ 0) from by decide, nx_xor]
      have hv : o ^^^ 2 ^ 0 < 256 := Nat.xor_lt_two_pow (n := 8) ho (by decide)
      obtain ⟨ed', hX, hY⟩ := sh_pins (n := n ||| 2 ^ 0) (T := T) (S := S) (len := len) (pc := pc) (z := z) (c := c) (al := al) (dp := dp) (sp := sp) (ha := ha) (re := re) (ta := ta) (ed := ed) (rx := rx) (ov := ov) (sb := sb) (sl := sl) (cl := cl) (yb := yb) (ya := ya) (yl := yl) (w := w) (pa := pa) (cv := cv) (si := si) (ops := ops) (oa := oa) (ob := ob) (ve := ve) (rg := rg) (me := me) (st := st) (an := an) (so := so) (li := li) (P := P) ho hv eo
      refine ⟨n ||| 2 ^ 0, ed', upd P 12 (nI (o ^^^ 2 ^ 0)), hk, tk_3up h3 (by decide) (by decide) (by decide) (by decide) (tk_mk hv), rfl, fun post hp => ⟨(vp_in_iff.mpr (by decide)), br_t e (nm_r pe (br_f b ?_))⟩, fun post hp => ⟨(vp_in_iff.mpr (by decide)), (vp_in_iff.mpr (by decide)), br_t e ⟨(vp_in_iff.mpr (by decide)), nm_r (tk_setN n 0) ⟨(vp_in_iff.mpr (by decide)), br_f b ?_⟩⟩⟩⟩
      · rw [hx]; exact hX _ hp
      · rw [hx]; exact hY _ hp
  · exact ⟨n, ed, P, hn, h3, rfl, fun post hp => ⟨(vp_in_iff.mpr (by decide)), br_f e hp⟩, fun post hp => ⟨(vp_in_iff.mpr (by decide)), (vp_in_iff.mpr (by decide)), br_f e hp⟩⟩
theorem tt_0 : ((∀ post : Int32 → Prop, post 0 → wpX_ticksNow post (len, pc, z, c, al, dp, sp, ha, nI T, re, ta, ed, nI n, rx, ov, sb, sl, nI S, cl, yb, ya, yl, w, ops, oa, ob, ve, rg, me, st, an, so, li, P) (P 1 &&& 3)) ∧ (∀ post : SY → Prop, post (len, P 13, z, c, al, sp, ha, dp, pc, nI T, pa, ta, re, ed, nI S, P 6, P 7, P 8, cv, P 10, P 12, P 14, P 16, P 18, P 19, si, rx, ov, sl, sb, cl, yl, yb, ya, ops, oa, ob, ve, an, so, rg, me, st, li, tk_q n, tk_d P 0, tk_d P 1, tk_d P 2) → wpY_timer post (len, P 13, z, c, al, sp, ha, dp, pc, nI T, pa, ta, re, ed, nI S, P 6, P 7, P 8, cv, P 10, P 12, P 14, P 16, P 18, P 19, si, rx, ov, sl, sb, cl, yl, yb, ya, ops, oa, ob, ve, an, so, rg, me, st, li, tk_q n, tk_d P 0, tk_d P 1, tk_d P 2) 0)) ∨ ((∀ post : Int32 → Prop, post 1 → wpX_ticksNow post (len, pc, z, c, al, dp, sp, ha, nI T, re, ta, ed, nI n, rx, ov, sb, sl, nI S, cl, yb, ya, yl, w, ops, oa, ob, ve, rg, me, st, an, so, li, P) (P 1 &&& 3)) ∧ (∀ post : SY → Prop, wY_timer_43 post 0 len (P 13) z c al sp ha dp pc (nI T) pa ta re ed (nI S) (P 6) (P 7) (P 8) cv (P 10) (P 12) (P 14) (P 16) (P 18) (P 19) si rx ov sl sb cl yl yb ya ops oa ob ve an so rg me st li (tk_q n) (tk_d P 0) (tk_d P 1) (tk_d P 2) → wpY_timer post (len, P 13, z, c, al, sp, ha, dp, pc, nI T, pa, ta, re, ed, nI S, P 6, P 7, P 8, cv, P 10, P 12, P 14, P 16, P 18, P 19, si, rx, ov, sl, sb, cl, yl, yb, ya, ops, oa, ob, ve, an, so, rg, me, st, li, tk_q n, tk_d P 0, tk_d P 1, tk_d P 2) 0)) := by
  obtain ⟨h, hh, e⟩ := pk_andE (P 1) (m := 3) 2 (by decide)
  rcases (by omega : h = 0 ∨ h = 1 ∨ h = 2 ∨ h = 3) with z | z | z | z <;> subst z
  · refine Or.inl ⟨fun post hp => ?_, fun post hp => ?_⟩
    · rw [e]; exact br_t (by decide) hp
    · exact ⟨(vp_in_iff.mpr (by decide)), nm_r e (br_t (by decide) hp)⟩
  · refine Or.inr ⟨fun post hp => ?_, fun post hp => ?_⟩
    · rw [e]; exact br_f (by decide) (br_f (by decide) (br_t (by decide) hp))
    · exact ⟨(vp_in_iff.mpr (by decide)), nm_r e (br_f (by decide) (br_f (by decide) (br_f (by decide) hp)))⟩
  · by_cases q : nI T - nI T / 4 * 4 = 0
    · refine Or.inr ⟨fun post hp => ?_, fun post hp => ?_⟩
      · rw [e]; exact br_f (by decide) (br_f (by decide) (br_f (by decide) (br_t (by decide) ⟨by decide, br_t q hp⟩)))
      · exact ⟨(vp_in_iff.mpr (by decide)), nm_r e (br_f (by decide) (br_t (by decide) ⟨by decide, br_t q (br_f (by decide) hp)⟩))⟩
    · refine Or.inl ⟨fun post hp => ?_, fun post hp => ?_⟩
      · rw [e]; exact br_f (by decide) (br_f (by decide) (br_f (by decide) (br_t (by decide) ⟨by decide, br_f q hp⟩)))
      · exact ⟨(vp_in_iff.mpr (by decide)), nm_r e (br_f (by decide) (br_t (by decide) ⟨by decide, br_f q hp⟩))⟩
  · by_cases q : nI T - nI T / 16 * 16 = 0
    · refine Or.inr ⟨fun post hp => ?_, fun post hp => ?_⟩
      · rw [e]; exact br_f (by decide) (br_f (by decide) (br_f (by decide) (br_f (by decide) (br_t (by decide) ⟨by decide, br_t q hp⟩))))
      · exact ⟨(vp_in_iff.mpr (by decide)), nm_r e (br_f (by decide) (br_f (by decide) (br_t (by decide) ⟨by decide, br_t q hp⟩)))⟩
    · refine Or.inl ⟨fun post hp => ?_, fun post hp => ?_⟩
      · rw [e]; exact br_f (by decide) (br_f (by decide) (br_f (by decide) (br_f (by decide) (br_t (by decide) ⟨by decide, br_f q hp⟩))))
      · exact ⟨(vp_in_iff.mpr (by decide)), nm_r e (br_f (by decide) (br_f (by decide) (br_t (by decide) ⟨by decide, br_f q hp⟩)))⟩
theorem tm_0 (h3 : tk_I3 cv P) (hn : n < 512) : ∃ (n' : Nat) (ed' : Int32) (P' : Nat → Int32), n' < 512 ∧ tk_I3 cv P' ∧ P' 14 = P 14 ∧
    (∀ post : SX → Prop, post (len, pc, z, c, al, dp, sp, ha, nI T, re, ta, ed', nI n', rx, ov, sb, sl, nI S, cl, yb, ya, yl, w, ops, oa, ob, ve, rg, me, st, an, so, li, P') → wpX_passTimer post (len, pc, z, c, al, dp, sp, ha, nI T, re, ta, ed, nI n, rx, ov, sb, sl, nI S, cl, yb, ya, yl, w, ops, oa, ob, ve, rg, me, st, an, so, li, P) 0) ∧
    (∀ post : SY → Prop, post (len, P' 13, z, c, al, sp, ha, dp, pc, nI T, pa, ta, re, ed', nI S, P' 6, P' 7, P' 8, cv, P' 10, P' 12, P' 14, P' 16, P' 18, P' 19, si, rx, ov, sl, sb, cl, yl, yb, ya, ops, oa, ob, ve, an, so, rg, me, st, li, tk_q n', tk_d P' 0, tk_d P' 1, tk_d P' 2) → wpY_timer post (len, P 13, z, c, al, sp, ha, dp, pc, nI T, pa, ta, re, ed, nI S, P 6, P 7, P 8, cv, P 10, P 12, P 14, P 16, P 18, P 19, si, rx, ov, sl, sb, cl, yl, yb, ya, ops, oa, ob, ve, an, so, rg, me, st, li, tk_q n, tk_d P 0, tk_d P 1, tk_d P 2) 0) := by
  have pe : nI n ||| ((2 : Int32) <<< ((2 * 0) &&& 31)) = nI (n ||| 2 ^ 1) := by
    rw [show ((2 : Int32) <<< ((2 * 0) &&& 31)) = nI (2 ^ 1) from by decide]
    exact tk_or n (2 ^ 1)
  have hk : n ||| 2 ^ 1 < 512 := tk_setlt hn (by decide)
  rcases tt_0 (n := n) (T := T) (S := S) (len := len) (pc := pc) (z := z) (c := c) (al := al) (dp := dp) (sp := sp) (ha := ha) (re := re) (ta := ta) (ed := ed) (rx := rx) (ov := ov) (sb := sb) (sl := sl) (cl := cl) (yb := yb) (ya := ya) (yl := yl) (w := w) (pa := pa) (cv := cv) (si := si) (ops := ops) (oa := oa) (ob := ob) (ve := ve) (rg := rg) (me := me) (st := st) (an := an) (so := so) (li := li) (P := P) with ⟨tX, tY⟩ | ⟨tX, tY⟩
  · refine ⟨n, ed, P, hn, h3, rfl, fun post hp => ?_, tY⟩
    · unfold wpX_passTimer
      refine nm_r (e' := 0) rfl ⟨(vp_in_iff.mpr (by decide)), nm_r (e' := P 1) rfl ⟨(vp_in_iff.mpr (by decide)), nm_r (e' := P 2) rfl ?_⟩⟩
      exact tX _ (br_t rfl hp)
  · have go : (¬ P 1 &&& 4 = 0 ∧ P 0 = P 2) ∨ (P 1 &&& 4 = 0 ∨ (¬ P 1 &&& 4 = 0 ∧ ¬ P 0 = P 2)) := by
      by_cases a : P 1 &&& 4 = 0
      · exact Or.inr (Or.inl a)
      · by_cases b : P 0 = P 2
        · exact Or.inl ⟨a, b⟩
        · exact Or.inr (Or.inr ⟨a, b⟩)
    rcases go with ⟨c4, e⟩ | go
    · obtain ⟨n', ed', P', a1, a2, a3, hX, hY⟩ := te_0 (n := n) (T := T) (S := S) (len := len) (pc := pc) (z := z) (c := c) (al := al) (dp := dp) (sp := sp) (ha := ha) (re := re) (ta := ta) (ed := ed) (rx := rx) (ov := ov) (sb := sb) (sl := sl) (cl := cl) (yb := yb) (ya := ya) (yl := yl) (w := w) (pa := pa) (cv := cv) (si := si) (ops := ops) (oa := oa) (ob := ob) (ve := ve) (rg := rg) (me := me) (st := st) (an := an) (so := so) (li := li) (P := upd P 0 0) (tk_3up (k := 0) (x := 0) h3 (by decide) (by decide) (by decide) (by decide) (tk_0 (by decide))) hn
      refine ⟨n', ed', P', a1, a2, a3, fun post hp => ?_, fun post hp => tY post ?_⟩
      · unfold wpX_passTimer
        refine nm_r (e' := 0) rfl ⟨(vp_in_iff.mpr (by decide)), nm_r (e' := P 1) rfl ⟨(vp_in_iff.mpr (by decide)), nm_r (e' := P 2) rfl ?_⟩⟩
        exact tX _ (br_f (by decide) (br_f c4 ⟨(vp_in_iff.mpr (by decide)), br_t e ⟨(vp_in_iff.mpr (by decide)), nm_e (hX post hp)⟩⟩))
      · exact ⟨(vp_in_iff.mpr (by decide)), br_f c4 ⟨(vp_in_iff.mpr (by decide)), (vp_in_iff.mpr (by decide)), br_t e ⟨(vp_in_iff.mpr (by decide)), nm_r (tk_d0 P 0 0) (hY post hp)⟩⟩⟩
    · obtain ⟨m, hm, em⟩ := h3.2.2.1 0
      by_cases m255 : m = 255
      · subst m255
        have hk0 : (P 0 + 1) &&& 255 = 0 := by rw [em]; decide
        have h256 : P 0 + 1 = 256 := by rw [em]; decide
        have hdd : upd (upd (tk_d P 0) 0 (P 0 + 1)) 0 0 = tk_d (upd P 0 0) 0 := by rw [tk_uu]; exact tk_d0 P 0 0
        obtain ⟨n', ed', P', a1, a2, a3, hX, hY⟩ := te_0 (n := n ||| 2 ^ 1) (T := T) (S := S) (len := len) (pc := pc) (z := z) (c := c) (al := al) (dp := dp) (sp := sp) (ha := ha) (re := re) (ta := ta) (ed := ed) (rx := rx) (ov := ov) (sb := sb) (sl := sl) (cl := cl) (yb := yb) (ya := ya) (yl := yl) (w := w) (pa := pa) (cv := cv) (si := si) (ops := ops) (oa := oa) (ob := ob) (ve := ve) (rg := rg) (me := me) (st := st) (an := an) (so := so) (li := li) (P := upd P 0 0) (tk_3up (k := 0) (x := 0) h3 (by decide) (by decide) (by decide) (by decide) (tk_0 (by decide))) hk
        refine ⟨n', ed', P', a1, a2, a3, fun post hp => ?_, fun post hp => tY post ?_⟩
        · unfold wpX_passTimer
          refine nm_r (e' := 0) rfl ⟨(vp_in_iff.mpr (by decide)), nm_r (e' := P 1) rfl ⟨(vp_in_iff.mpr (by decide)), nm_r (e' := P 2) rfl ?_⟩⟩
          rcases go with c4 | ⟨c4, e⟩
          · exact tX _ (br_f (by decide) (br_t c4 ⟨(vp_in_iff.mpr (by decide)), (vp_in_iff.mpr (by decide)), nm_r (congrArg (upd P 0) hk0) ⟨(vp_in_iff.mpr (by decide)), br_t (show nI 0 = 0 from rfl) (nm_r pe (hX post hp))⟩⟩))
          · exact tX _ (br_f (by decide) (br_f c4 ⟨(vp_in_iff.mpr (by decide)), br_f e ⟨(vp_in_iff.mpr (by decide)), (vp_in_iff.mpr (by decide)), nm_r (congrArg (upd P 0) hk0) ⟨(vp_in_iff.mpr (by decide)), br_t (show nI 0 = 0 from rfl) (nm_r pe (hX post hp))⟩⟩⟩))
        · rcases go with c4 | ⟨c4, e⟩
          · exact ⟨(vp_in_iff.mpr (by decide)), br_t c4 ⟨(vp_in_iff.mpr (by decide)), (vp_in_iff.mpr (by decide)), nm_e ⟨(vp_in_iff.mpr (by decide)), br_t h256 ⟨(vp_in_iff.mpr (by decide)), nm_r hdd ⟨(vp_in_iff.mpr (by decide)), nm_r (tk_setN n 1) (hY post hp)⟩⟩⟩⟩⟩
          · exact ⟨(vp_in_iff.mpr (by decide)), br_f c4 ⟨(vp_in_iff.mpr (by decide)), (vp_in_iff.mpr (by decide)), br_f e ⟨(vp_in_iff.mpr (by decide)), (vp_in_iff.mpr (by decide)), nm_e ⟨(vp_in_iff.mpr (by decide)), br_t h256 ⟨(vp_in_iff.mpr (by decide)), nm_r hdd ⟨(vp_in_iff.mpr (by decide)), nm_r (tk_setN n 1) (hY post hp)⟩⟩⟩⟩⟩⟩
      · have hk0 : (P 0 + 1) &&& 255 = nI (m + 1) := by rw [em, tk_inc m hm, Nat.mod_eq_of_lt (by omega)]
        have hz : ¬ nI (m + 1) = 0 := nI_ne0 (by omega) (by omega)
        have h256 : ¬ nI (m + 1) = 256 := fun q => by
          have := (nI_eq (a := m + 1) (b := 256) (by omega) (by decide)).mp q
          omega
        have hd1 : upd (tk_d P 0) 0 (P 0 + 1) = tk_d (upd P 0 (nI (m + 1))) 0 := by rw [em, nI_1]; exact tk_d0 P 0 (nI (m + 1))
        obtain ⟨n', ed', P', a1, a2, a3, hX, hY⟩ := te_0 (n := n) (T := T) (S := S) (len := len) (pc := pc) (z := z) (c := c) (al := al) (dp := dp) (sp := sp) (ha := ha) (re := re) (ta := ta) (ed := ed) (rx := rx) (ov := ov) (sb := sb) (sl := sl) (cl := cl) (yb := yb) (ya := ya) (yl := yl) (w := w) (pa := pa) (cv := cv) (si := si) (ops := ops) (oa := oa) (ob := ob) (ve := ve) (rg := rg) (me := me) (st := st) (an := an) (so := so) (li := li) (P := upd P 0 (nI (m + 1))) (tk_3up (k := 0) (x := nI (m + 1)) h3 (by decide) (by decide) (by decide) (by decide) (tk_mk (by omega))) hn
        refine ⟨n', ed', P', a1, a2, a3, fun post hp => ?_, fun post hp => tY post ?_⟩
        · unfold wpX_passTimer
          refine nm_r (e' := 0) rfl ⟨(vp_in_iff.mpr (by decide)), nm_r (e' := P 1) rfl ⟨(vp_in_iff.mpr (by decide)), nm_r (e' := P 2) rfl ?_⟩⟩
          rcases go with c4 | ⟨c4, e⟩
          · exact tX _ (br_f (by decide) (br_t c4 ⟨(vp_in_iff.mpr (by decide)), (vp_in_iff.mpr (by decide)), nm_r (congrArg (upd P 0) hk0) ⟨(vp_in_iff.mpr (by decide)), br_f hz (hX post hp)⟩⟩))
          · exact tX _ (br_f (by decide) (br_f c4 ⟨(vp_in_iff.mpr (by decide)), br_f e ⟨(vp_in_iff.mpr (by decide)), (vp_in_iff.mpr (by decide)), nm_r (congrArg (upd P 0) hk0) ⟨(vp_in_iff.mpr (by decide)), br_f hz (hX post hp)⟩⟩⟩))
        · rcases go with c4 | ⟨c4, e⟩
          · exact ⟨(vp_in_iff.mpr (by decide)), br_t c4 ⟨(vp_in_iff.mpr (by decide)), (vp_in_iff.mpr (by decide)), nm_r hd1 ⟨(vp_in_iff.mpr (by decide)), br_f h256 (hY post hp)⟩⟩⟩
          · exact ⟨(vp_in_iff.mpr (by decide)), br_f c4 ⟨(vp_in_iff.mpr (by decide)), (vp_in_iff.mpr (by decide)), br_f e ⟨(vp_in_iff.mpr (by decide)), (vp_in_iff.mpr (by decide)), nm_r hd1 ⟨(vp_in_iff.mpr (by decide)), br_f h256 (hY post hp)⟩⟩⟩⟩
theorem te_1 (h3 : tk_I3 cv P) (hn : n < 512) : ∃ (n' : Nat) (ed' : Int32) (P' : Nat → Int32), n' < 512 ∧ tk_I3 cv P' ∧ P' 14 = P 14 ∧
    (∀ post : SX → Prop, post (len, pc, z, c, al, dp, sp, ha, nI T, re, ta, ed', nI n', rx, ov, sb, sl, nI S, cl, yb, ya, yl, w, ops, oa, ob, ve, rg, me, st, an, so, li, P') → wX_passTimer_102 post 1 3 (P 4) (P 5) len pc z c al dp sp ha (nI T) re ta ed (nI n) rx ov sb sl (nI S) cl yb ya yl w ops oa ob ve rg me st an so li P) ∧
    (∀ post : SY → Prop, post (len, P' 13, z, c, al, sp, ha, dp, pc, nI T, pa, ta, re, ed', nI S, P' 6, P' 7, P' 8, cv, P' 10, P' 12, P' 14, P' 16, P' 18, P' 19, si, rx, ov, sl, sb, cl, yl, yb, ya, ops, oa, ob, ve, an, so, rg, me, st, li, tk_q n', tk_d P' 0, tk_d P' 1, tk_d P' 2) → wY_timer_119 post 1 len (P 13) z c al sp ha dp pc (nI T) pa ta re ed (nI S) (P 6) (P 7) (P 8) cv (P 10) (P 12) (P 14) (P 16) (P 18) (P 19) si rx ov sl sb cl yl yb ya ops oa ob ve an so rg me st li (tk_q n) (tk_d P 0) (tk_d P 1) (tk_d P 2)) := by
  have pe : nI n ||| ((1 : Int32) <<< ((2 * 1) &&& 31)) = nI (n ||| 2 ^ 2) := by
    rw [show ((1 : Int32) <<< ((2 * 1) &&& 31)) = nI (2 ^ 2) from by decide]
    exact tk_or n (2 ^ 2)
  have hk : n ||| 2 ^ 2 < 512 := tk_setlt hn (by decide)
  by_cases e : P 3 = P 5
  · by_cases b : P 4 &&& 32 = 0
    · exact ⟨n ||| 2 ^ 2, ed, P, hk, h3, rfl, fun post hp => ⟨(vp_in_iff.mpr (by decide)), br_t e (nm_r pe (br_t b hp))⟩, fun post hp => ⟨(vp_in_iff.mpr (by decide)), (vp_in_iff.mpr (by decide)), br_t e ⟨(vp_in_iff.mpr (by decide)), nm_r (tk_setN n 2) ⟨(vp_in_iff.mpr (by decide)), br_t b hp⟩⟩⟩⟩
    · obtain ⟨o, ho, eo⟩ := h3.2.2.1 12
      have hx : P 12 ^^^ ((1 : Int32) <<< ((1 : Int32) &&& 31)) = nI (o ^^^ 2 ^ 1) := by
        rw [eo, show ((1 : Int32) <<< ((1 : Int32) &&& 31)) = nI (2 ^ 1) from by decide, nx_xor]
      have hv : o ^^^ 2 ^ 1 < 256 := Nat.xor_lt_two_pow (n := 8) ho (by decide)
      obtain ⟨ed', hX, hY⟩ := sh_pins (n := n ||| 2 ^ 2) (T := T) (S := S) (len := len) (pc := pc) (z := z) (c := c) (al := al) (dp := dp) (sp := sp) (ha := ha) (re := re) (ta := ta) (ed := ed) (rx := rx) (ov := ov) (sb := sb) (sl := sl) (cl := cl) (yb := yb) (ya := ya) (yl := yl) (w := w) (pa := pa) (cv := cv) (si := si) (ops := ops) (oa := oa) (ob := ob) (ve := ve) (rg := rg) (me := me) (st := st) (an := an) (so := so) (li := li) (P := P) ho hv eo
      refine ⟨n ||| 2 ^ 2, ed', upd P 12 (nI (o ^^^ 2 ^ 1)), hk, tk_3up h3 (by decide) (by decide) (by decide) (by decide) (tk_mk hv), rfl, fun post hp => ⟨(vp_in_iff.mpr (by decide)), br_t e (nm_r pe (br_f b ?_))⟩, fun post hp => ⟨(vp_in_iff.mpr (by decide)), (vp_in_iff.mpr (by decide)), br_t e ⟨(vp_in_iff.mpr (by decide)), nm_r (tk_setN n 2) ⟨(vp_in_iff.mpr (by decide)), br_f b ?_⟩⟩⟩⟩
      · rw [hx]; exact hX _ hp
      · rw [hx]; exact hY _ hp
  · exact ⟨n, ed, P, hn, h3, rfl, fun post hp => ⟨(vp_in_iff.mpr (by decide)), br_f e hp⟩, fun post hp => ⟨(vp_in_iff.mpr (by decide)), (vp_in_iff.mpr (by decide)), br_f e hp⟩⟩
theorem tt_1 : ((∀ post : Int32 → Prop, post 0 → wpX_ticksNow post (len, pc, z, c, al, dp, sp, ha, nI T, re, ta, ed, nI n, rx, ov, sb, sl, nI S, cl, yb, ya, yl, w, ops, oa, ob, ve, rg, me, st, an, so, li, P) (P 4 &&& 3)) ∧ (∀ post : SY → Prop, post (len, P 13, z, c, al, sp, ha, dp, pc, nI T, pa, ta, re, ed, nI S, P 6, P 7, P 8, cv, P 10, P 12, P 14, P 16, P 18, P 19, si, rx, ov, sl, sb, cl, yl, yb, ya, ops, oa, ob, ve, an, so, rg, me, st, li, tk_q n, tk_d P 0, tk_d P 1, tk_d P 2) → wpY_timer post (len, P 13, z, c, al, sp, ha, dp, pc, nI T, pa, ta, re, ed, nI S, P 6, P 7, P 8, cv, P 10, P 12, P 14, P 16, P 18, P 19, si, rx, ov, sl, sb, cl, yl, yb, ya, ops, oa, ob, ve, an, so, rg, me, st, li, tk_q n, tk_d P 0, tk_d P 1, tk_d P 2) 1)) ∨ ((∀ post : Int32 → Prop, post 1 → wpX_ticksNow post (len, pc, z, c, al, dp, sp, ha, nI T, re, ta, ed, nI n, rx, ov, sb, sl, nI S, cl, yb, ya, yl, w, ops, oa, ob, ve, rg, me, st, an, so, li, P) (P 4 &&& 3)) ∧ (∀ post : SY → Prop, wY_timer_43 post 1 len (P 13) z c al sp ha dp pc (nI T) pa ta re ed (nI S) (P 6) (P 7) (P 8) cv (P 10) (P 12) (P 14) (P 16) (P 18) (P 19) si rx ov sl sb cl yl yb ya ops oa ob ve an so rg me st li (tk_q n) (tk_d P 0) (tk_d P 1) (tk_d P 2) → wpY_timer post (len, P 13, z, c, al, sp, ha, dp, pc, nI T, pa, ta, re, ed, nI S, P 6, P 7, P 8, cv, P 10, P 12, P 14, P 16, P 18, P 19, si, rx, ov, sl, sb, cl, yl, yb, ya, ops, oa, ob, ve, an, so, rg, me, st, li, tk_q n, tk_d P 0, tk_d P 1, tk_d P 2) 1)) := by
  obtain ⟨h, hh, e⟩ := pk_andE (P 4) (m := 3) 2 (by decide)
  rcases (by omega : h = 0 ∨ h = 1 ∨ h = 2 ∨ h = 3) with z | z | z | z <;> subst z
  · refine Or.inl ⟨fun post hp => ?_, fun post hp => ?_⟩
    · rw [e]; exact br_t (by decide) hp
    · exact ⟨(vp_in_iff.mpr (by decide)), nm_r e (br_t (by decide) hp)⟩
  · refine Or.inr ⟨fun post hp => ?_, fun post hp => ?_⟩
    · rw [e]; exact br_f (by decide) (br_f (by decide) (br_t (by decide) hp))
    · exact ⟨(vp_in_iff.mpr (by decide)), nm_r e (br_f (by decide) (br_f (by decide) (br_f (by decide) hp)))⟩
  · by_cases q : nI T - nI T / 4 * 4 = 0
    · refine Or.inr ⟨fun post hp => ?_, fun post hp => ?_⟩
      · rw [e]; exact br_f (by decide) (br_f (by decide) (br_f (by decide) (br_t (by decide) ⟨by decide, br_t q hp⟩)))
      · exact ⟨(vp_in_iff.mpr (by decide)), nm_r e (br_f (by decide) (br_t (by decide) ⟨by decide, br_t q (br_f (by decide) hp)⟩))⟩
    · refine Or.inl ⟨fun post hp => ?_, fun post hp => ?_⟩
      · rw [e]; exact br_f (by decide) (br_f (by decide) (br_f (by decide) (br_t (by decide) ⟨by decide, br_f q hp⟩)))
      · exact ⟨(vp_in_iff.mpr (by decide)), nm_r e (br_f (by decide) (br_t (by decide) ⟨by decide, br_f q hp⟩))⟩
  · by_cases q : nI T - nI T / 16 * 16 = 0
    · refine Or.inr ⟨fun post hp => ?_, fun post hp => ?_⟩
      · rw [e]; exact br_f (by decide) (br_f (by decide) (br_f (by decide) (br_f (by decide) (br_t (by decide) ⟨by decide, br_t q hp⟩))))
      · exact ⟨(vp_in_iff.mpr (by decide)), nm_r e (br_f (by decide) (br_f (by decide) (br_t (by decide) ⟨by decide, br_t q hp⟩)))⟩
    · refine Or.inl ⟨fun post hp => ?_, fun post hp => ?_⟩
      · rw [e]; exact br_f (by decide) (br_f (by decide) (br_f (by decide) (br_f (by decide) (br_t (by decide) ⟨by decide, br_f q hp⟩))))
      · exact ⟨(vp_in_iff.mpr (by decide)), nm_r e (br_f (by decide) (br_f (by decide) (br_t (by decide) ⟨by decide, br_f q hp⟩)))⟩
theorem tm_1 (h3 : tk_I3 cv P) (hn : n < 512) : ∃ (n' : Nat) (ed' : Int32) (P' : Nat → Int32), n' < 512 ∧ tk_I3 cv P' ∧ P' 14 = P 14 ∧
    (∀ post : SX → Prop, post (len, pc, z, c, al, dp, sp, ha, nI T, re, ta, ed', nI n', rx, ov, sb, sl, nI S, cl, yb, ya, yl, w, ops, oa, ob, ve, rg, me, st, an, so, li, P') → wpX_passTimer post (len, pc, z, c, al, dp, sp, ha, nI T, re, ta, ed, nI n, rx, ov, sb, sl, nI S, cl, yb, ya, yl, w, ops, oa, ob, ve, rg, me, st, an, so, li, P) 1) ∧
    (∀ post : SY → Prop, post (len, P' 13, z, c, al, sp, ha, dp, pc, nI T, pa, ta, re, ed', nI S, P' 6, P' 7, P' 8, cv, P' 10, P' 12, P' 14, P' 16, P' 18, P' 19, si, rx, ov, sl, sb, cl, yl, yb, ya, ops, oa, ob, ve, an, so, rg, me, st, li, tk_q n', tk_d P' 0, tk_d P' 1, tk_d P' 2) → wpY_timer post (len, P 13, z, c, al, sp, ha, dp, pc, nI T, pa, ta, re, ed, nI S, P 6, P 7, P 8, cv, P 10, P 12, P 14, P 16, P 18, P 19, si, rx, ov, sl, sb, cl, yl, yb, ya, ops, oa, ob, ve, an, so, rg, me, st, li, tk_q n, tk_d P 0, tk_d P 1, tk_d P 2) 1) := by
  have pe : nI n ||| ((2 : Int32) <<< ((2 * 1) &&& 31)) = nI (n ||| 2 ^ 3) := by
    rw [show ((2 : Int32) <<< ((2 * 1) &&& 31)) = nI (2 ^ 3) from by decide]
    exact tk_or n (2 ^ 3)
  have hk : n ||| 2 ^ 3 < 512 := tk_setlt hn (by decide)
  rcases tt_1 (n := n) (T := T) (S := S) (len := len) (pc := pc) (z := z) (c := c) (al := al) (dp := dp) (sp := sp) (ha := ha) (re := re) (ta := ta) (ed := ed) (rx := rx) (ov := ov) (sb := sb) (sl := sl) (cl := cl) (yb := yb) (ya := ya) (yl := yl) (w := w) (pa := pa) (cv := cv) (si := si) (ops := ops) (oa := oa) (ob := ob) (ve := ve) (rg := rg) (me := me) (st := st) (an := an) (so := so) (li := li) (P := P) with ⟨tX, tY⟩ | ⟨tX, tY⟩
  · refine ⟨n, ed, P, hn, h3, rfl, fun post hp => ?_, tY⟩
    · unfold wpX_passTimer
      refine nm_r (e' := 3) rfl ⟨(vp_in_iff.mpr (by decide)), nm_r (e' := P 4) rfl ⟨(vp_in_iff.mpr (by decide)), nm_r (e' := P 5) rfl ?_⟩⟩
      exact tX _ (br_t rfl hp)
  · have go : (¬ P 4 &&& 4 = 0 ∧ P 3 = P 5) ∨ (P 4 &&& 4 = 0 ∨ (¬ P 4 &&& 4 = 0 ∧ ¬ P 3 = P 5)) := by
      by_cases a : P 4 &&& 4 = 0
      · exact Or.inr (Or.inl a)
      · by_cases b : P 3 = P 5
        · exact Or.inl ⟨a, b⟩
        · exact Or.inr (Or.inr ⟨a, b⟩)
    rcases go with ⟨c4, e⟩ | go
    · obtain ⟨n', ed', P', a1, a2, a3, hX, hY⟩ := te_1 (n := n) (T := T) (S := S) (len := len) (pc := pc) (z := z) (c := c) (al := al) (dp := dp) (sp := sp) (ha := ha) (re := re) (ta := ta) (ed := ed) (rx := rx) (ov := ov) (sb := sb) (sl := sl) (cl := cl) (yb := yb) (ya := ya) (yl := yl) (w := w) (pa := pa) (cv := cv) (si := si) (ops := ops) (oa := oa) (ob := ob) (ve := ve) (rg := rg) (me := me) (st := st) (an := an) (so := so) (li := li) (P := upd P 3 0) (tk_3up (k := 3) (x := 0) h3 (by decide) (by decide) (by decide) (by decide) (tk_0 (by decide))) hn
      refine ⟨n', ed', P', a1, a2, a3, fun post hp => ?_, fun post hp => tY post ?_⟩
      · unfold wpX_passTimer
        refine nm_r (e' := 3) rfl ⟨(vp_in_iff.mpr (by decide)), nm_r (e' := P 4) rfl ⟨(vp_in_iff.mpr (by decide)), nm_r (e' := P 5) rfl ?_⟩⟩
        exact tX _ (br_f (by decide) (br_f c4 ⟨(vp_in_iff.mpr (by decide)), br_t e ⟨(vp_in_iff.mpr (by decide)), nm_e (hX post hp)⟩⟩))
      · exact ⟨(vp_in_iff.mpr (by decide)), br_f c4 ⟨(vp_in_iff.mpr (by decide)), (vp_in_iff.mpr (by decide)), br_t e ⟨(vp_in_iff.mpr (by decide)), nm_r (tk_d1 P 0 0) (hY post hp)⟩⟩⟩
    · obtain ⟨m, hm, em⟩ := h3.2.2.1 3
      by_cases m255 : m = 255
      · subst m255
        have hk0 : (P 3 + 1) &&& 255 = 0 := by rw [em]; decide
        have h256 : P 3 + 1 = 256 := by rw [em]; decide
        have hdd : upd (upd (tk_d P 0) 1 (P 3 + 1)) 1 0 = tk_d (upd P 3 0) 0 := by rw [tk_uu]; exact tk_d1 P 0 0
        obtain ⟨n', ed', P', a1, a2, a3, hX, hY⟩ := te_1 (n := n ||| 2 ^ 3) (T := T) (S := S) (len := len) (pc := pc) (z := z) (c := c) (al := al) (dp := dp) (sp := sp) (ha := ha) (re := re) (ta := ta) (ed := ed) (rx := rx) (ov := ov) (sb := sb) (sl := sl) (cl := cl) (yb := yb) (ya := ya) (yl := yl) (w := w) (pa := pa) (cv := cv) (si := si) (ops := ops) (oa := oa) (ob := ob) (ve := ve) (rg := rg) (me := me) (st := st) (an := an) (so := so) (li := li) (P := upd P 3 0) (tk_3up (k := 3) (x := 0) h3 (by decide) (by decide) (by decide) (by decide) (tk_0 (by decide))) hk
        refine ⟨n', ed', P', a1, a2, a3, fun post hp => ?_, fun post hp => tY post ?_⟩
        · unfold wpX_passTimer
          refine nm_r (e' := 3) rfl ⟨(vp_in_iff.mpr (by decide)), nm_r (e' := P 4) rfl ⟨(vp_in_iff.mpr (by decide)), nm_r (e' := P 5) rfl ?_⟩⟩
          rcases go with c4 | ⟨c4, e⟩
          · exact tX _ (br_f (by decide) (br_t c4 ⟨(vp_in_iff.mpr (by decide)), (vp_in_iff.mpr (by decide)), nm_r (congrArg (upd P 3) hk0) ⟨(vp_in_iff.mpr (by decide)), br_t (show nI 0 = 0 from rfl) (nm_r pe (hX post hp))⟩⟩))
          · exact tX _ (br_f (by decide) (br_f c4 ⟨(vp_in_iff.mpr (by decide)), br_f e ⟨(vp_in_iff.mpr (by decide)), (vp_in_iff.mpr (by decide)), nm_r (congrArg (upd P 3) hk0) ⟨(vp_in_iff.mpr (by decide)), br_t (show nI 0 = 0 from rfl) (nm_r pe (hX post hp))⟩⟩⟩))
        · rcases go with c4 | ⟨c4, e⟩
          · exact ⟨(vp_in_iff.mpr (by decide)), br_t c4 ⟨(vp_in_iff.mpr (by decide)), (vp_in_iff.mpr (by decide)), nm_e ⟨(vp_in_iff.mpr (by decide)), br_t h256 ⟨(vp_in_iff.mpr (by decide)), nm_r hdd ⟨(vp_in_iff.mpr (by decide)), nm_r (tk_setN n 3) (hY post hp)⟩⟩⟩⟩⟩
          · exact ⟨(vp_in_iff.mpr (by decide)), br_f c4 ⟨(vp_in_iff.mpr (by decide)), (vp_in_iff.mpr (by decide)), br_f e ⟨(vp_in_iff.mpr (by decide)), (vp_in_iff.mpr (by decide)), nm_e ⟨(vp_in_iff.mpr (by decide)), br_t h256 ⟨(vp_in_iff.mpr (by decide)), nm_r hdd ⟨(vp_in_iff.mpr (by decide)), nm_r (tk_setN n 3) (hY post hp)⟩⟩⟩⟩⟩⟩
      · have hk0 : (P 3 + 1) &&& 255 = nI (m + 1) := by rw [em, tk_inc m hm, Nat.mod_eq_of_lt (by omega)]
        have hz : ¬ nI (m + 1) = 0 := nI_ne0 (by omega) (by omega)
        have h256 : ¬ nI (m + 1) = 256 := fun q => by
          have := (nI_eq (a := m + 1) (b := 256) (by omega) (by decide)).mp q
          omega
        have hd1 : upd (tk_d P 0) 1 (P 3 + 1) = tk_d (upd P 3 (nI (m + 1))) 0 := by rw [em, nI_1]; exact tk_d1 P 0 (nI (m + 1))
        obtain ⟨n', ed', P', a1, a2, a3, hX, hY⟩ := te_1 (n := n) (T := T) (S := S) (len := len) (pc := pc) (z := z) (c := c) (al := al) (dp := dp) (sp := sp) (ha := ha) (re := re) (ta := ta) (ed := ed) (rx := rx) (ov := ov) (sb := sb) (sl := sl) (cl := cl) (yb := yb) (ya := ya) (yl := yl) (w := w) (pa := pa) (cv := cv) (si := si) (ops := ops) (oa := oa) (ob := ob) (ve := ve) (rg := rg) (me := me) (st := st) (an := an) (so := so) (li := li) (P := upd P 3 (nI (m + 1))) (tk_3up (k := 3) (x := nI (m + 1)) h3 (by decide) (by decide) (by decide) (by decide) (tk_mk (by omega))) hn
        refine ⟨n', ed', P', a1, a2, a3, fun post hp => ?_, fun post hp => tY post ?_⟩
        · unfold wpX_passTimer
          refine nm_r (e' := 3) rfl ⟨(vp_in_iff.mpr (by decide)), nm_r (e' := P 4) rfl ⟨(vp_in_iff.mpr (by decide)), nm_r (e' := P 5) rfl ?_⟩⟩
          rcases go with c4 | ⟨c4, e⟩
          · exact tX _ (br_f (by decide) (br_t c4 ⟨(vp_in_iff.mpr (by decide)), (vp_in_iff.mpr (by decide)), nm_r (congrArg (upd P 3) hk0) ⟨(vp_in_iff.mpr (by decide)), br_f hz (hX post hp)⟩⟩))
          · exact tX _ (br_f (by decide) (br_f c4 ⟨(vp_in_iff.mpr (by decide)), br_f e ⟨(vp_in_iff.mpr (by decide)), (vp_in_iff.mpr (by decide)), nm_r (congrArg (upd P 3) hk0) ⟨(vp_in_iff.mpr (by decide)), br_f hz (hX post hp)⟩⟩⟩))
        · rcases go with c4 | ⟨c4, e⟩
          · exact ⟨(vp_in_iff.mpr (by decide)), br_t c4 ⟨(vp_in_iff.mpr (by decide)), (vp_in_iff.mpr (by decide)), nm_r hd1 ⟨(vp_in_iff.mpr (by decide)), br_f h256 (hY post hp)⟩⟩⟩
          · exact ⟨(vp_in_iff.mpr (by decide)), br_f c4 ⟨(vp_in_iff.mpr (by decide)), (vp_in_iff.mpr (by decide)), br_f e ⟨(vp_in_iff.mpr (by decide)), (vp_in_iff.mpr (by decide)), nm_r hd1 ⟨(vp_in_iff.mpr (by decide)), br_f h256 (hY post hp)⟩⟩⟩⟩
end
