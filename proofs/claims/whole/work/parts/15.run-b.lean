/-! one step of run, run -/
section
variable {n T S : Nat} {len pc z c al dp sp ha re ta ed rx ov sb sl cl yb ya yl w pa cv si : Int32} {ops oa ob ve rg me st an so li P : Nat → Int32}
theorem rn_step {m : Nat} {u : SX} {v : SY} (hR : tk_R T (nI m) 0 u v) (hT : T < 1073740000) : tk_Go T m u v := by
  obtain ⟨n, S, len, pc, z, c, al, dp, sp, re, ta, ed, rx, ov, sb, sl, cl, yb, ya, yl, w, cv, si, ops, oa, ob, ve, rg, me, st, an, so, li, P, rfl, rfl, h1, h2, h3, h4, hW⟩ := hR
  rcases wt_all (n := n) (T := T) (S := S) (len := len) (pc := pc) (z := z) (c := c) (al := al) (dp := dp) (sp := sp) (ha := 0) (re := re) (ta := ta) (ed := ed) (rx := rx) (ov := ov) (sb := sb) (sl := sl) (cl := cl) (yb := yb) (ya := ya) (yl := yl) (w := w) (pa := nI m) (cv := cv) (si := si) (ops := ops) (oa := oa) (ob := ob) (ve := ve) (rg := rg) (me := me) (st := st) (an := an) (so := so) (li := li) (P := P) h3 h4.1 with ⟨tX, tY⟩ | ⟨r, K, hr, hK, b0, b1, tX, tY⟩
  · by_cases es : sp = 0
    · obtain ⟨q, hq, eq⟩ := h2.1
      subst eq
      obtain ⟨L, hL, eL⟩ := h1.1
      subst eL
      have hp0 : ¬ nI q < 0 := nI_pos (by omega)
      by_cases hlt : q < L
      · have hc : nI q < nI L := nI_lt hlt (by omega)
        have hv : vp_in (nI q) 48 := vp_in_nI (by omega) (by decide)
        obtain ⟨k, hk, ek⟩ := h1.2.1 (nI q).toNatClampNeg
        have hS := ex_all (n := n) (T := T) (S := S) (len := nI L) (z := z) (c := c) (al := al) (dp := dp) (sp := sp) (re := re) (ta := ta) (ed := ed) (rx := rx) (ov := ov) (sb := sb) (sl := sl) (cl := cl) (yb := yb) (ya := ya) (yl := yl) (w := w) (pa := nI m) (ha := 0) (cv := cv) (si := si) (ops := ops) (oa := oa) (ob := ob) (ve := ve) (rg := rg) (me := me) (st := st) (an := an) (so := so) (li := li) (P := P) h1 h2 h3 h4 hW (by omega) rfl rfl k hk ek
        rw [← ek] at hS
        refine rn_exec (n := n) (T := T) (S := S) (len := nI L) (pc := nI q) (z := z) (c := c) (al := al) (dp := dp) (sp := sp) (re := re) (ta := ta) (ed := ed) (rx := rx) (ov := ov) (sb := sb) (sl := sl) (cl := cl) (yb := yb) (ya := ya) (yl := yl) (w := w) (cv := cv) (si := si) (ops := ops) (oa := oa) (ob := ob) (ve := ve) (rg := rg) (me := me) (st := st) (an := an) (so := so) (li := li) (P := P) h1 h2 h3 h4 hW hT ?_ hS ?_
        · intro Q r0 u0 hx hQ
          obtain ⟨_, _, _, _, _, _, _, _, _, _, _, _, _, _, _, _, _, _, _, _, _, _, _, _, _, _, _, _, _, _, _, _, _, _⟩ := u0
          exact tX Q (br_t rfl (br_t es (br_t hc (hx _ hQ))))
        · intro post x1 f r0 v0 hx hQ hy
          obtain ⟨_, _, _, _, _, _, _, _, _, _, _, _, _, _, _, _, _, _, _, _, _, _, _, _, _, _, _, _, _, _, _, _, _, _, _, _, _, _, _, _, _, _, _, _, _, _, _, _⟩ := v0
          exact br_f hx (br_t rfl (tY _ (br_t (by decide) (br_t es (br_f hp0 (br_t hc ⟨hv, hv, hv, hQ _ hy⟩))))))
      · have hc : ¬ nI q < nI L := nI_nlt (by omega) (by omega)
        exact rn_halt (n := n) (T := T) (S := S) (len := nI L) (pc := nI q) (z := z) (c := c) (al := al) (dp := dp) (sp := sp) (re := re) (ta := ta) (ed := ed) (rx := rx) (ov := ov) (sb := sb) (sl := sl) (cl := cl) (yb := yb) (ya := ya) (yl := yl) (w := w) (cv := cv) (si := si) (ops := ops) (oa := oa) (ob := ob) (ve := ve) (rg := rg) (me := me) (st := st) (an := an) (so := so) (li := li) (P := P) h1 h2 h3 h4 hW hT (fun post hx => tX post (br_t rfl (br_t es (br_f hc hx)))) (fun post x1 f hx hy => br_f hx (br_t rfl (tY _ (br_t (by decide) (br_t es (br_f hp0 (br_f hc hy)))))))
    · exact rn_sleep (n := n) (T := T) (S := S) (len := len) (pc := pc) (z := z) (c := c) (al := al) (dp := dp) (sp := sp) (re := re) (ta := ta) (ed := ed) (rx := rx) (ov := ov) (sb := sb) (sl := sl) (cl := cl) (yb := yb) (ya := ya) (yl := yl) (w := w) (cv := cv) (si := si) (ops := ops) (oa := oa) (ob := ob) (ve := ve) (rg := rg) (me := me) (st := st) (an := an) (so := so) (li := li) (P := P) h1 h2 h3 h4 hW hT (fun post hx => tX post (br_t rfl (br_f es hx))) (fun post x1 f hx hy => br_f hx (br_t rfl (tY _ (br_t (by decide) (br_f es hy)))))
  · obtain ⟨d, hd, ed1⟩ := h2.2.1
    subst ed1
    have hr0 : ¬ nI r = 0 := nI_ne0 (Nat.pos_of_ne_zero (tk_some b1)) (by omega)
    have h9 : ¬ (9 : Int32) ≤ nI K := nI_ge (b := 9) hK (by decide)
    by_cases full : d = 16
    · subst full
      exact rn_halt (n := n) (T := T) (S := S) (len := len) (pc := pc) (z := z) (c := c) (al := al) (dp := nI 16) (sp := sp) (re := re) (ta := ta) (ed := ed) (rx := rx) (ov := ov) (sb := sb) (sl := sl) (cl := cl) (yb := yb) (ya := ya) (yl := yl) (w := w) (cv := cv) (si := si) (ops := ops) (oa := oa) (ob := ob) (ve := ve) (rg := rg) (me := me) (st := st) (an := an) (so := so) (li := li) (P := P) h1 h2 h3 h4 hW hT (fun post hx => tX post (br_f hr0 (br_f (by decide) hx))) (fun post x1 f hx hy => br_f hx (br_t rfl (tY _ (br_f h9 (br_t rfl hy)))))
    · exact rn_int (n := n) (T := T) (S := S) (len := len) (pc := pc) (z := z) (c := c) (al := al) (sp := sp) (re := re) (ta := ta) (ed := ed) (rx := rx) (ov := ov) (sb := sb) (sl := sl) (cl := cl) (yb := yb) (ya := ya) (yl := yl) (w := w) (cv := cv) (si := si) (ops := ops) (oa := oa) (ob := ob) (ve := ve) (rg := rg) (me := me) (st := st) (an := an) (so := so) (li := li) (P := P) h1 h2 h3 h4 hW hT hr hK b0 b1 (by omega) tX (fun post x1 f hx hy => br_f hx (br_t rfl (tY _ (br_f h9 hy))))
theorem rn_all {N s : Nat} (hs : s ≤ 1000000000) (hN : N ≤ 3000) : ∀ (d m k : Nat) (ha : Int32) (u : SX) (v : SY), tk_R (s + m) (nI m) ha u v → m ≤ N + 2 → (ha = 1 ∨ (k ≤ m ∧ N ≤ m + d)) →
    ∃ (m' : Nat) (ha' : Int32) (u' : SX) (v' : SY), m' ≤ N + 2 ∧ tk_R (s + m') (nI m') ha' u' v' ∧ (∀ post : Int32 → SX → Prop, post (nI m') u' → tk_X30 post (nI N) (nI s) (d + 2) (nI k) u) ∧ (∀ post : Int32 → SY → Prop, post (nI m') v' → tk_Y28 post (nI N) (d + 2) v) := by
  intro d
  induction d with
  | zero =>
    intro m k ha u v hR hm hc
    have hsub : nI (s + m) - nI s = nI m := by rw [pk_sub (by omega)]; exact congrArg nI (by omega)
    have hR0 := hR
    obtain ⟨_, _, _, _, _, _, _, _, _, _, _, _, _, _, _, _, _, _, _, _, _, _, _, _, _, _, _, _, _, _, _, _, _, _, rfl, rfl, _⟩ := hR0
    by_cases hmN : N ≤ m
    · have c2 : nI N ≤ nI m := nI_le hmN (by omega)
      refine ⟨m, ha, _, _, hm, hR, fun post hp => ?_, fun post hp => br_t c2 hp⟩
      by_cases c1 : nI N ≤ nI k
      · exact br_t c1 (by rw [hsub]; exact hp)
      · exact br_f c1 (br_t (by rw [hsub]; exact c2) (by rw [hsub]; exact hp))
    · have c2 : ¬ nI N ≤ nI m := nI_ge (by omega) (by omega)
      have c0 : ¬ ha = 0 := by
        rcases hc with e | e
        · rw [e]; decide
        · omega
      refine ⟨m, ha, _, _, hm, hR, fun post hp => ?_, fun post hp => br_f c2 (br_f c0 hp)⟩
      by_cases c1 : nI N ≤ nI k
      · exact br_t c1 (by rw [hsub]; exact hp)
      · exact br_f c1 (br_f (by rw [hsub]; exact c2) (br_f c0 (by rw [hsub]; exact hp)))
  | succ d ih =>
    intro m k ha u v hR hm hc
    have hsub : nI (s + m) - nI s = nI m := by rw [pk_sub (by omega)]; exact congrArg nI (by omega)
    by_cases hmN : N ≤ m
    · have c2 : nI N ≤ nI m := nI_le hmN (by omega)
      have hR0 := hR
      obtain ⟨_, _, _, _, _, _, _, _, _, _, _, _, _, _, _, _, _, _, _, _, _, _, _, _, _, _, _, _, _, _, _, _, _, _, rfl, rfl, _⟩ := hR0
      refine ⟨m, ha, _, _, hm, hR, fun post hp => ?_, fun post hp => br_t c2 hp⟩
      by_cases c1 : nI N ≤ nI k
      · exact br_t c1 (by rw [hsub]; exact hp)
      · exact br_f c1 (br_t (by rw [hsub]; exact c2) (by rw [hsub]; exact hp))
    · have c2 : ¬ nI N ≤ nI m := nI_ge (by omega) (by omega)
      by_cases c0 : ha = 0
      · subst c0
        have hkm : k ≤ m ∧ N ≤ m + (d + 1) := by
          rcases hc with e | e
          · exact absurd e (by decide)
          · exact e
        have c1 : ¬ nI N ≤ nI k := nI_ge (by omega) (by omega)
        obtain ⟨j, ha', u1, v1, hj, hj0, hR1, gX, gY⟩ := rn_step hR (by omega)
        have hc' : ha' = 1 ∨ (k + 1 ≤ m + j ∧ N ≤ m + j + d) := by
          rcases (by omega : j = 0 ∨ 1 ≤ j) with e | e
          · exact Or.inl (hj0 e)
          · exact Or.inr (by omega)
        rw [Nat.add_assoc] at hR1
        obtain ⟨m', ha2, u', v', hm', hR', hX, hY⟩ := ih (m + j) (k + 1) ha' u1 v1 hR1 (by omega) hc'
        refine ⟨m', ha2, u', v', hm', hR', fun post hp => gX post _ _ _ _ c1 (by rw [hsub]; exact c2) ?_, fun post hp => gY post _ _ c2 (hY post hp)⟩
        rw [nI_1]
        exact hX post hp
      · have hR0 := hR
        obtain ⟨_, _, _, _, _, _, _, _, _, _, _, _, _, _, _, _, _, _, _, _, _, _, _, _, _, _, _, _, _, _, _, _, _, _, rfl, rfl, _⟩ := hR0
        refine ⟨m, ha, _, _, hm, hR, fun post hp => ?_, fun post hp => br_f c2 (br_f c0 hp)⟩
        by_cases c1 : nI N ≤ nI k
        · exact br_t c1 (by rw [hsub]; exact hp)
        · exact br_f c1 (br_f (by rw [hsub]; exact c2) (br_f c0 (by rw [hsub]; exact hp)))
end
