/-! which interrupt waits -/
section
variable {n T S : Nat} {len pc z c al dp sp ha re ta ed rx ov sb sl cl yb ya yl w pa cv si : Int32} {ops oa ob ve rg me st an so li P : Nat → Int32}
theorem en_all (h3 : tk_I3 cv P) : ∃ E : Nat, E < 512 ∧ (∀ post : Int32 → Prop, post (nI E) → wpX_enabledInterrupts post (len, pc, z, c, al, dp, sp, ha, nI T, re, ta, ed, nI n, rx, ov, sb, sl, nI S, cl, yb, ya, yl, w, ops, oa, ob, ve, rg, me, st, an, so, li, P)) ∧ (∀ k : Nat, k < 9 → ∀ post : Int32 → Prop, post (tk_q E k) → wpY_enabled post (len, P 13, z, c, al, sp, ha, dp, pc, nI T, pa, ta, re, ed, nI S, P 6, P 7, P 8, cv, P 10, P 12, P 14, P 16, P 18, P 19, si, rx, ov, sl, sb, cl, yl, yb, ya, ops, oa, ob, ve, an, so, rg, me, st, li, tk_q n, tk_d P 0, tk_d P 1, tk_d P 2) (nI k)) := by
  obtain ⟨x1, hx1, e1⟩ := h3.2.2.1 1
  obtain ⟨x4, hx4, e4⟩ := h3.2.2.1 4
  obtain ⟨x7, hx7, e7⟩ := h3.2.2.1 7
  obtain ⟨x9, hx9, e9⟩ := h3.2.2.1 9
  obtain ⟨x18, hx18, e18⟩ := h3.2.2.1 18
  have ec : cv &&& 8 = nI x9 &&& 8 := by
    obtain ⟨m, hm, em⟩ := h3.1
    rw [← e9, h3.2.1, em]
    exact (tk_cm8 m hm).symm
  have d1 : x1 / 8 % 4 < 4 := by omega
  have d4 : x4 / 8 % 4 < 4 := by omega
  have d7 : x7 / 8 % 4 < 4 := by omega
  have d9 : x9 / 8 % 2 < 2 := by omega
  have d18 : x18 / 8 % 2 < 2 := by omega
  have hE : (((((P 1 >>> ((3 : Int32) &&& 31)) &&& 3) ||| (((P 4 >>> ((3 : Int32) &&& 31)) &&& 3) <<< ((2 : Int32) &&& 31))) ||| (((P 7 >>> ((3 : Int32) &&& 31)) &&& 3) <<< ((4 : Int32) &&& 31))) ||| (((P 9 >>> ((3 : Int32) &&& 31)) &&& 1) <<< ((6 : Int32) &&& 31))) ||| (((P 18 >>> ((3 : Int32) &&& 31)) &&& 1) <<< ((7 : Int32) &&& 31)) = nI (x1 / 8 % 4 + 4 * (x4 / 8 % 4) + 16 * (x7 / 8 % 4) + 64 * (x9 / 8 % 2) + 128 * (x18 / 8 % 2)) := by
    rw [e1, e4, e7, e9, e18, tk_s3 x1 hx1, tk_s3 x4 hx4, tk_s3 x7 hx7, tk_s1 x9 hx9, tk_s1 x18 hx18]
    exact tk_or5 _ d1 _ d4 _ d7 _ d9 _ d18
  have main : ∃ f : Nat, f < 2 ∧ (f = 1 ↔ ¬ P 19 = 0) ∧ (∀ post : Int32 → Prop, post (nI (x1 / 8 % 4 + 4 * (x4 / 8 % 4) + 16 * (x7 / 8 % 4) + 64 * (x9 / 8 % 2) + 128 * (x18 / 8 % 2) + 256 * f)) → wpX_enabledInterrupts post (len, pc, z, c, al, dp, sp, ha, nI T, re, ta, ed, nI n, rx, ov, sb, sl, nI S, cl, yb, ya, yl, w, ops, oa, ob, ve, rg, me, st, an, so, li, P)) := by
    by_cases e19 : P 19 = 0
    · refine ⟨0, by decide, ⟨fun q => absurd q (by decide), fun q => absurd e19 q⟩, fun post hp => nm_e (nm_e (nm_e (nm_e (nm_e (br_t e19 ?_)))))⟩
      rw [hE]
      exact hp
    · refine ⟨1, by decide, ⟨fun _ => e19, fun _ => rfl⟩, fun post hp => nm_e (nm_e (nm_e (nm_e (nm_e (br_f e19 (nm_e ?_))))))⟩
      rw [hE, tk_or6 _ (by omega)]
      exact hp
  obtain ⟨f, hf, ef, hX⟩ := main
  refine ⟨x1 / 8 % 4 + 4 * (x4 / 8 % 4) + 16 * (x7 / 8 % 4) + 64 * (x9 / 8 % 2) + 128 * (x18 / 8 % 2) + 256 * f, by omega, hX, ?_⟩
  have k0 : ∀ post : Int32 → Prop, post (tk_q (x1 / 8 % 4 + 4 * (x4 / 8 % 4) + 16 * (x7 / 8 % 4) + 64 * (x9 / 8 % 2) + 128 * (x18 / 8 % 2) + 256 * f) 0) → wpY_enabled post (len, P 13, z, c, al, sp, ha, dp, pc, nI T, pa, ta, re, ed, nI S, P 6, P 7, P 8, cv, P 10, P 12, P 14, P 16, P 18, P 19, si, rx, ov, sl, sb, cl, yl, yb, ya, ops, oa, ob, ve, an, so, rg, me, st, li, tk_q n, tk_d P 0, tk_d P 1, tk_d P 2) (nI 0) := by
    intro post hp
    have hx : (P 1 >>> ((3 : Int32) &&& 31)) &&& 1 = nI (x1 / 8 % 4 % 2) := by rw [e1]; exact tk_s31 x1 hx1
    by_cases hk : x1 / 8 % 4 % 2 = 1
    · rw [tk_qt (by rw [tk_E0 d1 d4 d7 d9 d18 hf]; exact decide_eq_true hk)] at hp
      exact br_f (by decide) (⟨(by decide), (vp_in_iff.mpr (by decide)), (by decide), br_t (hx.trans (congrArg nI hk)) hp⟩)
    · rw [tk_qf (by rw [tk_E0 d1 d4 d7 d9 d18 hf]; exact decide_eq_false hk)] at hp
      exact br_f (by decide) (⟨(by decide), (vp_in_iff.mpr (by decide)), (by decide), br_f (fun q => hk ((nI_eq (b := 1) (by omega) (by decide)).mp (hx.symm.trans q))) hp⟩)
  have k1 : ∀ post : Int32 → Prop, post (tk_q (x1 / 8 % 4 + 4 * (x4 / 8 % 4) + 16 * (x7 / 8 % 4) + 64 * (x9 / 8 % 2) + 128 * (x18 / 8 % 2) + 256 * f) 1) → wpY_enabled post (len, P 13, z, c, al, sp, ha, dp, pc, nI T, pa, ta, re, ed, nI S, P 6, P 7, P 8, cv, P 10, P 12, P 14, P 16, P 18, P 19, si, rx, ov, sl, sb, cl, yl, yb, ya, ops, oa, ob, ve, an, so, rg, me, st, li, tk_q n, tk_d P 0, tk_d P 1, tk_d P 2) (nI 1) := by
    intro post hp
    have hx : (P 1 >>> ((4 : Int32) &&& 31)) &&& 1 = nI (x1 / 8 % 4 / 2) := by rw [e1]; exact tk_s41 x1 hx1
    by_cases hk : x1 / 8 % 4 / 2 = 1
    · rw [tk_qt (by rw [tk_E1 d1 d4 d7 d9 d18 hf]; exact decide_eq_true hk)] at hp
      exact br_f (by decide) (⟨(by decide), (vp_in_iff.mpr (by decide)), (by decide), br_t (hx.trans (congrArg nI hk)) hp⟩)
    · rw [tk_qf (by rw [tk_E1 d1 d4 d7 d9 d18 hf]; exact decide_eq_false hk)] at hp
      exact br_f (by decide) (⟨(by decide), (vp_in_iff.mpr (by decide)), (by decide), br_f (fun q => hk ((nI_eq (b := 1) (by omega) (by decide)).mp (hx.symm.trans q))) hp⟩)
  have k2 : ∀ post : Int32 → Prop, post (tk_q (x1 / 8 % 4 + 4 * (x4 / 8 % 4) + 16 * (x7 / 8 % 4) + 64 * (x9 / 8 % 2) + 128 * (x18 / 8 % 2) + 256 * f) 2) → wpY_enabled post (len, P 13, z, c, al, sp, ha, dp, pc, nI T, pa, ta, re, ed, nI S, P 6, P 7, P 8, cv, P 10, P 12, P 14, P 16, P 18, P 19, si, rx, ov, sl, sb, cl, yl, yb, ya, ops, oa, ob, ve, an, so, rg, me, st, li, tk_q n, tk_d P 0, tk_d P 1, tk_d P 2) (nI 2) := by
    intro post hp
    have hx : (P 4 >>> ((3 : Int32) &&& 31)) &&& 1 = nI (x4 / 8 % 4 % 2) := by rw [e4]; exact tk_s31 x4 hx4
    by_cases hk : x4 / 8 % 4 % 2 = 1
    · rw [tk_qt (by rw [tk_E2 d1 d4 d7 d9 d18 hf]; exact decide_eq_true hk)] at hp
      exact br_f (by decide) (⟨(by decide), (vp_in_iff.mpr (by decide)), (by decide), br_t (hx.trans (congrArg nI hk)) hp⟩)
    · rw [tk_qf (by rw [tk_E2 d1 d4 d7 d9 d18 hf]; exact decide_eq_false hk)] at hp
      exact br_f (by decide) (⟨(by decide), (vp_in_iff.mpr (by decide)), (by decide), br_f (fun q => hk ((nI_eq (b := 1) (by omega) (by decide)).mp (hx.symm.trans q))) hp⟩)
  have k3 : ∀ post : Int32 → Prop, post (tk_q (x1 / 8 % 4 + 4 * (x4 / 8 % 4) + 16 * (x7 / 8 % 4) + 64 * (x9 / 8 % 2) + 128 * (x18 / 8 % 2) + 256 * f) 3) → wpY_enabled post (len, P 13, z, c, al, sp, ha, dp, pc, nI T, pa, ta, re, ed, nI S, P 6, P 7, P 8, cv, P 10, P 12, P 14, P 16, P 18, P 19, si, rx, ov, sl, sb, cl, yl, yb, ya, ops, oa, ob, ve, an, so, rg, me, st, li, tk_q n, tk_d P 0, tk_d P 1, tk_d P 2) (nI 3) := by
    intro post hp
    have hx : (P 4 >>> ((4 : Int32) &&& 31)) &&& 1 = nI (x4 / 8 % 4 / 2) := by rw [e4]; exact tk_s41 x4 hx4
    by_cases hk : x4 / 8 % 4 / 2 = 1
    · rw [tk_qt (by rw [tk_E3 d1 d4 d7 d9 d18 hf]; exact decide_eq_true hk)] at hp
      exact br_f (by decide) (⟨(by decide), (vp_in_iff.mpr (by decide)), (by decide), br_t (hx.trans (congrArg nI hk)) hp⟩)
    · rw [tk_qf (by rw [tk_E3 d1 d4 d7 d9 d18 hf]; exact decide_eq_false hk)] at hp
      exact br_f (by decide) (⟨(by decide), (vp_in_iff.mpr (by decide)), (by decide), br_f (fun q => hk ((nI_eq (b := 1) (by omega) (by decide)).mp (hx.symm.trans q))) hp⟩)
  have k4 : ∀ post : Int32 → Prop, post (tk_q (x1 / 8 % 4 + 4 * (x4 / 8 % 4) + 16 * (x7 / 8 % 4) + 64 * (x9 / 8 % 2) + 128 * (x18 / 8 % 2) + 256 * f) 4) → wpY_enabled post (len, P 13, z, c, al, sp, ha, dp, pc, nI T, pa, ta, re, ed, nI S, P 6, P 7, P 8, cv, P 10, P 12, P 14, P 16, P 18, P 19, si, rx, ov, sl, sb, cl, yl, yb, ya, ops, oa, ob, ve, an, so, rg, me, st, li, tk_q n, tk_d P 0, tk_d P 1, tk_d P 2) (nI 4) := by
    intro post hp
    have hx : (P 7 >>> ((3 : Int32) &&& 31)) &&& 1 = nI (x7 / 8 % 4 % 2) := by rw [e7]; exact tk_s31 x7 hx7
    by_cases hk : x7 / 8 % 4 % 2 = 1
    · rw [tk_qt (by rw [tk_E4 d1 d4 d7 d9 d18 hf]; exact decide_eq_true hk)] at hp
      exact br_t (by decide) (br_f (by decide) (br_t (hx.trans (congrArg nI hk)) hp))
    · rw [tk_qf (by rw [tk_E4 d1 d4 d7 d9 d18 hf]; exact decide_eq_false hk)] at hp
      exact br_t (by decide) (br_f (by decide) (br_f (fun q => hk ((nI_eq (b := 1) (by omega) (by decide)).mp (hx.symm.trans q))) hp))
  have k5 : ∀ post : Int32 → Prop, post (tk_q (x1 / 8 % 4 + 4 * (x4 / 8 % 4) + 16 * (x7 / 8 % 4) + 64 * (x9 / 8 % 2) + 128 * (x18 / 8 % 2) + 256 * f) 5) → wpY_enabled post (len, P 13, z, c, al, sp, ha, dp, pc, nI T, pa, ta, re, ed, nI S, P 6, P 7, P 8, cv, P 10, P 12, P 14, P 16, P 18, P 19, si, rx, ov, sl, sb, cl, yl, yb, ya, ops, oa, ob, ve, an, so, rg, me, st, li, tk_q n, tk_d P 0, tk_d P 1, tk_d P 2) (nI 5) := by
    intro post hp
    have hx : (P 7 >>> ((4 : Int32) &&& 31)) &&& 1 = nI (x7 / 8 % 4 / 2) := by rw [e7]; exact tk_s41 x7 hx7
    by_cases hk : x7 / 8 % 4 / 2 = 1
    · rw [tk_qt (by rw [tk_E5 d1 d4 d7 d9 d18 hf]; exact decide_eq_true hk)] at hp
      exact br_t (by decide) (br_f (by decide) (br_t (hx.trans (congrArg nI hk)) hp))
    · rw [tk_qf (by rw [tk_E5 d1 d4 d7 d9 d18 hf]; exact decide_eq_false hk)] at hp
      exact br_t (by decide) (br_f (by decide) (br_f (fun q => hk ((nI_eq (b := 1) (by omega) (by decide)).mp (hx.symm.trans q))) hp))
  have k6 : ∀ post : Int32 → Prop, post (tk_q (x1 / 8 % 4 + 4 * (x4 / 8 % 4) + 16 * (x7 / 8 % 4) + 64 * (x9 / 8 % 2) + 128 * (x18 / 8 % 2) + 256 * f) 6) → wpY_enabled post (len, P 13, z, c, al, sp, ha, dp, pc, nI T, pa, ta, re, ed, nI S, P 6, P 7, P 8, cv, P 10, P 12, P 14, P 16, P 18, P 19, si, rx, ov, sl, sb, cl, yl, yb, ya, ops, oa, ob, ve, an, so, rg, me, st, li, tk_q n, tk_d P 0, tk_d P 1, tk_d P 2) (nI 6) := by
    intro post hp
    by_cases hk : x9 / 8 % 2 = 1
    · rw [tk_qt (by rw [tk_E6 d1 d4 d7 d9 d18 hf]; exact decide_eq_true hk)] at hp
      exact br_t (by decide) (br_t (by decide) (br_t (by decide) (br_f (by rw [ec, tk_s8 x9 hx9]; omega) hp)))
    · rw [tk_qf (by rw [tk_E6 d1 d4 d7 d9 d18 hf]; exact decide_eq_false hk)] at hp
      exact br_t (by decide) (br_t (by decide) (br_t (by decide) (br_t (by rw [ec, tk_s8 x9 hx9]; omega) hp)))
  have k7 : ∀ post : Int32 → Prop, post (tk_q (x1 / 8 % 4 + 4 * (x4 / 8 % 4) + 16 * (x7 / 8 % 4) + 64 * (x9 / 8 % 2) + 128 * (x18 / 8 % 2) + 256 * f) 7) → wpY_enabled post (len, P 13, z, c, al, sp, ha, dp, pc, nI T, pa, ta, re, ed, nI S, P 6, P 7, P 8, cv, P 10, P 12, P 14, P 16, P 18, P 19, si, rx, ov, sl, sb, cl, yl, yb, ya, ops, oa, ob, ve, an, so, rg, me, st, li, tk_q n, tk_d P 0, tk_d P 1, tk_d P 2) (nI 7) := by
    intro post hp
    by_cases hk : x18 / 8 % 2 = 1
    · rw [tk_qt (by rw [tk_E7 d1 d4 d7 d9 d18 hf]; exact decide_eq_true hk)] at hp
      exact br_t (by decide) (br_t (by decide) (br_f (by decide) (br_t (by decide) (br_f (by rw [e18, tk_s8 x18 hx18]; omega) hp))))
    · rw [tk_qf (by rw [tk_E7 d1 d4 d7 d9 d18 hf]; exact decide_eq_false hk)] at hp
      exact br_t (by decide) (br_t (by decide) (br_f (by decide) (br_t (by decide) (br_t (by rw [e18, tk_s8 x18 hx18]; omega) hp))))
  have k8 : ∀ post : Int32 → Prop, post (tk_q (x1 / 8 % 4 + 4 * (x4 / 8 % 4) + 16 * (x7 / 8 % 4) + 64 * (x9 / 8 % 2) + 128 * (x18 / 8 % 2) + 256 * f) 8) → wpY_enabled post (len, P 13, z, c, al, sp, ha, dp, pc, nI T, pa, ta, re, ed, nI S, P 6, P 7, P 8, cv, P 10, P 12, P 14, P 16, P 18, P 19, si, rx, ov, sl, sb, cl, yl, yb, ya, ops, oa, ob, ve, an, so, rg, me, st, li, tk_q n, tk_d P 0, tk_d P 1, tk_d P 2) (nI 8) := by
    intro post hp
    by_cases hk : f = 1
    · rw [tk_qt (by rw [tk_E8 d1 d4 d7 d9 d18 hf]; exact decide_eq_true hk)] at hp
      exact br_t (by decide) (br_t (by decide) (br_f (by decide) (br_f (by decide) (br_f (ef.mp hk) hp))))
    · rw [tk_qf (by rw [tk_E8 d1 d4 d7 d9 d18 hf]; exact decide_eq_false hk)] at hp
      exact br_t (by decide) (br_t (by decide) (br_f (by decide) (br_f (by decide) (br_t (Classical.byContradiction (fun q => hk (ef.mpr q))) hp))))
  intro k hk
  match k, hk with
  | 0, _ => exact k0
  | 1, _ => exact k1
  | 2, _ => exact k2
  | 3, _ => exact k3
  | 4, _ => exact k4
  | 5, _ => exact k5
  | 6, _ => exact k6
  | 7, _ => exact k7
  | 8, _ => exact k8
  | k + 9, h => exact absurd h (by omega)
theorem wa_loop {E K : Nat} (hK : K ≤ 9) (hen : ∀ k : Nat, k < 9 → ∀ post : Int32 → Prop, post (tk_q E k) → wpY_enabled post (len, P 13, z, c, al, sp, ha, dp, pc, nI T, pa, ta, re, ed, nI S, P 6, P 7, P 8, cv, P 10, P 12, P 14, P 16, P 18, P 19, si, rx, ov, sl, sb, cl, yl, yb, ya, ops, oa, ob, ve, an, so, rg, me, st, li, tk_q n, tk_d P 0, tk_d P 1, tk_d P 2) (nI k)) (h0 : ∀ j, j < K → (n &&& E).testBit j = false) (h1 : K < 9 → (n &&& E).testBit K = true) (post : Int32 → Prop) (hp : post (nI K)) : ∀ d j : Nat, j + d = K → wY_waiting_14 post len (P 13) z c al sp ha dp pc (nI T) pa ta re ed (nI S) (P 6) (P 7) (P 8) cv (P 10) (P 12) (P 14) (P 16) (P 18) (P 19) si rx ov sl sb cl yl yb ya ops oa ob ve an so rg me st li (tk_q n) (tk_d P 0) (tk_d P 1) (tk_d P 2) (d + 1) (nI j) := by
  intro d
  induction d with
  | zero =>
    intro j hj
    have e : j = K := by omega
    subst e
    by_cases h9 : j = 9
    · subst h9
      exact br_t (by decide) hp
    · have hlt : j < 9 := by omega
      have hb := h1 hlt
      rw [Nat.testBit_and, Bool.and_eq_true] at hb
      have hc : (nI j).toNatClampNeg = j := nI_clamp (by omega)
      have hn1 : ¬ tk_q n (nI j).toNatClampNeg = 0 := by rw [hc, tk_qt hb.1]; decide
      have he1 : ¬ tk_q E j = 0 := by rw [tk_qt hb.2]; decide
      exact br_f (nI_ge (b := 9) (by omega) (by decide)) ⟨vp_in_nI hlt (by decide), br_f hn1 (hen j hlt _ (br_f he1 hp))⟩
  | succ d ih =>
    intro j hj
    have hlt : j < 9 := by omega
    have hb := h0 j (by omega)
    rw [Nat.testBit_and] at hb
    have hc : (nI j).toNatClampNeg = j := nI_clamp (by omega)
    have IH := ih (j + 1) (by omega)
    cases e : n.testBit j
    · have hn0 : tk_q n (nI j).toNatClampNeg = 0 := by rw [hc, tk_qf e]
      exact br_f (nI_ge (b := 9) (by omega) (by decide)) ⟨vp_in_nI hlt (by decide), br_t hn0 (nm_r (nI_1 j) IH)⟩
    · rw [e, Bool.true_and] at hb
      have hn1 : ¬ tk_q n (nI j).toNatClampNeg = 0 := by rw [hc, tk_qt e]; decide
      exact br_f (nI_ge (b := 9) (by omega) (by decide)) ⟨vp_in_nI hlt (by decide), br_f hn1 (hen j hlt _ (br_t (tk_qf hb) (nm_r (nI_1 j) IH)))⟩
theorem ti_loop {r K : Nat} (hr : r < 512) (hK : K < 9) (h0 : ∀ j, j < K → r.testBit j = false) (h1 : r.testBit K = true) (post : Int32 → SX → Prop) (hp : wX_takeInterrupt_36 post (nI K) len pc z c al dp sp ha (nI T) re ta ed (nI n) rx ov sb sl (nI S) cl yb ya yl w ops oa ob ve rg me st an so li P) : ∀ d j : Nat, j + d = K → wX_takeInterrupt_16 post (nI r) len pc z c al dp sp ha (nI T) re ta ed (nI n) rx ov sb sl (nI S) cl yb ya yl w ops oa ob ve rg me st an so li P (d + 1) (nI j) := by
  intro d
  induction d with
  | zero =>
    intro j hj
    have e : j = K := by omega
    subst e
    by_cases h8 : j = 8
    · subst h8
      exact br_t (by decide) hp
    · exact br_f (nI_ge (b := 8) (by omega) (by decide)) (br_f (by rw [tk_shr1 (by omega) (by omega), tk_qt h1]; decide) hp)
  | succ d ih =>
    intro j hj
    exact br_f (nI_ge (b := 8) (by omega) (by decide)) (br_t (by rw [tk_shr1 (by omega) (by omega), tk_qf (h0 j (by omega))]) (nm_r (nI_1 j) (ih (j + 1) (by omega))))
theorem wt_all (h3 : tk_I3 cv P) (hn : n < 512) :
    ((∀ post : Int32 → SX → Prop, wX_takeStep_20 post 0 len pc z c al dp sp ha (nI T) re ta ed (nI n) rx ov sb sl (nI S) cl yb ya yl w ops oa ob ve rg me st an so li P → wpX_takeStep post (len, pc, z, c, al, dp, sp, ha, nI T, re, ta, ed, nI n, rx, ov, sb, sl, nI S, cl, yb, ya, yl, w, ops, oa, ob, ve, rg, me, st, an, so, li, P)) ∧ (∀ post : Int32 → Prop, post 9 → wpY_waiting post (len, P 13, z, c, al, sp, ha, dp, pc, nI T, pa, ta, re, ed, nI S, P 6, P 7, P 8, cv, P 10, P 12, P 14, P 16, P 18, P 19, si, rx, ov, sl, sb, cl, yl, yb, ya, ops, oa, ob, ve, an, so, rg, me, st, li, tk_q n, tk_d P 0, tk_d P 1, tk_d P 2))) ∨
    (∃ r K : Nat, r < 512 ∧ K < 9 ∧ (∀ j, j < K → r.testBit j = false) ∧ r.testBit K = true ∧ (∀ post : Int32 → SX → Prop, wX_takeStep_20 post (nI r) len pc z c al dp sp ha (nI T) re ta ed (nI n) rx ov sb sl (nI S) cl yb ya yl w ops oa ob ve rg me st an so li P → wpX_takeStep post (len, pc, z, c, al, dp, sp, ha, nI T, re, ta, ed, nI n, rx, ov, sb, sl, nI S, cl, yb, ya, yl, w, ops, oa, ob, ve, rg, me, st, an, so, li, P)) ∧ (∀ post : Int32 → Prop, post (nI K) → wpY_waiting post (len, P 13, z, c, al, sp, ha, dp, pc, nI T, pa, ta, re, ed, nI S, P 6, P 7, P 8, cv, P 10, P 12, P 14, P 16, P 18, P 19, si, rx, ov, sl, sb, cl, yl, yb, ya, ops, oa, ob, ve, an, so, rg, me, st, li, tk_q n, tk_d P 0, tk_d P 1, tk_d P 2))) := by
  obtain ⟨E, hE, eX, eY⟩ := en_all (n := n) (T := T) (S := S) (len := len) (pc := pc) (z := z) (c := c) (al := al) (dp := dp) (sp := sp) (ha := ha) (re := re) (ta := ta) (ed := ed) (rx := rx) (ov := ov) (sb := sb) (sl := sl) (cl := cl) (yb := yb) (ya := ya) (yl := yl) (w := w) (pa := pa) (cv := cv) (si := si) (ops := ops) (oa := oa) (ob := ob) (ve := ve) (rg := rg) (me := me) (st := st) (an := an) (so := so) (li := li) (P := P) h3
  by_cases ea : al = 0
  · refine Or.inl ⟨fun post hp => br_t ea hp, fun post hp => br_t ea ⟨1, br_t (by decide) hp⟩⟩
  · have hr : n &&& E < 512 := Nat.lt_of_le_of_lt Nat.and_le_left hn
    rcases tk_least (n &&& E) 9 with hz | ⟨K, hK, b1, b0⟩
    · have hz0 := tk_none hr hz
      refine Or.inl ⟨fun post hp => br_f ea (eX _ ?_), fun post hp => br_f ea ⟨10, ?_⟩⟩
      · rw [nx_and, hz0]
        exact hp
      · exact wa_loop (n := n) (T := T) (S := S) (len := len) (pc := pc) (z := z) (c := c) (al := al) (dp := dp) (sp := sp) (ha := ha) (re := re) (ta := ta) (ed := ed) (rx := rx) (ov := ov) (sb := sb) (sl := sl) (cl := cl) (yb := yb) (ya := ya) (yl := yl) (pa := pa) (cv := cv) (si := si) (ops := ops) (oa := oa) (ob := ob) (ve := ve) (rg := rg) (me := me) (st := st) (an := an) (so := so) (li := li) (P := P) (K := 9) (by decide) eY hz (fun q => absurd q (by decide)) post hp 9 0 rfl
    · refine Or.inr ⟨n &&& E, K, hr, hK, b0, b1, fun post hp => br_f ea (eX _ ?_), fun post hp => br_f ea ⟨K + 1, ?_⟩⟩
      · rw [nx_and]
        exact hp
      · exact wa_loop (n := n) (T := T) (S := S) (len := len) (pc := pc) (z := z) (c := c) (al := al) (dp := dp) (sp := sp) (ha := ha) (re := re) (ta := ta) (ed := ed) (rx := rx) (ov := ov) (sb := sb) (sl := sl) (cl := cl) (yb := yb) (ya := ya) (yl := yl) (pa := pa) (cv := cv) (si := si) (ops := ops) (oa := oa) (ob := ob) (ve := ve) (rg := rg) (me := me) (st := st) (an := an) (so := so) (li := li) (P := P) (K := K) (by omega) eY b0 (fun _ => b1) post hp K 0 (by omega)
end
