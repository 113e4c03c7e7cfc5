/-! what is owed -/
theorem tk_d00 (i : Nat) : tk_d (fun _ => 0) i = fun _ => 0 := by
  funext j
  unfold tk_d
  by_cases a : j = 0
  · rw [if_pos a]
  · rw [if_neg a]
    by_cases b : j = 1
    · rw [if_pos b]
    · rw [if_neg b]
theorem tk_gt {x : Int32} {a b : Nat} (h : nI b ≤ x) (hab : a < b) (hb : b < 2 ^ 31) : nI a < x := Int32.lt_of_lt_of_le (nI_lt hab hb) h
theorem tk_nl {x y : Int32} (h : x < y) : ¬ y ≤ x := Int32.not_le.mpr h
theorem tk_x30 {post : Int32 → SX → Prop} {x1 x2 x3 : Int32} {f : Nat} {a0 a1 a2 a3 a4 a5 a6 a7 a8 a9 a10 a11 a12 a13 a14 a15 a16 a17 a18 a19 a20 a21 a22 : Int32} {a23 a24 a25 a26 a27 a28 a29 a30 a31 a32 a33 : Nat → Int32} (h : tk_X30 post x1 x2 f x3 (a0, a1, a2, a3, a4, a5, a6, a7, a8, a9, a10, a11, a12, a13, a14, a15, a16, a17, a18, a19, a20, a21, a22, a23, a24, a25, a26, a27, a28, a29, a30, a31, a32, a33)) : wX_run_30 post x1 x2 f x3 a0 a1 a2 a3 a4 a5 a6 a7 a8 a9 a10 a11 a12 a13 a14 a15 a16 a17 a18 a19 a20 a21 a22 a23 a24 a25 a26 a27 a28 a29 a30 a31 a32 a33 := h
theorem tk_y28 {post : Int32 → SY → Prop} {x1 : Int32} {f : Nat} {a0 a1 a2 a3 a4 a5 a6 a7 a8 a9 a10 a11 a12 a13 a14 a15 a16 a17 a18 a19 a20 a21 a22 a23 a24 a25 a26 a27 a28 a29 a30 a31 a32 a33 : Int32} {a34 a35 a36 a37 a38 a39 a40 a41 a42 a43 a44 a45 a46 a47 : Nat → Int32} (h : tk_Y28 post x1 f (a0, a1, a2, a3, a4, a5, a6, a7, a8, a9, a10, a11, a12, a13, a14, a15, a16, a17, a18, a19, a20, a21, a22, a23, a24, a25, a26, a27, a28, a29, a30, a31, a32, a33, a34, a35, a36, a37, a38, a39, a40, a41, a42, a43, a44, a45, a46, a47)) : wY_run_28 post x1 f a0 a1 a2 a3 a4 a5 a6 a7 a8 a9 a10 a11 a12 a13 a14 a15 a16 a17 a18 a19 a20 a21 a22 a23 a24 a25 a26 a27 a28 a29 a30 a31 a32 a33 a34 a35 a36 a37 a38 a39 a40 a41 a42 a43 a44 a45 a46 a47 := h
theorem i_up {k : Nat} {u : SX} {v : SY} (h : i_Rel k u v) : i_Rel (k + 4) u v := h
theorem i_vc0 : wpX_init (fun u => wpY_init (fun v => i_Rel 0 u v)) := by
  unfold wpX_init wpY_init
  refine ⟨0, 0, 0, by decide, 0, 0, 0, 0, 0, 0, 0, 0, 0, 0, 0, 0, 0, 0, 0, 0, 0, 0, 0, 0, 0, 0, 0, fun _ => 0, fun _ => 0, fun _ => 0, fun _ => 0, fun _ => 0, fun _ => 0, fun _ => 0, fun _ => 0, fun _ => 0, fun _ => 0, fun _ => 0, rfl, ?_, ⟨tk_0 (by decide), fun _ => tk_0 (by decide), fun _ => tk_0 (by decide), fun _ => tk_0 (by decide)⟩, ⟨tk_0 (by decide), tk_0 (by decide), fun _ => tk_0 (by decide), fun _ => tk_0 (by decide), fun _ => tk_0 (by decide)⟩, ⟨tk_0 (by decide), (by decide : (0 : Int32) = 0 &&& (-5)), fun _ => tk_0 (by decide), tk_0 (by decide), tk_0 (by decide), tk_0 (by decide)⟩, ⟨by decide, Nat.le_refl 0, tk_0 (by decide), tk_0 (by decide), tk_0 (by decide), tk_0 (by decide), tk_0 (by decide), tk_0 (by decide), tk_0 (by decide), fun _ => tk_0 (by decide)⟩, Or.inl (by decide : (0 : Int32) &&& 7 = 0)⟩
  rw [tk_q0, tk_d00, tk_d00, tk_d00]
  first | done | rfl
theorem i_vc_load {k : Nat} {u : SX} {v : SY} (I : i_Rel k u v) (hk : k + 4 ≤ 2048) (v1 : Int32) (v2 : Int32) (v3 : Int32) : wpX_load (fun r u' => wpY_load (fun r' v' => r' = r ∧ i_Rel (k + 4) u' v') v v1 v2 v3) u v1 v2 v3 := by
  have I0 := I
  obtain ⟨T, pa, ha, hT, n, S, len, pc, z, c, al, dp, sp, re, ta, ed, rx, ov, sb, sl, cl, yb, ya, yl, w, cv, si, ops, oa, ob, ve, rg, me, st, an, so, li, P, rfl, rfl, h1, h2, h3, h4, hW⟩ := I
  rcases pk_ix v1 (n := 27) (by decide) with a | a | ⟨j, hj, rfl⟩
  · exact br_t a (br_t a ⟨rfl, I0⟩)
  · have n0 : ¬ v1 < 0 := Int32.not_lt.mpr (Int32.le_trans (by decide : (0 : Int32) ≤ nI 27) a)
    exact br_f n0 (br_t a (br_f n0 (br_t (tk_gt (a := 26) a (by decide) (by decide)) ⟨rfl, I0⟩)))
  · have n0 : ¬ nI j < 0 := nI_pos (by omega)
    have n1 : ¬ (27 : Int32) ≤ nI j := nI_ge (b := 27) hj (by decide)
    have n2 : ¬ (26 : Int32) < nI j := nI_nlt (a := 26) (by omega) (by decide)
    obtain ⟨L, hL, eL⟩ := h1.1
    subst eL
    by_cases f : L = 48
    · subst f
      exact br_f n0 (br_f n1 (br_f (by decide) (br_f n0 (br_f n2 (br_t rfl ⟨rfl, I0⟩)))))
    · have lt : nI L < 48 := nI_lt (b := 48) (by omega) (by decide)
      have ne : ¬ nI L = 48 := fun q => f ((nI_eq (b := 48) (by omega) (by decide)).mp q)
      have hv : vp_in (nI L) 48 := vp_in_nI (by omega) (by decide)
      exact br_f n0 (br_f n1 (br_t lt ⟨hv, nm_e ⟨hv, nm_e ⟨hv, nm_e (nm_r (nI_1 L) (br_f n0 (br_f n2 (br_f ne ⟨hv, nm_e ⟨hv, nm_e ⟨hv, nm_e (nm_r (nI_1 L) ⟨rfl, ⟨T, pa, ha, hT, n, S, nI (L + 1), pc, z, c, al, dp, sp, re, ta, ed, rx, ov, sb, sl, cl, yb, ya, yl, w, cv, si, upd ops (nI L).toNatClampNeg (nI j), upd oa (nI L).toNatClampNeg v2, upd ob (nI L).toNatClampNeg v3, ve, rg, me, st, an, so, li, P, rfl, rfl, ⟨tk_mk (by omega), tk_upd h1.2.1 (tk_mk hj), h1.2.2⟩, h2, h3, h4, hW⟩⟩)⟩⟩⟩))))⟩⟩⟩))
theorem i_vc_vector {k : Nat} {u : SX} {v : SY} (I : i_Rel k u v) (hk : k + 4 ≤ 2048) (v1 : Int32) (v2 : Int32) : wpX_vector (fun r u' => wpY_vector (fun r' v' => r' = r ∧ i_Rel (k + 4) u' v') v v1 v2) u v1 v2 := by
  have I0 := I
  obtain ⟨T, pa, ha, hT, n, S, len, pc, z, c, al, dp, sp, re, ta, ed, rx, ov, sb, sl, cl, yb, ya, yl, w, cv, si, ops, oa, ob, ve, rg, me, st, an, so, li, P, rfl, rfl, h1, h2, h3, h4, hW⟩ := I
  rcases pk_ix v1 (n := 9) (by decide) with a | a | ⟨j, hj, rfl⟩
  · exact br_t a (br_t a ⟨rfl, I0⟩)
  · have n0 : ¬ v1 < 0 := Int32.not_lt.mpr (Int32.le_trans (by decide : (0 : Int32) ≤ nI 9) a)
    exact br_f n0 (br_t a (br_f n0 (br_t (tk_gt (a := 8) a (by decide) (by decide)) ⟨rfl, I0⟩)))
  · have n0 : ¬ nI j < 0 := nI_pos (by omega)
    have n1 : ¬ (9 : Int32) ≤ nI j := nI_ge (b := 9) hj (by decide)
    have n2 : ¬ (8 : Int32) < nI j := nI_nlt (a := 8) (by omega) (by decide)
    have hv : vp_in (nI j) 9 := vp_in_nI hj (by decide)
    rcases pk_ix v2 (n := 48) (by decide) with b | b | ⟨i, hi, rfl⟩
    · exact br_f n0 (br_f n1 (br_t b (br_f n0 (br_f n2 (br_t b ⟨rfl, I0⟩)))))
    · have m0 : ¬ v2 < 0 := Int32.not_lt.mpr (Int32.le_trans (by decide : (0 : Int32) ≤ nI 48) b)
      exact br_f n0 (br_f n1 (br_f m0 (br_f (Int32.not_lt.mpr b) (br_f n0 (br_f n2 (br_f m0 (br_f (tk_nl (tk_gt (a := 47) b (by decide) (by decide))) ⟨rfl, I0⟩)))))))
    · have m0 : ¬ nI i < 0 := nI_pos (by omega)
      exact br_f n0 (br_f n1 (br_f m0 (br_t (nI_lt (b := 48) hi (by decide)) ⟨hv, nm_e (br_f n0 (br_f n2 (br_f m0 (br_t (nI_le (b := 47) (by omega) (by decide)) ⟨hv, nm_e ⟨rfl, ⟨T, pa, ha, hT, n, S, len, pc, z, c, al, dp, sp, re, ta, ed, rx, ov, sb, sl, cl, yb, ya, yl, w, cv, si, ops, oa, ob, upd ve (nI j).toNatClampNeg (nI i), rg, me, st, an, so, li, P, rfl, rfl, ⟨h1.1, h1.2.1, tk_upd h1.2.2.1 (tk_mk hi), h1.2.2.2⟩, h2, h3, h4, hW⟩⟩⟩))))⟩)))
theorem i_vc_power {k : Nat} {u : SX} {v : SY} (I : i_Rel k u v) (hk : k + 4 ≤ 2048) : wpX_power (fun u' => wpY_power (fun v' => i_Rel (k + 4) u' v') v) u := by
  have I0 := I
  obtain ⟨T, pa, ha, hT, n, S, len, pc, z, c, al, dp, sp, re, ta, ed, rx, ov, sb, sl, cl, yb, ya, yl, w, cv, si, ops, oa, ob, ve, rg, me, st, an, so, li, P, rfl, rfl, h1, h2, h3, h4, hW⟩ := I
  refine pw_X _ (pw_Y (P := P) h4.1 _ ?_)
  exact ⟨0, pa, 0, by decide, 0, 0, len, 0, 0, 0, 0, 0, 0, 0, 0, 0, 0, 0, sb, 0, 0, yb, ya, 0, 0, 0, 0, ops, oa, ob, ve, tk_qi rg 8, tk_qi me 32, st, an, so, li, upd (tk_ri P 20) 12 0, rfl, rfl, h1, ⟨tk_0 (by decide), tk_0 (by decide), tk_qiB (by decide) h2.2.2.1 8, tk_qiB (by decide) h2.2.2.2.1 32, h2.2.2.2.2⟩, tk_3up (tk_r3 h3.2.2.1) (by decide) (by decide) (by decide) (by decide) (tk_0 (by decide)), ⟨by decide, Nat.le_refl 0, tk_0 (by decide), tk_0 (by decide), tk_0 (by decide), tk_0 (by decide), h4.2.2.2.2.2.2.1, h4.2.2.2.2.2.2.2.1, tk_0 (by decide), h4.2.2.2.2.2.2.2.2.2⟩, Or.inl (by decide : (0 : Int32) &&& 7 = 0)⟩
theorem i_vc_run {k : Nat} {u : SX} {v : SY} (I : i_Rel k u v) (hk : k + 4 ≤ 2048) (v1 : Int32) : wpX_run (fun r u' => wpY_run (fun r' v' => r' = r ∧ i_Rel (k + 4) u' v') v v1) u v1 := by
  have I0 := I
  obtain ⟨T, pa, ha, hT, n, S, len, pc, z, c, al, dp, sp, re, ta, ed, rx, ov, sb, sl, cl, yb, ya, yl, w, cv, si, ops, oa, ob, ve, rg, me, st, an, so, li, P, rfl, rfl, h1, h2, h3, h4, hW⟩ := I
  by_cases c1 : v1 < 1
  · exact br_t c1 (br_t c1 ⟨rfl, I0⟩)
  · by_cases c2 : 3000 < v1
    · exact br_f c1 (br_t c2 (br_f c1 (br_t c2 ⟨rfl, I0⟩)))
    · by_cases c3 : nI T ≤ 1000000000
      · have n0 : ¬ v1 < 0 := fun q => c1 (Int32.lt_of_lt_of_le q (by decide))
        obtain ⟨N, hN, rfl⟩ := nI_of n0
        have hN3 : N ≤ 3000 := by
          rcases Nat.lt_or_ge 3000 N with q | q
          · exact absurd (nI_lt (a := 3000) q hN) c2
          · exact q
        have hT3 : T ≤ 1000000000 := (nI_leI (b := 1000000000) (by omega) (by decide)).mp c3
        have hR0 : tk_R (T + 0) (nI 0) ha (len, pc, z, c, al, dp, sp, ha, nI T, re, ta, ed, nI n, rx, ov, sb, sl, nI S, cl, yb, ya, yl, w, ops, oa, ob, ve, rg, me, st, an, so, li, P) (len, P 13, z, c, al, sp, ha, dp, pc, nI T, nI 0, ta, re, ed, nI S, P 6, P 7, P 8, cv, P 10, P 12, P 14, P 16, P 18, P 19, si, rx, ov, sl, sb, cl, yl, yb, ya, ops, oa, ob, ve, an, so, rg, me, st, li, tk_q n, tk_d P 0, tk_d P 1, tk_d P 2) := ⟨n, S, len, pc, z, c, al, dp, sp, re, ta, ed, rx, ov, sb, sl, cl, yb, ya, yl, w, cv, si, ops, oa, ob, ve, rg, me, st, an, so, li, P, rfl, rfl, h1, h2, h3, h4, hW⟩
        obtain ⟨m', ha', u', v', hm', hR', hX, hY⟩ := rn_all hT3 hN3 N 0 0 ha _ _ hR0 (by omega) (Or.inr ⟨Nat.le_refl 0, by omega⟩)
        refine br_f c1 (br_f c2 (br_t c3 ⟨N + 2, tk_x30 (hX _ ?_)⟩))
        refine br_f c1 (br_f c2 (br_t c3 ⟨N + 2, tk_y28 (hY _ ?_)⟩))
        exact ⟨rfl, T + m', _, ha', by omega, hR'⟩
      · exact br_f c1 (br_f c2 (br_f c3 (br_f c1 (br_f c2 (br_f c3 ⟨rfl, I0⟩)))))
theorem i_vc_pins {k : Nat} {u : SX} {v : SY} (I : i_Rel k u v) (hk : k + 4 ≤ 2048) (v1 : Int32) : wpX_pins (fun r u' => wpY_pins (fun r' v' => r' = r ∧ i_Rel (k + 4) u' v') v v1) u v1 := by
  have I0 := I
  obtain ⟨T, pa, ha, hT, n, S, len, pc, z, c, al, dp, sp, re, ta, ed, rx, ov, sb, sl, cl, yb, ya, yl, w, cv, si, ops, oa, ob, ve, rg, me, st, an, so, li, P, rfl, rfl, h1, h2, h3, h4, hW⟩ := I
  have g3 : tk_I3 cv (upd P 13 (v1 &&& 255)) := tk_3up h3 (by decide) (by decide) (by decide) (by decide) (tk_b _)
  have hX : (P 13 ^^^ (v1 &&& 255)) &&& P 19 = ((P 13 ^^^ v1) &&& P 19) &&& 255 := tk_pins (tk_255 (h3.2.2.1 19))
  by_cases e : ((P 13 ^^^ v1) &&& P 19) &&& 255 = 0
  · exact nm_e (nm_e (br_t (hX.trans e) (br_t e (nm_e (br_t rfl ⟨rfl, rfl, ⟨T, pa, ha, hT, n, S, len, pc, z, c, al, dp, sp, re, ta, ed, rx, ov, sb, sl, cl, yb, ya, yl, w, cv, si, ops, oa, ob, ve, rg, me, st, an, so, li, upd P 13 (v1 &&& 255), rfl, rfl, h1, h2, g3, h4, hW⟩⟩)))))
  · exact nm_e (nm_e (br_f (fun q => e (hX.symm.trans q)) (nm_r (tk_or n 256) (br_f e (nm_e (br_f (by decide) (nm_r (tk_setN n 8) ⟨rfl, rfl, ⟨T, pa, ha, hT, n ||| 2 ^ 8, S, len, pc, z, c, al, dp, sp, re, ta, ed, rx, ov, sb, sl, cl, yb, ya, yl, w, cv, si, ops, oa, ob, ve, rg, me, st, an, so, li, upd P 13 (v1 &&& 255), rfl, rfl, h1, h2, g3, ⟨tk_setlt h4.1 (by decide), h4.2⟩, hW⟩⟩)))))))
theorem i_vc_analog {k : Nat} {u : SX} {v : SY} (I : i_Rel k u v) (hk : k + 4 ≤ 2048) (v1 : Int32) (v2 : Int32) : wpX_analog (fun r u' => wpY_analog (fun r' v' => r' = r ∧ i_Rel (k + 4) u' v') v v1 v2) u v1 v2 := by
  have I0 := I
  obtain ⟨T, pa, ha, hT, n, S, len, pc, z, c, al, dp, sp, re, ta, ed, rx, ov, sb, sl, cl, yb, ya, yl, w, cv, si, ops, oa, ob, ve, rg, me, st, an, so, li, P, rfl, rfl, h1, h2, h3, h4, hW⟩ := I
  rcases pk_ix v1 (n := 4) (by decide) with a | a | ⟨j, hj, rfl⟩
  · exact br_t a (br_t a ⟨rfl, I0⟩)
  · have n0 : ¬ v1 < 0 := Int32.not_lt.mpr (Int32.le_trans (by decide : (0 : Int32) ≤ nI 4) a)
    exact br_f n0 (br_f (Int32.not_lt.mpr a) (br_f n0 (br_f (tk_nl (tk_gt (a := 3) a (by decide) (by decide))) ⟨rfl, I0⟩)))
  · have n0 : ¬ nI j < 0 := nI_pos (by omega)
    have lt : nI j < 4 := nI_lt (b := 4) hj (by decide)
    have le : nI j ≤ 3 := nI_le (b := 3) (by omega) (by decide)
    have hv : vp_in (nI j) 4 := vp_in_nI hj (by decide)
    exact br_f n0 (br_t lt ⟨hv, nm_e (br_f n0 (br_t le ⟨hv, nm_e ⟨rfl, ⟨T, pa, ha, hT, n, S, len, pc, z, c, al, dp, sp, re, ta, ed, rx, ov, sb, sl, cl, yb, ya, yl, w, cv, si, ops, oa, ob, ve, rg, me, st, upd an (nI j).toNatClampNeg (v2 &&& 255), so, li, P, rfl, rfl, ⟨h1.1, h1.2.1, h1.2.2.1, tk_upd h1.2.2.2 (tk_b _)⟩, h2, h3, h4, hW⟩⟩⟩))⟩)
theorem i_vc_receive {k : Nat} {u : SX} {v : SY} (I : i_Rel k u v) (hk : k + 4 ≤ 2048) (v1 : Int32) : wpX_receive (fun r u' => wpY_receive (fun r' v' => r' = r ∧ i_Rel (k + 4) u' v') v v1) u v1 := by
  have I0 := I
  obtain ⟨T, pa, ha, hT, n, S, len, pc, z, c, al, dp, sp, re, ta, ed, rx, ov, sb, sl, cl, yb, ya, yl, w, cv, si, ops, oa, ob, ve, rg, me, st, an, so, li, P, rfl, rfl, h1, h2, h3, h4, hW⟩ := I
  have g3 : tk_I3 cv (upd P 6 (v1 &&& 255)) := tk_3up h3 (by decide) (by decide) (by decide) (by decide) (tk_b _)
  by_cases e : rx = 0
  · exact br_t e (nm_e (nm_r (tk_or n 16) (br_t e (nm_e (nm_r (tk_setN n 4) ⟨rfl, ⟨T, pa, ha, hT, n ||| 2 ^ 4, S, len, pc, z, c, al, dp, sp, re, ta, ed, 1, ov, sb, sl, cl, yb, ya, yl, w, cv, si, ops, oa, ob, ve, rg, me, st, an, so, li, upd P 6 (v1 &&& 255), rfl, rfl, h1, h2, g3, ⟨tk_setlt h4.1 (by decide), h4.2.1, ⟨1, by decide, rfl⟩, h4.2.2.2⟩, hW⟩⟩)))))
  · exact br_f e (br_f e ⟨rfl, ⟨T, pa, ha, hT, n, S, len, pc, z, c, al, dp, sp, re, ta, ed, rx, 1, sb, sl, cl, yb, ya, yl, w, cv, si, ops, oa, ob, ve, rg, me, st, an, so, li, P, rfl, rfl, h1, h2, h3, ⟨h4.1, h4.2.1, h4.2.2.1, ⟨1, by decide, rfl⟩, h4.2.2.2.2⟩, hW⟩⟩)
theorem i_vc_register {k : Nat} {u : SX} {v : SY} (I : i_Rel k u v) (hk : k + 4 ≤ 2048) (v1 : Int32) : wpX_register (fun r => wpY_register (fun r' => r' = r ∧ i_Rel (k + 4) u v) v v1) u v1 := by
  have I0 := I
  obtain ⟨T, pa, ha, hT, n, S, len, pc, z, c, al, dp, sp, re, ta, ed, rx, ov, sb, sl, cl, yb, ya, yl, w, cv, si, ops, oa, ob, ve, rg, me, st, an, so, li, P, rfl, rfl, h1, h2, h3, h4, hW⟩ := I
  rcases pk_ix v1 (n := 8) (by decide) with a | a | ⟨j, hj, rfl⟩
  · exact br_t a (br_t a ⟨rfl, I0⟩)
  · have n0 : ¬ v1 < 0 := Int32.not_lt.mpr (Int32.le_trans (by decide : (0 : Int32) ≤ nI 8) a)
    exact br_f n0 (br_f (Int32.not_lt.mpr a) (br_f n0 (br_f (tk_nl (tk_gt (a := 7) a (by decide) (by decide))) ⟨rfl, I0⟩)))
  · have n0 : ¬ nI j < 0 := nI_pos (by omega)
    have lt : nI j < 8 := nI_lt (b := 8) hj (by decide)
    have le : nI j ≤ 7 := nI_le (b := 7) (by omega) (by decide)
    have hv : vp_in (nI j) 8 := vp_in_nI hj (by decide)
    exact br_f n0 (br_t lt ⟨hv, br_f n0 (br_t le ⟨hv, ⟨rfl, I0⟩⟩)⟩)
theorem i_vc_memory {k : Nat} {u : SX} {v : SY} (I : i_Rel k u v) (hk : k + 4 ≤ 2048) (v1 : Int32) : wpX_memory (fun r => wpY_memory (fun r' => r' = r ∧ i_Rel (k + 4) u v) v v1) u v1 := by
  have I0 := I
  obtain ⟨T, pa, ha, hT, n, S, len, pc, z, c, al, dp, sp, re, ta, ed, rx, ov, sb, sl, cl, yb, ya, yl, w, cv, si, ops, oa, ob, ve, rg, me, st, an, so, li, P, rfl, rfl, h1, h2, h3, h4, hW⟩ := I
  rcases pk_ix v1 (n := 32) (by decide) with a | a | ⟨j, hj, rfl⟩
  · exact br_t a (br_t a ⟨rfl, I0⟩)
  · have n0 : ¬ v1 < 0 := Int32.not_lt.mpr (Int32.le_trans (by decide : (0 : Int32) ≤ nI 32) a)
    exact br_f n0 (br_f (Int32.not_lt.mpr a) (br_f n0 (br_f (tk_nl (tk_gt (a := 31) a (by decide) (by decide))) ⟨rfl, I0⟩)))
  · have n0 : ¬ nI j < 0 := nI_pos (by omega)
    have lt : nI j < 32 := nI_lt (b := 32) hj (by decide)
    have le : nI j ≤ 31 := nI_le (b := 31) (by omega) (by decide)
    have hv : vp_in (nI j) 32 := vp_in_nI hj (by decide)
    exact br_f n0 (br_t lt ⟨hv, br_f n0 (br_t le ⟨hv, ⟨rfl, I0⟩⟩)⟩)
theorem i_vc_stored {k : Nat} {u : SX} {v : SY} (I : i_Rel k u v) (hk : k + 4 ≤ 2048) (v1 : Int32) : wpX_stored (fun r => wpY_stored (fun r' => r' = r ∧ i_Rel (k + 4) u v) v v1) u v1 := by
  have I0 := I
  obtain ⟨T, pa, ha, hT, n, S, len, pc, z, c, al, dp, sp, re, ta, ed, rx, ov, sb, sl, cl, yb, ya, yl, w, cv, si, ops, oa, ob, ve, rg, me, st, an, so, li, P, rfl, rfl, h1, h2, h3, h4, hW⟩ := I
  rcases pk_ix v1 (n := 16) (by decide) with a | a | ⟨j, hj, rfl⟩
  · exact br_t a (br_t a ⟨rfl, I0⟩)
  · have n0 : ¬ v1 < 0 := Int32.not_lt.mpr (Int32.le_trans (by decide : (0 : Int32) ≤ nI 16) a)
    exact br_f n0 (br_f (Int32.not_lt.mpr a) (br_f n0 (br_f (tk_nl (tk_gt (a := 15) a (by decide) (by decide))) ⟨rfl, I0⟩)))
  · have n0 : ¬ nI j < 0 := nI_pos (by omega)
    have lt : nI j < 16 := nI_lt (b := 16) hj (by decide)
    have le : nI j ≤ 15 := nI_le (b := 15) (by omega) (by decide)
    have hv : vp_in (nI j) 16 := vp_in_nI hj (by decide)
    exact br_f n0 (br_t lt ⟨hv, br_f n0 (br_t le ⟨hv, ⟨rfl, I0⟩⟩)⟩)
theorem i_vc_port {k : Nat} {u : SX} {v : SY} (I : i_Rel k u v) (hk : k + 4 ≤ 2048) (v1 : Int32) : wpX_port (fun r => wpY_port (fun r' => r' = r ∧ i_Rel (k + 4) u v) v v1) u v1 := by
  have I0 := I
  obtain ⟨T, pa, ha, hT, n, S, len, pc, z, c, al, dp, sp, re, ta, ed, rx, ov, sb, sl, cl, yb, ya, yl, w, cv, si, ops, oa, ob, ve, rg, me, st, an, so, li, P, rfl, rfl, h1, h2, h3, h4, hW⟩ := I
  rcases pk_ix v1 (n := 20) (by decide) with a | a | ⟨j, hj, rfl⟩
  · exact br_t a (br_t a ⟨rfl, I0⟩)
  · have n0 : ¬ v1 < 0 := Int32.not_lt.mpr (Int32.le_trans (by decide : (0 : Int32) ≤ nI 20) a)
    exact br_f n0 (br_f (Int32.not_lt.mpr a) (br_f n0 (br_f (tk_nl (tk_gt (a := 19) a (by decide) (by decide))) ⟨rfl, I0⟩)))
  · have n0 : ¬ nI j < 0 := nI_pos (by omega)
    have lt : nI j < 20 := nI_lt (b := 20) hj (by decide)
    have le : nI j ≤ 19 := nI_le (b := 19) (by omega) (by decide)
    obtain ⟨r, hr, rX, rY⟩ := rd_all (n := n) (T := T) (S := S) (len := len) (pc := pc) (z := z) (c := c) (al := al) (dp := dp) (sp := sp) (ha := ha) (re := re) (ta := ta) (ed := ed) (rx := rx) (ov := ov) (sb := sb) (sl := sl) (cl := cl) (yb := yb) (ya := ya) (yl := yl) (w := w) (pa := pa) (cv := cv) (si := si) (ops := ops) (oa := oa) (ob := ob) (ve := ve) (rg := rg) (me := me) (st := st) (an := an) (so := so) (li := li) (P := P) h3 h4.1 h4.2.2.2.2.2.2.2.2.2 j (by omega)
    exact br_f n0 (br_t lt (rX _ (br_f n0 (br_t le (rY _ ⟨rfl, I0⟩)))))
theorem i_vc_state {k : Nat} {u : SX} {v : SY} (I : i_Rel k u v) (hk : k + 4 ≤ 2048) (v1 : Int32) : wpX_state (fun r => wpY_state (fun r' => r' = r ∧ i_Rel (k + 4) u v) v v1) u v1 := by
  have I0 := I
  obtain ⟨T, pa, ha, hT, n, S, len, pc, z, c, al, dp, sp, re, ta, ed, rx, ov, sb, sl, cl, yb, ya, yl, w, cv, si, ops, oa, ob, ve, rg, me, st, an, so, li, P, rfl, rfl, h1, h2, h3, h4, hW⟩ := I
  rcases pk_ix v1 (n := 8) (by decide) with a | a | ⟨j, hj, rfl⟩
  · exact br_t a (br_t a ⟨rfl, I0⟩)
  · have n0 : ¬ v1 < 0 := Int32.not_lt.mpr (Int32.le_trans (by decide : (0 : Int32) ≤ nI 8) a)
    have n7 : 7 < v1 := tk_gt (a := 7) a (by decide) (by decide)
    exact br_f n0 (br_t n7 (br_f n0 (br_t n7 ⟨rfl, I0⟩)))
  · rcases (by omega : j = 0 ∨ j = 1 ∨ j = 2 ∨ j = 3 ∨ j = 4 ∨ j = 5 ∨ j = 6 ∨ j = 7) with e | e | e | e | e | e | e | e <;> subst e
    · exact br_f (by decide) (br_f (by decide) (br_t (by decide) (br_f (by decide) (br_f (by decide) (br_t (by decide) (⟨rfl, I0⟩))))))
    · by_cases a1 : z = 0 <;> by_cases a2 : c = 0 <;> by_cases a3 : al = 0
      · exact br_f (by decide) (br_f (by decide) (br_f (by decide) (br_t (by decide) (br_t a1 (br_t a2 (br_t a3 (br_f (by decide) (br_f (by decide) (br_f (by decide) (br_t (by decide) (br_t a1 (br_t a2 (br_t a3 (⟨rfl, I0⟩))))))))))))))
      · exact br_f (by decide) (br_f (by decide) (br_f (by decide) (br_t (by decide) (br_t a1 (br_t a2 (br_f a3 (br_f (by decide) (br_f (by decide) (br_f (by decide) (br_t (by decide) (br_t a1 (br_t a2 (br_f a3 (⟨rfl, I0⟩))))))))))))))
      · exact br_f (by decide) (br_f (by decide) (br_f (by decide) (br_t (by decide) (br_t a1 (br_f a2 (br_t a3 (br_f (by decide) (br_f (by decide) (br_f (by decide) (br_t (by decide) (br_t a1 (br_f a2 (br_t a3 (⟨rfl, I0⟩))))))))))))))
      · exact br_f (by decide) (br_f (by decide) (br_f (by decide) (br_t (by decide) (br_t a1 (br_f a2 (br_f a3 (br_f (by decide) (br_f (by decide) (br_f (by decide) (br_t (by decide) (br_t a1 (br_f a2 (br_f a3 (⟨rfl, I0⟩))))))))))))))
      · exact br_f (by decide) (br_f (by decide) (br_f (by decide) (br_t (by decide) (br_f a1 (br_t a2 (br_t a3 (br_f (by decide) (br_f (by decide) (br_f (by decide) (br_t (by decide) (br_f a1 (br_t a2 (br_t a3 (⟨rfl, I0⟩))))))))))))))
      · exact br_f (by decide) (br_f (by decide) (br_f (by decide) (br_t (by decide) (br_f a1 (br_t a2 (br_f a3 (br_f (by decide) (br_f (by decide) (br_f (by decide) (br_t (by decide) (br_f a1 (br_t a2 (br_f a3 (⟨rfl, I0⟩))))))))))))))
      · exact br_f (by decide) (br_f (by decide) (br_f (by decide) (br_t (by decide) (br_f a1 (br_f a2 (br_t a3 (br_f (by decide) (br_f (by decide) (br_f (by decide) (br_t (by decide) (br_f a1 (br_f a2 (br_t a3 (⟨rfl, I0⟩))))))))))))))
      · exact br_f (by decide) (br_f (by decide) (br_f (by decide) (br_t (by decide) (br_f a1 (br_f a2 (br_f a3 (br_f (by decide) (br_f (by decide) (br_f (by decide) (br_t (by decide) (br_f a1 (br_f a2 (br_f a3 (⟨rfl, I0⟩))))))))))))))
    · exact br_f (by decide) (br_f (by decide) (br_f (by decide) (br_f (by decide) (br_t (by decide) (br_f (by decide) (br_f (by decide) (br_f (by decide) (br_f (by decide) (br_t (by decide) (⟨rfl, I0⟩))))))))))
    · by_cases a1 : ha = 0
      · by_cases a2 : sp = 0
        · exact br_f (by decide) (br_f (by decide) (br_f (by decide) (br_f (by decide) (br_f (by decide) (br_t (by decide) (br_t a1 (br_t a2 (br_f (by decide) (br_f (by decide) (br_f (by decide) (br_f (by decide) (br_f (by decide) (br_t (by decide) (br_t a1 (br_t a2 (⟨rfl, I0⟩))))))))))))))))
        · exact br_f (by decide) (br_f (by decide) (br_f (by decide) (br_f (by decide) (br_f (by decide) (br_t (by decide) (br_t a1 (br_f a2 (br_f (by decide) (br_f (by decide) (br_f (by decide) (br_f (by decide) (br_f (by decide) (br_t (by decide) (br_t a1 (br_f a2 (⟨rfl, I0⟩))))))))))))))))
      · exact br_f (by decide) (br_f (by decide) (br_f (by decide) (br_f (by decide) (br_f (by decide) (br_t (by decide) (br_f a1 (br_f (by decide) (br_f (by decide) (br_f (by decide) (br_f (by decide) (br_f (by decide) (br_t (by decide) (br_f a1 (⟨rfl, I0⟩))))))))))))))
    · exact br_f (by decide) (br_f (by decide) (br_f (by decide) (br_f (by decide) (br_f (by decide) (br_f (by decide) (br_t (by decide) (br_f (by decide) (br_f (by decide) (br_f (by decide) (br_f (by decide) (br_f (by decide) (br_f (by decide) (br_t (by decide) (⟨rfl, I0⟩))))))))))))))
    · exact br_f (by decide) (br_f (by decide) (br_f (by decide) (br_f (by decide) (br_f (by decide) (br_f (by decide) (br_f (by decide) (br_t (by decide) (br_f (by decide) (br_f (by decide) (br_f (by decide) (br_f (by decide) (br_f (by decide) (br_f (by decide) (br_f (by decide) (br_t (by decide) (⟨rfl, I0⟩))))))))))))))))
    · exact br_f (by decide) (br_f (by decide) (br_f (by decide) (br_f (by decide) (br_f (by decide) (br_f (by decide) (br_f (by decide) (br_f (by decide) (br_t (by decide) (br_f (by decide) (br_f (by decide) (br_f (by decide) (br_f (by decide) (br_f (by decide) (br_f (by decide) (br_f (by decide) (br_f (by decide) (br_t (by decide) (⟨rfl, I0⟩))))))))))))))))))
    · exact br_f (by decide) (br_f (by decide) (br_f (by decide) (br_f (by decide) (br_f (by decide) (br_f (by decide) (br_f (by decide) (br_f (by decide) (br_f (by decide) (br_t (by decide) (br_f (by decide) (br_f (by decide) (br_f (by decide) (br_f (by decide) (br_f (by decide) (br_f (by decide) (br_f (by decide) (br_f (by decide) (br_f (by decide) (br_t (by decide) (⟨rfl, I0⟩))))))))))))))))))))
theorem i_vc_line {k : Nat} {u : SX} {v : SY} (I : i_Rel k u v) (hk : k + 4 ≤ 2048) (v1 : Int32) : wpX_line (fun r => wpY_line (fun r' => r' = r ∧ i_Rel (k + 4) u v) v v1) u v1 := by
  have I0 := I
  obtain ⟨T, pa, ha, hT, n, S, len, pc, z, c, al, dp, sp, re, ta, ed, rx, ov, sb, sl, cl, yb, ya, yl, w, cv, si, ops, oa, ob, ve, rg, me, st, an, so, li, P, rfl, rfl, h1, h2, h3, h4, hW⟩ := I
  have hS : S < 2 ^ 31 := by have := h4.2.1; omega
  rcases pk_ix v1 (n := 32) (by decide) with a | a | ⟨j, hj, rfl⟩
  · exact br_t a (br_t a ⟨rfl, I0⟩)
  · have n0 : ¬ v1 < 0 := Int32.not_lt.mpr (Int32.le_trans (by decide : (0 : Int32) ≤ nI 32) a)
    by_cases b : nI S ≤ v1
    · exact br_f n0 (br_t a (br_f n0 (br_t b ⟨rfl, I0⟩)))
    · exact br_f n0 (br_t a (br_f n0 (br_f b (br_f (tk_nl (tk_gt (a := 31) a (by decide) (by decide))) ⟨rfl, I0⟩))))
  · have n0 : ¬ nI j < 0 := nI_pos (by omega)
    have n1 : ¬ (32 : Int32) ≤ nI j := nI_ge (b := 32) hj (by decide)
    have hv : vp_in (nI j) 32 := vp_in_nI hj (by decide)
    have le : nI j ≤ 31 := nI_le (b := 31) (by omega) (by decide)
    by_cases b : j < S
    · exact br_f n0 (br_f n1 (br_t (nI_lt b hS) ⟨hv, br_f n0 (br_f (nI_ge b hS) (br_t le ⟨hv, ⟨rfl, I0⟩⟩))⟩))
    · exact br_f n0 (br_f n1 (br_f (nI_nlt (by omega) (by omega)) (br_f n0 (br_t (nI_le (by omega) (by omega)) ⟨rfl, I0⟩))))
theorem i_vc_sent {k : Nat} {u : SX} {v : SY} (I : i_Rel k u v) (hk : k + 4 ≤ 2048) : wpX_sent (fun r => wpY_sent (fun r' => r' = r ∧ i_Rel (k + 4) u v) v) u := by
  have I0 := I
  obtain ⟨T, pa, ha, hT, n, S, len, pc, z, c, al, dp, sp, re, ta, ed, rx, ov, sb, sl, cl, yb, ya, yl, w, cv, si, ops, oa, ob, ve, rg, me, st, an, so, li, P, rfl, rfl, h1, h2, h3, h4, hW⟩ := I
  exact ⟨rfl, I0⟩
