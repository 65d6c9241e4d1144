section CONTR
variable {ax ao am : Nat} {ad : Nat → Nat → Nat} {n e pO fO q tm : Nat → Nat} {tx : Nat → List (Int32 × List Int32)} {w : Nat} {pn : Nat → Nat} {nw : Nat → Nat → Nat} {fs : Nat → Nat} {ls : Nat → Option Nat} {rs rl pr : Nat → Nat} {tl : Nat} {hx hm : HS}
theorem nI_ne_m1 {z : Nat} (hz : z < 2 ^ 31) : ¬ nI z = -1 := fun h => by
  have h2 := congrArg Int32.toInt h
  rw [nI_toInt hz] at h2
  have h3 : (-1 : Int32).toInt = -1 := by decide
  rw [h3] at h2
  omega
theorem wk1_cancel {w f u : Nat} (hu : u ≤ w) : wk1 f (some (w + 4)) u = wk1 f none u := by
  unfold wk1
  have : rn f (some (w + 4)) u ↔ rn f none u := ⟨fun h => ⟨h.1, fun z hz => by cases hz⟩, fun h => ⟨h.1, fun z hz => by cases hz; omega⟩⟩
  by_cases hr : rn f none u
  · rw [if_pos hr, if_pos (this.mpr hr)]
  · rw [if_neg hr, if_neg (fun z => hr (this.mp z))]
theorem op_cancel (a : Int32) : StI (PP ax am ao) (m_X8_cancel ax a) (m_X9_cancel am a) := by
  rintro hx hm ⟨ad, n, e, pO, fO, q, tm, tx, w, pn, nw, fs, ls, rs, rl, pr, tl, hS, hM, hN, hF, hP, hC, hB, hT, hX, hW⟩
  have hka := kax hS
  have hkm : kd hm am = 11 := hM.1
  have hn := n_le hS
  have hI := hS.2.1
  have hq : ∀ k k', q k = q k' → k = k' := hM.2.2
  have hw : w ≤ 200 := hN.1
  have f909 : fi hx 909 ax = nI w := by
    have h1 := hN.2.1
    rw [← cf_at (g := 909) (n := n) (t := 9) (by decide) (by rw [hS.1.2.2.2.2.2.1]; decide), hS.2.2.2.2.1.1] at h1
    exact h1
  have i24 : fi hm 1024 am = nI w := hN.2.2.1
  have h25 : mf am hm 25 = nI (n 2) := hN.2.2.2.1
  have h34 : mf am hm 34 = nI (n 3) := hN.2.2.2.2.1
  have h39 : mf am hm 39 = nI (n 1) := hN.2.2.2.2.2.1
  have r43 : fr hm 1043 am = some (q 43) := (hM.2.1 (43, 201, 60) (by decide)).1
  have k43 : kd hm (q 43) = 201 := (hM.2.1 (43, 201, 60) (by decide)).2.1
  have l43 : ln hm (q 43) = 60 := (hM.2.1 (43, 201, 60) (by decide)).2.2
  rcases idx a (n 1) (by omega) with ⟨j, hj, rfl⟩ | ho
  · have kj : kd hx (ad 1 j) = 2 := k0 hS hj
    have cl : (nI j).toNatClampNeg = j := nI_cl hj (by omega)
    have ib : inB (nI j) 60 = true := inB_nI (by omega) (by omega)
    have e1 := e_isContract_in (hm := sFi (wz hm (sz hx)) 1000 am 0) hkm h39 (by omega) hj
    obtain ⟨⟨c1, c2, c3, c4, c5, c6, c7, c8, c9⟩, -⟩ := hC.1 j hj
    have f103 : fi hx 103 (ad 1 j) = lsI (ls j) := by
      rw [cf_at (g := 103) (n := n) (t := 1) (by decide) hj]; exact c7
    have m43 : ai hm (q 43) j = lsI (ls j) := c8
    cases hl : ls j with
    | some z =>
      rw [hl] at f103 m43
      have hz := (c9 z hl).1
      have e5 : ¬ nI z = -1 := nI_ne_m1 (by omega)
      refine ⟨-1, hx, sFi (wz hm (sz hx)) 1000 am 0, ?_, ?_, rfl, ad, n, e, pO, fO, q, tm, tx, w, pn, nw, fs, ls, rs, rl, pr, tl, hS, hM, hN, hF, hP, hC, hB, hT, hX, hW⟩
      · simp only [m_X8_cancel, hka, e_contractAt_in hS hj, aN, kA201, kA202, kA203, kA206, kA306, i1n0, i0n1, i0e0, i1e1, gI, gR, pI, pB, pR, xI, xL, yI, yL, vc, kd_sFi, fr_sFi, ln_sFi, ai_sFi, al_sFi, ar_sFi, cs_sFi, sz_sFi, sz_sAi, kd_sAi, fi_sAi, fr_sAi, ln_sAi, al_sAi, ar_sAi, cs_sAi, kd_wz, fi_wz, fr_wz, ln_wz, ai_wz, al_wz, ar_wz, Option.bind_some, if_true, if_false, Nat.reduceAdd, Nat.reduceMul, reduceIte, and_self, true_and, and_true, reduceCtorEq, kj, f103, lsI, e5]
      · simp only [m_X9_cancel, aN, kA201, kA202, kA203, kA206, kA306, i1n0, i0n1, i0e0, i1e1, gI, gR, pI, pB, pR, xI, xL, yI, yL, vc, kd_sFi, fr_sFi, ln_sFi, ai_sFi, al_sFi, ar_sFi, cs_sFi, sz_sFi, sz_sAi, kd_sAi, fi_sAi, fr_sAi, ln_sAi, al_sAi, ar_sAi, cs_sAi, kd_wz, fi_wz, fr_wz, ln_wz, ai_wz, al_wz, ar_wz, Option.bind_some, if_true, if_false, Nat.reduceAdd, Nat.reduceMul, reduceIte, and_self, true_and, and_true, hkm, e1, r43, k43, l43, ib, cl, m43, lsI, e5]
    | none =>
      rw [hl] at f103 m43
      have e6 : nI w + 4 = nI (w + 4) := nI_add w 4
      refine ⟨nI (w + 4), sFi hx 103 (ad 1 j) (nI (w + 4)), sAi (sFi (wz hm (sz hx)) 1000 am 0) (q 43) j (nI (w + 4)), ?_, ?_, rfl, ad, n, e, pO, fO, q, tm, tx, w, pn, nw, fs, va_up ls j (some (w + 4)), rs, rl, pr, tl, ?_⟩
      · simp only [m_X8_cancel, hka, e_contractAt_in hS hj, aN, kA201, kA202, kA203, kA206, kA306, i1n0, i0n1, i0e0, i1e1, gI, gR, pI, pB, pR, xI, xL, yI, yL, vc, kd_sFi, fr_sFi, ln_sFi, ai_sFi, al_sFi, ar_sFi, cs_sFi, sz_sFi, sz_sAi, kd_sAi, fi_sAi, fr_sAi, ln_sAi, al_sAi, ar_sAi, cs_sAi, kd_wz, fi_wz, fr_wz, ln_wz, ai_wz, al_wz, ar_wz, Option.bind_some, if_true, if_false, Nat.reduceAdd, Nat.reduceMul, reduceIte, and_self, true_and, and_true, reduceCtorEq, kj, f103, lsI, f909, fi_sFi, up2_same, e6]
      · have i24' : fi (sFi (wz hm (sz hx)) 1000 am 0) 1024 am = nI w := i24
        simp only [m_X9_cancel, aN, kA201, kA202, kA203, kA206, kA306, i1n0, i0n1, i0e0, i1e1, gI, gR, pI, pB, pR, xI, xL, yI, yL, vc, kd_sFi, fr_sFi, ln_sFi, ai_sFi, al_sFi, ar_sFi, cs_sFi, sz_sFi, sz_sAi, kd_sAi, fi_sAi, fr_sAi, ln_sAi, al_sAi, ar_sAi, cs_sAi, kd_wz, fi_wz, fr_wz, ln_wz, ai_wz, al_wz, ar_wz, Option.bind_some, if_true, if_false, Nat.reduceAdd, Nat.reduceMul, reduceIte, and_self, true_and, and_true, hkm, e1, r43, k43, l43, ib, cl, m43, lsI, i24', nar_i32, e6, ai_sAi, up2_same]
      · have ec := cf_sFi (h := hx) (g := 103) (x := nI (w + 4)) hI (t := 1) (by decide) hj
        have em : mv q (sAi (sFi (wz hm (sz hx)) 1000 am 0) (q 43) j (nI (w + 4))) = up2 (mv q hm) 43 j (nI (w + 4)) := mv_sAi hq
        unfold PQ
        rw [ec, em]
        refine ⟨SXA_sFi (by decide) (by decide) hS, hM, hN, hF, hP, ⟨fun c hc => ?_, hC.2⟩, ⟨fun m hmw => ?_, hB.2⟩, hT, hX, hW⟩
        · obtain ⟨⟨d1, d2, d3, d4, d5, d6, d7, d8, d9⟩, g1, ⟨g2, g3, g4, g5, g6, g7, g8, g9⟩, g10⟩ := hC.1 c hc
          rw [up2_va, up2_va]
          by_cases hcj : c = j
          · subst hcj
            simp only [va_up_same]
            refine ⟨⟨d1, d2, d3, d4, d5, d6, rfl, rfl, fun z hz => ?_⟩, g1, ⟨g2, g3, g4, g5, g6, g7, g8, fun k k1 k2 => ?_⟩, g10⟩
            · cases hz; omega
            · rw [← g9 k k1 k2, hl]
              have hu := ((hF.1 (fO c) (crf hS hc).2.2.2.2.2).2.2.2.2.2.2.2.2.2.2.2.2.1 k k1 k2).2.2
              exact ⟨fun h => ⟨h.1, fun z hz => by cases hz⟩, fun h => ⟨h.1, fun z hz => by cases hz; omega⟩⟩
          · simp only [va_upN _ _ hcj]
            exact ⟨⟨d1, d2, d3, d4, d5, d6, d7, d8, d9⟩, g1, ⟨g2, g3, g4, g5, g6, g7, g8, g9⟩, g10⟩
        · obtain ⟨b1, b2, b3, b4⟩ := hB.1 m hmw
          refine ⟨b1, b2, b3, fun c hc => ?_⟩
          have h9 := b4 c hc
          by_cases hcj : c = j
          · subst hcj
            rw [va_up_same]
            have : wkN (fs c) (some (w + 4)) m = wkN (fs c) (ls c) m := by
              rw [hl]
              unfold wkN
              rw [wk1_cancel (by omega), wk1_cancel (by omega), wk1_cancel (by omega), wk1_cancel (by omega)]
            rw [this]
            exact h9
          · rw [va_upN _ _ hcj]
            exact h9
  · refine ⟨-1, hx, sFi (wz hm (sz hx)) 1000 am 0, ?_, ?_, rfl, ad, n, e, pO, fO, q, tm, tx, w, pn, nw, fs, ls, rs, rl, pr, tl, hS, hM, hN, hF, hP, hC, hB, hT, hX, hW⟩
    · simp only [m_X8_cancel, hka, e_contractAt_out hS ho, aN, kA201, kA202, kA203, kA206, kA306, i1n0, i0n1, i0e0, i1e1, gI, gR, pI, pB, pR, xI, xL, yI, yL, vc, kd_sFi, fr_sFi, ln_sFi, ai_sFi, al_sFi, ar_sFi, cs_sFi, sz_sFi, sz_sAi, kd_sAi, fi_sAi, fr_sAi, ln_sAi, al_sAi, ar_sAi, cs_sAi, kd_wz, fi_wz, fr_wz, ln_wz, ai_wz, al_wz, ar_wz, Option.bind_some, if_true, if_false, Nat.reduceAdd, Nat.reduceMul, reduceIte, and_self, true_and, and_true]
    · have := e_isContract_out (hm := sFi (wz hm (sz hx)) 1000 am 0) hkm h39 ho
      simp only [m_X9_cancel, aN, kA201, kA202, kA203, kA206, kA306, i1n0, i0n1, i0e0, i1e1, gI, gR, pI, pB, pR, xI, xL, yI, yL, vc, kd_sFi, fr_sFi, ln_sFi, ai_sFi, al_sFi, ar_sFi, cs_sFi, sz_sFi, sz_sAi, kd_sAi, fi_sAi, fr_sAi, ln_sAi, al_sAi, ar_sAi, cs_sAi, kd_wz, fi_wz, fr_wz, ln_wz, ai_wz, al_wz, ar_wz, Option.bind_some, if_true, if_false, Nat.reduceAdd, Nat.reduceMul, reduceIte, and_self, true_and, and_true, hkm, this]
theorem op_miss (a : Int32) : StI (PP ax am ao) (m_X8_miss ax a) (m_X9_miss am a) := by
  rintro hx hm ⟨ad, n, e, pO, fO, q, tm, tx, w, pn, nw, fs, ls, rs, rl, pr, tl, hS, hM, hN, hF, hP, hC, hB, hT, hX, hW⟩
  have hka := kax hS
  have hkm : kd hm am = 11 := hM.1
  have hn := n_le hS
  have hI := hS.2.1
  have hq : ∀ k k', q k = q k' → k = k' := hM.2.2
  have hw : w ≤ 200 := hN.1
  have f909 : fi hx 909 ax = nI w := by
    have h1 := hN.2.1
    rw [← cf_at (g := 909) (n := n) (t := 9) (by decide) (by rw [hS.1.2.2.2.2.2.1]; decide), hS.2.2.2.2.1.1] at h1
    exact h1
  have i24 : fi hm 1024 am = nI w := hN.2.2.1
  have h25 : mf am hm 25 = nI (n 2) := hN.2.2.2.1
  have h34 : mf am hm 34 = nI (n 3) := hN.2.2.2.2.1
  have h39 : mf am hm 39 = nI (n 1) := hN.2.2.2.2.2.1
  have r46 : fr hm 1046 am = some (q 46) := (hM.2.1 (46, 202, 60) (by decide)).1
  have k46 : kd hm (q 46) = 202 := (hM.2.1 (46, 202, 60) (by decide)).2.1
  have l46 : ln hm (q 46) = 60 := (hM.2.1 (46, 202, 60) (by decide)).2.2
  rcases idx a (n 1) (by omega) with ⟨j, hj, rfl⟩ | ho
  · have kj : kd hx (ad 1 j) = 2 := k0 hS hj
    have cl : (nI j).toNatClampNeg = j := nI_cl hj (by omega)
    have ib : inB (nI j) 60 = true := inB_nI (by omega) (by omega)
    have e1 := e_isContract_in (hm := sFi (wz hm (sz hx)) 1000 am 0) hkm h39 (by omega) hj
    obtain ⟨-, ⟨-, c2⟩, -⟩ := hC.1 j hj
    have f104 : fi hx 104 (ad 1 j) = cf ad n hx 104 j := cf_at (g := 104) (n := n) (t := 1) (by decide) hj
    have m46 : ai hm (q 46) j = _ := c2
    have e6 : nI w + 1 = nI (w + 1) := nI_add w 1
    by_cases hc : cf ad n hx 104 j = nI (w + 1)
    · rw [if_pos hc] at m46
      refine ⟨0, hx, sFi (wz hm (sz hx)) 1000 am 0, ?_, ?_, rfl, ad, n, e, pO, fO, q, tm, tx, w, pn, nw, fs, ls, rs, rl, pr, tl, hS, hM, hN, hF, hP, hC, hB, hT, hX, hW⟩
      · simp only [m_X8_miss, hka, e_contractAt_in hS hj, aN, kA201, kA202, kA203, kA206, kA306, i1n0, i0n1, i0e0, i1e1, gI, gR, pI, pB, pR, xI, xL, yI, yL, vc, kd_sFi, fr_sFi, ln_sFi, ai_sFi, al_sFi, ar_sFi, cs_sFi, sz_sFi, sz_sAi, kd_sAi, fi_sAi, fr_sAi, ln_sAi, al_sAi, ar_sAi, cs_sAi, kd_wz, fi_wz, fr_wz, ln_wz, ai_wz, al_wz, ar_wz, Option.bind_some, if_true, if_false, Nat.reduceAdd, Nat.reduceMul, reduceIte, and_self, true_and, and_true, reduceCtorEq, kj, f104, f909, e6, hc]
      · simp only [m_X9_miss, aN, kA201, kA202, kA203, kA206, kA306, i1n0, i0n1, i0e0, i1e1, gI, gR, pI, pB, pR, xI, xL, yI, yL, vc, kd_sFi, fr_sFi, ln_sFi, ai_sFi, al_sFi, ar_sFi, cs_sFi, sz_sFi, sz_sAi, kd_sAi, fi_sAi, fr_sAi, ln_sAi, al_sAi, ar_sAi, cs_sAi, kd_wz, fi_wz, fr_wz, ln_wz, ai_wz, al_wz, ar_wz, Option.bind_some, if_true, if_false, Nat.reduceAdd, Nat.reduceMul, reduceIte, and_self, true_and, and_true, hkm, e1, r46, k46, l46, ib, cl, m46]
    · rw [if_neg hc] at m46
      refine ⟨1, sFi hx 104 (ad 1 j) (nI (w + 1)), sAi (sFi (wz hm (sz hx)) 1000 am 0) (q 46) j 1, ?_, ?_, rfl, ad, n, e, pO, fO, q, tm, tx, w, pn, nw, fs, ls, rs, rl, pr, tl, ?_⟩
      · simp only [m_X8_miss, hka, e_contractAt_in hS hj, aN, kA201, kA202, kA203, kA206, kA306, i1n0, i0n1, i0e0, i1e1, gI, gR, pI, pB, pR, xI, xL, yI, yL, vc, kd_sFi, fr_sFi, ln_sFi, ai_sFi, al_sFi, ar_sFi, cs_sFi, sz_sFi, sz_sAi, kd_sAi, fi_sAi, fr_sAi, ln_sAi, al_sAi, ar_sAi, cs_sAi, kd_wz, fi_wz, fr_wz, ln_wz, ai_wz, al_wz, ar_wz, Option.bind_some, if_true, if_false, Nat.reduceAdd, Nat.reduceMul, reduceIte, and_self, true_and, and_true, reduceCtorEq, kj, f104, f909, e6, hc]
      · simp only [m_X9_miss, aN, kA201, kA202, kA203, kA206, kA306, i1n0, i0n1, i0e0, i1e1, gI, gR, pI, pB, pR, xI, xL, yI, yL, vc, kd_sFi, fr_sFi, ln_sFi, ai_sFi, al_sFi, ar_sFi, cs_sFi, sz_sFi, sz_sAi, kd_sAi, fi_sAi, fr_sAi, ln_sAi, al_sAi, ar_sAi, cs_sAi, kd_wz, fi_wz, fr_wz, ln_wz, ai_wz, al_wz, ar_wz, Option.bind_some, if_true, if_false, Nat.reduceAdd, Nat.reduceMul, reduceIte, and_self, true_and, and_true, hkm, e1, r46, k46, l46, ib, cl, m46, nar_z (Or.inr rfl)]
      · have ec := cf_sFi (h := hx) (g := 104) (x := nI (w + 1)) hI (t := 1) (by decide) hj
        have em : mv q (sAi (sFi (wz hm (sz hx)) 1000 am 0) (q 46) j 1) = up2 (mv q hm) 46 j 1 := mv_sAi hq
        unfold PQ
        rw [ec, em]
        refine ⟨SXA_sFi (by decide) (by decide) hS, hM, hN, hF, hP, ⟨fun c hc => ?_, fun c h1 h2 => ?_⟩, hB, hT, hX, hW⟩
        · obtain ⟨g0, ⟨g1, g2⟩, g3⟩ := hC.1 c hc
          refine ⟨g0, ?_, g3⟩
          rw [up2_va, up2_va]
          by_cases hcj : c = j
          · subst hcj
            simp only [va_up_same]
            exact ⟨⟨w + 1, by omega, rfl⟩, rfl⟩
          · simp only [va_upN _ _ hcj]
            exact ⟨g1, g2⟩
        · obtain ⟨g1, g2, g3⟩ := hC.2 c h1 h2
          refine ⟨g1, ?_, g3⟩
          rw [up2_va, va_upN _ _ (by omega)]
          exact g2
  · refine ⟨0, hx, sFi (wz hm (sz hx)) 1000 am 0, ?_, ?_, rfl, ad, n, e, pO, fO, q, tm, tx, w, pn, nw, fs, ls, rs, rl, pr, tl, hS, hM, hN, hF, hP, hC, hB, hT, hX, hW⟩
    · simp only [m_X8_miss, hka, e_contractAt_out hS ho, aN, kA201, kA202, kA203, kA206, kA306, i1n0, i0n1, i0e0, i1e1, gI, gR, pI, pB, pR, xI, xL, yI, yL, vc, kd_sFi, fr_sFi, ln_sFi, ai_sFi, al_sFi, ar_sFi, cs_sFi, sz_sFi, sz_sAi, kd_sAi, fi_sAi, fr_sAi, ln_sAi, al_sAi, ar_sAi, cs_sAi, kd_wz, fi_wz, fr_wz, ln_wz, ai_wz, al_wz, ar_wz, Option.bind_some, if_true, if_false, Nat.reduceAdd, Nat.reduceMul, reduceIte, and_self, true_and, and_true]
    · have := e_isContract_out (hm := sFi (wz hm (sz hx)) 1000 am 0) hkm h39 ho
      simp only [m_X9_miss, aN, kA201, kA202, kA203, kA206, kA306, i1n0, i0n1, i0e0, i1e1, gI, gR, pI, pB, pR, xI, xL, yI, yL, vc, kd_sFi, fr_sFi, ln_sFi, ai_sFi, al_sFi, ar_sFi, cs_sFi, sz_sFi, sz_sAi, kd_sAi, fi_sAi, fr_sAi, ln_sAi, al_sAi, ar_sAi, cs_sAi, kd_wz, fi_wz, fr_wz, ln_wz, ai_wz, al_wz, ar_wz, Option.bind_some, if_true, if_false, Nat.reduceAdd, Nat.reduceMul, reduceIte, and_self, true_and, and_true, hkm, this]
end CONTR
