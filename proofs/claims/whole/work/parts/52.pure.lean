section LOOK2
variable {ax ao am : Nat} {ad : Nat → Nat → Nat} {n e pO fO q tm : Nat → Nat} {tx : Nat → List (Int32 × List Int32)} {w : Nat} {pn : Nat → Nat} {nw : Nat → Nat → Nat} {fs : Nat → Nat} {ls : Nat → Option Nat} {rs rl pr : Nat → Nat} {tl : Nat} {hx hm : HS}
theorem op_look (a b : Int32) : StW (PP ax am ao) am ao (m_L_look (some ax) a b (some ao)) (m_X9_look am a b) := by
  rintro hx hm ⟨ad, n, e, pO, fO, q, tm, tx, w, pn, nw, fs, ls, rs, rl, pr, tl, hS, hM, hN, hF, hP, hC, hB, hT, hX, hW⟩
  have hka := kax hS
  have hkm : kd hm am = 11 := hM.1
  have hn := n_le hS
  have hI := hS.2.1
  have hq : ∀ k k', q k = q k' → k = k' := hM.2.2
  have hw : w ≤ 200 := hN.1
  have f909 : fi hx 909 ax = nI w := by
    have h1 := hN.2.1
    rw [← cf_at (g := 909) (n := n) (t := 9) (by decide) (by rw [hS.1.2.2.2.2.2.1]; decide), hS.2.2.2.2.1.1] at h1
    exact h1
  have i24 : fi hm 1024 am = nI w := hN.2.2.1
  have h25 : mf am hm 25 = nI (n 2) := hN.2.2.2.1
  have h34 : mf am hm 34 = nI (n 3) := hN.2.2.2.2.1
  have h39 : mf am hm 39 = nI (n 1) := hN.2.2.2.2.2.1
  have r40 : fr hm 1040 am = some (q 40) := (hM.2.1 (40, 201, 60) (by decide)).1
  have k40 : kd hm (q 40) = 201 := (hM.2.1 (40, 201, 60) (by decide)).2.1
  have l40 : ln hm (q 40) = 60 := (hM.2.1 (40, 201, 60) (by decide)).2.2
  have r41 : fr hm 1041 am = some (q 41) := (hM.2.1 (41, 201, 60) (by decide)).1
  have k41 : kd hm (q 41) = 201 := (hM.2.1 (41, 201, 60) (by decide)).2.1
  have l41 : ln hm (q 41) = 60 := (hM.2.1 (41, 201, 60) (by decide)).2.2
  have r42 : fr hm 1042 am = some (q 42) := (hM.2.1 (42, 201, 60) (by decide)).1
  have k42 : kd hm (q 42) = 201 := (hM.2.1 (42, 201, 60) (by decide)).2.1
  have l42 : ln hm (q 42) = 60 := (hM.2.1 (42, 201, 60) (by decide)).2.2
  have r43 : fr hm 1043 am = some (q 43) := (hM.2.1 (43, 201, 60) (by decide)).1
  have k43 : kd hm (q 43) = 201 := (hM.2.1 (43, 201, 60) (by decide)).2.1
  have l43 : ln hm (q 43) = 60 := (hM.2.1 (43, 201, 60) (by decide)).2.2
  have r44 : fr hm 1044 am = some (q 44) := (hM.2.1 (44, 201, 60) (by decide)).1
  have k44 : kd hm (q 44) = 201 := (hM.2.1 (44, 201, 60) (by decide)).2.1
  have l44 : ln hm (q 44) = 60 := (hM.2.1 (44, 201, 60) (by decide)).2.2
  have r45 : fr hm 1045 am = some (q 45) := (hM.2.1 (45, 201, 60) (by decide)).1
  have k45 : kd hm (q 45) = 201 := (hM.2.1 (45, 201, 60) (by decide)).2.1
  have l45 : ln hm (q 45) = 60 := (hM.2.1 (45, 201, 60) (by decide)).2.2
  have r50 : fr hm 1050 am = some (q 50) := (hM.2.1 (50, 201, 60) (by decide)).1
  have k50 : kd hm (q 50) = 201 := (hM.2.1 (50, 201, 60) (by decide)).2.1
  have l50 : ln hm (q 50) = 60 := (hM.2.1 (50, 201, 60) (by decide)).2.2
  obtain ⟨kao, lao⟩ := kout hS
  have ib0 : inB 0 1 = true := by decide
  have fin : ∀ v, m_X8_look ax a b hx = some (some v, hx) → (∀ k, m_X9_look am a b (wz hm k) = some (v, sFi (wz hm k) 1000 am 0)) → ∃ k hx', m_L_look (some ax) a b (some ao) hx = some (k, hx') ∧ ∀ m, sz hx' ≤ m → ∃ v hm', m_X9_look am a b (wz hm m) = some (v, hm') ∧ sz hm' = m ∧ m_X9_thrown am hm' = some (k, hm') ∧ (k = 0 → al hx' ao 0 = v.toInt64) ∧ PP ax am ao (wz hx' m) hm' := by
    intro v h1 h2
    refine ⟨0, sAl hx ao 0 v.toInt64, ?_, fun m hm => ⟨v, _, h2 m, rfl, ?_, fun _ => up2_same _ _ _ _, ad, n, e, pO, fO, q, tm, tx, w, pn, nw, fs, ls, rs, rl, pr, tl, SXA_wz hm (show SXA ax ao ad n e pO fO (sAl hx ao 0 v.toInt64) from hS), hM, hN, hF, hP, hC, hB, hT, hX, hW⟩⟩
    · simp only [m_L_look, hka, h1, aN, kA201, kA202, kA203, kA206, kA306, i1n0, i0n1, i0e0, i1e1, gI, gR, pI, pB, pR, xI, xL, yI, yL, vc, kd_sFi, fr_sFi, ln_sFi, ai_sFi, al_sFi, ar_sFi, cs_sFi, sz_sFi, sz_sAi, kd_sAi, fi_sAi, fr_sAi, ln_sAi, al_sAi, ar_sAi, cs_sAi, kd_wz, fi_wz, fr_wz, ln_wz, ai_wz, al_wz, ar_wz, Option.bind_some, if_true, if_false, Nat.reduceAdd, Nat.reduceMul, reduceIte, and_self, true_and, and_true, oM, kao, lao, ib0]
      rfl
    · have e2 : fi (sFi (wz ‹HS› m) 1000 am 0) 1000 am = 0 := up2_same _ _ _ _
      simp only [m_X9_thrown, aN, kA201, kA202, kA203, kA206, kA306, i1n0, i0n1, i0e0, i1e1, gI, gR, pI, pB, pR, xI, xL, yI, yL, vc, kd_sFi, fr_sFi, ln_sFi, ai_sFi, al_sFi, ar_sFi, cs_sFi, sz_sFi, sz_sAi, kd_sAi, fi_sAi, fr_sAi, ln_sAi, al_sAi, ar_sAi, cs_sAi, kd_wz, fi_wz, fr_wz, ln_wz, ai_wz, al_wz, ar_wz, Option.bind_some, if_true, if_false, Nat.reduceAdd, Nat.reduceMul, reduceIte, and_self, true_and, and_true, hkm, e2]
  have finN : m_X8_look ax a b hx = some (none, hx) → (∀ k, m_X9_look am a b (wz hm k) = some (0, sFi (wz hm k) 1000 am 1)) → ∃ k hx', m_L_look (some ax) a b (some ao) hx = some (k, hx') ∧ ∀ m, sz hx' ≤ m → ∃ v hm', m_X9_look am a b (wz hm m) = some (v, hm') ∧ sz hm' = m ∧ m_X9_thrown am hm' = some (k, hm') ∧ (k = 0 → al hx' ao 0 = v.toInt64) ∧ PP ax am ao (wz hx' m) hm' := by
    intro h1 h2
    refine ⟨1, hx, ?_, fun m hm => ⟨0, _, h2 m, rfl, ?_, fun h => absurd h (by decide), ad, n, e, pO, fO, q, tm, tx, w, pn, nw, fs, ls, rs, rl, pr, tl, SXA_wz hm hS, hM, hN, hF, hP, hC, hB, hT, hX, hW⟩⟩
    · simp only [m_L_look, hka, h1, aN, kA201, kA202, kA203, kA206, kA306, i1n0, i0n1, i0e0, i1e1, gI, gR, pI, pB, pR, xI, xL, yI, yL, vc, kd_sFi, fr_sFi, ln_sFi, ai_sFi, al_sFi, ar_sFi, cs_sFi, sz_sFi, sz_sAi, kd_sAi, fi_sAi, fr_sAi, ln_sAi, al_sAi, ar_sAi, cs_sAi, kd_wz, fi_wz, fr_wz, ln_wz, ai_wz, al_wz, ar_wz, Option.bind_some, if_true, if_false, Nat.reduceAdd, Nat.reduceMul, reduceIte, and_self, true_and, and_true, oM]
    · have e2 : fi (sFi (wz ‹HS› m) 1000 am 1) 1000 am = 1 := up2_same _ _ _ _
      simp only [m_X9_thrown, aN, kA201, kA202, kA203, kA206, kA306, i1n0, i0n1, i0e0, i1e1, gI, gR, pI, pB, pR, xI, xL, yI, yL, vc, kd_sFi, fr_sFi, ln_sFi, ai_sFi, al_sFi, ar_sFi, cs_sFi, sz_sFi, sz_sAi, kd_sAi, fi_sAi, fr_sAi, ln_sAi, al_sAi, ar_sAi, cs_sAi, kd_wz, fi_wz, fr_wz, ln_wz, ai_wz, al_wz, ar_wz, Option.bind_some, if_true, if_false, Nat.reduceAdd, Nat.reduceMul, reduceIte, and_self, true_and, and_true, hkm, e2]
  have thr : ∀ k, X9_look_b23 am a b (some am) (wz hm k) = some (0, sFi (wz hm k) 1000 am 1) := by
    intro k
    have e2 : fi (sFi (wz hm k) 1000 am 1) 1000 am = 1 := up2_same _ _ _ _
    have e3 : ((1 : Int32) ≤ 0) = False := eq_false (by decide)
    simp only [X9_look_b23, X9_look_b24, aN, kA201, kA202, kA203, kA206, kA306, i1n0, i0n1, i0e0, i1e1, gI, gR, pI, pB, pR, xI, xL, yI, yL, vc, kd_sFi, fr_sFi, ln_sFi, ai_sFi, al_sFi, ar_sFi, cs_sFi, sz_sFi, sz_sAi, kd_sAi, fi_sAi, fr_sAi, ln_sAi, al_sAi, ar_sAi, cs_sAi, kd_wz, fi_wz, fr_wz, ln_wz, ai_wz, al_wz, ar_wz, Option.bind_some, if_true, if_false, Nat.reduceAdd, Nat.reduceMul, reduceIte, and_self, true_and, and_true, hkm, e2, e3]
  rcases idx a (n 1) (by omega) with ⟨c, hc, rfl⟩ | ho
  · have hRM := RnM_of hS hw hF hC hc
    have hcr := crf hS hc
    have e1 : ∀ k, m_X9_isContract am (nI c) (wz hm k) = some (1, wz hm k) := fun k => e_isContract_in (hm := wz hm k) hkm h39 (by omega) hc
    obtain ⟨kj, -⟩ := kthere hS hc
    have kp : kd hx (ad 3 (pO c)) = 4 := k0 hS hcr.2.2.2.2.1
    have kf : kd hx (ad 2 (fO c)) = 3 := k0 hS hcr.2.2.2.2.2
    have r100 := hcr.2.2.1
    have r101 := hcr.2.2.2.1
    obtain ⟨⟨d1, d2, d3, d4, d5, d6, d7, d8, d9⟩, -, ⟨g2, g3, g4, g5, g6, g7, g8, g9⟩, ⟨t1, t2, t3⟩, -, g10⟩ := hC.1 c hc
    have hpn := hRM.2.2.1
    have hrl : rl c ≤ 200 := by
      by_cases h0 : rl c = 0
      · omega
      · have := g8 (by omega)
        omega
    have cl : (nI c).toNatClampNeg = c := nI_cl hc (by omega)
    have ib : inB (nI c) 60 = true := inB_nI (by omega) (by omega)
    have f300 : fi hx 300 (ad 3 (pO c)) = nI (pO c) := by rw [cf_at (g := 300) (n := n) (t := 3) (by decide) hcr.2.2.2.2.1]; exact (hP _ hcr.2.2.2.2.1).1
    have f200 : fi hx 200 (ad 2 (fO c)) = nI (fO c) := by rw [cf_at (g := 200) (n := n) (t := 2) (by decide) hcr.2.2.2.2.2]; exact (hF.1 _ hcr.2.2.2.2.2).1
    have f102 : fi hx 102 (ad 1 c) = nI (fs c) := by rw [cf_at (g := 102) (n := n) (t := 1) (by decide) hc]; exact d3
    have f103 : fi hx 103 (ad 1 c) = lsI (ls c) := by rw [cf_at (g := 103) (n := n) (t := 1) (by decide) hc]; exact d7
    have f105 : fi hx 105 (ad 1 c) = if rl c = 0 then -1 else nI (rs c) := by rw [cf_at (g := 105) (n := n) (t := 1) (by decide) hc]; exact g6
    have f106 : fi hx 106 (ad 1 c) = nI (rl c) := by rw [cf_at (g := 106) (n := n) (t := 1) (by decide) hc]; exact g2
    have f107 : fi hx 107 (ad 1 c) = nI (pr c) := by rw [cf_at (g := 107) (n := n) (t := 1) (by decide) hc]; exact g3
    have f108 : fi hx 108 (ad 1 c) = mv q hm 50 c := by rw [cf_at (g := 108) (n := n) (t := 1) (by decide) hc]; exact g10
    have m40 : ai hm (q 40) c = nI (pO c) := d1
    have m41 : ai hm (q 41) c = nI (fO c) := d2
    have m42 : ai hm (q 42) c = nI (fs c) := d4
    have m43 : ai hm (q 43) c = lsI (ls c) := d8
    have m44 : ai hm (q 44) c = _ := g7
    have m45 : ai hm (q 45) c = nI (pr c) := g4
    have m50 : ai hm (q 50) c = mv q hm 50 c := rfl
    have e2 : ∀ k, fi (sFi (wz hm k) 1000 am 0) 1000 am = 0 := fun k => up2_same _ _ _ _
    have e3 : ((0 : Int32) ≤ 0) = True := eq_true (by decide)
    have i24' : ∀ k, fi (sFi (wz hm k) 1000 am 0) 1024 am = nI w := fun k => i24
    have e6 : nI w + 1 = nI (w + 1) := nI_add w 1
    by_cases b0 : b = 0
    · subst b0
      have z0 : ¬ (0 : Int32) < 0 := by decide
      have z9 : ¬ (9 : Int32) < 0 := by decide
      refine fin (nI (pO c)) ?_ (fun k => ?_)
      · simp only [m_X8_look, aN, kA201, kA202, kA203, kA206, kA306, i1n0, i0n1, i0e0, i1e1, gI, gR, pI, pB, pR, xI, xL, yI, yL, vc, kd_sFi, fr_sFi, ln_sFi, ai_sFi, al_sFi, ar_sFi, cs_sFi, sz_sFi, sz_sAi, kd_sAi, fi_sAi, fr_sAi, ln_sAi, al_sAi, ar_sAi, cs_sAi, kd_wz, fi_wz, fr_wz, ln_wz, ai_wz, al_wz, ar_wz, Option.bind_some, if_true, if_false, Nat.reduceAdd, Nat.reduceMul, reduceIte, and_self, true_and, and_true, hka, e_contractAt_in hS hc, reduceCtorEq, kj, r100, kp, f300]
      · simp only [m_X9_look, X9_look_b24, aN, kA201, kA202, kA203, kA206, kA306, i1n0, i0n1, i0e0, i1e1, gI, gR, pI, pB, pR, xI, xL, yI, yL, vc, kd_sFi, fr_sFi, ln_sFi, ai_sFi, al_sFi, ar_sFi, cs_sFi, sz_sFi, sz_sAi, kd_sAi, fi_sAi, fr_sAi, ln_sAi, al_sAi, ar_sAi, cs_sAi, kd_wz, fi_wz, fr_wz, ln_wz, ai_wz, al_wz, ar_wz, Option.bind_some, if_true, if_false, Nat.reduceAdd, Nat.reduceMul, reduceIte, and_self, true_and, and_true, hkm, e1, z0, z9, e2, e3, r40, k40, l40, cl, ib, m40]
    by_cases b1 : b = 1
    · subst b1
      have z0 : ¬ (1 : Int32) < 0 := by decide
      have z9 : ¬ (9 : Int32) < 1 := by decide
      refine fin (nI (fO c)) ?_ (fun k => ?_)
      · simp only [m_X8_look, aN, kA201, kA202, kA203, kA206, kA306, i1n0, i0n1, i0e0, i1e1, gI, gR, pI, pB, pR, xI, xL, yI, yL, vc, kd_sFi, fr_sFi, ln_sFi, ai_sFi, al_sFi, ar_sFi, cs_sFi, sz_sFi, sz_sAi, kd_sAi, fi_sAi, fr_sAi, ln_sAi, al_sAi, ar_sAi, cs_sAi, kd_wz, fi_wz, fr_wz, ln_wz, ai_wz, al_wz, ar_wz, Option.bind_some, if_true, if_false, Nat.reduceAdd, Nat.reduceMul, reduceIte, and_self, true_and, and_true, hka, e_contractAt_in hS hc, reduceCtorEq, kj, r101, kf, f200]
      · simp only [m_X9_look, X9_look_b24, aN, kA201, kA202, kA203, kA206, kA306, i1n0, i0n1, i0e0, i1e1, gI, gR, pI, pB, pR, xI, xL, yI, yL, vc, kd_sFi, fr_sFi, ln_sFi, ai_sFi, al_sFi, ar_sFi, cs_sFi, sz_sFi, sz_sAi, kd_sAi, fi_sAi, fr_sAi, ln_sAi, al_sAi, ar_sAi, cs_sAi, kd_wz, fi_wz, fr_wz, ln_wz, ai_wz, al_wz, ar_wz, Option.bind_some, if_true, if_false, Nat.reduceAdd, Nat.reduceMul, reduceIte, and_self, true_and, and_true, hkm, e1, z0, z9, e2, e3, r41, k41, l41, cl, ib, m41]
    by_cases b2 : b = 2
    · subst b2
      have z0 : ¬ (2 : Int32) < 0 := by decide
      have z9 : ¬ (9 : Int32) < 2 := by decide
      refine fin (nI (fs c)) ?_ (fun k => ?_)
      · simp only [m_X8_look, b0, b1, aN, kA201, kA202, kA203, kA206, kA306, i1n0, i0n1, i0e0, i1e1, gI, gR, pI, pB, pR, xI, xL, yI, yL, vc, kd_sFi, fr_sFi, ln_sFi, ai_sFi, al_sFi, ar_sFi, cs_sFi, sz_sFi, sz_sAi, kd_sAi, fi_sAi, fr_sAi, ln_sAi, al_sAi, ar_sAi, cs_sAi, kd_wz, fi_wz, fr_wz, ln_wz, ai_wz, al_wz, ar_wz, Option.bind_some, if_true, if_false, Nat.reduceAdd, Nat.reduceMul, reduceIte, and_self, true_and, and_true, hka, e_contractAt_in hS hc, reduceCtorEq, kj, f102]
      · simp only [m_X9_look, X9_look_b24, b0, b1, aN, kA201, kA202, kA203, kA206, kA306, i1n0, i0n1, i0e0, i1e1, gI, gR, pI, pB, pR, xI, xL, yI, yL, vc, kd_sFi, fr_sFi, ln_sFi, ai_sFi, al_sFi, ar_sFi, cs_sFi, sz_sFi, sz_sAi, kd_sAi, fi_sAi, fr_sAi, ln_sAi, al_sAi, ar_sAi, cs_sAi, kd_wz, fi_wz, fr_wz, ln_wz, ai_wz, al_wz, ar_wz, Option.bind_some, if_true, if_false, Nat.reduceAdd, Nat.reduceMul, reduceIte, and_self, true_and, and_true, hkm, e1, z0, z9, e2, e3, r42, k42, l42, cl, ib, m42]
    by_cases b3 : b = 3
    · subst b3
      have z0 : ¬ (3 : Int32) < 0 := by decide
      have z9 : ¬ (9 : Int32) < 3 := by decide
      refine fin (lsI (ls c)) ?_ (fun k => ?_)
      · simp only [m_X8_look, b0, b1, b2, aN, kA201, kA202, kA203, kA206, kA306, i1n0, i0n1, i0e0, i1e1, gI, gR, pI, pB, pR, xI, xL, yI, yL, vc, kd_sFi, fr_sFi, ln_sFi, ai_sFi, al_sFi, ar_sFi, cs_sFi, sz_sFi, sz_sAi, kd_sAi, fi_sAi, fr_sAi, ln_sAi, al_sAi, ar_sAi, cs_sAi, kd_wz, fi_wz, fr_wz, ln_wz, ai_wz, al_wz, ar_wz, Option.bind_some, if_true, if_false, Nat.reduceAdd, Nat.reduceMul, reduceIte, and_self, true_and, and_true, hka, e_contractAt_in hS hc, reduceCtorEq, kj, f103]
      · simp only [m_X9_look, X9_look_b24, b0, b1, b2, aN, kA201, kA202, kA203, kA206, kA306, i1n0, i0n1, i0e0, i1e1, gI, gR, pI, pB, pR, xI, xL, yI, yL, vc, kd_sFi, fr_sFi, ln_sFi, ai_sFi, al_sFi, ar_sFi, cs_sFi, sz_sFi, sz_sAi, kd_sAi, fi_sAi, fr_sAi, ln_sAi, al_sAi, ar_sAi, cs_sAi, kd_wz, fi_wz, fr_wz, ln_wz, ai_wz, al_wz, ar_wz, Option.bind_some, if_true, if_false, Nat.reduceAdd, Nat.reduceMul, reduceIte, and_self, true_and, and_true, hkm, e1, z0, z9, e2, e3, r43, k43, l43, cl, ib, m43]
    by_cases b4 : b = 4
    · subst b4
      have z0 : ¬ (4 : Int32) < 0 := by decide
      have z9 : ¬ (9 : Int32) < 4 := by decide
      refine fin (nI (wk1 (fs c) (ls c) (w + 1))) ?_ (fun k => ?_)
      · have e5 := e_runs hS hc (u := w + 1) (by omega) d3 d7 (by omega) (fun z hz => by have := d9 z hz; omega)
        rcases wk1_or (fs c) (w + 1) (ls c) with z | z
        · rw [z] at e5 ⊢
          simp only [m_X8_look, b0, b1, b2, b3, aN, kA201, kA202, kA203, kA206, kA306, i1n0, i0n1, i0e0, i1e1, gI, gR, pI, pB, pR, xI, xL, yI, yL, vc, kd_sFi, fr_sFi, ln_sFi, ai_sFi, al_sFi, ar_sFi, cs_sFi, sz_sFi, sz_sAi, kd_sAi, fi_sAi, fr_sAi, ln_sAi, al_sAi, ar_sAi, cs_sAi, kd_wz, fi_wz, fr_wz, ln_wz, ai_wz, al_wz, ar_wz, Option.bind_some, if_true, if_false, Nat.reduceAdd, Nat.reduceMul, reduceIte, and_self, true_and, and_true, hka, e_contractAt_in hS hc, reduceCtorEq, kj, f909, e6, e5, show (nI 0 = 0) = True from eq_true rfl]
          rfl
        · rw [z] at e5 ⊢
          simp only [m_X8_look, b0, b1, b2, b3, aN, kA201, kA202, kA203, kA206, kA306, i1n0, i0n1, i0e0, i1e1, gI, gR, pI, pB, pR, xI, xL, yI, yL, vc, kd_sFi, fr_sFi, ln_sFi, ai_sFi, al_sFi, ar_sFi, cs_sFi, sz_sFi, sz_sAi, kd_sAi, fi_sAi, fr_sAi, ln_sAi, al_sAi, ar_sAi, cs_sAi, kd_wz, fi_wz, fr_wz, ln_wz, ai_wz, al_wz, ar_wz, Option.bind_some, if_true, if_false, Nat.reduceAdd, Nat.reduceMul, reduceIte, and_self, true_and, and_true, hka, e_contractAt_in hS hc, reduceCtorEq, kj, f909, e6, e5, show (nI 1 = 0) = False from eq_false (by decide)]
          rfl
      · have e5 := e_runs9 (h := sFi (wz hm k) 1000 am 0) hM (c := c) (by omega) (u := w + 1) (by omega) d4 d8 (by omega) (fun z hz => by have := d9 z hz; omega)
        rcases wk1_or (fs c) (w + 1) (ls c) with z | z
        · rw [z] at e5 ⊢
          simp only [m_X9_look, X9_look_b24, b0, b1, b2, b3, aN, kA201, kA202, kA203, kA206, kA306, i1n0, i0n1, i0e0, i1e1, gI, gR, pI, pB, pR, xI, xL, yI, yL, vc, kd_sFi, fr_sFi, ln_sFi, ai_sFi, al_sFi, ar_sFi, cs_sFi, sz_sFi, sz_sAi, kd_sAi, fi_sAi, fr_sAi, ln_sAi, al_sAi, ar_sAi, cs_sAi, kd_wz, fi_wz, fr_wz, ln_wz, ai_wz, al_wz, ar_wz, Option.bind_some, if_true, if_false, Nat.reduceAdd, Nat.reduceMul, reduceIte, and_self, true_and, and_true, hkm, e1, z0, z9, e2, e3, i24', e6, e5, show (nI 0 = 0) = True from eq_true rfl]
          rfl
        · rw [z] at e5 ⊢
          simp only [m_X9_look, X9_look_b24, b0, b1, b2, b3, aN, kA201, kA202, kA203, kA206, kA306, i1n0, i0n1, i0e0, i1e1, gI, gR, pI, pB, pR, xI, xL, yI, yL, vc, kd_sFi, fr_sFi, ln_sFi, ai_sFi, al_sFi, ar_sFi, cs_sFi, sz_sFi, sz_sAi, kd_sAi, fi_sAi, fr_sAi, ln_sAi, al_sAi, ar_sAi, cs_sAi, kd_wz, fi_wz, fr_wz, ln_wz, ai_wz, al_wz, ar_wz, Option.bind_some, if_true, if_false, Nat.reduceAdd, Nat.reduceMul, reduceIte, and_self, true_and, and_true, hkm, e1, z0, z9, e2, e3, i24', e6, e5, show (nI 1 = 0) = False from eq_false (by decide)]
          rfl
    by_cases b5 : b = 5
    · subst b5
      have z0 : ¬ (5 : Int32) < 0 := by decide
      have z9 : ¬ (9 : Int32) < 5 := by decide
      refine fin (nI (pr c)) ?_ (fun k => ?_)
      · simp only [m_X8_look, b0, b1, b2, b3, b4, aN, kA201, kA202, kA203, kA206, kA306, i1n0, i0n1, i0e0, i1e1, gI, gR, pI, pB, pR, xI, xL, yI, yL, vc, kd_sFi, fr_sFi, ln_sFi, ai_sFi, al_sFi, ar_sFi, cs_sFi, sz_sFi, sz_sAi, kd_sAi, fi_sAi, fr_sAi, ln_sAi, al_sAi, ar_sAi, cs_sAi, kd_wz, fi_wz, fr_wz, ln_wz, ai_wz, al_wz, ar_wz, Option.bind_some, if_true, if_false, Nat.reduceAdd, Nat.reduceMul, reduceIte, and_self, true_and, and_true, hka, e_contractAt_in hS hc, reduceCtorEq, kj, f107]
      · simp only [m_X9_look, X9_look_b24, b0, b1, b2, b3, b4, aN, kA201, kA202, kA203, kA206, kA306, i1n0, i0n1, i0e0, i1e1, gI, gR, pI, pB, pR, xI, xL, yI, yL, vc, kd_sFi, fr_sFi, ln_sFi, ai_sFi, al_sFi, ar_sFi, cs_sFi, sz_sFi, sz_sAi, kd_sAi, fi_sAi, fr_sAi, ln_sAi, al_sAi, ar_sAi, cs_sAi, kd_wz, fi_wz, fr_wz, ln_wz, ai_wz, al_wz, ar_wz, Option.bind_some, if_true, if_false, Nat.reduceAdd, Nat.reduceMul, reduceIte, and_self, true_and, and_true, hkm, e1, z0, z9, e2, e3, r45, k45, l45, cl, ib, m45]
    by_cases b6 : b = 6
    · subst b6
      have z0 : ¬ (6 : Int32) < 0 := by decide
      have z9 : ¬ (9 : Int32) < 6 := by decide
      refine fin (if rl c = 0 then (-1 : Int32) else nI (rs c + pr c)) ?_ (fun k => ?_)
      · by_cases h0 : rl c = 0
        · simp only [m_X8_look, m_X0_nextPanel, b0, b1, b2, b3, b4, b5, aN, kA201, kA202, kA203, kA206, kA306, i1n0, i0n1, i0e0, i1e1, gI, gR, pI, pB, pR, xI, xL, yI, yL, vc, kd_sFi, fr_sFi, ln_sFi, ai_sFi, al_sFi, ar_sFi, cs_sFi, sz_sFi, sz_sAi, kd_sAi, fi_sAi, fr_sAi, ln_sAi, al_sAi, ar_sAi, cs_sAi, kd_wz, fi_wz, fr_wz, ln_wz, ai_wz, al_wz, ar_wz, Option.bind_some, if_true, if_false, Nat.reduceAdd, Nat.reduceMul, reduceIte, and_self, true_and, and_true, hka, e_contractAt_in hS hc, reduceCtorEq, kj, f106, h0, show (nI 0 = 0) = True from eq_true rfl]
        · have h00 : ¬ nI (rl c) = 0 := fun z => h0 ((nI_eq (a := rl c) (b := 0) (by omega) (by omega)).mp z)
          rw [if_neg h0] at f105
          simp only [m_X8_look, m_X0_nextPanel, b0, b1, b2, b3, b4, b5, aN, kA201, kA202, kA203, kA206, kA306, i1n0, i0n1, i0e0, i1e1, gI, gR, pI, pB, pR, xI, xL, yI, yL, vc, kd_sFi, fr_sFi, ln_sFi, ai_sFi, al_sFi, ar_sFi, cs_sFi, sz_sFi, sz_sAi, kd_sAi, fi_sAi, fr_sAi, ln_sAi, al_sAi, ar_sAi, cs_sAi, kd_wz, fi_wz, fr_wz, ln_wz, ai_wz, al_wz, ar_wz, Option.bind_some, if_true, if_false, Nat.reduceAdd, Nat.reduceMul, reduceIte, and_self, true_and, and_true, hka, e_contractAt_in hS hc, reduceCtorEq, kj, f106, h00, f105, f107, nI_add, h0]
      · simp only [m_X9_look, X9_look_b24, b0, b1, b2, b3, b4, b5, aN, kA201, kA202, kA203, kA206, kA306, i1n0, i0n1, i0e0, i1e1, gI, gR, pI, pB, pR, xI, xL, yI, yL, vc, kd_sFi, fr_sFi, ln_sFi, ai_sFi, al_sFi, ar_sFi, cs_sFi, sz_sFi, sz_sAi, kd_sAi, fi_sAi, fr_sAi, ln_sAi, al_sAi, ar_sAi, cs_sAi, kd_wz, fi_wz, fr_wz, ln_wz, ai_wz, al_wz, ar_wz, Option.bind_some, if_true, if_false, Nat.reduceAdd, Nat.reduceMul, reduceIte, and_self, true_and, and_true, hkm, e1, z0, z9, e2, e3, r44, k44, l44, cl, ib, m44]
    by_cases b7 : b = 7
    · subst b7
      have z0 : ¬ (7 : Int32) < 0 := by decide
      have z9 : ¬ (9 : Int32) < 7 := by decide
      refine fin (nI (rl c - pr c)) ?_ (fun k => ?_)
      · simp only [m_X8_look, m_X0_gap, b0, b1, b2, b3, b4, b5, b6, aN, kA201, kA202, kA203, kA206, kA306, i1n0, i0n1, i0e0, i1e1, gI, gR, pI, pB, pR, xI, xL, yI, yL, vc, kd_sFi, fr_sFi, ln_sFi, ai_sFi, al_sFi, ar_sFi, cs_sFi, sz_sFi, sz_sAi, kd_sAi, fi_sAi, fr_sAi, ln_sAi, al_sAi, ar_sAi, cs_sAi, kd_wz, fi_wz, fr_wz, ln_wz, ai_wz, al_wz, ar_wz, Option.bind_some, if_true, if_false, Nat.reduceAdd, Nat.reduceMul, reduceIte, and_self, true_and, and_true, hka, e_contractAt_in hS hc, reduceCtorEq, kj, f106, f107, nI_sub g5]
      · have h1 := e_gap9 (h := sFi (wz hm k) 1000 am 0) hM hRM 0 (pn (fO c)) 1 0 (by omega) (by omega) FU (by unfold FU; omega)
        have h2 := gap_sum (c := c) (has := mv q hm 47) (mi := 0) hpn g5 g8 g9 g7
        rw [sumF_one _ _ (fun i _ _ => gp_pos (Or.inl rfl))] at h2
        have h1' : X9_gap_L5 am FU (nI c) 0 0 1 (sFi (wz hm k) 1000 am 0) = some (nI (rl c - pr c), sFi (wz hm k) 1000 am 0) := h1.trans ((congrArg (fun x => some (nI (0 + x), sFi (wz hm k) 1000 am 0)) h2).trans (by rw [Nat.zero_add]))
        simp only [m_X9_look, X9_look_b24, m_X9_gap, b0, b1, b2, b3, b4, b5, b6, aN, kA201, kA202, kA203, kA206, kA306, i1n0, i0n1, i0e0, i1e1, gI, gR, pI, pB, pR, xI, xL, yI, yL, vc, kd_sFi, fr_sFi, ln_sFi, ai_sFi, al_sFi, ar_sFi, cs_sFi, sz_sFi, sz_sAi, kd_sAi, fi_sAi, fr_sAi, ln_sAi, al_sAi, ar_sAi, cs_sAi, kd_wz, fi_wz, fr_wz, ln_wz, ai_wz, al_wz, ar_wz, Option.bind_some, if_true, if_false, Nat.reduceAdd, Nat.reduceMul, reduceIte, and_self, true_and, and_true, hkm, e1, z0, z9, e2, e3, h1']
    by_cases b8 : b = 8
    · subst b8
      have z0 : ¬ (8 : Int32) < 0 := by decide
      have z9 : ¬ (9 : Int32) < 8 := by decide
      refine fin (nI (sumF (fun i => if cv ad n hx 11 c i = 0 then 1 else 0) (pr c) (rl c - pr c))) ?_ (fun k => ?_)
      · have h1 := e_missing hS hc g2 hrl (rl c - pr c) (pr c) 0 (by omega) FU (by unfold FU; omega)
        rw [Nat.zero_add] at h1
        have h1' : X0_missing_L7 (ad 1 c) FU 0 (nI (pr c)) hx = _ := h1
        simp only [m_X8_look, m_X0_missing, b0, b1, b2, b3, b4, b5, b6, b7, aN, kA201, kA202, kA203, kA206, kA306, i1n0, i0n1, i0e0, i1e1, gI, gR, pI, pB, pR, xI, xL, yI, yL, vc, kd_sFi, fr_sFi, ln_sFi, ai_sFi, al_sFi, ar_sFi, cs_sFi, sz_sFi, sz_sAi, kd_sAi, fi_sAi, fr_sAi, ln_sAi, al_sAi, ar_sAi, cs_sAi, kd_wz, fi_wz, fr_wz, ln_wz, ai_wz, al_wz, ar_wz, Option.bind_some, if_true, if_false, Nat.reduceAdd, Nat.reduceMul, reduceIte, and_self, true_and, and_true, hka, e_contractAt_in hS hc, reduceCtorEq, kj, f107, h1']
      · have h1 := e_gap9 (h := sFi (wz hm k) 1000 am 0) hM hRM 1 (pn (fO c)) 1 0 (by omega) (by omega) FU (by unfold FU; omega)
        have h2 : sumF (fun i => gp ((1 : Int32) = 0 ∨ mv q hm 47 (202 * c + (rs c + i)) = 0)) (pr c) (rl c - pr c) = sumF (fun i => if cv ad n hx 11 c i = 0 then 1 else 0) (pr c) (rl c - pr c) := by
          refine sumF_eq _ _ _ (fun i hi => ?_)
          have h3 := (t1 (pr c + i) (by omega)).1
          show gp ((1 : Int32) = 0 ∨ mv q hm 47 (202 * c + (rs c + (pr c + i))) = 0) = if cv ad n hx 11 c (pr c + i) = 0 then 1 else 0
          rw [h3]
          by_cases h4 : mv q hm 47 (202 * c + (rs c + (pr c + i))) = 0
          · rw [gp_pos (Or.inr h4), if_pos h4]
          · rw [gp_neg (fun y => by rcases y with y | y; exact absurd y (by decide); exact h4 y), if_neg h4]
        have h3 := (gap_sum (c := c) (has := mv q hm 47) (mi := 1) hpn g5 g8 g9 g7).trans h2
        have h1' : X9_gap_L5 am FU (nI c) 1 0 1 (sFi (wz hm k) 1000 am 0) = some (nI (sumF (fun i => if cv ad n hx 11 c i = 0 then 1 else 0) (pr c) (rl c - pr c)), sFi (wz hm k) 1000 am 0) := h1.trans ((congrArg (fun x => some (nI (0 + x), sFi (wz hm k) 1000 am 0)) h3).trans (by rw [Nat.zero_add]))
        simp only [m_X9_look, X9_look_b24, m_X9_gap, b0, b1, b2, b3, b4, b5, b6, b7, aN, kA201, kA202, kA203, kA206, kA306, i1n0, i0n1, i0e0, i1e1, gI, gR, pI, pB, pR, xI, xL, yI, yL, vc, kd_sFi, fr_sFi, ln_sFi, ai_sFi, al_sFi, ar_sFi, cs_sFi, sz_sFi, sz_sAi, kd_sAi, fi_sAi, fr_sAi, ln_sAi, al_sAi, ar_sAi, cs_sAi, kd_wz, fi_wz, fr_wz, ln_wz, ai_wz, al_wz, ar_wz, Option.bind_some, if_true, if_false, Nat.reduceAdd, Nat.reduceMul, reduceIte, and_self, true_and, and_true, hkm, e1, z0, z9, e2, e3, h1']
    by_cases b9 : b = 9
    · subst b9
      have z0 : ¬ (9 : Int32) < 0 := by decide
      have z9 : ¬ (9 : Int32) < 9 := by decide
      refine fin (mv q hm 50 c) ?_ (fun k => ?_)
      · simp only [m_X8_look, b0, b1, b2, b3, b4, b5, b6, b7, b8, aN, kA201, kA202, kA203, kA206, kA306, i1n0, i0n1, i0e0, i1e1, gI, gR, pI, pB, pR, xI, xL, yI, yL, vc, kd_sFi, fr_sFi, ln_sFi, ai_sFi, al_sFi, ar_sFi, cs_sFi, sz_sFi, sz_sAi, kd_sAi, fi_sAi, fr_sAi, ln_sAi, al_sAi, ar_sAi, cs_sAi, kd_wz, fi_wz, fr_wz, ln_wz, ai_wz, al_wz, ar_wz, Option.bind_some, if_true, if_false, Nat.reduceAdd, Nat.reduceMul, reduceIte, and_self, true_and, and_true, hka, e_contractAt_in hS hc, reduceCtorEq, kj, f108]
      · simp only [m_X9_look, X9_look_b24, b0, b1, b2, b3, b4, b5, b6, b7, b8, aN, kA201, kA202, kA203, kA206, kA306, i1n0, i0n1, i0e0, i1e1, gI, gR, pI, pB, pR, xI, xL, yI, yL, vc, kd_sFi, fr_sFi, ln_sFi, ai_sFi, al_sFi, ar_sFi, cs_sFi, sz_sFi, sz_sAi, kd_sAi, fi_sAi, fr_sAi, ln_sAi, al_sAi, ar_sAi, cs_sAi, kd_wz, fi_wz, fr_wz, ln_wz, ai_wz, al_wz, ar_wz, Option.bind_some, if_true, if_false, Nat.reduceAdd, Nat.reduceMul, reduceIte, and_self, true_and, and_true, hkm, e1, z0, z9, e2, e3, r50, k50, l50, cl, ib, m50]
    · refine finN ?_ (fun k => ?_)
      · simp only [m_X8_look, b0, b1, b2, b3, b4, b5, b6, b7, b8, b9, aN, kA201, kA202, kA203, kA206, kA306, i1n0, i0n1, i0e0, i1e1, gI, gR, pI, pB, pR, xI, xL, yI, yL, vc, kd_sFi, fr_sFi, ln_sFi, ai_sFi, al_sFi, ar_sFi, cs_sFi, sz_sFi, sz_sAi, kd_sAi, fi_sAi, fr_sAi, ln_sAi, al_sAi, ar_sAi, cs_sAi, kd_wz, fi_wz, fr_wz, ln_wz, ai_wz, al_wz, ar_wz, Option.bind_some, if_true, if_false, Nat.reduceAdd, Nat.reduceMul, reduceIte, and_self, true_and, and_true, hka, e_contractAt_in hS hc, reduceCtorEq]
      · rcases idx b 10 (by omega) with ⟨j, hj, rfl⟩ | hb
        · exfalso
          match j, hj with
          | 0, _ => exact b0 rfl
          | 1, _ => exact b1 rfl
          | 2, _ => exact b2 rfl
          | 3, _ => exact b3 rfl
          | 4, _ => exact b4 rfl
          | 5, _ => exact b5 rfl
          | 6, _ => exact b6 rfl
          | 7, _ => exact b7 rfl
          | 8, _ => exact b8 rfl
          | 9, _ => exact b9 rfl
        · rcases hb with hb | ⟨hb1, hb2⟩
          · simp only [m_X9_look, aN, kA201, kA202, kA203, kA206, kA306, i1n0, i0n1, i0e0, i1e1, gI, gR, pI, pB, pR, xI, xL, yI, yL, vc, kd_sFi, fr_sFi, ln_sFi, ai_sFi, al_sFi, ar_sFi, cs_sFi, sz_sFi, sz_sAi, kd_sAi, fi_sAi, fr_sAi, ln_sAi, al_sAi, ar_sAi, cs_sAi, kd_wz, fi_wz, fr_wz, ln_wz, ai_wz, al_wz, ar_wz, Option.bind_some, if_true, if_false, Nat.reduceAdd, Nat.reduceMul, reduceIte, and_self, true_and, and_true, hkm, e1, hb, thr]
          · have hb3 : (9 : Int32) < b := Int32.lt_of_lt_of_le (by decide) hb2
            simp only [m_X9_look, aN, kA201, kA202, kA203, kA206, kA306, i1n0, i0n1, i0e0, i1e1, gI, gR, pI, pB, pR, xI, xL, yI, yL, vc, kd_sFi, fr_sFi, ln_sFi, ai_sFi, al_sFi, ar_sFi, cs_sFi, sz_sFi, sz_sAi, kd_sAi, fi_sAi, fr_sAi, ln_sAi, al_sAi, ar_sAi, cs_sAi, kd_wz, fi_wz, fr_wz, ln_wz, ai_wz, al_wz, ar_wz, Option.bind_some, if_true, if_false, Nat.reduceAdd, Nat.reduceMul, reduceIte, and_self, true_and, and_true, hkm, e1, hb1, hb3, thr]
  · refine finN ?_ (fun k => ?_)
    · simp only [m_X8_look, hka, e_contractAt_out hS ho, aN, kA201, kA202, kA203, kA206, kA306, i1n0, i0n1, i0e0, i1e1, gI, gR, pI, pB, pR, xI, xL, yI, yL, vc, kd_sFi, fr_sFi, ln_sFi, ai_sFi, al_sFi, ar_sFi, cs_sFi, sz_sFi, sz_sAi, kd_sAi, fi_sAi, fr_sAi, ln_sAi, al_sAi, ar_sAi, cs_sAi, kd_wz, fi_wz, fr_wz, ln_wz, ai_wz, al_wz, ar_wz, Option.bind_some, if_true, if_false, Nat.reduceAdd, Nat.reduceMul, reduceIte, and_self, true_and, and_true]
    · have := e_isContract_out (hm := wz hm k) hkm h39 ho
      simp only [m_X9_look, aN, kA201, kA202, kA203, kA206, kA306, i1n0, i0n1, i0e0, i1e1, gI, gR, pI, pB, pR, xI, xL, yI, yL, vc, kd_sFi, fr_sFi, ln_sFi, ai_sFi, al_sFi, ar_sFi, cs_sFi, sz_sFi, sz_sAi, kd_sAi, fi_sAi, fr_sAi, ln_sAi, al_sAi, ar_sAi, cs_sAi, kd_wz, fi_wz, fr_wz, ln_wz, ai_wz, al_wz, ar_wz, Option.bind_some, if_true, if_false, Nat.reduceAdd, Nat.reduceMul, reduceIte, and_self, true_and, and_true, hkm, this, thr]
end LOOK2
