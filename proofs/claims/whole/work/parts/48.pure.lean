section COUNT
variable {ax ao am : Nat} {ad : Nat → Nat → Nat} {n e pO fO q tm : Nat → Nat} {tx : Nat → List (Int32 × List Int32)} {w : Nat} {pn : Nat → Nat} {nw : Nat → Nat → Nat} {fs : Nat → Nat} {ls : Nat → Option Nat} {rs rl pr : Nat → Nat} {tl : Nat} {hx hm : HS}
theorem RC_run (hw : w ≤ 200) (hC : RC n w pn nw pO fO fs ls rs rl pr (cf ad n hx 102) (cf ad n hx 103) (cf ad n hx 104) (cf ad n hx 105) (cf ad n hx 106) (cf ad n hx 107) (cf ad n hx 108) (cv ad n hx 11) (cv ad n hx 14) (mv q hm 40) (mv q hm 41) (mv q hm 42) (mv q hm 43) (mv q hm 44) (mv q hm 45) (mv q hm 46) (mv q hm 47) (mv q hm 48) (mv q hm 50)) : RnC n fs ls (cf ad n hx 102) (cf ad n hx 103) ∧ RnC n fs ls (mv q hm 42) (mv q hm 43) := by
  refine ⟨fun c hc => ?_, fun c hc => ?_⟩
  · obtain ⟨⟨d1, d2, d3, d4, d5, d6, d7, d8, d9⟩, -⟩ := hC.1 c hc
    exact ⟨d3, d7, by omega, fun z hz => by have := d9 z hz; omega⟩
  · obtain ⟨⟨d1, d2, d3, d4, d5, d6, d7, d8, d9⟩, -⟩ := hC.1 c hc
    exact ⟨d4, d8, by omega, fun z hz => by have := d9 z hz; omega⟩
theorem e_running9 {h : HS} (hM : SMA q am h) (hR : RnC n fs ls (mv q h 42) (mv q h 43)) (hn : n 1 ≤ 60) (hw : w ≤ 200) (h24 : fi h 1024 am = nI w) (h39 : fi h 1039 am = nI (n 1)) (a : Int32) : ∀ (k c acc : Nat), c + k = n 1 → ∀ F, k < F → X9_count_L9 am F a (nI acc) (nI c) h = X9_count_L9 am 1 a (nI (acc + sumF (fun c => wk1 (fs c) (ls c) (w + 1)) c k)) (nI (n 1)) h := by
  have hkm : kd h am = 11 := hM.1
  have e6 : nI w + 1 = nI (w + 1) := nI_add w 1
  intro k
  induction k with
  | zero =>
    intro c acc hck F hF
    obtain ⟨F, rfl⟩ := nF1 hF
    have hc : c = n 1 := by omega
    subst hc
    have e1 : nI (n 1) ≤ nI (n 1) := Int32.le_refl _
    simp only [X9_count_L9, aN, kA201, kA202, kA203, kA206, kA306, i1n0, i0n1, i0e0, i1e1, gI, gR, pI, pB, pR, xI, xL, yI, yL, vc, kd_sFi, fr_sFi, ln_sFi, ai_sFi, al_sFi, ar_sFi, cs_sFi, sz_sFi, sz_sAi, kd_sAi, fi_sAi, fr_sAi, ln_sAi, al_sAi, ar_sAi, cs_sAi, kd_wz, fi_wz, fr_wz, ln_wz, ai_wz, al_wz, ar_wz, Option.bind_some, if_true, if_false, Nat.reduceAdd, Nat.reduceMul, reduceIte, and_self, true_and, and_true, hkm, h39, e1, sumF, Nat.add_zero]
  | succ k ih =>
    intro c acc hck F hF
    obtain ⟨F, rfl⟩ := nF1 hF
    have hc : c < n 1 := by omega
    have e1 : ¬ nI (n 1) ≤ nI c := nI_ge hc (by omega)
    obtain ⟨r1, r2, r3, r4⟩ := hR c hc
    have e2 := e_runs9 hM (c := c) (by omega) (u := w + 1) (by omega) r1 r2 r3 r4
    have e7 : nI c + 1 = nI (c + 1) := nI_add c 1
    have e8 : nI acc + 1 = nI (acc + 1) := nI_add acc 1
    have e80 : nI acc + 0 = nI acc := nI_add acc 0
    have e9 : sumF (fun c => wk1 (fs c) (ls c) (w + 1)) c (k + 1) = wk1 (fs c) (ls c) (w + 1) + sumF (fun c => wk1 (fs c) (ls c) (w + 1)) (c + 1) k := rfl
    rcases wk1_or (fs c) (w + 1) (ls c) with h0 | h0
    · rw [h0] at e2 e9
      have := ih (c + 1) acc (by omega) F (by omega)
      rw [e9, Nat.zero_add, ← this]
      conv => lhs; unfold X9_count_L9
      simp only [X9_count_b37, aN, kA201, kA202, kA203, kA206, kA306, i1n0, i0n1, i0e0, i1e1, gI, gR, pI, pB, pR, xI, xL, yI, yL, vc, kd_sFi, fr_sFi, ln_sFi, ai_sFi, al_sFi, ar_sFi, cs_sFi, sz_sFi, sz_sAi, kd_sAi, fi_sAi, fr_sAi, ln_sAi, al_sAi, ar_sAi, cs_sAi, kd_wz, fi_wz, fr_wz, ln_wz, ai_wz, al_wz, ar_wz, Option.bind_some, if_true, if_false, Nat.reduceAdd, Nat.reduceMul, reduceIte, and_self, true_and, and_true, hkm, h39, h24, e1, e6, e2, show (nI 0 = 0) = True from eq_true rfl, e7, e80]
    · rw [h0] at e2 e9
      have := ih (c + 1) (acc + 1) (by omega) F (by omega)
      rw [e9, ← Nat.add_assoc, ← this]
      conv => lhs; unfold X9_count_L9
      simp only [X9_count_b37, aN, kA201, kA202, kA203, kA206, kA306, i1n0, i0n1, i0e0, i1e1, gI, gR, pI, pB, pR, xI, xL, yI, yL, vc, kd_sFi, fr_sFi, ln_sFi, ai_sFi, al_sFi, ar_sFi, cs_sFi, sz_sFi, sz_sAi, kd_sAi, fi_sAi, fr_sAi, ln_sAi, al_sAi, ar_sAi, cs_sAi, kd_wz, fi_wz, fr_wz, ln_wz, ai_wz, al_wz, ar_wz, Option.bind_some, if_true, if_false, Nat.reduceAdd, Nat.reduceMul, reduceIte, and_self, true_and, and_true, hkm, h39, h24, e1, e6, e2, show (nI 1 = 0) = False from eq_false (by decide), e7, e8]
theorem op_count (a : Int32) : StI (PP ax am ao) (m_X8_count ax a) (m_X9_count am a) := by
  rintro hx hm ⟨ad, n, e, pO, fO, q, tm, tx, w, pn, nw, fs, ls, rs, rl, pr, tl, hS, hM, hN, hF, hP, hC, hB, hT, hX, hW⟩
  have hka := kax hS
  have hkm : kd hm am = 11 := hM.1
  have hn := n_le hS
  have hI := hS.2.1
  have hq : ∀ k k', q k = q k' → k = k' := hM.2.2
  have hw : w ≤ 200 := hN.1
  have f909 : fi hx 909 ax = nI w := by
    have h1 := hN.2.1
    rw [← cf_at (g := 909) (n := n) (t := 9) (by decide) (by rw [hS.1.2.2.2.2.2.1]; decide), hS.2.2.2.2.1.1] at h1
    exact h1
  have i24 : fi hm 1024 am = nI w := hN.2.2.1
  have h25 : mf am hm 25 = nI (n 2) := hN.2.2.2.1
  have h34 : mf am hm 34 = nI (n 3) := hN.2.2.2.2.1
  have h39 : mf am hm 39 = nI (n 1) := hN.2.2.2.2.2.1
  have r12 : fr hm 1012 am = some (q 12) := (hM.2.1 (12, 201, 21) (by decide)).1
  have k12 : kd hm (q 12) = 201 := (hM.2.1 (12, 201, 21) (by decide)).2.1
  have l12 : ln hm (q 12) = 21 := (hM.2.1 (12, 201, 21) (by decide)).2.2
  obtain ⟨hR1, hR2⟩ := RC_run hw hC
  obtain ⟨hLc, hrc, hkc⟩ := lcs hS
  obtain ⟨hLf, hrf, hkf⟩ := lfs hS
  obtain ⟨hLp, hrp, hkp⟩ := lps hS
  have tx0 := ktape hS
  have h9 := nSX hS
  have n9 : 0 < n 9 := by rw [h9.2.2.2.2.2.1]; decide
  have hloop := e_running9 (h := sFi (wz hm (sz hx)) 1000 am 0) hM hR2 (by omega) hw i24 h39 a (n 1) 0 0 (by omega) FU (by unfold FU; omega)
  have hrun := e_running hS hR1 hw f909 (n 1) 0 0 (by omega) FU (by unfold FU; omega)
  rw [Nat.zero_add] at hloop hrun
  have e1 : nI (n 1) ≤ nI (n 1) := Int32.le_refl _
  have i39' : fi (sFi (wz hm (sz hx)) 1000 am 0) 1039 am = nI (n 1) := h39
  have i25' : fi (sFi (wz hm (sz hx)) 1000 am 0) 1025 am = nI (n 2) := h25
  have i34' : fi (sFi (wz hm (sz hx)) 1000 am 0) 1034 am = nI (n 3) := h34
  have i24' : fi (sFi (wz hm (sz hx)) 1000 am 0) 1024 am = nI w := i24
  have i10' : fi (sFi (wz hm (sz hx)) 1000 am 0) 1010 am = nI (n 4 - 1) := hN.2.2.2.2.2.2.2.1
  have i11' : fi (sFi (wz hm (sz hx)) 1000 am 0) 1011 am = nI (n 4 - 1) - 1 := hN.2.2.2.2.2.2.2.2
  have i2' : fi (sFi (wz hm (sz hx)) 1000 am 0) 1002 am = nI tl := hT.2.2.1
  have f908 : fi hx 908 ax = nI (n 4 - 1) := by
    have h1 := hN.2.2.2.2.2.2.1
    rw [← cf_at (g := 908) (n := n) (t := 9) (by decide) n9, hS.2.2.2.2.1.1] at h1
    exact h1
  have f601 : fi hx 601 (ad 6 0) = nI tl := by rw [cf_at (g := 601) (n := n) (t := 6) (by decide) tx0.1]; exact hT.2.1
  have hr7 : fr hx 907 ax = some (ad 4 (n 4 - 1)) := hS.2.2.2.2.1.2.2.2.2.2.2.2.2.2.1
  have k4 : kd hx (ad 4 (n 4 - 1)) = 5 := k0 hS (by omega)
  have f401 : fi hx 401 (ad 4 (n 4 - 1)) = nI (tx (n 4 - 1)).length := by
    rw [cf_at (g := 401) (n := n) (t := 4) (by decide) (by omega)]; exact (hX.2 (n 4 - 1) (by omega)).1.2.2.1
  have hcnt : m_X9_count am a (wz hm (sz hx)) = X9_count_L9 am 1 a (nI (sumF (fun c => wk1 (fs c) (ls c) (w + 1)) 0 (n 1))) (nI (n 1)) (sFi (wz hm (sz hx)) 1000 am 0) := by
    rw [← hloop]
    simp only [m_X9_count, aN, kA201, kA202, kA203, kA206, kA306, i1n0, i0n1, i0e0, i1e1, gI, gR, pI, pB, pR, xI, xL, yI, yL, vc, kd_sFi, fr_sFi, ln_sFi, ai_sFi, al_sFi, ar_sFi, cs_sFi, sz_sFi, sz_sAi, kd_sAi, fi_sAi, fr_sAi, ln_sAi, al_sAi, ar_sAi, cs_sAi, kd_wz, fi_wz, fr_wz, ln_wz, ai_wz, al_wz, ar_wz, Option.bind_some, if_true, if_false, Nat.reduceAdd, Nat.reduceMul, reduceIte, and_self, true_and, and_true, hkm]
    rfl
  have fin : ∀ r, m_X8_count ax a hx = some (r, hx) → X9_count_L9 am 1 a (nI (sumF (fun c => wk1 (fs c) (ls c) (w + 1)) 0 (n 1))) (nI (n 1)) (sFi (wz hm (sz hx)) 1000 am 0) = some (r, sFi (wz hm (sz hx)) 1000 am 0) → ∃ r hx' hm', m_X8_count ax a hx = some (r, hx') ∧ m_X9_count am a (wz hm (sz hx')) = some (r, hm') ∧ sz hm' = sz hx' ∧ PP ax am ao hx' hm' := fun r h1 h2 => ⟨r, hx, _, h1, hcnt.trans h2, rfl, ad, n, e, pO, fO, q, tm, tx, w, pn, nw, fs, ls, rs, rl, pr, tl, hS, hM, hN, hF, hP, hC, hB, hT, hX, hW⟩
  by_cases c0 : a = 0
  · subst c0
    refine fin (nI (n 2)) ?_ ?_
    · simp only [m_X8_count, aN, kA201, kA202, kA203, kA206, kA306, i1n0, i0n1, i0e0, i1e1, gI, gR, pI, pB, pR, xI, xL, yI, yL, vc, kd_sFi, fr_sFi, ln_sFi, ai_sFi, al_sFi, ar_sFi, cs_sFi, sz_sFi, sz_sAi, kd_sAi, fi_sAi, fr_sAi, ln_sAi, al_sAi, ar_sAi, cs_sAi, kd_wz, fi_wz, fr_wz, ln_wz, ai_wz, al_wz, ar_wz, Option.bind_some, if_true, if_false, Nat.reduceAdd, Nat.reduceMul, reduceIte, and_self, true_and, and_true, hka, hrf, hkf, Nat.zero_add, e_size hkf hLf]
    · simp only [X9_count_L9, aN, kA201, kA202, kA203, kA206, kA306, i1n0, i0n1, i0e0, i1e1, gI, gR, pI, pB, pR, xI, xL, yI, yL, vc, kd_sFi, fr_sFi, ln_sFi, ai_sFi, al_sFi, ar_sFi, cs_sFi, sz_sFi, sz_sAi, kd_sAi, fi_sAi, fr_sAi, ln_sAi, al_sAi, ar_sAi, cs_sAi, kd_wz, fi_wz, fr_wz, ln_wz, ai_wz, al_wz, ar_wz, Option.bind_some, if_true, if_false, Nat.reduceAdd, Nat.reduceMul, reduceIte, and_self, true_and, and_true, hkm, i39', e1, i25']
  by_cases c1 : a = 1
  · subst c1
    refine fin (nI (n 3)) ?_ ?_
    · simp only [m_X8_count, aN, kA201, kA202, kA203, kA206, kA306, i1n0, i0n1, i0e0, i1e1, gI, gR, pI, pB, pR, xI, xL, yI, yL, vc, kd_sFi, fr_sFi, ln_sFi, ai_sFi, al_sFi, ar_sFi, cs_sFi, sz_sFi, sz_sAi, kd_sAi, fi_sAi, fr_sAi, ln_sAi, al_sAi, ar_sAi, cs_sAi, kd_wz, fi_wz, fr_wz, ln_wz, ai_wz, al_wz, ar_wz, Option.bind_some, if_true, if_false, Nat.reduceAdd, Nat.reduceMul, reduceIte, and_self, true_and, and_true, hka, hrp, hkp, Nat.zero_add, e_size hkp hLp]
    · simp only [X9_count_L9, aN, kA201, kA202, kA203, kA206, kA306, i1n0, i0n1, i0e0, i1e1, gI, gR, pI, pB, pR, xI, xL, yI, yL, vc, kd_sFi, fr_sFi, ln_sFi, ai_sFi, al_sFi, ar_sFi, cs_sFi, sz_sFi, sz_sAi, kd_sAi, fi_sAi, fr_sAi, ln_sAi, al_sAi, ar_sAi, cs_sAi, kd_wz, fi_wz, fr_wz, ln_wz, ai_wz, al_wz, ar_wz, Option.bind_some, if_true, if_false, Nat.reduceAdd, Nat.reduceMul, reduceIte, and_self, true_and, and_true, hkm, i39', e1, i34']
  by_cases c2 : a = 2
  · subst c2
    refine fin (nI (n 1)) ?_ ?_
    · simp only [m_X8_count, c0, c1, aN, kA201, kA202, kA203, kA206, kA306, i1n0, i0n1, i0e0, i1e1, gI, gR, pI, pB, pR, xI, xL, yI, yL, vc, kd_sFi, fr_sFi, ln_sFi, ai_sFi, al_sFi, ar_sFi, cs_sFi, sz_sFi, sz_sAi, kd_sAi, fi_sAi, fr_sAi, ln_sAi, al_sAi, ar_sAi, cs_sAi, kd_wz, fi_wz, fr_wz, ln_wz, ai_wz, al_wz, ar_wz, Option.bind_some, if_true, if_false, Nat.reduceAdd, Nat.reduceMul, reduceIte, and_self, true_and, and_true, hka, hrc, hkc, Nat.zero_add, e_size hkc hLc]
    · simp only [X9_count_L9, c0, c1, aN, kA201, kA202, kA203, kA206, kA306, i1n0, i0n1, i0e0, i1e1, gI, gR, pI, pB, pR, xI, xL, yI, yL, vc, kd_sFi, fr_sFi, ln_sFi, ai_sFi, al_sFi, ar_sFi, cs_sFi, sz_sFi, sz_sAi, kd_sAi, fi_sAi, fr_sAi, ln_sAi, al_sAi, ar_sAi, cs_sAi, kd_wz, fi_wz, fr_wz, ln_wz, ai_wz, al_wz, ar_wz, Option.bind_some, if_true, if_false, Nat.reduceAdd, Nat.reduceMul, reduceIte, and_self, true_and, and_true, hkm, i39', e1]
  by_cases c3 : a = 3
  · subst c3
    refine fin (nI w) ?_ ?_
    · simp only [m_X8_count, c0, c1, c2, aN, kA201, kA202, kA203, kA206, kA306, i1n0, i0n1, i0e0, i1e1, gI, gR, pI, pB, pR, xI, xL, yI, yL, vc, kd_sFi, fr_sFi, ln_sFi, ai_sFi, al_sFi, ar_sFi, cs_sFi, sz_sFi, sz_sAi, kd_sAi, fi_sAi, fr_sAi, ln_sAi, al_sAi, ar_sAi, cs_sAi, kd_wz, fi_wz, fr_wz, ln_wz, ai_wz, al_wz, ar_wz, Option.bind_some, if_true, if_false, Nat.reduceAdd, Nat.reduceMul, reduceIte, and_self, true_and, and_true, hka, f909]
    · simp only [X9_count_L9, c0, c1, c2, aN, kA201, kA202, kA203, kA206, kA306, i1n0, i0n1, i0e0, i1e1, gI, gR, pI, pB, pR, xI, xL, yI, yL, vc, kd_sFi, fr_sFi, ln_sFi, ai_sFi, al_sFi, ar_sFi, cs_sFi, sz_sFi, sz_sAi, kd_sAi, fi_sAi, fr_sAi, ln_sAi, al_sAi, ar_sAi, cs_sAi, kd_wz, fi_wz, fr_wz, ln_wz, ai_wz, al_wz, ar_wz, Option.bind_some, if_true, if_false, Nat.reduceAdd, Nat.reduceMul, reduceIte, and_self, true_and, and_true, hkm, i39', e1, i24']
  by_cases c4 : a = 4
  · subst c4
    refine fin (nI (sumF (fun c => wk1 (fs c) (ls c) (w + 1)) 0 (n 1))) ?_ ?_
    · have hrun' : X8_runningContracts_L4 ax FU (0 : Int32) (0 : Int32) hx = some (nI (sumF (fun c => wk1 (fs c) (ls c) (w + 1)) 0 (n 1)), hx) := hrun
      simp only [m_X8_count, m_X8_runningContracts, c0, c1, c2, c3, aN, kA201, kA202, kA203, kA206, kA306, i1n0, i0n1, i0e0, i1e1, gI, gR, pI, pB, pR, xI, xL, yI, yL, vc, kd_sFi, fr_sFi, ln_sFi, ai_sFi, al_sFi, ar_sFi, cs_sFi, sz_sFi, sz_sAi, kd_sAi, fi_sAi, fr_sAi, ln_sAi, al_sAi, ar_sAi, cs_sAi, kd_wz, fi_wz, fr_wz, ln_wz, ai_wz, al_wz, ar_wz, Option.bind_some, if_true, if_false, Nat.reduceAdd, Nat.reduceMul, reduceIte, and_self, true_and, and_true, hka, hrun']
    · simp only [X9_count_L9, c0, c1, c2, c3, aN, kA201, kA202, kA203, kA206, kA306, i1n0, i0n1, i0e0, i1e1, gI, gR, pI, pB, pR, xI, xL, yI, yL, vc, kd_sFi, fr_sFi, ln_sFi, ai_sFi, al_sFi, ar_sFi, cs_sFi, sz_sFi, sz_sAi, kd_sAi, fi_sAi, fr_sAi, ln_sAi, al_sAi, ar_sAi, cs_sAi, kd_wz, fi_wz, fr_wz, ln_wz, ai_wz, al_wz, ar_wz, Option.bind_some, if_true, if_false, Nat.reduceAdd, Nat.reduceMul, reduceIte, and_self, true_and, and_true, hkm, i39', e1]
  by_cases c5 : a = 5
  · subst c5
    refine fin (nI (tx (n 4 - 1)).length) ?_ ?_
    · simp only [m_X8_count, c0, c1, c2, c3, c4, aN, kA201, kA202, kA203, kA206, kA306, i1n0, i0n1, i0e0, i1e1, gI, gR, pI, pB, pR, xI, xL, yI, yL, vc, kd_sFi, fr_sFi, ln_sFi, ai_sFi, al_sFi, ar_sFi, cs_sFi, sz_sFi, sz_sAi, kd_sAi, fi_sAi, fr_sAi, ln_sAi, al_sAi, ar_sAi, cs_sAi, kd_wz, fi_wz, fr_wz, ln_wz, ai_wz, al_wz, ar_wz, Option.bind_some, if_true, if_false, Nat.reduceAdd, Nat.reduceMul, reduceIte, and_self, true_and, and_true, hka, hr7, k4, f401]
    · by_cases h1 : n 4 = 1
      · have e2 : ¬ 0 ≤ nI (n 4 - 1) - 1 := by rw [h1]; decide
        have e3 : (tx (n 4 - 1)).length = 0 := by rw [h1, hX.1]; rfl
        simp only [X9_count_L9, c0, c1, c2, c3, c4, aN, kA201, kA202, kA203, kA206, kA306, i1n0, i0n1, i0e0, i1e1, gI, gR, pI, pB, pR, xI, xL, yI, yL, vc, kd_sFi, fr_sFi, ln_sFi, ai_sFi, al_sFi, ar_sFi, cs_sFi, sz_sFi, sz_sAi, kd_sAi, fi_sAi, fr_sAi, ln_sAi, al_sAi, ar_sAi, cs_sAi, kd_wz, fi_wz, fr_wz, ln_wz, ai_wz, al_wz, ar_wz, Option.bind_some, if_true, if_false, Nat.reduceAdd, Nat.reduceMul, reduceIte, and_self, true_and, and_true, hkm, i39', e1, i11', e2, e3]
        rfl
      · have e2 : nI (n 4 - 1) - 1 = nI (n 4 - 2) := by
          have : n 4 - 1 = (n 4 - 2) + 1 := by omega
          rw [this]; exact nI_pred _
        have e3 : 0 ≤ nI (n 4 - 2) := nI_pos' (by omega)
        have cl : (nI (n 4 - 2)).toNatClampNeg = n 4 - 2 := nI_cl (N := 21) (by omega) (by omega)
        have ib : inB (nI (n 4 - 2)) 21 = true := inB_nI (by omega) (by omega)
        have e4 : ai hm (q 12) (n 4 - 2) = nI (tx (n 4 - 1)).length := ((hX.2 (n 4 - 1) (by omega)).2.2 (by omega)).1
        simp only [X9_count_L9, c0, c1, c2, c3, c4, aN, kA201, kA202, kA203, kA206, kA306, i1n0, i0n1, i0e0, i1e1, gI, gR, pI, pB, pR, xI, xL, yI, yL, vc, kd_sFi, fr_sFi, ln_sFi, ai_sFi, al_sFi, ar_sFi, cs_sFi, sz_sFi, sz_sAi, kd_sAi, fi_sAi, fr_sAi, ln_sAi, al_sAi, ar_sAi, cs_sAi, kd_wz, fi_wz, fr_wz, ln_wz, ai_wz, al_wz, ar_wz, Option.bind_some, if_true, if_false, Nat.reduceAdd, Nat.reduceMul, reduceIte, and_self, true_and, and_true, hkm, i39', e1, i11', e2, e3, r12, k12, l12, cl, ib, e4]
  by_cases c6 : a = 6
  · subst c6
    refine fin (nI tl) ?_ ?_
    · simp only [m_X8_count, c0, c1, c2, c3, c4, c5, aN, kA201, kA202, kA203, kA206, kA306, i1n0, i0n1, i0e0, i1e1, gI, gR, pI, pB, pR, xI, xL, yI, yL, vc, kd_sFi, fr_sFi, ln_sFi, ai_sFi, al_sFi, ar_sFi, cs_sFi, sz_sFi, sz_sAi, kd_sAi, fi_sAi, fr_sAi, ln_sAi, al_sAi, ar_sAi, cs_sAi, kd_wz, fi_wz, fr_wz, ln_wz, ai_wz, al_wz, ar_wz, Option.bind_some, if_true, if_false, Nat.reduceAdd, Nat.reduceMul, reduceIte, and_self, true_and, and_true, hka, tx0.2.2.2.2.2.2, tx0.2.2.1, f601]
    · simp only [X9_count_L9, c0, c1, c2, c3, c4, c5, aN, kA201, kA202, kA203, kA206, kA306, i1n0, i0n1, i0e0, i1e1, gI, gR, pI, pB, pR, xI, xL, yI, yL, vc, kd_sFi, fr_sFi, ln_sFi, ai_sFi, al_sFi, ar_sFi, cs_sFi, sz_sFi, sz_sAi, kd_sAi, fi_sAi, fr_sAi, ln_sAi, al_sAi, ar_sAi, cs_sAi, kd_wz, fi_wz, fr_wz, ln_wz, ai_wz, al_wz, ar_wz, Option.bind_some, if_true, if_false, Nat.reduceAdd, Nat.reduceMul, reduceIte, and_self, true_and, and_true, hkm, i39', e1, i2']
  by_cases c7 : a = 7
  · subst c7
    refine fin (nI (n 4 - 1)) ?_ ?_
    · simp only [m_X8_count, c0, c1, c2, c3, c4, c5, c6, aN, kA201, kA202, kA203, kA206, kA306, i1n0, i0n1, i0e0, i1e1, gI, gR, pI, pB, pR, xI, xL, yI, yL, vc, kd_sFi, fr_sFi, ln_sFi, ai_sFi, al_sFi, ar_sFi, cs_sFi, sz_sFi, sz_sAi, kd_sAi, fi_sAi, fr_sAi, ln_sAi, al_sAi, ar_sAi, cs_sAi, kd_wz, fi_wz, fr_wz, ln_wz, ai_wz, al_wz, ar_wz, Option.bind_some, if_true, if_false, Nat.reduceAdd, Nat.reduceMul, reduceIte, and_self, true_and, and_true, hka, f908]
    · simp only [X9_count_L9, c0, c1, c2, c3, c4, c5, c6, aN, kA201, kA202, kA203, kA206, kA306, i1n0, i0n1, i0e0, i1e1, gI, gR, pI, pB, pR, xI, xL, yI, yL, vc, kd_sFi, fr_sFi, ln_sFi, ai_sFi, al_sFi, ar_sFi, cs_sFi, sz_sFi, sz_sAi, kd_sAi, fi_sAi, fr_sAi, ln_sAi, al_sAi, ar_sAi, cs_sAi, kd_wz, fi_wz, fr_wz, ln_wz, ai_wz, al_wz, ar_wz, Option.bind_some, if_true, if_false, Nat.reduceAdd, Nat.reduceMul, reduceIte, and_self, true_and, and_true, hkm, i39', e1, i10']
  · refine fin (-1) ?_ ?_
    · simp only [m_X8_count, c0, c1, c2, c3, c4, c5, c6, c7, if_false]
    · simp only [X9_count_L9, c0, c1, c2, c3, c4, c5, c6, c7, aN, kA201, kA202, kA203, kA206, kA306, i1n0, i0n1, i0e0, i1e1, gI, gR, pI, pB, pR, xI, xL, yI, yL, vc, kd_sFi, fr_sFi, ln_sFi, ai_sFi, al_sFi, ar_sFi, cs_sFi, sz_sFi, sz_sAi, kd_sAi, fi_sAi, fr_sAi, ln_sAi, al_sAi, ar_sAi, cs_sAi, kd_wz, fi_wz, fr_wz, ln_wz, ai_wz, al_wz, ar_wz, Option.bind_some, if_true, if_false, Nat.reduceAdd, Nat.reduceMul, reduceIte, and_self, true_and, and_true, hkm, i39', e1]
end COUNT
