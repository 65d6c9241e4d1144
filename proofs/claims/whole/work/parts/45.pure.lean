/-- the same things at the same places: only numbers differ -/
def SameS (h h' : HS) : Prop := kd h' = kd h ∧ fr h' = fr h ∧ ln h' = ln h ∧ al h' = al h ∧ ar h' = ar h ∧ sz h' = sz h ∧ cs h' = cs h
theorem SameS.rf (h : HS) : SameS h h := ⟨rfl, rfl, rfl, rfl, rfl, rfl, rfl⟩
theorem SameS.tr {a b c : HS} (h1 : SameS a b) (h2 : SameS b c) : SameS a c := by
  obtain ⟨a1, a2, a3, a4, a5, a6, a7⟩ := h1
  obtain ⟨b1, b2, b3, b4, b5, b6, b7⟩ := h2
  exact ⟨b1.trans a1, b2.trans a2, b3.trans a3, b4.trans a4, b5.trans a5, b6.trans a6, b7.trans a7⟩
section PAPER
variable {ax ao am : Nat} {ad : Nat → Nat → Nat} {n e pO fO q tm : Nat → Nat} {tx : Nat → List (Int32 × List Int32)} {w : Nat} {pn : Nat → Nat} {nw : Nat → Nat → Nat} {fs : Nat → Nat} {ls : Nat → Option Nat} {rs rl pr : Nat → Nat} {tl : Nat} {hx hm : HS}
theorem ksold {h : HS} (hS : SXA ax ao ad n e pO fO h) {p : Nat} (hp : p < n 3) : kd h (ad 3 p) = 4 ∧ fr h 303 (ad 3 p) = some (ad 13 p) ∧ kd h (ad 13 p) = 201 ∧ ln h (ad 13 p) = 51 := by
  have hp2 : p < n 13 := by rw [(nSX hS).2.2.2.2.2.2.2.2.1]; exact hp
  exact ⟨k0 hS hp, prf hS hp, k0 hS hp2, hS.2.2.2.1 13 p hp2 (by decide) (by decide)⟩
theorem nF1 {N : Nat} {x : Nat} (h : x + 1 ≤ N) : ∃ N', N = N' + 1 := ⟨N - 1, by omega⟩
theorem e_sell {p : Nat} (x : Int32) : ∀ (k j : Nat) (h : HS), SXA ax ao ad n e pO fO h → p < n 3 → j + k = 51 → ∀ F, k < F → ∃ h', X2_sellFrom_L6 (ad 3 p) F x (nI j) h = some h' ∧ SXA ax ao ad n e pO fO h' ∧ SameS h h' ∧ fi h' = fi h ∧ cv ad n h' = fun t i z => if t = 13 ∧ i = p ∧ j ≤ z ∧ z < 51 then x else cv ad n h t i z := by
  intro k
  induction k with
  | zero =>
    intro j h hS hp hjk F hF
    obtain ⟨F, rfl⟩ := nF1 hF
    obtain ⟨k1, k2, k3, k4⟩ := ksold hS hp
    have hj : j = 51 := by omega
    subst hj
    refine ⟨h, ?_, hS, SameS.rf h, rfl, ?_⟩
    · simp only [X2_sellFrom_L6, aN, kA201, kA202, kA203, kA206, kA306, i1n0, i0n1, i0e0, i1e1, gI, gR, pI, pB, pR, xI, xL, yI, yL, vc, kd_sFi, fr_sFi, ln_sFi, ai_sFi, al_sFi, ar_sFi, cs_sFi, sz_sFi, sz_sAi, kd_sAi, fi_sAi, fr_sAi, ln_sAi, al_sAi, ar_sAi, cs_sAi, kd_wz, fi_wz, fr_wz, ln_wz, ai_wz, al_wz, ar_wz, Option.bind_some, if_true, if_false, Nat.reduceAdd, Nat.reduceMul, reduceIte, and_self, true_and, and_true, k1, k2, k3, k4]
      exact if_pos (Int32.le_refl _)
    · funext t i z
      rw [if_neg (by omega)]
  | succ k ih =>
    intro j h hS hp hjk F hF
    obtain ⟨F, rfl⟩ := nF1 hF
    obtain ⟨k1, k2, k3, k4⟩ := ksold hS hp
    have hp2 : p < n 13 := by rw [(nSX hS).2.2.2.2.2.2.2.2.1]; exact hp
    have e1 : ¬ nI 51 ≤ nI j := nI_ge (by omega) (by omega)
    have cl : (nI j).toNatClampNeg = j := nI_cl (N := 51) (by omega) (by omega)
    have ib : inB (nI j) 51 = true := inB_nI (by omega) (by omega)
    have e2 : nI j + 1 = nI (j + 1) := nI_add j 1
    obtain ⟨h', q1, q2, q3, q4, q5⟩ := ih (j + 1) (sAi h (ad 13 p) j x) (SXA_sAi (by rw [k3]; decide) hS) hp (by omega) F (by omega)
    refine ⟨h', ?_, q2, SameS.tr ⟨rfl, rfl, rfl, rfl, rfl, rfl, rfl⟩ q3, q4, ?_⟩
    · simp only [X2_sellFrom_L6, aN, kA201, kA202, kA203, kA206, kA306, i1n0, i0n1, i0e0, i1e1, gI, gR, pI, pB, pR, xI, xL, yI, yL, vc, kd_sFi, fr_sFi, ln_sFi, ai_sFi, al_sFi, ar_sFi, cs_sFi, sz_sFi, sz_sAi, kd_sAi, fi_sAi, fr_sAi, ln_sAi, al_sAi, ar_sAi, cs_sAi, kd_wz, fi_wz, fr_wz, ln_wz, ai_wz, al_wz, ar_wz, Option.bind_some, if_true, if_false, Nat.reduceAdd, Nat.reduceMul, reduceIte, and_self, true_and, and_true, k1, k2, k3, k4, e1, cl, ib, nar_i32, e2]
      exact q1
    · rw [q5, cv_sAi hS.2.1 hp2]
      funext t i z
      simp only [up3]
      by_cases hc : t = 13 ∧ i = p ∧ j + 1 ≤ z ∧ z < 51
      · rw [if_pos hc, if_pos (by omega)]
      · rw [if_neg hc]
        by_cases hd : t = 13 ∧ i = p ∧ z = j
        · rw [if_pos hd, if_pos (by omega)]
        · rw [if_neg hd, if_neg (by omega)]
theorem e_soldIn {h : HS} {p m : Nat} (hS : SXA ax ao ad n e pO fO h) (hp : p < n 3) (hm : m < 51) : m_X2_soldIn (ad 3 p) (nI m) h = some (cv ad n h 13 p m, h) := by
  obtain ⟨k1, k2, k3, k4⟩ := ksold hS hp
  have hp2 : p < n 13 := by rw [(nSX hS).2.2.2.2.2.2.2.2.1]; exact hp
  have e0 : ¬ nI m < 0 := nI_pos (by omega)
  have e1 : ¬ nI 51 - 1 < nI m := by
    rw [nI_m1 _ _ (by omega) e0]
    exact nI_ge hm (by omega)
  have cl : (nI m).toNatClampNeg = m := nI_cl hm (by omega)
  have ib : inB (nI m) 51 = true := inB_nI hm (by omega)
  simp only [m_X2_soldIn, aN, kA201, kA202, kA203, kA206, kA306, i1n0, i0n1, i0e0, i1e1, gI, gR, pI, pB, pR, xI, xL, yI, yL, vc, kd_sFi, fr_sFi, ln_sFi, ai_sFi, al_sFi, ar_sFi, cs_sFi, sz_sFi, sz_sAi, kd_sAi, fi_sAi, fr_sAi, ln_sAi, al_sAi, ar_sAi, cs_sAi, kd_wz, fi_wz, fr_wz, ln_wz, ai_wz, al_wz, ar_wz, Option.bind_some, if_true, if_false, Nat.reduceAdd, Nat.reduceMul, reduceIte, and_self, true_and, and_true, k1, k2, k3, k4, e_within, e0, e1, cl, ib, cv_at (n := n) hp2]
theorem w_div (hw : w ≤ 200) : nI w / 4 = nI (w / 4) := nI_div (a := w) (b := 4) (by omega) (by omega) (by omega)
theorem op_sells (a b : Int32) : StI (PP ax am ao) (m_X8_sells ax a b) (m_X9_sells am a b) := by
  rintro hx hm ⟨ad, n, e, pO, fO, q, tm, tx, w, pn, nw, fs, ls, rs, rl, pr, tl, hS, hM, hN, hF, hP, hC, hB, hT, hX, hW⟩
  have hka := kax hS
  have hkm : kd hm am = 11 := hM.1
  have hn := n_le hS
  have hI := hS.2.1
  have hq : ∀ k k', q k = q k' → k = k' := hM.2.2
  have hw : w ≤ 200 := hN.1
  have f909 : fi hx 909 ax = nI w := by
    have h1 := hN.2.1
    rw [← cf_at (g := 909) (n := n) (t := 9) (by decide) (by rw [hS.1.2.2.2.2.2.1]; decide), hS.2.2.2.2.1.1] at h1
    exact h1
  have i24 : fi hm 1024 am = nI w := hN.2.2.1
  have h25 : mf am hm 25 = nI (n 2) := hN.2.2.2.1
  have h34 : mf am hm 34 = nI (n 3) := hN.2.2.2.2.1
  have h39 : mf am hm 39 = nI (n 1) := hN.2.2.2.2.2.1
  have r37 : fr hm 1037 am = some (q 37) := (hM.2.1 (37, 201, 20) (by decide)).1
  have k37 : kd hm (q 37) = 201 := (hM.2.1 (37, 201, 20) (by decide)).2.1
  have l37 : ln hm (q 37) = 20 := (hM.2.1 (37, 201, 20) (by decide)).2.2
  have r38 : fr hm 1038 am = some (q 38) := (hM.2.1 (38, 201, 1020) (by decide)).1
  have k38 : kd hm (q 38) = 201 := (hM.2.1 (38, 201, 1020) (by decide)).2.1
  have l38 : ln hm (q 38) = 1020 := (hM.2.1 (38, 201, 1020) (by decide)).2.2
  have i24' : fi (sFi (wz hm (sz hx)) 1000 am 0) 1024 am = nI w := i24
  rcases idx a (n 3) (by omega) with ⟨j, hj, rfl⟩ | ho
  · obtain ⟨kj, -⟩ := ksold hS hj
    have e1 := e_isPaper_in (hm := sFi (wz hm (sz hx)) 1000 am 0) hkm h34 (by omega) hj
    have cl : (nI j).toNatClampNeg = j := nI_cl hj (by omega)
    have ib : inB (nI j) 20 = true := inB_nI (by omega) (by omega)
    rcases idx b (w / 4 + 1) (by omega) with ⟨m, hmw, rfl⟩ | hob
    · have e2 : ¬ nI m < 0 := nI_pos (by omega)
      have e3 : ¬ nI (w / 4) < nI m := nI_nlt (by omega) (by omega)
      have e4 : nI m ≤ nI (w / 4) := nI_le (by omega) (by omega)
      have hv := (hP j hj).2.2.2 m (by omega)
      refine ⟨cv ad n hx 13 j m, hx, sFi (wz hm (sz hx)) 1000 am 0, ?_, ?_, rfl, ad, n, e, pO, fO, q, tm, tx, w, pn, nw, fs, ls, rs, rl, pr, tl, hS, hM, hN, hF, hP, hC, hB, hT, hX, hW⟩
      · simp only [m_X8_sells, m_X8_runningMonth, hka, e_paperAt_in hS hj, aN, kA201, kA202, kA203, kA206, kA306, i1n0, i0n1, i0e0, i1e1, gI, gR, pI, pB, pR, xI, xL, yI, yL, vc, kd_sFi, fr_sFi, ln_sFi, ai_sFi, al_sFi, ar_sFi, cs_sFi, sz_sFi, sz_sAi, kd_sAi, fi_sAi, fr_sAi, ln_sAi, al_sAi, ar_sAi, cs_sAi, kd_wz, fi_wz, fr_wz, ln_wz, ai_wz, al_wz, ar_wz, Option.bind_some, if_true, if_false, Nat.reduceAdd, Nat.reduceMul, reduceIte, and_self, true_and, and_true, reduceCtorEq, f909, e_within, w_div hw, e2, e3, kj, e_soldIn hS hj (show m < 51 by omega)]
      · rw [hv]
        by_cases hmm : m = w / 4
        · have e5 : nI m = nI (w / 4) := by rw [hmm]
          rw [if_neg (by omega)]
          simp only [m_X9_sells, aN, kA201, kA202, kA203, kA206, kA306, i1n0, i0n1, i0e0, i1e1, gI, gR, pI, pB, pR, xI, xL, yI, yL, vc, kd_sFi, fr_sFi, ln_sFi, ai_sFi, al_sFi, ar_sFi, cs_sFi, sz_sFi, sz_sAi, kd_sAi, fi_sAi, fr_sAi, ln_sAi, al_sAi, ar_sAi, cs_sAi, kd_wz, fi_wz, fr_wz, ln_wz, ai_wz, al_wz, ar_wz, Option.bind_some, if_true, if_false, Nat.reduceAdd, Nat.reduceMul, reduceIte, and_self, true_and, and_true, hkm, e1, e2, i24', w_div hw, e4, r37, k37, l37, ib, cl]
          rw [if_pos e5]
          rfl
        · have e5 : ¬ nI m = nI (w / 4) := fun z => hmm ((nI_eq (by omega) (by omega)).mp z)
          have e6 : (51 : Int32) * nI j + nI m = nI (51 * j + m) := by
            rw [← nI_add, ← nI_mul]; rfl
          have cl2 : (nI (51 * j + m)).toNatClampNeg = 51 * j + m := nI_cl (N := 1020) (by omega) (by omega)
          have ib2 : inB (nI (51 * j + m)) 1020 = true := inB_nI (by omega) (by omega)
          rw [if_pos (by omega)]
          simp only [m_X9_sells, aN, kA201, kA202, kA203, kA206, kA306, i1n0, i0n1, i0e0, i1e1, gI, gR, pI, pB, pR, xI, xL, yI, yL, vc, kd_sFi, fr_sFi, ln_sFi, ai_sFi, al_sFi, ar_sFi, cs_sFi, sz_sFi, sz_sAi, kd_sAi, fi_sAi, fr_sAi, ln_sAi, al_sAi, ar_sAi, cs_sAi, kd_wz, fi_wz, fr_wz, ln_wz, ai_wz, al_wz, ar_wz, Option.bind_some, if_true, if_false, Nat.reduceAdd, Nat.reduceMul, reduceIte, and_self, true_and, and_true, hkm, e1, e2, i24', w_div hw, e4, e5, r38, k38, l38, e6, ib2, cl2]
          rfl
    · refine ⟨-1, hx, sFi (wz hm (sz hx)) 1000 am 0, ?_, ?_, rfl, ad, n, e, pO, fO, q, tm, tx, w, pn, nw, fs, ls, rs, rl, pr, tl, hS, hM, hN, hF, hP, hC, hB, hT, hX, hW⟩
      · have e5 : (if b < 0 then (0 : Int32) else if nI (w / 4) < b then 0 else 1) = 0 := by
          rcases hob with h1 | ⟨h1, h2⟩
          · rw [if_pos h1]
          · rw [if_neg h1, if_pos (Int32.lt_of_lt_of_le (nI_lt (by omega) (by omega)) h2)]
        simp only [m_X8_sells, m_X8_runningMonth, hka, e_paperAt_in hS hj, aN, kA201, kA202, kA203, kA206, kA306, i1n0, i0n1, i0e0, i1e1, gI, gR, pI, pB, pR, xI, xL, yI, yL, vc, kd_sFi, fr_sFi, ln_sFi, ai_sFi, al_sFi, ar_sFi, cs_sFi, sz_sFi, sz_sAi, kd_sAi, fi_sAi, fr_sAi, ln_sAi, al_sAi, ar_sAi, cs_sAi, kd_wz, fi_wz, fr_wz, ln_wz, ai_wz, al_wz, ar_wz, Option.bind_some, if_true, if_false, Nat.reduceAdd, Nat.reduceMul, reduceIte, and_self, true_and, and_true, reduceCtorEq, f909, e_within, w_div hw, e5]
      · rcases hob with h1 | ⟨h1, h2⟩
        · simp only [m_X9_sells, aN, kA201, kA202, kA203, kA206, kA306, i1n0, i0n1, i0e0, i1e1, gI, gR, pI, pB, pR, xI, xL, yI, yL, vc, kd_sFi, fr_sFi, ln_sFi, ai_sFi, al_sFi, ar_sFi, cs_sFi, sz_sFi, sz_sAi, kd_sAi, fi_sAi, fr_sAi, ln_sAi, al_sAi, ar_sAi, cs_sAi, kd_wz, fi_wz, fr_wz, ln_wz, ai_wz, al_wz, ar_wz, Option.bind_some, if_true, if_false, Nat.reduceAdd, Nat.reduceMul, reduceIte, and_self, true_and, and_true, hkm, e1, h1]
        · have e6 : ¬ b ≤ nI (w / 4) := Int32.not_le.mpr (Int32.lt_of_lt_of_le (nI_lt (by omega) (by omega)) h2)
          simp only [m_X9_sells, aN, kA201, kA202, kA203, kA206, kA306, i1n0, i0n1, i0e0, i1e1, gI, gR, pI, pB, pR, xI, xL, yI, yL, vc, kd_sFi, fr_sFi, ln_sFi, ai_sFi, al_sFi, ar_sFi, cs_sFi, sz_sFi, sz_sAi, kd_sAi, fi_sAi, fr_sAi, ln_sAi, al_sAi, ar_sAi, cs_sAi, kd_wz, fi_wz, fr_wz, ln_wz, ai_wz, al_wz, ar_wz, Option.bind_some, if_true, if_false, Nat.reduceAdd, Nat.reduceMul, reduceIte, and_self, true_and, and_true, hkm, e1, h1, i24', w_div hw, e6]
  · refine ⟨-1, hx, sFi (wz hm (sz hx)) 1000 am 0, ?_, ?_, rfl, ad, n, e, pO, fO, q, tm, tx, w, pn, nw, fs, ls, rs, rl, pr, tl, hS, hM, hN, hF, hP, hC, hB, hT, hX, hW⟩
    · simp only [m_X8_sells, hka, e_paperAt_out hS ho, aN, kA201, kA202, kA203, kA206, kA306, i1n0, i0n1, i0e0, i1e1, gI, gR, pI, pB, pR, xI, xL, yI, yL, vc, kd_sFi, fr_sFi, ln_sFi, ai_sFi, al_sFi, ar_sFi, cs_sFi, sz_sFi, sz_sAi, kd_sAi, fi_sAi, fr_sAi, ln_sAi, al_sAi, ar_sAi, cs_sAi, kd_wz, fi_wz, fr_wz, ln_wz, ai_wz, al_wz, ar_wz, Option.bind_some, if_true, if_false, Nat.reduceAdd, Nat.reduceMul, reduceIte, and_self, true_and, and_true]
    · have := e_isPaper_out (hm := sFi (wz hm (sz hx)) 1000 am 0) hkm h34 ho
      simp only [m_X9_sells, aN, kA201, kA202, kA203, kA206, kA306, i1n0, i0n1, i0e0, i1e1, gI, gR, pI, pB, pR, xI, xL, yI, yL, vc, kd_sFi, fr_sFi, ln_sFi, ai_sFi, al_sFi, ar_sFi, cs_sFi, sz_sFi, sz_sAi, kd_sAi, fi_sAi, fr_sAi, ln_sAi, al_sAi, ar_sAi, cs_sAi, kd_wz, fi_wz, fr_wz, ln_wz, ai_wz, al_wz, ar_wz, Option.bind_some, if_true, if_false, Nat.reduceAdd, Nat.reduceMul, reduceIte, and_self, true_and, and_true, hkm, this]
theorem op_circulation (a b : Int32) : StI (PP ax am ao) (m_X8_circulation ax a b) (m_X9_circulation am a b) := by
  rintro hx hm ⟨ad, n, e, pO, fO, q, tm, tx, w, pn, nw, fs, ls, rs, rl, pr, tl, hS, hM, hN, hF, hP, hC, hB, hT, hX, hW⟩
  have hka := kax hS
  have hkm : kd hm am = 11 := hM.1
  have hn := n_le hS
  have hI := hS.2.1
  have hq : ∀ k k', q k = q k' → k = k' := hM.2.2
  have hw : w ≤ 200 := hN.1
  have f909 : fi hx 909 ax = nI w := by
    have h1 := hN.2.1
    rw [← cf_at (g := 909) (n := n) (t := 9) (by decide) (by rw [hS.1.2.2.2.2.2.1]; decide), hS.2.2.2.2.1.1] at h1
    exact h1
  have i24 : fi hm 1024 am = nI w := hN.2.2.1
  have h25 : mf am hm 25 = nI (n 2) := hN.2.2.2.1
  have h34 : mf am hm 34 = nI (n 3) := hN.2.2.2.2.1
  have h39 : mf am hm 39 = nI (n 1) := hN.2.2.2.2.2.1
  have r37 : fr hm 1037 am = some (q 37) := (hM.2.1 (37, 201, 20) (by decide)).1
  have k37 : kd hm (q 37) = 201 := (hM.2.1 (37, 201, 20) (by decide)).2.1
  have l37 : ln hm (q 37) = 20 := (hM.2.1 (37, 201, 20) (by decide)).2.2
  rcases idx a (n 3) (by omega) with ⟨j, hj, rfl⟩ | ho
  · obtain ⟨kj, -⟩ := ksold hS hj
    have cl : (nI j).toNatClampNeg = j := nI_cl hj (by omega)
    have ib : inB (nI j) 20 = true := inB_nI (by omega) (by omega)
    by_cases hb : (if b < 1 then (0 : Int32) else if 100000 < b then 0 else 1) = 0
    · have e1 := e_isPaper_in (hm := sFi (wz hm (sz hx)) 1000 am 0) hkm h34 (by omega) hj
      refine ⟨0, hx, sFi (wz hm (sz hx)) 1000 am 0, ?_, ?_, rfl, ad, n, e, pO, fO, q, tm, tx, w, pn, nw, fs, ls, rs, rl, pr, tl, hS, hM, hN, hF, hP, hC, hB, hT, hX, hW⟩
      · simp only [m_X8_circulation, hka, e_paperAt_in hS hj, e_circ, hb, aN, kA201, kA202, kA203, kA206, kA306, i1n0, i0n1, i0e0, i1e1, gI, gR, pI, pB, pR, xI, xL, yI, yL, vc, kd_sFi, fr_sFi, ln_sFi, ai_sFi, al_sFi, ar_sFi, cs_sFi, sz_sFi, sz_sAi, kd_sAi, fi_sAi, fr_sAi, ln_sAi, al_sAi, ar_sAi, cs_sAi, kd_wz, fi_wz, fr_wz, ln_wz, ai_wz, al_wz, ar_wz, Option.bind_some, if_true, if_false, Nat.reduceAdd, Nat.reduceMul, reduceIte, and_self, true_and, and_true, reduceCtorEq]
      · simp only [m_X9_circulation, aN, kA201, kA202, kA203, kA206, kA306, i1n0, i0n1, i0e0, i1e1, gI, gR, pI, pB, pR, xI, xL, yI, yL, vc, kd_sFi, fr_sFi, ln_sFi, ai_sFi, al_sFi, ar_sFi, cs_sFi, sz_sFi, sz_sAi, kd_sAi, fi_sAi, fr_sAi, ln_sAi, al_sAi, ar_sAi, cs_sAi, kd_wz, fi_wz, fr_wz, ln_wz, ai_wz, al_wz, ar_wz, Option.bind_some, if_true, if_false, Nat.reduceAdd, Nat.reduceMul, reduceIte, and_self, true_and, and_true, hkm, e1, e_within9, hb]
    · obtain ⟨h', q1, q2, q3, q4, q5⟩ := e_sell (p := j) b (51 - w / 4) (w / 4) hx hS hj (by omega) FU (by unfold FU; omega)
      have hz : sz h' = sz hx := q3.2.2.2.2.2.1
      have e1 := e_isPaper_in (hm := sFi (wz hm (sz hx)) 1000 am 0) hkm h34 (by omega) hj
      have e2 : ¬ nI (w / 4) < 0 := nI_pos (by omega)
      refine ⟨1, h', sAi (sFi (wz hm (sz hx)) 1000 am 0) (q 37) j b, ?_, ?_, hz.symm, ad, n, e, pO, fO, q, tm, tx, w, pn, nw, fs, ls, rs, rl, pr, tl, ?_⟩
      · simp only [m_X8_circulation, m_X8_runningMonth, m_X2_sellFrom, hka, e_paperAt_in hS hj, e_circ, hb, aN, kA201, kA202, kA203, kA206, kA306, i1n0, i0n1, i0e0, i1e1, gI, gR, pI, pB, pR, xI, xL, yI, yL, vc, kd_sFi, fr_sFi, ln_sFi, ai_sFi, al_sFi, ar_sFi, cs_sFi, sz_sFi, sz_sAi, kd_sAi, fi_sAi, fr_sAi, ln_sAi, al_sAi, ar_sAi, cs_sAi, kd_wz, fi_wz, fr_wz, ln_wz, ai_wz, al_wz, ar_wz, Option.bind_some, if_true, if_false, Nat.reduceAdd, Nat.reduceMul, reduceIte, and_self, true_and, and_true, reduceCtorEq, f909, w_div hw, kj, e2, q1]
      · rw [hz]
        simp only [m_X9_circulation, aN, kA201, kA202, kA203, kA206, kA306, i1n0, i0n1, i0e0, i1e1, gI, gR, pI, pB, pR, xI, xL, yI, yL, vc, kd_sFi, fr_sFi, ln_sFi, ai_sFi, al_sFi, ar_sFi, cs_sFi, sz_sFi, sz_sAi, kd_sAi, fi_sAi, fr_sAi, ln_sAi, al_sAi, ar_sAi, cs_sAi, kd_wz, fi_wz, fr_wz, ln_wz, ai_wz, al_wz, ar_wz, Option.bind_some, if_true, if_false, Nat.reduceAdd, Nat.reduceMul, reduceIte, and_self, true_and, and_true, hkm, e1, e_within9, hb, r37, k37, l37, ib, cl, nar_i32]
      · have em : mv q (sAi (sFi (wz hm (sz hx)) 1000 am 0) (q 37) j b) = up2 (mv q hm) 37 j b := mv_sAi hq
        have ec : cf ad n h' = cf ad n hx := by unfold cf; rw [q4]
        unfold PQ
        rw [ec, em, q5, q3.2.2.2.2.1, q3.2.2.1]
        refine ⟨q2, hM, hN, hF, fun i hi => ?_, hC, hB, hT, hX, hW⟩
        obtain ⟨p1, p2, p3, p4⟩ := hP i hi
        refine ⟨p1, p2, p3, fun m hm51 => ?_⟩
        have p5 := p4 m hm51
        rw [up2_va]
        show (if 13 = 13 ∧ i = j ∧ w / 4 ≤ m ∧ m < 51 then b else cv ad n hx 13 i m) = if m < w / 4 then mv q hm 38 (51 * i + m) else va_up (mv q hm 37) j b i
        by_cases hij : i = j
        · subst hij
          rw [va_up_same]
          by_cases hm4 : m < w / 4
          · rw [if_neg (by omega), if_pos hm4, p5, if_pos hm4]
          · rw [if_pos (by omega), if_neg hm4]
        · rw [va_upN _ _ hij, if_neg (by omega)]
          exact p5
  · refine ⟨0, hx, sFi (wz hm (sz hx)) 1000 am 0, ?_, ?_, rfl, ad, n, e, pO, fO, q, tm, tx, w, pn, nw, fs, ls, rs, rl, pr, tl, hS, hM, hN, hF, hP, hC, hB, hT, hX, hW⟩
    · simp only [m_X8_circulation, hka, e_paperAt_out hS ho, aN, kA201, kA202, kA203, kA206, kA306, i1n0, i0n1, i0e0, i1e1, gI, gR, pI, pB, pR, xI, xL, yI, yL, vc, kd_sFi, fr_sFi, ln_sFi, ai_sFi, al_sFi, ar_sFi, cs_sFi, sz_sFi, sz_sAi, kd_sAi, fi_sAi, fr_sAi, ln_sAi, al_sAi, ar_sAi, cs_sAi, kd_wz, fi_wz, fr_wz, ln_wz, ai_wz, al_wz, ar_wz, Option.bind_some, if_true, if_false, Nat.reduceAdd, Nat.reduceMul, reduceIte, and_self, true_and, and_true]
    · have := e_isPaper_out (hm := sFi (wz hm (sz hx)) 1000 am 0) hkm h34 ho
      simp only [m_X9_circulation, aN, kA201, kA202, kA203, kA206, kA306, i1n0, i0n1, i0e0, i1e1, gI, gR, pI, pB, pR, xI, xL, yI, yL, vc, kd_sFi, fr_sFi, ln_sFi, ai_sFi, al_sFi, ar_sFi, cs_sFi, sz_sFi, sz_sAi, kd_sAi, fi_sAi, fr_sAi, ln_sAi, al_sAi, ar_sAi, cs_sAi, kd_wz, fi_wz, fr_wz, ln_wz, ai_wz, al_wz, ar_wz, Option.bind_some, if_true, if_false, Nat.reduceAdd, Nat.reduceMul, reduceIte, and_self, true_and, and_true, hkm, this]
end PAPER
