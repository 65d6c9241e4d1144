/-! the run of a contract -/
section RUN
variable {ax ao am : Nat} {ad : Nat → Nat → Nat} {n e pO fO q tm : Nat → Nat} {tx : Nat → List (Int32 × List Int32)} {w : Nat} {pn : Nat → Nat} {nw : Nat → Nat → Nat} {fs : Nat → Nat} {ls : Nat → Option Nat} {rs rl pr : Nat → Nat} {tl : Nat} {hx hm : HS}
theorem kthere {h : HS} (hS : SXA ax ao ad n e pO fO h) {c : Nat} (hc : c < n 1) : kd h (ad 1 c) = 2 ∧ fr h 109 (ad 1 c) = some (ad 11 c) ∧ kd h (ad 11 c) = 202 ∧ ln h (ad 11 c) = 200 ∧ c < n 11 ∧ fr h 110 (ad 1 c) = some (ad 14 c) ∧ kd h (ad 14 c) = 201 ∧ ln h (ad 14 c) = 50 ∧ c < n 14 := by
  have h1 := nSX hS
  have h11 : c < n 11 := by rw [h1.2.2.2.2.2.2.1]; exact hc
  have h14 : c < n 14 := by rw [h1.2.2.2.2.2.2.2.2.2.1]; exact hc
  have h2 := crf hS hc
  exact ⟨k0 hS hc, h2.1, k0 hS h11, hS.2.2.2.1 11 c h11 (by decide) (by decide), h11, h2.2.1, k0 hS h14, hS.2.2.2.1 14 c h14 (by decide) (by decide), h14⟩
theorem e_isThere {h : HS} (hS : SXA ax ao ad n e pO fO h) {c i R : Nat} (hc : c < n 1) (h106 : cf ad n h 106 c = nI R) (hR : R ≤ 200) (hi : i ≤ 1000) : m_X0_isThere (ad 1 c) (nI i) h = some (if i < R ∧ cv ad n h 11 c i ≠ 0 then 1 else 0, h) := by
  obtain ⟨k1, k2, k3, k4, k5, -⟩ := kthere hS hc
  have f106 : fi h 106 (ad 1 c) = nI R := by rw [cf_at (g := 106) (n := n) (t := 1) (by decide) hc]; exact h106
  have e0 : ¬ nI i < 0 := nI_pos (by omega)
  by_cases hiR : i < R
  · have e1 : ¬ nI R ≤ nI i := nI_ge hiR (by omega)
    have e2 : ¬ nI 200 ≤ nI i := nI_ge (by omega) (by omega)
    have cl : (nI i).toNatClampNeg = i := nI_cl (N := 200) (by omega) (by omega)
    have ib : inB (nI i) 200 = true := inB_nI (by omega) (by omega)
    by_cases hv : cv ad n h 11 c i = 0
    · simp only [m_X0_isThere, aN, kA201, kA202, kA203, kA206, kA306, i1n0, i0n1, i0e0, i1e1, gI, gR, pI, pB, pR, xI, xL, yI, yL, vc, kd_sFi, fr_sFi, ln_sFi, ai_sFi, al_sFi, ar_sFi, cs_sFi, sz_sFi, sz_sAi, kd_sAi, fi_sAi, fr_sAi, ln_sAi, al_sAi, ar_sAi, cs_sAi, kd_wz, fi_wz, fr_wz, ln_wz, ai_wz, al_wz, ar_wz, Option.bind_some, if_true, if_false, Nat.reduceAdd, Nat.reduceMul, reduceIte, and_self, true_and, and_true, k1, k2, k3, k4, f106, e0, e1, e2, cl, ib, cv_at (n := n) k5, hv, hiR, ne_eq, not_true_eq_false, and_false]
    · simp only [m_X0_isThere, aN, kA201, kA202, kA203, kA206, kA306, i1n0, i0n1, i0e0, i1e1, gI, gR, pI, pB, pR, xI, xL, yI, yL, vc, kd_sFi, fr_sFi, ln_sFi, ai_sFi, al_sFi, ar_sFi, cs_sFi, sz_sFi, sz_sAi, kd_sAi, fi_sAi, fr_sAi, ln_sAi, al_sAi, ar_sAi, cs_sAi, kd_wz, fi_wz, fr_wz, ln_wz, ai_wz, al_wz, ar_wz, Option.bind_some, if_true, if_false, Nat.reduceAdd, Nat.reduceMul, reduceIte, and_self, true_and, and_true, k1, k2, k3, k4, f106, e0, e1, e2, cl, ib, cv_at (n := n) k5, hv, hiR, ne_eq, not_false_eq_true]
  · have e1 : nI R ≤ nI i := nI_le (by omega) (by omega)
    simp only [m_X0_isThere, aN, kA201, kA202, kA203, kA206, kA306, i1n0, i0n1, i0e0, i1e1, gI, gR, pI, pB, pR, xI, xL, yI, yL, vc, kd_sFi, fr_sFi, ln_sFi, ai_sFi, al_sFi, ar_sFi, cs_sFi, sz_sFi, sz_sAi, kd_sAi, fi_sAi, fr_sAi, ln_sAi, al_sAi, ar_sAi, cs_sAi, kd_wz, fi_wz, fr_wz, ln_wz, ai_wz, al_wz, ar_wz, Option.bind_some, if_true, if_false, Nat.reduceAdd, Nat.reduceMul, reduceIte, and_self, true_and, and_true, k1, f106, e0, e1, hiR, false_and]
theorem e_send {h : HS} (hS : SXA ax ao ad n e pO fO h) {c R : Nat} (hc : c < n 1) (h106 : cf ad n h 106 c = nI R) (hR : R ≤ 200) : ∀ (k i : Nat), i + k = R → ∀ F, k < F →
    (∃ i0, i ≤ i0 ∧ i0 < R ∧ cv ad n h 11 c i0 = 0 ∧ (∀ j, i ≤ j → j < i0 → cv ad n h 11 c j ≠ 0) ∧ X0_sendAgain_L9 (ad 1 c) F (nI i) h = some (cf ad n h 105 c + nI i0, sAi h (ad 11 c) i0 1)) ∨
    ((∀ j, i ≤ j → j < R → cv ad n h 11 c j ≠ 0) ∧ X0_sendAgain_L9 (ad 1 c) F (nI i) h = some (-1, h)) := by
  obtain ⟨k1, k2, k3, k4, k5, -⟩ := kthere hS hc
  have f106 : fi h 106 (ad 1 c) = nI R := by rw [cf_at (g := 106) (n := n) (t := 1) (by decide) hc]; exact h106
  have f105 : fi h 105 (ad 1 c) = cf ad n h 105 c := cf_at (g := 105) (n := n) (t := 1) (by decide) hc
  intro k
  induction k with
  | zero =>
    intro i hik F hF
    obtain ⟨F, rfl⟩ := nF1 hF
    refine Or.inr ⟨fun j h1 h2 => by omega, ?_⟩
    have e1 : nI R ≤ nI i := nI_le (by omega) (by omega)
    simp only [X0_sendAgain_L9, aN, kA201, kA202, kA203, kA206, kA306, i1n0, i0n1, i0e0, i1e1, gI, gR, pI, pB, pR, xI, xL, yI, yL, vc, kd_sFi, fr_sFi, ln_sFi, ai_sFi, al_sFi, ar_sFi, cs_sFi, sz_sFi, sz_sAi, kd_sAi, fi_sAi, fr_sAi, ln_sAi, al_sAi, ar_sAi, cs_sAi, kd_wz, fi_wz, fr_wz, ln_wz, ai_wz, al_wz, ar_wz, Option.bind_some, if_true, if_false, Nat.reduceAdd, Nat.reduceMul, reduceIte, and_self, true_and, and_true, k1, f106, e1]
  | succ k ih =>
    intro i hik F hF
    obtain ⟨F, rfl⟩ := nF1 hF
    have e1 : ¬ nI R ≤ nI i := nI_ge (by omega) (by omega)
    have e2 : ¬ nI 200 ≤ nI i := nI_ge (by omega) (by omega)
    have cl : (nI i).toNatClampNeg = i := nI_cl (N := 200) (by omega) (by omega)
    have ib : inB (nI i) 200 = true := inB_nI (by omega) (by omega)
    have e7 : nI i + 1 = nI (i + 1) := nI_add i 1
    by_cases hv : cv ad n h 11 c i = 0
    · refine Or.inl ⟨i, Nat.le_refl _, by omega, hv, fun j h1 h2 => by omega, ?_⟩
      simp only [X0_sendAgain_L9, aN, kA201, kA202, kA203, kA206, kA306, i1n0, i0n1, i0e0, i1e1, gI, gR, pI, pB, pR, xI, xL, yI, yL, vc, kd_sFi, fr_sFi, ln_sFi, ai_sFi, al_sFi, ar_sFi, cs_sFi, sz_sFi, sz_sAi, kd_sAi, fi_sAi, fr_sAi, ln_sAi, al_sAi, ar_sAi, cs_sAi, kd_wz, fi_wz, fr_wz, ln_wz, ai_wz, al_wz, ar_wz, Option.bind_some, if_true, if_false, Nat.reduceAdd, Nat.reduceMul, reduceIte, and_self, true_and, and_true, k1, k2, k3, k4, f106, e1, e2, cl, ib, cv_at (n := n) k5, hv, nar_z (Or.inr rfl), f105]
    · have estep : X0_sendAgain_L9 (ad 1 c) (F + 1) (nI i) h = X0_sendAgain_L9 (ad 1 c) F (nI (i + 1)) h := by
        conv => lhs; unfold X0_sendAgain_L9
        simp only [aN, kA201, kA202, kA203, kA206, kA306, i1n0, i0n1, i0e0, i1e1, gI, gR, pI, pB, pR, xI, xL, yI, yL, vc, kd_sFi, fr_sFi, ln_sFi, ai_sFi, al_sFi, ar_sFi, cs_sFi, sz_sFi, sz_sAi, kd_sAi, fi_sAi, fr_sAi, ln_sAi, al_sAi, ar_sAi, cs_sAi, kd_wz, fi_wz, fr_wz, ln_wz, ai_wz, al_wz, ar_wz, Option.bind_some, if_true, if_false, Nat.reduceAdd, Nat.reduceMul, reduceIte, and_self, true_and, and_true, k1, k2, k3, k4, f106, e1, e2, cl, ib, cv_at (n := n) k5, hv, e7]
      rw [estep]
      rcases ih (i + 1) (by omega) F (by omega) with ⟨i0, a1, a2, a3, a4, a5⟩ | ⟨a1, a2⟩
      · refine Or.inl ⟨i0, by omega, a2, a3, fun j h1 h2 => ?_, a5⟩
        by_cases hji : j = i
        · subst hji; exact hv
        · exact a4 j (by omega) h2
      · refine Or.inr ⟨fun j h1 h2 => ?_, a2⟩
        by_cases hji : j = i
        · subst hji; exact hv
        · exact a1 j (by omega) h2
theorem e_missing {h : HS} (hS : SXA ax ao ad n e pO fO h) {c R : Nat} (hc : c < n 1) (h106 : cf ad n h 106 c = nI R) (hR : R ≤ 200) : ∀ (k i acc : Nat), i + k = R → ∀ F, k < F → X0_missing_L7 (ad 1 c) F (nI acc) (nI i) h = some (nI (acc + sumF (fun i => if cv ad n h 11 c i = 0 then 1 else 0) i k), h) := by
  obtain ⟨k1, k2, k3, k4, k5, -⟩ := kthere hS hc
  have f106 : fi h 106 (ad 1 c) = nI R := by rw [cf_at (g := 106) (n := n) (t := 1) (by decide) hc]; exact h106
  intro k
  induction k with
  | zero =>
    intro i acc hik F hF
    obtain ⟨F, rfl⟩ := nF1 hF
    have e1 : nI R ≤ nI i := nI_le (by omega) (by omega)
    simp only [X0_missing_L7, aN, kA201, kA202, kA203, kA206, kA306, i1n0, i0n1, i0e0, i1e1, gI, gR, pI, pB, pR, xI, xL, yI, yL, vc, kd_sFi, fr_sFi, ln_sFi, ai_sFi, al_sFi, ar_sFi, cs_sFi, sz_sFi, sz_sAi, kd_sAi, fi_sAi, fr_sAi, ln_sAi, al_sAi, ar_sAi, cs_sAi, kd_wz, fi_wz, fr_wz, ln_wz, ai_wz, al_wz, ar_wz, Option.bind_some, if_true, if_false, Nat.reduceAdd, Nat.reduceMul, reduceIte, and_self, true_and, and_true, k1, f106, e1, sumF, Nat.add_zero]
  | succ k ih =>
    intro i acc hik F hF
    obtain ⟨F, rfl⟩ := nF1 hF
    have e1 : ¬ nI R ≤ nI i := nI_ge (by omega) (by omega)
    have e7 : nI i + 1 = nI (i + 1) := nI_add i 1
    have e8 : nI acc + 1 = nI (acc + 1) := nI_add acc 1
    have e9 : sumF (fun i => if cv ad n h 11 c i = 0 then 1 else 0) i (k + 1) = (if cv ad n h 11 c i = 0 then 1 else 0) + sumF (fun i => if cv ad n h 11 c i = 0 then 1 else 0) (i + 1) k := rfl
    have e3 := e_isThere hS hc h106 hR (i := i) (by omega)
    by_cases hv : cv ad n h 11 c i = 0
    · rw [if_neg (fun z => z.2 hv)] at e3
      rw [if_pos hv] at e9
      have := ih (i + 1) (acc + 1) (by omega) F (by omega)
      rw [e9, ← Nat.add_assoc, ← this]
      conv => lhs; unfold X0_missing_L7
      simp only [X0_missing_b26, aN, kA201, kA202, kA203, kA206, kA306, i1n0, i0n1, i0e0, i1e1, gI, gR, pI, pB, pR, xI, xL, yI, yL, vc, kd_sFi, fr_sFi, ln_sFi, ai_sFi, al_sFi, ar_sFi, cs_sFi, sz_sFi, sz_sAi, kd_sAi, fi_sAi, fr_sAi, ln_sAi, al_sAi, ar_sAi, cs_sAi, kd_wz, fi_wz, fr_wz, ln_wz, ai_wz, al_wz, ar_wz, Option.bind_some, if_true, if_false, Nat.reduceAdd, Nat.reduceMul, reduceIte, and_self, true_and, and_true, k1, f106, e1, e3, e7, e8]
    · rw [if_pos ⟨by omega, hv⟩] at e3
      rw [if_neg hv] at e9
      have := ih (i + 1) acc (by omega) F (by omega)
      rw [e9, Nat.zero_add, ← this]
      conv => lhs; unfold X0_missing_L7
      simp only [X0_missing_b26, aN, kA201, kA202, kA203, kA206, kA306, i1n0, i0n1, i0e0, i1e1, gI, gR, pI, pB, pR, xI, xL, yI, yL, vc, kd_sFi, fr_sFi, ln_sFi, ai_sFi, al_sFi, ar_sFi, cs_sFi, sz_sFi, sz_sAi, kd_sAi, fi_sAi, fr_sAi, ln_sAi, al_sAi, ar_sAi, cs_sAi, kd_wz, fi_wz, fr_wz, ln_wz, ai_wz, al_wz, ar_wz, Option.bind_some, if_true, if_false, Nat.reduceAdd, Nat.reduceMul, reduceIte, and_self, true_and, and_true, k1, f106, e1, e3, e7]
/-- what of the reference the run of the contract c needs -/
def RnM (q : Nat → Nat) (h : HS) (c f N fsc : Nat) (lsc : Option Nat) (nwf : Nat → Nat) : Prop := c < 60 ∧ f < 10 ∧ N ≤ 200 ∧ mv q h 41 c = nI f ∧ mv q h 31 f = nI N ∧ (∀ k, 1 ≤ k → k ≤ N → mv q h 32 (202 * f + k) = nI (nwf k) ∧ nwf k ≤ 1000) ∧ mv q h 42 c = nI fsc ∧ mv q h 43 c = lsI lsc ∧ fsc ≤ 1000 ∧ ∀ z, lsc = some z → z ≤ 1000
theorem e_ofRun {h : HS} (hM : SMA q am h) {c f N fsc k : Nat} {lsc : Option Nat} {nwf : Nat → Nat} (hR : RnM q h c f N fsc lsc nwf) (h1 : 1 ≤ k) (h2 : k ≤ N) : m_X9_isOfRun am (nI c) (nI k) h = some (nI (wk1 fsc lsc (nwf k)), h) := by
  have hkm : kd h am = 11 := hM.1
  have r32 : fr h 1032 am = some (q 32) := (hM.2.1 (32, 201, 2020) (by decide)).1
  have k32 : kd h (q 32) = 201 := (hM.2.1 (32, 201, 2020) (by decide)).2.1
  have l32 : ln h (q 32) = 2020 := (hM.2.1 (32, 201, 2020) (by decide)).2.2
  have r41 : fr h 1041 am = some (q 41) := (hM.2.1 (41, 201, 60) (by decide)).1
  have k41 : kd h (q 41) = 201 := (hM.2.1 (41, 201, 60) (by decide)).2.1
  have l41 : ln h (q 41) = 60 := (hM.2.1 (41, 201, 60) (by decide)).2.2
  obtain ⟨r1, r2, r3, r4, r5, r6, r7, r8, r9, r10⟩ := hR
  have cl : (nI c).toNatClampNeg = c := nI_cl r1 (by omega)
  have ib : inB (nI c) 60 = true := inB_nI r1 (by omega)
  have m41 : ai h (q 41) c = nI f := r4
  have e6 : (202 : Int32) * nI f + nI k = nI (202 * f + k) := by rw [← nI_add, ← nI_mul]; rfl
  have cl2 : (nI (202 * f + k)).toNatClampNeg = 202 * f + k := nI_cl (N := 2020) (by omega) (by omega)
  have ib2 : inB (nI (202 * f + k)) 2020 = true := inB_nI (by omega) (by omega)
  have m32 : ai h (q 32) (202 * f + k) = nI (nwf k) := (r6 k h1 h2).1
  have e7 := e_runs9 hM r1 (r6 k h1 h2).2 r7 r8 r9 r10
  have e8 : nI (wk1 fsc lsc (nwf k)) = 0 ∨ nI (wk1 fsc lsc (nwf k)) = 1 := by
    rcases wk1_or fsc (nwf k) lsc with z | z
    · rw [z]; exact Or.inl rfl
    · rw [z]; exact Or.inr rfl
  simp only [m_X9_isOfRun, aN, kA201, kA202, kA203, kA206, kA306, i1n0, i0n1, i0e0, i1e1, gI, gR, pI, pB, pR, xI, xL, yI, yL, vc, kd_sFi, fr_sFi, ln_sFi, ai_sFi, al_sFi, ar_sFi, cs_sFi, sz_sFi, sz_sAi, kd_sAi, fi_sAi, fr_sAi, ln_sAi, al_sAi, ar_sAi, cs_sAi, kd_wz, fi_wz, fr_wz, ln_wz, ai_wz, al_wz, ar_wz, Option.bind_some, if_true, if_false, Nat.reduceAdd, Nat.reduceMul, reduceIte, and_self, true_and, and_true, hkm, r32, k32, l32, r41, k41, l41, cl, ib, m41, e6, cl2, ib2, m32, e7, e8]
theorem e_missing9 {h : HS} (hM : SMA q am h) {c f N fsc : Nat} {lsc : Option Nat} {nwf : Nat → Nat} (hR : RnM q h c f N fsc lsc nwf) : ∀ (m k : Nat), k + m = N + 1 → 1 ≤ k → ∀ F, m < F →
    (∃ k0, k ≤ k0 ∧ k0 ≤ N ∧ rn fsc lsc (nwf k0) ∧ mv q h 47 (202 * c + k0) = 0 ∧ (∀ j, k ≤ j → j < k0 → ¬ (rn fsc lsc (nwf j) ∧ mv q h 47 (202 * c + j) = 0)) ∧ X9_missing_L2 am F (nI c) (nI k) h = some (nI k0, h)) ∨
    ((∀ j, k ≤ j → j ≤ N → ¬ (rn fsc lsc (nwf j) ∧ mv q h 47 (202 * c + j) = 0)) ∧ X9_missing_L2 am F (nI c) (nI k) h = some (-1, h)) := by
  have hkm : kd h am = 11 := hM.1
  have r31 : fr h 1031 am = some (q 31) := (hM.2.1 (31, 201, 10) (by decide)).1
  have k31 : kd h (q 31) = 201 := (hM.2.1 (31, 201, 10) (by decide)).2.1
  have l31 : ln h (q 31) = 10 := (hM.2.1 (31, 201, 10) (by decide)).2.2
  have r41 : fr h 1041 am = some (q 41) := (hM.2.1 (41, 201, 60) (by decide)).1
  have k41 : kd h (q 41) = 201 := (hM.2.1 (41, 201, 60) (by decide)).2.1
  have l41 : ln h (q 41) = 60 := (hM.2.1 (41, 201, 60) (by decide)).2.2
  have r47 : fr h 1047 am = some (q 47) := (hM.2.1 (47, 202, 12120) (by decide)).1
  have k47 : kd h (q 47) = 202 := (hM.2.1 (47, 202, 12120) (by decide)).2.1
  have l47 : ln h (q 47) = 12120 := (hM.2.1 (47, 202, 12120) (by decide)).2.2
  obtain ⟨r1, r2, r3, r4, r5, r6, r7, r8, r9, r10⟩ := id hR
  have cl : (nI c).toNatClampNeg = c := nI_cl r1 (by omega)
  have ib : inB (nI c) 60 = true := inB_nI r1 (by omega)
  have clf : (nI f).toNatClampNeg = f := nI_cl r2 (by omega)
  have ibf : inB (nI f) 10 = true := inB_nI r2 (by omega)
  have m41 : ai h (q 41) c = nI f := r4
  have m31 : ai h (q 31) f = nI N := r5
  intro m
  induction m with
  | zero =>
    intro k hk h1 F hF
    obtain ⟨F, rfl⟩ := nF1 hF
    refine Or.inr ⟨fun j h1 h2 => by omega, ?_⟩
    have e1 : nI N < nI k := nI_lt (by omega) (by omega)
    simp only [X9_missing_L2, aN, kA201, kA202, kA203, kA206, kA306, i1n0, i0n1, i0e0, i1e1, gI, gR, pI, pB, pR, xI, xL, yI, yL, vc, kd_sFi, fr_sFi, ln_sFi, ai_sFi, al_sFi, ar_sFi, cs_sFi, sz_sFi, sz_sAi, kd_sAi, fi_sAi, fr_sAi, ln_sAi, al_sAi, ar_sAi, cs_sAi, kd_wz, fi_wz, fr_wz, ln_wz, ai_wz, al_wz, ar_wz, Option.bind_some, if_true, if_false, Nat.reduceAdd, Nat.reduceMul, reduceIte, and_self, true_and, and_true, hkm, r31, k31, l31, r41, k41, l41, cl, ib, clf, ibf, m41, m31, e1]
  | succ m ih =>
    intro k hk h1 F hF
    obtain ⟨F, rfl⟩ := nF1 hF
    have e1 : ¬ nI N < nI k := nI_nlt (by omega) (by omega)
    have e2 := e_ofRun hM hR h1 (show k ≤ N by omega)
    have e7 : nI k + 1 = nI (k + 1) := nI_add k 1
    have e6 : (202 : Int32) * nI c + nI k = nI (202 * c + k) := by rw [← nI_add, ← nI_mul]; rfl
    have cl2 : (nI (202 * c + k)).toNatClampNeg = 202 * c + k := nI_cl (N := 12120) (by omega) (by omega)
    have ib2 : inB (nI (202 * c + k)) 12120 = true := inB_nI (by omega) (by omega)
    have next : (¬ (rn fsc lsc (nwf k) ∧ mv q h 47 (202 * c + k) = 0)) → X9_missing_L2 am (F + 1) (nI c) (nI k) h = X9_missing_L2 am F (nI c) (nI (k + 1)) h := by
      intro hno
      conv => lhs; unfold X9_missing_L2
      rcases wk1_or fsc (nwf k) lsc with z | z
      · rw [z] at e2
        simp only [X9_missing_b43, aN, kA201, kA202, kA203, kA206, kA306, i1n0, i0n1, i0e0, i1e1, gI, gR, pI, pB, pR, xI, xL, yI, yL, vc, kd_sFi, fr_sFi, ln_sFi, ai_sFi, al_sFi, ar_sFi, cs_sFi, sz_sFi, sz_sAi, kd_sAi, fi_sAi, fr_sAi, ln_sAi, al_sAi, ar_sAi, cs_sAi, kd_wz, fi_wz, fr_wz, ln_wz, ai_wz, al_wz, ar_wz, Option.bind_some, if_true, if_false, Nat.reduceAdd, Nat.reduceMul, reduceIte, and_self, true_and, and_true, hkm, r31, k31, l31, r41, k41, l41, cl, ib, clf, ibf, m41, m31, e1, e2, show (nI 0 = 0) = True from eq_true rfl, e7]
      · rw [z] at e2
        have h47 : ¬ ai h (q 47) (202 * c + k) = 0 := fun y => hno ⟨wk1_iff.mp z, y⟩
        simp only [X9_missing_b43, aN, kA201, kA202, kA203, kA206, kA306, i1n0, i0n1, i0e0, i1e1, gI, gR, pI, pB, pR, xI, xL, yI, yL, vc, kd_sFi, fr_sFi, ln_sFi, ai_sFi, al_sFi, ar_sFi, cs_sFi, sz_sFi, sz_sAi, kd_sAi, fi_sAi, fr_sAi, ln_sAi, al_sAi, ar_sAi, cs_sAi, kd_wz, fi_wz, fr_wz, ln_wz, ai_wz, al_wz, ar_wz, Option.bind_some, if_true, if_false, Nat.reduceAdd, Nat.reduceMul, reduceIte, and_self, true_and, and_true, hkm, r31, k31, l31, r41, k41, l41, r47, k47, l47, cl, ib, clf, ibf, m41, m31, e1, e2, show (nI 1 = 0) = False from eq_false (by decide), e6, cl2, ib2, h47, e7]
    by_cases hg : rn fsc lsc (nwf k) ∧ mv q h 47 (202 * c + k) = 0
    · refine Or.inl ⟨k, Nat.le_refl _, by omega, hg.1, hg.2, fun j h1 h2 => by omega, ?_⟩
      rw [wk1_iff.mpr hg.1] at e2
      have h47 : ai h (q 47) (202 * c + k) = 0 := hg.2
      simp only [X9_missing_L2, aN, kA201, kA202, kA203, kA206, kA306, i1n0, i0n1, i0e0, i1e1, gI, gR, pI, pB, pR, xI, xL, yI, yL, vc, kd_sFi, fr_sFi, ln_sFi, ai_sFi, al_sFi, ar_sFi, cs_sFi, sz_sFi, sz_sAi, kd_sAi, fi_sAi, fr_sAi, ln_sAi, al_sAi, ar_sAi, cs_sAi, kd_wz, fi_wz, fr_wz, ln_wz, ai_wz, al_wz, ar_wz, Option.bind_some, if_true, if_false, Nat.reduceAdd, Nat.reduceMul, reduceIte, and_self, true_and, and_true, hkm, r31, k31, l31, r41, k41, l41, r47, k47, l47, cl, ib, clf, ibf, m41, m31, e1, e2, show (nI 1 = 0) = False from eq_false (by decide), e6, cl2, ib2, h47]
    · rw [next hg]
      rcases ih (k + 1) (by omega) (by omega) F (by omega) with ⟨k0, a1, a2, a3, a4, a5, a6⟩ | ⟨a1, a2⟩
      · refine Or.inl ⟨k0, by omega, a2, a3, a4, fun j h1 h2 => ?_, a6⟩
        by_cases hj : j = k
        · subst hj; exact hg
        · exact a5 j (by omega) h2
      · refine Or.inr ⟨fun j h1 h2 => ?_, a2⟩
        by_cases hj : j = k
        · subst hj; exact hg
        · exact a1 j (by omega) h2
end RUN
