/-! who runs -/
theorem wk1_lt {f u : Nat} {l : Option Nat} (h : u < f) : wk1 f l u = 0 := by
  unfold wk1
  exact if_neg (fun z => by have := z.1; omega)
theorem wk1_none {f u : Nat} (h : f ≤ u) : wk1 f none u = 1 := by
  unfold wk1
  exact if_pos ⟨h, fun z hz => by cases hz⟩
theorem wk1_some {f u z : Nat} (h : f ≤ u) (h2 : u ≤ z) : wk1 f (some z) u = 1 := by
  unfold wk1
  exact if_pos ⟨h, fun y hy => by cases hy; exact h2⟩
theorem wk1_over {f u z : Nat} (h2 : z < u) : wk1 f (some z) u = 0 := by
  unfold wk1
  exact if_neg (fun y => by have := y.2 z rfl; omega)
theorem wk1_or (f u : Nat) (l : Option Nat) : wk1 f l u = 0 ∨ wk1 f l u = 1 := by
  unfold wk1
  by_cases h : rn f l u
  · right; exact if_pos h
  · left; exact if_neg h
theorem wk1_iff {f u : Nat} {l : Option Nat} : wk1 f l u = 1 ↔ rn f l u := by
  unfold wk1
  by_cases h : rn f l u
  · rw [if_pos h]; simp [h]
  · rw [if_neg h]; simp [h]
section RUNS
variable {ax ao am : Nat} {ad : Nat → Nat → Nat} {n e pO fO q tm : Nat → Nat} {tx : Nat → List (Int32 × List Int32)} {w : Nat} {pn : Nat → Nat} {nw : Nat → Nat → Nat} {fs : Nat → Nat} {ls : Nat → Option Nat} {rs rl pr : Nat → Nat} {tl : Nat} {hx hm : HS}
theorem e_runs {h : HS} (hS : SXA ax ao ad n e pO fO h) {c u : Nat} (hc : c < n 1) (hu : u ≤ 1000) {F : Nat} {L : Option Nat} (h102 : cf ad n h 102 c = nI F) (h103 : cf ad n h 103 c = lsI L) (b1 : F ≤ 1000) (b2 : ∀ z, L = some z → z ≤ 1000) : m_X0_runsIn (ad 1 c) (nI u) h = some (nI (wk1 F L u), h) := by
  have kj : kd h (ad 1 c) = 2 := k0 hS hc
  have f102 : fi h 102 (ad 1 c) = nI F := by rw [cf_at (g := 102) (n := n) (t := 1) (by decide) hc]; exact h102
  have f103 : fi h 103 (ad 1 c) = lsI L := by rw [cf_at (g := 103) (n := n) (t := 1) (by decide) hc]; exact h103
  by_cases h1 : u < F
  · have e1 : nI u < nI F := nI_lt h1 (by omega)
    simp only [m_X0_runsIn, aN, kA201, kA202, kA203, kA206, kA306, i1n0, i0n1, i0e0, i1e1, gI, gR, pI, pB, pR, xI, xL, yI, yL, vc, kd_sFi, fr_sFi, ln_sFi, ai_sFi, al_sFi, ar_sFi, cs_sFi, sz_sFi, sz_sAi, kd_sAi, fi_sAi, fr_sAi, ln_sAi, al_sAi, ar_sAi, cs_sAi, kd_wz, fi_wz, fr_wz, ln_wz, ai_wz, al_wz, ar_wz, Option.bind_some, if_true, if_false, Nat.reduceAdd, Nat.reduceMul, reduceIte, and_self, true_and, and_true, kj, f102, e1, wk1_lt h1]
    rfl
  · have e1 : ¬ nI u < nI F := nI_nlt (by omega) (by omega)
    cases L with
    | none =>
      simp only [m_X0_runsIn, aN, kA201, kA202, kA203, kA206, kA306, i1n0, i0n1, i0e0, i1e1, gI, gR, pI, pB, pR, xI, xL, yI, yL, vc, kd_sFi, fr_sFi, ln_sFi, ai_sFi, al_sFi, ar_sFi, cs_sFi, sz_sFi, sz_sAi, kd_sAi, fi_sAi, fr_sAi, ln_sAi, al_sAi, ar_sAi, cs_sAi, kd_wz, fi_wz, fr_wz, ln_wz, ai_wz, al_wz, ar_wz, Option.bind_some, if_true, if_false, Nat.reduceAdd, Nat.reduceMul, reduceIte, and_self, true_and, and_true, kj, f102, f103, e1, lsI, wk1_none (show F ≤ u by omega)]
      rfl
    | some z =>
      have hz := b2 z rfl
      have e2 : ¬ nI z = -1 := nI_ne_m1 (by omega)
      by_cases h3 : z < u
      · have e3 : nI z < nI u := nI_lt h3 (by omega)
        simp only [m_X0_runsIn, aN, kA201, kA202, kA203, kA206, kA306, i1n0, i0n1, i0e0, i1e1, gI, gR, pI, pB, pR, xI, xL, yI, yL, vc, kd_sFi, fr_sFi, ln_sFi, ai_sFi, al_sFi, ar_sFi, cs_sFi, sz_sFi, sz_sAi, kd_sAi, fi_sAi, fr_sAi, ln_sAi, al_sAi, ar_sAi, cs_sAi, kd_wz, fi_wz, fr_wz, ln_wz, ai_wz, al_wz, ar_wz, Option.bind_some, if_true, if_false, Nat.reduceAdd, Nat.reduceMul, reduceIte, and_self, true_and, and_true, kj, f102, f103, e1, lsI, e2, e3, wk1_over h3]
        rfl
      · have e3 : ¬ nI z < nI u := nI_nlt (by omega) (by omega)
        simp only [m_X0_runsIn, aN, kA201, kA202, kA203, kA206, kA306, i1n0, i0n1, i0e0, i1e1, gI, gR, pI, pB, pR, xI, xL, yI, yL, vc, kd_sFi, fr_sFi, ln_sFi, ai_sFi, al_sFi, ar_sFi, cs_sFi, sz_sFi, sz_sAi, kd_sAi, fi_sAi, fr_sAi, ln_sAi, al_sAi, ar_sAi, cs_sAi, kd_wz, fi_wz, fr_wz, ln_wz, ai_wz, al_wz, ar_wz, Option.bind_some, if_true, if_false, Nat.reduceAdd, Nat.reduceMul, reduceIte, and_self, true_and, and_true, kj, f102, f103, e1, lsI, e2, e3, wk1_some (show F ≤ u by omega) (show u ≤ z by omega)]
        rfl
theorem e_runs9 {h : HS} (hM : SMA q am h) {c u : Nat} (hc : c < 60) (hu : u ≤ 1000) {F : Nat} {L : Option Nat} (h102 : mv q h 42 c = nI F) (h103 : mv q h 43 c = lsI L) (b1 : F ≤ 1000) (b2 : ∀ z, L = some z → z ≤ 1000) : m_X9_runsIn am (nI c) (nI u) h = some (nI (wk1 F L u), h) := by
  have hkm : kd h am = 11 := hM.1
  have r42 : fr h 1042 am = some (q 42) := (hM.2.1 (42, 201, 60) (by decide)).1
  have k42 : kd h (q 42) = 201 := (hM.2.1 (42, 201, 60) (by decide)).2.1
  have l42 : ln h (q 42) = 60 := (hM.2.1 (42, 201, 60) (by decide)).2.2
  have r43 : fr h 1043 am = some (q 43) := (hM.2.1 (43, 201, 60) (by decide)).1
  have k43 : kd h (q 43) = 201 := (hM.2.1 (43, 201, 60) (by decide)).2.1
  have l43 : ln h (q 43) = 60 := (hM.2.1 (43, 201, 60) (by decide)).2.2
  have f102 : ai h (q 42) c = nI F := h102
  have f103 : ai h (q 43) c = lsI L := h103
  have cl : (nI c).toNatClampNeg = c := nI_cl hc (by omega)
  have ib : inB (nI c) 60 = true := inB_nI hc (by omega)
  by_cases h1 : u < F
  · have e1 : nI u < nI F := nI_lt h1 (by omega)
    simp only [m_X9_runsIn, aN, kA201, kA202, kA203, kA206, kA306, i1n0, i0n1, i0e0, i1e1, gI, gR, pI, pB, pR, xI, xL, yI, yL, vc, kd_sFi, fr_sFi, ln_sFi, ai_sFi, al_sFi, ar_sFi, cs_sFi, sz_sFi, sz_sAi, kd_sAi, fi_sAi, fr_sAi, ln_sAi, al_sAi, ar_sAi, cs_sAi, kd_wz, fi_wz, fr_wz, ln_wz, ai_wz, al_wz, ar_wz, Option.bind_some, if_true, if_false, Nat.reduceAdd, Nat.reduceMul, reduceIte, and_self, true_and, and_true, hkm, r42, k42, l42, r43, k43, l43, cl, ib, f102, e1, wk1_lt h1]
    rfl
  · have e1 : ¬ nI u < nI F := nI_nlt (by omega) (by omega)
    cases L with
    | none =>
      simp only [m_X9_runsIn, aN, kA201, kA202, kA203, kA206, kA306, i1n0, i0n1, i0e0, i1e1, gI, gR, pI, pB, pR, xI, xL, yI, yL, vc, kd_sFi, fr_sFi, ln_sFi, ai_sFi, al_sFi, ar_sFi, cs_sFi, sz_sFi, sz_sAi, kd_sAi, fi_sAi, fr_sAi, ln_sAi, al_sAi, ar_sAi, cs_sAi, kd_wz, fi_wz, fr_wz, ln_wz, ai_wz, al_wz, ar_wz, Option.bind_some, if_true, if_false, Nat.reduceAdd, Nat.reduceMul, reduceIte, and_self, true_and, and_true, hkm, r42, k42, l42, r43, k43, l43, cl, ib, f102, f103, e1, lsI, wk1_none (show F ≤ u by omega)]
      rfl
    | some z =>
      have hz := b2 z rfl
      have e2 : ¬ nI z = -1 := nI_ne_m1 (by omega)
      by_cases h3 : z < u
      · have e3 : nI z < nI u := nI_lt h3 (by omega)
        simp only [m_X9_runsIn, aN, kA201, kA202, kA203, kA206, kA306, i1n0, i0n1, i0e0, i1e1, gI, gR, pI, pB, pR, xI, xL, yI, yL, vc, kd_sFi, fr_sFi, ln_sFi, ai_sFi, al_sFi, ar_sFi, cs_sFi, sz_sFi, sz_sAi, kd_sAi, fi_sAi, fr_sAi, ln_sAi, al_sAi, ar_sAi, cs_sAi, kd_wz, fi_wz, fr_wz, ln_wz, ai_wz, al_wz, ar_wz, Option.bind_some, if_true, if_false, Nat.reduceAdd, Nat.reduceMul, reduceIte, and_self, true_and, and_true, hkm, r42, k42, l42, r43, k43, l43, cl, ib, f102, f103, e1, lsI, e2, e3, wk1_over h3]
        rfl
      · have e3 : ¬ nI z < nI u := nI_nlt (by omega) (by omega)
        simp only [m_X9_runsIn, aN, kA201, kA202, kA203, kA206, kA306, i1n0, i0n1, i0e0, i1e1, gI, gR, pI, pB, pR, xI, xL, yI, yL, vc, kd_sFi, fr_sFi, ln_sFi, ai_sFi, al_sFi, ar_sFi, cs_sFi, sz_sFi, sz_sAi, kd_sAi, fi_sAi, fr_sAi, ln_sAi, al_sAi, ar_sAi, cs_sAi, kd_wz, fi_wz, fr_wz, ln_wz, ai_wz, al_wz, ar_wz, Option.bind_some, if_true, if_false, Nat.reduceAdd, Nat.reduceMul, reduceIte, and_self, true_and, and_true, hkm, r42, k42, l42, r43, k43, l43, cl, ib, f102, f103, e1, lsI, e2, e3, wk1_some (show F ≤ u by omega) (show u ≤ z by omega)]
        rfl
def sumF (f : Nat → Nat) : Nat → Nat → Nat
  | _, 0 => 0
  | c, k + 1 => f c + sumF f (c + 1) k
theorem sumF_le {f : Nat → Nat} (h : ∀ c, f c ≤ 1) : ∀ k c, sumF f c k ≤ k
  | 0, _ => Nat.le_refl 0
  | k + 1, c => by
    have h1 := sumF_le h k (c + 1)
    have h2 := h c
    show f c + sumF f (c + 1) k ≤ k + 1
    omega
/-- the list of contracts: its size, what lies at a place -/
theorem lcs {h : HS} (hS : SXA ax ao ad n e pO fO h) : LX ad n e (kd h) (fi h 2) (fr h 1) (ln h) (ar h) (sz h) (cs h 0) 2 1 ∧ fr h 902 ax = some (ad 0 2) ∧ kd h (ad 0 2) = 1 := ⟨hS.2.2.2.2.2.1.2.2.1, hS.2.2.2.2.1.2.2.2.2.1, kls hS (by decide)⟩
theorem lfs {h : HS} (hS : SXA ax ao ad n e pO fO h) : LX ad n e (kd h) (fi h 2) (fr h 1) (ln h) (ar h) (sz h) (cs h 0) 0 2 ∧ fr h 900 ax = some (ad 0 0) ∧ kd h (ad 0 0) = 1 := ⟨hS.2.2.2.2.2.1.1, hS.2.2.2.2.1.2.2.1, kls hS (by decide)⟩
theorem lps {h : HS} (hS : SXA ax ao ad n e pO fO h) : LX ad n e (kd h) (fi h 2) (fr h 1) (ln h) (ar h) (sz h) (cs h 0) 1 3 ∧ fr h 901 ax = some (ad 0 1) ∧ kd h (ad 0 1) = 1 := ⟨hS.2.2.2.2.2.1.2.1, hS.2.2.2.2.1.2.2.2.1, kls hS (by decide)⟩
/-- what of a contract the runs need -/
def RnC (n : Nat → Nat) (fs : Nat → Nat) (ls : Nat → Option Nat) (f102 f103 : Nat → Int32) : Prop := ∀ c, c < n 1 → f102 c = nI (fs c) ∧ f103 c = lsI (ls c) ∧ fs c ≤ 1000 ∧ ∀ z, ls c = some z → z ≤ 1000
theorem e_running {h : HS} (hS : SXA ax ao ad n e pO fO h) (hR : RnC n fs ls (cf ad n h 102) (cf ad n h 103)) (hw : w ≤ 200) (h909 : fi h 909 ax = nI w) : ∀ (k c acc : Nat), c + k = n 1 → ∀ F, k < F → X8_runningContracts_L4 ax F (nI acc) (nI c) h = some (nI (acc + sumF (fun c => wk1 (fs c) (ls c) (w + 1)) c k), h) := by
  have hn := n_le hS
  have hka := kax hS
  obtain ⟨hL, hr, hk⟩ := lcs hS
  have e6 : nI w + 1 = nI (w + 1) := nI_add w 1
  intro k
  induction k with
  | zero =>
    intro c acc hck F hF
    obtain ⟨F, rfl⟩ := nF1 hF
    have e1 : nI (n 1) ≤ nI c := by rw [← hck]; exact Int32.le_refl _
    simp only [X8_runningContracts_L4, aN, kA201, kA202, kA203, kA206, kA306, i1n0, i0n1, i0e0, i1e1, gI, gR, pI, pB, pR, xI, xL, yI, yL, vc, kd_sFi, fr_sFi, ln_sFi, ai_sFi, al_sFi, ar_sFi, cs_sFi, sz_sFi, sz_sAi, kd_sAi, fi_sAi, fr_sAi, ln_sAi, al_sAi, ar_sAi, cs_sAi, kd_wz, fi_wz, fr_wz, ln_wz, ai_wz, al_wz, ar_wz, Option.bind_some, if_true, if_false, Nat.reduceAdd, Nat.reduceMul, reduceIte, and_self, true_and, and_true, hka, hr, hk, Nat.zero_add, e_size hk hL, e1, sumF, Nat.add_zero]
  | succ k ih =>
    intro c acc hck F hF
    obtain ⟨F, rfl⟩ := nF1 hF
    have hc : c < n 1 := by omega
    have e1 : ¬ nI (n 1) ≤ nI c := nI_ge hc (by omega)
    have kj : kd h (ad 1 c) = 2 := k0 hS hc
    obtain ⟨r1, r2, r3, r4⟩ := hR c hc
    have e2 := e_runs hS hc (u := w + 1) (by omega) r1 r2 r3 r4
    have e7 : nI c + 1 = nI (c + 1) := nI_add c 1
    have e8 : nI acc + 1 = nI (acc + 1) := nI_add acc 1
    have e9 : sumF (fun c => wk1 (fs c) (ls c) (w + 1)) c (k + 1) = wk1 (fs c) (ls c) (w + 1) + sumF (fun c => wk1 (fs c) (ls c) (w + 1)) (c + 1) k := rfl
    rcases wk1_or (fs c) (w + 1) (ls c) with h0 | h0
    · rw [h0] at e2 e9
      have := ih (c + 1) acc (by omega) F (by omega)
      simp only [X8_runningContracts_L4, X8_runningContracts_b41, aN, kA201, kA202, kA203, kA206, kA306, i1n0, i0n1, i0e0, i1e1, gI, gR, pI, pB, pR, xI, xL, yI, yL, vc, kd_sFi, fr_sFi, ln_sFi, ai_sFi, al_sFi, ar_sFi, cs_sFi, sz_sFi, sz_sAi, kd_sAi, fi_sAi, fr_sAi, ln_sAi, al_sAi, ar_sAi, cs_sAi, kd_wz, fi_wz, fr_wz, ln_wz, ai_wz, al_wz, ar_wz, Option.bind_some, if_true, if_false, Nat.reduceAdd, Nat.reduceMul, reduceIte, and_self, true_and, and_true, hka, hr, hk, Nat.zero_add, e_size hk hL, e1, e_get hk hL (by omega) hc, cst, isO, kj, beq_self_eq_true, or_true, h909, e6, e2, show (nI 0 = 0) = True from eq_true rfl, e7, this, e9]
    · rw [h0] at e2 e9
      have := ih (c + 1) (acc + 1) (by omega) F (by omega)
      simp only [X8_runningContracts_L4, X8_runningContracts_b41, aN, kA201, kA202, kA203, kA206, kA306, i1n0, i0n1, i0e0, i1e1, gI, gR, pI, pB, pR, xI, xL, yI, yL, vc, kd_sFi, fr_sFi, ln_sFi, ai_sFi, al_sFi, ar_sFi, cs_sFi, sz_sFi, sz_sAi, kd_sAi, fi_sAi, fr_sAi, ln_sAi, al_sAi, ar_sAi, cs_sAi, kd_wz, fi_wz, fr_wz, ln_wz, ai_wz, al_wz, ar_wz, Option.bind_some, if_true, if_false, Nat.reduceAdd, Nat.reduceMul, reduceIte, and_self, true_and, and_true, hka, hr, hk, Nat.zero_add, e_size hk hL, e1, e_get hk hL (by omega) hc, cst, isO, kj, beq_self_eq_true, or_true, h909, e6, e2, show (nI 1 = 0) = False from eq_false (by decide), e7, e8, this, e9, Nat.add_assoc]
end RUNS
