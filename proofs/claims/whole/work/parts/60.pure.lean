/-! may a paper sign -/
theorem gp_congr {p q : Prop} (h : p ↔ q) : gp p = gp q := by rw [propext h]
theorem gp_yes {A : Nat → Prop} {c N : Nat} (hc : c < N) (hA : A c) : gp (∃ c', c ≤ c' ∧ c' < N ∧ A c') = 1 := gp_pos ⟨c, Nat.le_refl _, hc, hA⟩
theorem gp_next {A : Nat → Prop} {c N : Nat} (hA : ¬ A c) : gp (∃ c', c ≤ c' ∧ c' < N ∧ A c') = gp (∃ c', c + 1 ≤ c' ∧ c' < N ∧ A c') := gp_congr ⟨fun ⟨c', h1, h2, h3⟩ => ⟨c', by
    by_cases h : c' = c
    · subst h; exact absurd h3 hA
    · omega, h2, h3⟩, fun ⟨c', h1, h2, h3⟩ => ⟨c', by omega, h2, h3⟩⟩
section SIGN
variable {ax ao am : Nat} {ad : Nat → Nat → Nat} {n e pO fO q tm : Nat → Nat} {tx : Nat → List (Int32 × List Int32)} {w : Nat} {pn : Nat → Nat} {nw : Nat → Nat → Nat} {fs : Nat → Nat} {ls : Nat → Option Nat} {rs rl pr : Nat → Nat} {tl : Nat} {hx hm : HS}
theorem e_hasRun {h : HS} (hS : SXA ax ao ad n e pO fO h) (hR : RnC n fs ls (cf ad n h 102) (cf ad n h 103)) (hw : w ≤ 200) (h909 : fi h 909 ax = nI w) {p f : Nat} (hp : p < n 3) (hf : f < n 2) : ∀ (k c : Nat), c + k = n 1 → ∀ F, k < F → X8_hasRunning_L2 ax F (some (ad 3 p)) (some (ad 2 f)) (nI c) h = some (nI (gp (∃ c', c ≤ c' ∧ c' < n 1 ∧ (pO c' = p ∧ fO c' = f ∧ rn (fs c') (ls c') (w + 1)))), h) := by
  have hn := n_le hS
  have hka := kax hS
  obtain ⟨hL, hr, hk⟩ := lcs hS
  have e6 : nI w + 1 = nI (w + 1) := nI_add w 1
  intro k
  induction k with
  | zero =>
    intro c hck F hF
    obtain ⟨F, rfl⟩ := nF1 hF
    have e1 : nI (n 1) ≤ nI c := by rw [← hck]; exact Int32.le_refl _
    rw [gp_neg (fun ⟨c', h1, h2, _⟩ => by omega)]
    simp only [X8_hasRunning_L2, aN, kA201, kA202, kA203, kA206, kA306, i1n0, i0n1, i0e0, i1e1, gI, gR, pI, pB, pR, xI, xL, yI, yL, vc, kd_sFi, fr_sFi, ln_sFi, ai_sFi, al_sFi, ar_sFi, cs_sFi, sz_sFi, sz_sAi, kd_sAi, fi_sAi, fr_sAi, ln_sAi, al_sAi, ar_sAi, cs_sAi, kd_wz, fi_wz, fr_wz, ln_wz, ai_wz, al_wz, ar_wz, Option.bind_some, if_true, if_false, Nat.reduceAdd, Nat.reduceMul, reduceIte, and_self, true_and, and_true, hka, hr, hk, Nat.zero_add, e_size hk hL, e1]
    rfl
  | succ k ih =>
    intro c hck F hF
    obtain ⟨F, rfl⟩ := nF1 hF
    have hc : c < n 1 := by omega
    have e1 : ¬ nI (n 1) ≤ nI c := nI_ge hc (by omega)
    have kj : kd h (ad 1 c) = 2 := k0 hS hc
    obtain ⟨r1, r2, r3, r4⟩ := hR c hc
    have e2 := e_runs hS hc (u := w + 1) (by omega) r1 r2 r3 r4
    have e7 : nI c + 1 = nI (c + 1) := nI_add c 1
    have hcr := crf hS hc
    have ih' := ih (c + 1) (by omega) F (by omega)
    by_cases hpp : pO c = p
    · by_cases hff : fO c = f
      · rcases wk1_or (fs c) (w + 1) (ls c) with h0 | h0
        · have hz : ¬ rn (fs c) (ls c) (w + 1) := fun y => by rw [wk1_iff.mpr y] at h0; cases h0
          rw [h0] at e2
          rw [gp_next (fun z => hz z.2.2), ← ih']
          conv => lhs; unfold X8_hasRunning_L2
          simp only [X8_hasRunning_b60, aN, kA201, kA202, kA203, kA206, kA306, i1n0, i0n1, i0e0, i1e1, gI, gR, pI, pB, pR, xI, xL, yI, yL, vc, kd_sFi, fr_sFi, ln_sFi, ai_sFi, al_sFi, ar_sFi, cs_sFi, sz_sFi, sz_sAi, kd_sAi, fi_sAi, fr_sAi, ln_sAi, al_sAi, ar_sAi, cs_sAi, kd_wz, fi_wz, fr_wz, ln_wz, ai_wz, al_wz, ar_wz, Option.bind_some, if_true, if_false, Nat.reduceAdd, Nat.reduceMul, reduceIte, and_self, true_and, and_true, hka, hr, hk, Nat.zero_add, e_size hk hL, e1, e_get hk hL (by omega) hc, cst, isO, kj, beq_self_eq_true, or_true, hcr.2.2.1, hcr.2.2.2.1, hpp, hff, h909, e6, e2, show (nI 0 = 0) = True from eq_true rfl, e7]
        · rw [h0] at e2
          rw [gp_yes hc ⟨hpp, hff, wk1_iff.mp h0⟩]
          simp only [X8_hasRunning_L2, aN, kA201, kA202, kA203, kA206, kA306, i1n0, i0n1, i0e0, i1e1, gI, gR, pI, pB, pR, xI, xL, yI, yL, vc, kd_sFi, fr_sFi, ln_sFi, ai_sFi, al_sFi, ar_sFi, cs_sFi, sz_sFi, sz_sAi, kd_sAi, fi_sAi, fr_sAi, ln_sAi, al_sAi, ar_sAi, cs_sAi, kd_wz, fi_wz, fr_wz, ln_wz, ai_wz, al_wz, ar_wz, Option.bind_some, if_true, if_false, Nat.reduceAdd, Nat.reduceMul, reduceIte, and_self, true_and, and_true, hka, hr, hk, Nat.zero_add, e_size hk hL, e1, e_get hk hL (by omega) hc, cst, isO, kj, beq_self_eq_true, or_true, hcr.2.2.1, hcr.2.2.2.1, hpp, hff, h909, e6, e2, show (nI 1 = 0) = False from eq_false (by decide)]
          rfl
      · have hne : ¬ some (ad 2 (fO c)) = some (ad 2 f) := fun z => hff (hS.2.1 2 _ 2 _ hcr.2.2.2.2.2 hf (Option.some.inj z)).2
        rw [gp_next (fun z => hff z.2.1), ← ih']
        conv => lhs; unfold X8_hasRunning_L2
        simp only [X8_hasRunning_b60, aN, kA201, kA202, kA203, kA206, kA306, i1n0, i0n1, i0e0, i1e1, gI, gR, pI, pB, pR, xI, xL, yI, yL, vc, kd_sFi, fr_sFi, ln_sFi, ai_sFi, al_sFi, ar_sFi, cs_sFi, sz_sFi, sz_sAi, kd_sAi, fi_sAi, fr_sAi, ln_sAi, al_sAi, ar_sAi, cs_sAi, kd_wz, fi_wz, fr_wz, ln_wz, ai_wz, al_wz, ar_wz, Option.bind_some, if_true, if_false, Nat.reduceAdd, Nat.reduceMul, reduceIte, and_self, true_and, and_true, hka, hr, hk, Nat.zero_add, e_size hk hL, e1, e_get hk hL (by omega) hc, cst, isO, kj, beq_self_eq_true, or_true, hcr.2.2.1, hcr.2.2.2.1, hpp, hne, e7]
    · have hne : ¬ some (ad 3 (pO c)) = some (ad 3 p) := fun z => hpp (hS.2.1 3 _ 3 _ hcr.2.2.2.2.1 hp (Option.some.inj z)).2
      rw [gp_next (fun z => hpp z.1), ← ih']
      conv => lhs; unfold X8_hasRunning_L2
      simp only [X8_hasRunning_b60, aN, kA201, kA202, kA203, kA206, kA306, i1n0, i0n1, i0e0, i1e1, gI, gR, pI, pB, pR, xI, xL, yI, yL, vc, kd_sFi, fr_sFi, ln_sFi, ai_sFi, al_sFi, ar_sFi, cs_sFi, sz_sFi, sz_sAi, kd_sAi, fi_sAi, fr_sAi, ln_sAi, al_sAi, ar_sAi, cs_sAi, kd_wz, fi_wz, fr_wz, ln_wz, ai_wz, al_wz, ar_wz, Option.bind_some, if_true, if_false, Nat.reduceAdd, Nat.reduceMul, reduceIte, and_self, true_and, and_true, hka, hr, hk, Nat.zero_add, e_size hk hL, e1, e_get hk hL (by omega) hc, cst, isO, kj, beq_self_eq_true, or_true, hcr.2.2.1, hne, e7]
/-- nearer than so many miles -/
def nrr (mi x1 y1 x2 y2 : Int32) : Prop := ¬ mi * mi ≤ (x1 - x2) * (x1 - x2) + (y1 - y2) * (y1 - y2)
theorem e_nearer {h : HS} (hS : SXA ax ao ad n e pO fO h) {p1 p2 : Nat} (h1 : p1 < n 3) (h2 : p2 < n 3) (mi : Int32) : m_X2_isNearer (ad 3 p1) (some (ad 3 p2)) mi h = some (nI (gp (nrr mi (cf ad n h 301 p1) (cf ad n h 302 p1) (cf ad n h 301 p2) (cf ad n h 302 p2))), h) := by
  have k1 : kd h (ad 3 p1) = 4 := k0 hS h1
  have k2 : kd h (ad 3 p2) = 4 := k0 hS h2
  have a1 : fi h 301 (ad 3 p1) = cf ad n h 301 p1 := cf_at (g := 301) (n := n) (t := 3) (by decide) h1
  have a2 : fi h 302 (ad 3 p1) = cf ad n h 302 p1 := cf_at (g := 302) (n := n) (t := 3) (by decide) h1
  have b1 : fi h 301 (ad 3 p2) = cf ad n h 301 p2 := cf_at (g := 301) (n := n) (t := 3) (by decide) h2
  have b2 : fi h 302 (ad 3 p2) = cf ad n h 302 p2 := cf_at (g := 302) (n := n) (t := 3) (by decide) h2
  by_cases hc : mi * mi ≤ (cf ad n h 301 p1 - cf ad n h 301 p2) * (cf ad n h 301 p1 - cf ad n h 301 p2) + (cf ad n h 302 p1 - cf ad n h 302 p2) * (cf ad n h 302 p1 - cf ad n h 302 p2)
  · rw [gp_neg (fun z => z hc)]
    simp only [m_X2_isNearer, aN, kA201, kA202, kA203, kA206, kA306, i1n0, i0n1, i0e0, i1e1, gI, gR, pI, pB, pR, xI, xL, yI, yL, vc, kd_sFi, fr_sFi, ln_sFi, ai_sFi, al_sFi, ar_sFi, cs_sFi, sz_sFi, sz_sAi, kd_sAi, fi_sAi, fr_sAi, ln_sAi, al_sAi, ar_sAi, cs_sAi, kd_wz, fi_wz, fr_wz, ln_wz, ai_wz, al_wz, ar_wz, Option.bind_some, if_true, if_false, Nat.reduceAdd, Nat.reduceMul, reduceIte, and_self, true_and, and_true, k1, k2, a1, a2, b1, b2, hc]
    rfl
  · rw [gp_pos (show nrr mi (cf ad n h 301 p1) (cf ad n h 302 p1) (cf ad n h 301 p2) (cf ad n h 302 p2) from hc)]
    simp only [m_X2_isNearer, aN, kA201, kA202, kA203, kA206, kA306, i1n0, i0n1, i0e0, i1e1, gI, gR, pI, pB, pR, xI, xL, yI, yL, vc, kd_sFi, fr_sFi, ln_sFi, ai_sFi, al_sFi, ar_sFi, cs_sFi, sz_sFi, sz_sAi, kd_sAi, fi_sAi, fr_sAi, ln_sAi, al_sAi, ar_sAi, cs_sAi, kd_wz, fi_wz, fr_wz, ln_wz, ai_wz, al_wz, ar_wz, Option.bind_some, if_true, if_false, Nat.reduceAdd, Nat.reduceMul, reduceIte, and_self, true_and, and_true, k1, k2, a1, a2, b1, b2, hc]
    rfl
theorem gp_or (p : Prop) : (gp p = 0 ∧ ¬ p) ∨ (gp p = 1 ∧ p) := by
  by_cases h : p
  · exact Or.inr ⟨gp_pos h, h⟩
  · exact Or.inl ⟨gp_neg h, h⟩
theorem e_barred {h : HS} (hS : SXA ax ao ad n e pO fO h) (hR : RnC n fs ls (cf ad n h 102) (cf ad n h 103)) (hw : w ≤ 200) (h909 : fi h 909 ax = nI w) {p f : Nat} (hp : p < n 3) (hf : f < n 2) : ∀ (k c : Nat), c + k = n 1 → ∀ F, k < F → X8_isBarred_L2 ax F (some (ad 3 p)) (some (ad 2 f)) (nI c) h = some (nI (gp (∃ c', c ≤ c' ∧ c' < n 1 ∧ (pO c' ≠ p ∧ fO c' = f ∧ rn (fs c') (ls c') (w + 1) ∧ nrr (cf ad n h 202 f) (cf ad n h 301 (pO c')) (cf ad n h 302 (pO c')) (cf ad n h 301 p) (cf ad n h 302 p)))), h) := by
  have hn := n_le hS
  have hka := kax hS
  obtain ⟨hL, hr, hk⟩ := lcs hS
  have e6 : nI w + 1 = nI (w + 1) := nI_add w 1
  have kf : kd h (ad 2 f) = 3 := k0 hS hf
  have f202 : fi h 202 (ad 2 f) = cf ad n h 202 f := cf_at (g := 202) (n := n) (t := 2) (by decide) hf
  intro k
  induction k with
  | zero =>
    intro c hck F hF
    obtain ⟨F, rfl⟩ := nF1 hF
    have e1 : nI (n 1) ≤ nI c := by rw [← hck]; exact Int32.le_refl _
    rw [gp_neg (fun ⟨c', h1, h2, _⟩ => by omega)]
    simp only [X8_isBarred_L2, aN, kA201, kA202, kA203, kA206, kA306, i1n0, i0n1, i0e0, i1e1, gI, gR, pI, pB, pR, xI, xL, yI, yL, vc, kd_sFi, fr_sFi, ln_sFi, ai_sFi, al_sFi, ar_sFi, cs_sFi, sz_sFi, sz_sAi, kd_sAi, fi_sAi, fr_sAi, ln_sAi, al_sAi, ar_sAi, cs_sAi, kd_wz, fi_wz, fr_wz, ln_wz, ai_wz, al_wz, ar_wz, Option.bind_some, if_true, if_false, Nat.reduceAdd, Nat.reduceMul, reduceIte, and_self, true_and, and_true, hka, hr, hk, Nat.zero_add, e_size hk hL, e1]
    rfl
  | succ k ih =>
    intro c hck F hF
    obtain ⟨F, rfl⟩ := nF1 hF
    have hc : c < n 1 := by omega
    have e1 : ¬ nI (n 1) ≤ nI c := nI_ge hc (by omega)
    have kj : kd h (ad 1 c) = 2 := k0 hS hc
    obtain ⟨r1, r2, r3, r4⟩ := hR c hc
    have e2 := e_runs hS hc (u := w + 1) (by omega) r1 r2 r3 r4
    have e7 : nI c + 1 = nI (c + 1) := nI_add c 1
    have hcr := crf hS hc
    have kp : kd h (ad 3 (pO c)) = 4 := k0 hS hcr.2.2.2.2.1
    have ih' := ih (c + 1) (by omega) F (by omega)
    by_cases hpp : pO c = p
    · rw [gp_next (fun z => z.1 hpp), ← ih']
      conv => lhs; unfold X8_isBarred_L2
      simp only [X8_isBarred_b62, X8_isBarred_b63, X8_isBarred_b88, aN, kA201, kA202, kA203, kA206, kA306, i1n0, i0n1, i0e0, i1e1, gI, gR, pI, pB, pR, xI, xL, yI, yL, vc, kd_sFi, fr_sFi, ln_sFi, ai_sFi, al_sFi, ar_sFi, cs_sFi, sz_sFi, sz_sAi, kd_sAi, fi_sAi, fr_sAi, ln_sAi, al_sAi, ar_sAi, cs_sAi, kd_wz, fi_wz, fr_wz, ln_wz, ai_wz, al_wz, ar_wz, Option.bind_some, if_true, if_false, Nat.reduceAdd, Nat.reduceMul, reduceIte, and_self, true_and, and_true, hka, hr, hk, Nat.zero_add, e_size hk hL, e1, e_get hk hL (by omega) hc, cst, isO, kj, beq_self_eq_true, or_true, hcr.2.2.1, hpp, e7]
    · have hne : ¬ some (ad 3 (pO c)) = some (ad 3 p) := fun z => hpp (hS.2.1 3 _ 3 _ hcr.2.2.2.2.1 hp (Option.some.inj z)).2
      by_cases hff : fO c = f
      · rcases wk1_or (fs c) (w + 1) (ls c) with h0 | h0
        · have hz : ¬ rn (fs c) (ls c) (w + 1) := fun y => by rw [wk1_iff.mpr y] at h0; cases h0
          rw [h0] at e2
          rw [gp_next (fun z => hz z.2.2.1), ← ih']
          conv => lhs; unfold X8_isBarred_L2
          simp only [X8_isBarred_b62, X8_isBarred_b63, X8_isBarred_b88, aN, kA201, kA202, kA203, kA206, kA306, i1n0, i0n1, i0e0, i1e1, gI, gR, pI, pB, pR, xI, xL, yI, yL, vc, kd_sFi, fr_sFi, ln_sFi, ai_sFi, al_sFi, ar_sFi, cs_sFi, sz_sFi, sz_sAi, kd_sAi, fi_sAi, fr_sAi, ln_sAi, al_sAi, ar_sAi, cs_sAi, kd_wz, fi_wz, fr_wz, ln_wz, ai_wz, al_wz, ar_wz, Option.bind_some, if_true, if_false, Nat.reduceAdd, Nat.reduceMul, reduceIte, and_self, true_and, and_true, hka, hr, hk, Nat.zero_add, e_size hk hL, e1, e_get hk hL (by omega) hc, cst, isO, kj, beq_self_eq_true, or_true, hcr.2.2.1, hcr.2.2.2.1, hne, hff, h909, e6, e2, show (nI 0 = 0) = True from eq_true rfl, e7]
        · rw [h0] at e2
          have e3 := e_nearer hS hcr.2.2.2.2.1 hp (cf ad n h 202 f)
          rcases gp_or (nrr (cf ad n h 202 f) (cf ad n h 301 (pO c)) (cf ad n h 302 (pO c)) (cf ad n h 301 p) (cf ad n h 302 p)) with ⟨g1, g2⟩ | ⟨g1, g2⟩
          · rw [g1] at e3
            rw [gp_next (fun z => g2 z.2.2.2), ← ih']
            conv => lhs; unfold X8_isBarred_L2
            simp only [X8_isBarred_b62, X8_isBarred_b63, X8_isBarred_b88, aN, kA201, kA202, kA203, kA206, kA306, i1n0, i0n1, i0e0, i1e1, gI, gR, pI, pB, pR, xI, xL, yI, yL, vc, kd_sFi, fr_sFi, ln_sFi, ai_sFi, al_sFi, ar_sFi, cs_sFi, sz_sFi, sz_sAi, kd_sAi, fi_sAi, fr_sAi, ln_sAi, al_sAi, ar_sAi, cs_sAi, kd_wz, fi_wz, fr_wz, ln_wz, ai_wz, al_wz, ar_wz, Option.bind_some, if_true, if_false, Nat.reduceAdd, Nat.reduceMul, reduceIte, and_self, true_and, and_true, hka, hr, hk, Nat.zero_add, e_size hk hL, e1, e_get hk hL (by omega) hc, cst, isO, kj, kp, kf, f202, beq_self_eq_true, or_true, hcr.2.2.1, hcr.2.2.2.1, hne, hff, h909, e6, e2, e3, show (nI 1 = 0) = False from eq_false (by decide), show (nI 0 = 0) = True from eq_true rfl, e7]
          · rw [g1] at e3
            rw [gp_yes hc ⟨hpp, hff, wk1_iff.mp h0, g2⟩]
            simp only [X8_isBarred_L2, X8_isBarred_b62, X8_isBarred_b63, X8_isBarred_b88, aN, kA201, kA202, kA203, kA206, kA306, i1n0, i0n1, i0e0, i1e1, gI, gR, pI, pB, pR, xI, xL, yI, yL, vc, kd_sFi, fr_sFi, ln_sFi, ai_sFi, al_sFi, ar_sFi, cs_sFi, sz_sFi, sz_sAi, kd_sAi, fi_sAi, fr_sAi, ln_sAi, al_sAi, ar_sAi, cs_sAi, kd_wz, fi_wz, fr_wz, ln_wz, ai_wz, al_wz, ar_wz, Option.bind_some, if_true, if_false, Nat.reduceAdd, Nat.reduceMul, reduceIte, and_self, true_and, and_true, hka, hr, hk, Nat.zero_add, e_size hk hL, e1, e_get hk hL (by omega) hc, cst, isO, kj, kp, kf, f202, beq_self_eq_true, or_true, hcr.2.2.1, hcr.2.2.2.1, hne, hff, h909, e6, e2, e3, show (nI 1 = 0) = False from eq_false (by decide)]
            rfl
      · have hne2 : ¬ some (ad 2 (fO c)) = some (ad 2 f) := fun z => hff (hS.2.1 2 _ 2 _ hcr.2.2.2.2.2 hf (Option.some.inj z)).2
        rw [gp_next (fun z => hff z.2.1), ← ih']
        conv => lhs; unfold X8_isBarred_L2
        simp only [X8_isBarred_b62, X8_isBarred_b63, X8_isBarred_b88, aN, kA201, kA202, kA203, kA206, kA306, i1n0, i0n1, i0e0, i1e1, gI, gR, pI, pB, pR, xI, xL, yI, yL, vc, kd_sFi, fr_sFi, ln_sFi, ai_sFi, al_sFi, ar_sFi, cs_sFi, sz_sFi, sz_sAi, kd_sAi, fi_sAi, fr_sAi, ln_sAi, al_sAi, ar_sAi, cs_sAi, kd_wz, fi_wz, fr_wz, ln_wz, ai_wz, al_wz, ar_wz, Option.bind_some, if_true, if_false, Nat.reduceAdd, Nat.reduceMul, reduceIte, and_self, true_and, and_true, hka, hr, hk, Nat.zero_add, e_size hk hL, e1, e_get hk hL (by omega) hc, cst, isO, kj, beq_self_eq_true, or_true, hcr.2.2.1, hcr.2.2.2.1, hne, hne2, e7]
end SIGN
