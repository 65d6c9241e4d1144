/-! a new paper -/
section PAP
variable {ax ao am : Nat} {ad : Nat → Nat → Nat} {n e pO fO q tm : Nat → Nat} {tx : Nat → List (Int32 × List Int32)} {w : Nat} {pn : Nat → Nat} {nw : Nat → Nat → Nat} {fs : Nat → Nat} {ls : Nat → Option Nat} {rs rl pr : Nat → Nat} {tl : Nat} {hx hm : HS}
def hP1 (hx : HS) (v1 v2 v3 : Int32) : HS := sFi (sFi (sFi (sFr (nA (nO hx 3) 201 51) 303 (sz hx) (some (sz hx + 1))) 300 (sz hx) v1) 301 (sz hx) v2) 302 (sz hx) v3
theorem e_fill {B : Nat} (x : Int32) : ∀ (k j : Nat) (h : HS), kd h B = 201 → ln h B = 51 → j + k = 51 → ∀ F, k < F → ∃ h', J7_fill_53178_L5 F (some B) x (nI j) (nI 51) h = some h' ∧ SameS h h' ∧ fi h' = fi h ∧ (∀ a, a ≠ B → ai h' a = ai h a) ∧ ∀ i, ai h' B i = if j ≤ i ∧ i < 51 then x else ai h B i := by
  intro k
  induction k with
  | zero =>
    intro j h k1 k2 hjk F hF
    obtain ⟨F, rfl⟩ := nF1 hF
    have hj : j = 51 := by omega
    subst hj
    refine ⟨h, ?_, SameS.rf h, rfl, fun _ _ => rfl, fun i => by rw [if_neg (by omega)]⟩
    simp only [J7_fill_53178_L5, Int32.le_refl, if_true]
  | succ k ih =>
    intro j h k1 k2 hjk F hF
    obtain ⟨F, rfl⟩ := nF1 hF
    have e1 : ¬ nI 51 ≤ nI j := nI_ge (by omega) (by omega)
    have cl : (nI j).toNatClampNeg = j := nI_cl (N := 51) (by omega) (by omega)
    have ib : inB (nI j) 51 = true := inB_nI (by omega) (by omega)
    have e2 : nI j + 1 = nI (j + 1) := nI_add j 1
    obtain ⟨h', q1, q2, q3, q4, q5⟩ := ih (j + 1) (sAi h B j x) k1 k2 (by omega) F (by omega)
    refine ⟨h', ?_, (SameS_sAi (SameS.rf h)).tr q2, q3, fun a ha => ?_, fun i => ?_⟩
    · simp only [J7_fill_53178_L5, e1, aN, kA201, kA202, kA203, kA206, kA306, i1n0, i0n1, i0e0, i1e1, gI, gR, pI, pB, pR, xI, xL, yI, yL, vc, kd_sFi, fr_sFi, ln_sFi, ai_sFi, al_sFi, ar_sFi, cs_sFi, sz_sFi, sz_sAi, kd_sAi, fi_sAi, fr_sAi, ln_sAi, al_sAi, ar_sAi, cs_sAi, kd_wz, fi_wz, fr_wz, ln_wz, ai_wz, al_wz, ar_wz, Option.bind_some, if_true, if_false, Nat.reduceAdd, Nat.reduceMul, reduceIte, and_self, true_and, and_true, k1, k2, cl, ib, nar_i32, e2]
      exact q1
    · rw [q4 a ha]; funext i; exact up2_ne1 _ _ _ _ ha
    · rw [q5 i, ai_sAi]
      by_cases h1 : j + 1 ≤ i ∧ i < 51
      · rw [if_pos h1, if_pos (by omega)]
      · rw [if_neg h1]
        by_cases h2 : i = j
        · subst h2; rw [up2_same, if_pos (by omega)]
        · rw [up2_ne2 _ _ _ _ h2, if_neg (by omega)]
theorem e_initP (v1 v2 v3 v4 : Int32) : ∃ h1, m_X2_init (sz hx) v1 v2 v3 v4 (nO hx 3) = some h1 ∧ NEW hx h1 ∧ kd h1 (sz hx) = 4 ∧ kd h1 (sz hx + 1) = 201 ∧ ln h1 (sz hx + 1) = 51 ∧ sz h1 = sz hx + 2 ∧ fr h1 303 (sz hx) = some (sz hx + 1) ∧ fi h1 300 (sz hx) = v1 ∧ fi h1 301 (sz hx) = v2 ∧ fi h1 302 (sz hx) = v3 ∧ ∀ i, i < 51 → ai h1 (sz hx + 1) i = v4 := by
  have kS : kd (nA (nO hx 3) 201 51) (sz hx) = 4 := by
    show va_up (va_up (kd hx) (sz hx) 4) (sz hx + 1) 201 (sz hx) = 4
    rw [va_upN _ _ (by omega), va_up_same]
  have kB : kd (nA (nO hx 3) 201 51) (sz hx + 1) = 201 := va_up_same _ _ _
  have lB : ln (nA (nO hx 3) 201 51) (sz hx + 1) = 51 := va_up_same _ _ _
  have c3 : (51 : Int32).toNatClampNeg = 51 := by decide
  have z1 : sz (nO hx 3) = sz hx + 1 := rfl
  have hnP : NEW hx (hP1 hx v1 v2 v3) := by
    unfold hP1
    have z1 : sz hx ≤ sz hx := Nat.le_refl _
    exact NEW_sFi z1 (NEW_sFi z1 (NEW_sFi z1 (NEW_sFr z1 (NEW_nA NEW_nO))))
  have kS' : kd (hP1 hx v1 v2 v3) (sz hx) = 4 := kS
  have kB' : kd (hP1 hx v1 v2 v3) (sz hx + 1) = 201 := kB
  have lB' : ln (hP1 hx v1 v2 v3) (sz hx + 1) = 51 := lB
  have fP : fr (hP1 hx v1 v2 v3) 303 (sz hx) = some (sz hx + 1) := by
    unfold hP1
    rw [fr_sFi, fr_sFi, fr_sFi, fr_sFrU, up2_same]
  obtain ⟨h1, q1, q2, q3, q4, q5⟩ := e_fill (B := sz hx + 1) v4 51 0 (hP1 hx v1 v2 v3) kB' lB' (by omega) FU (by decide)
  have hev : m_X2_init (sz hx) v1 v2 v3 v4 (nO hx 3) = some h1 := by
    unfold m_X2_init
    rw [nwA_b (by decide)]
    rw [c3, z1]
    rw [pR_b kS, pI_b, pI_b, pI_b]
    · show (gR (hP1 hx v1 v2 v3) (some (sz hx)) 3 3).bind _ = _
      rw [gR_b kS', fP]
      have e51 : m_J7_fill_53178 (some (sz hx + 1)) v4 (hP1 hx v1 v2 v3) = some h1 := by
        simp only [m_J7_fill_53178, aN, kB', lB', kA201, if_true, Option.bind_some]
        exact q1
      show ((m_J7_fill_53178 (some (sz hx + 1)) v4 (hP1 hx v1 v2 v3)).bind fun h7 => some h7) = some h1
      rw [e51]; rfl
    all_goals exact kS
  refine ⟨h1, hev, ⟨?_, ?_, fun a ha => ?_⟩, ?_, ?_, ?_, ?_, ?_, ?_, ?_, ?_, fun i hi => ?_⟩
  · rw [q2.2.2.2.2.2.1]; exact hnP.1
  · rw [q2.2.2.2.2.2.2]; exact hnP.2.1
  · obtain ⟨a1, a2, a3, a4, a5, a6, a7⟩ := hnP.2.2 a ha
    rw [q2.1, q2.2.1, q2.2.2.1, q2.2.2.2.1, q2.2.2.2.2.1, q3, q4 a (by omega)]
    exact ⟨a1, a2, a3, a4, a5, a6, a7⟩
  · rw [q2.1]; exact kS'
  · rw [q2.1]; exact kB'
  · rw [q2.2.2.1]; exact lB'
  · rw [q2.2.2.2.2.2.1]; rfl
  · rw [q2.2.1]; exact fP
  · rw [q3]; unfold hP1; rw [fi_sFi, fi_sFi, fi_sFi, up2_ne1 _ _ _ _ (by decide), up2_ne1 _ _ _ _ (by decide), up2_same]
  · rw [q3]; unfold hP1; rw [fi_sFi, fi_sFi, up2_ne1 _ _ _ _ (by decide), up2_same]
  · rw [q3]; unfold hP1; rw [fi_sFi, up2_same]
  · rw [q5 i, if_pos ⟨Nat.zero_le _, hi⟩]
theorem e_paper_bad (hS : SXA ax ao ad n e pO fO hx) {a b c : Int32} (hbad : ¬ (Wi a 0 999 ∧ Wi b 0 999 ∧ Wi c 1 100000 ∧ n 3 < 20)) : m_X8_paper ax a b c hx = some (-1, hx) := by
  have hka := kax hS
  have hn := n_le hS
  obtain ⟨hL, hr, hk⟩ := lps hS
  by_cases h1 : Wi a 0 999
  · by_cases h2 : Wi b 0 999
    · by_cases h3 : Wi c 1 100000
      · have h7 : n 3 = 20 := by
          by_cases h8 : n 3 < 20
          · exact absurd ⟨h1, h2, h3, h8⟩ hbad
          · omega
        have h9 : ¬ nI (n 3) < 20 := by rw [h7]; decide
        simp only [m_X8_paper, e_within, e_circ, wi_pos h1, wi_pos h2, wi_pos h3, aN, kA201, kA202, kA203, kA206, kA306, i1n0, i0n1, i0e0, i1e1, gI, gR, pI, pB, pR, xI, xL, yI, yL, vc, kd_sFi, fr_sFi, ln_sFi, ai_sFi, al_sFi, ar_sFi, cs_sFi, sz_sFi, sz_sAi, kd_sAi, fi_sAi, fr_sAi, ln_sAi, al_sAi, ar_sAi, cs_sAi, kd_wz, fi_wz, fr_wz, ln_wz, ai_wz, al_wz, ar_wz, Option.bind_some, if_true, if_false, Nat.reduceAdd, Nat.reduceMul, reduceIte, and_self, true_and, and_true, hka, hr, hk, Nat.zero_add, e_size hk hL, h9]
      · simp only [m_X8_paper, e_within, e_circ, wi_pos h1, wi_pos h2, wi_neg h3, aN, kA201, kA202, kA203, kA206, kA306, i1n0, i0n1, i0e0, i1e1, gI, gR, pI, pB, pR, xI, xL, yI, yL, vc, kd_sFi, fr_sFi, ln_sFi, ai_sFi, al_sFi, ar_sFi, cs_sFi, sz_sFi, sz_sAi, kd_sAi, fi_sAi, fr_sAi, ln_sAi, al_sAi, ar_sAi, cs_sAi, kd_wz, fi_wz, fr_wz, ln_wz, ai_wz, al_wz, ar_wz, Option.bind_some, if_true, if_false, Nat.reduceAdd, Nat.reduceMul, reduceIte, and_self, true_and, and_true]
    · simp only [m_X8_paper, e_within, e_circ, wi_pos h1, wi_neg h2, aN, kA201, kA202, kA203, kA206, kA306, i1n0, i0n1, i0e0, i1e1, gI, gR, pI, pB, pR, xI, xL, yI, yL, vc, kd_sFi, fr_sFi, ln_sFi, ai_sFi, al_sFi, ar_sFi, cs_sFi, sz_sFi, sz_sAi, kd_sAi, fi_sAi, fr_sAi, ln_sAi, al_sAi, ar_sAi, cs_sAi, kd_wz, fi_wz, fr_wz, ln_wz, ai_wz, al_wz, ar_wz, Option.bind_some, if_true, if_false, Nat.reduceAdd, Nat.reduceMul, reduceIte, and_self, true_and, and_true]
  · simp only [m_X8_paper, e_within, e_circ, wi_neg h1, aN, kA201, kA202, kA203, kA206, kA306, i1n0, i0n1, i0e0, i1e1, gI, gR, pI, pB, pR, xI, xL, yI, yL, vc, kd_sFi, fr_sFi, ln_sFi, ai_sFi, al_sFi, ar_sFi, cs_sFi, sz_sFi, sz_sAi, kd_sAi, fi_sAi, fr_sAi, ln_sAi, al_sAi, ar_sAi, cs_sAi, kd_wz, fi_wz, fr_wz, ln_wz, ai_wz, al_wz, ar_wz, Option.bind_some, if_true, if_false, Nat.reduceAdd, Nat.reduceMul, reduceIte, and_self, true_and, and_true]
theorem e_paper9_bad {h : HS} (hM : SMA q am h) (h34 : mf am h 34 = nI (n 3)) (hn3 : n 3 ≤ 20) {a b c : Int32} (hbad : ¬ (Wi a 0 999 ∧ Wi b 0 999 ∧ Wi c 1 100000 ∧ n 3 < 20)) : m_X9_paper am a b c h = some (-1, sFi h 1000 am 0) := by
  have hkm : kd h am = 11 := hM.1
  have i34 : fi (sFi h 1000 am 0) 1034 am = nI (n 3) := h34
  by_cases h1 : Wi a 0 999
  · by_cases h2 : Wi b 0 999
    · by_cases h3 : Wi c 1 100000
      · have h7 : n 3 = 20 := by
          by_cases h8 : n 3 < 20
          · exact absurd ⟨h1, h2, h3, h8⟩ hbad
          · omega
        have h9 : nI (n 3) = 20 := by rw [h7]; rfl
        simp only [m_X9_paper, e_within9, wi_pos h1, wi_pos h2, wi_pos h3, aN, kA201, kA202, kA203, kA206, kA306, i1n0, i0n1, i0e0, i1e1, gI, gR, pI, pB, pR, xI, xL, yI, yL, vc, kd_sFi, fr_sFi, ln_sFi, ai_sFi, al_sFi, ar_sFi, cs_sFi, sz_sFi, sz_sAi, kd_sAi, fi_sAi, fr_sAi, ln_sAi, al_sAi, ar_sAi, cs_sAi, kd_wz, fi_wz, fr_wz, ln_wz, ai_wz, al_wz, ar_wz, Option.bind_some, if_true, if_false, Nat.reduceAdd, Nat.reduceMul, reduceIte, and_self, true_and, and_true, hkm, i34, h9]
      · simp only [m_X9_paper, e_within9, wi_pos h1, wi_pos h2, wi_neg h3, aN, kA201, kA202, kA203, kA206, kA306, i1n0, i0n1, i0e0, i1e1, gI, gR, pI, pB, pR, xI, xL, yI, yL, vc, kd_sFi, fr_sFi, ln_sFi, ai_sFi, al_sFi, ar_sFi, cs_sFi, sz_sFi, sz_sAi, kd_sAi, fi_sAi, fr_sAi, ln_sAi, al_sAi, ar_sAi, cs_sAi, kd_wz, fi_wz, fr_wz, ln_wz, ai_wz, al_wz, ar_wz, Option.bind_some, if_true, if_false, Nat.reduceAdd, Nat.reduceMul, reduceIte, and_self, true_and, and_true, hkm]
    · simp only [m_X9_paper, e_within9, wi_pos h1, wi_neg h2, aN, kA201, kA202, kA203, kA206, kA306, i1n0, i0n1, i0e0, i1e1, gI, gR, pI, pB, pR, xI, xL, yI, yL, vc, kd_sFi, fr_sFi, ln_sFi, ai_sFi, al_sFi, ar_sFi, cs_sFi, sz_sFi, sz_sAi, kd_sAi, fi_sAi, fr_sAi, ln_sAi, al_sAi, ar_sAi, cs_sAi, kd_wz, fi_wz, fr_wz, ln_wz, ai_wz, al_wz, ar_wz, Option.bind_some, if_true, if_false, Nat.reduceAdd, Nat.reduceMul, reduceIte, and_self, true_and, and_true, hkm]
  · simp only [m_X9_paper, e_within9, wi_neg h1, aN, kA201, kA202, kA203, kA206, kA306, i1n0, i0n1, i0e0, i1e1, gI, gR, pI, pB, pR, xI, xL, yI, yL, vc, kd_sFi, fr_sFi, ln_sFi, ai_sFi, al_sFi, ar_sFi, cs_sFi, sz_sFi, sz_sAi, kd_sAi, fi_sAi, fr_sAi, ln_sAi, al_sAi, ar_sAi, cs_sAi, kd_wz, fi_wz, fr_wz, ln_wz, ai_wz, al_wz, ar_wz, Option.bind_some, if_true, if_false, Nat.reduceAdd, Nat.reduceMul, reduceIte, and_self, true_and, and_true, hkm]
theorem e_paperL {N : Nat} (hN : N < 20) (x : Int32) (hw : w ≤ 200) : ∀ (k m : Nat) (h : HS), SMA q am h → mf am h 24 = nI w → mf am h 34 = nI N → m + k = w / 4 → ∀ F, k < F → ∃ h', X9_paper_L82 am F x (nI m) h = some (nI N, h') ∧ SameS h h' ∧ mv q h' = (fun k i => if k = 38 ∧ 51 * N + m ≤ i ∧ i < 51 * N + w / 4 then x else mv q h k i) ∧ mf am h' = va_up (mf am h) 34 (nI (N + 1)) := by
  intro k
  induction k with
  | zero =>
    intro m h hM h24 h34 hmk F hF
    obtain ⟨F, rfl⟩ := nF1 hF
    have hkm : kd h am = 11 := hM.1
    have i24 : fi h 1024 am = nI w := h24
    have i34 : fi h 1034 am = nI N := h34
    have hm : m = w / 4 := by omega
    subst hm
    have e3 : nI N + 1 = nI (N + 1) := nI_add N 1
    have e4 : nI (N + 1) - 1 = nI N := nI_pred N
    refine ⟨sFi h 1034 am (nI (N + 1)), ?_, SameS_sFi (SameS.rf h), ?_, mf_sFi (k := 34) (by decide)⟩
    · simp only [X9_paper_L82, aN, kA201, kA202, kA203, kA206, kA306, i1n0, i0n1, i0e0, i1e1, gI, gR, pI, pB, pR, xI, xL, yI, yL, vc, kd_sFi, fr_sFi, ln_sFi, ai_sFi, al_sFi, ar_sFi, cs_sFi, sz_sFi, sz_sAi, kd_sAi, fi_sAi, fr_sAi, ln_sAi, al_sAi, ar_sAi, cs_sAi, kd_wz, fi_wz, fr_wz, ln_wz, ai_wz, al_wz, ar_wz, Option.bind_some, if_true, if_false, Nat.reduceAdd, Nat.reduceMul, reduceIte, and_self, true_and, and_true, hkm, i24, w_div hw, Int32.le_refl, i34, e3, fi_sFi, up2_same, e4]
    · rw [mv_sFi]; funext k i; rw [if_neg (by omega)]
  | succ k ih =>
    intro m h hM h24 h34 hmk F hF
    obtain ⟨F, rfl⟩ := nF1 hF
    have hkm : kd h am = 11 := hM.1
    have r38 : fr h 1038 am = some (q 38) := (hM.2.1 (38, 201, 1020) (by decide)).1
    have k38 : kd h (q 38) = 201 := (hM.2.1 (38, 201, 1020) (by decide)).2.1
    have l38 : ln h (q 38) = 1020 := (hM.2.1 (38, 201, 1020) (by decide)).2.2
    have hq : ∀ k k', q k = q k' → k = k' := hM.2.2
    have i24 : fi h 1024 am = nI w := h24
    have i34 : fi h 1034 am = nI N := h34
    have e1 : ¬ nI (w / 4) ≤ nI m := nI_ge (by omega) (by omega)
    have e6 : (51 : Int32) * nI N + nI m = nI (51 * N + m) := by rw [← nI_add, ← nI_mul]; rfl
    have cl2 : (nI (51 * N + m)).toNatClampNeg = 51 * N + m := nI_cl (N := 1020) (by omega) (by omega)
    have ib2 : inB (nI (51 * N + m)) 1020 = true := inB_nI (by omega) (by omega)
    have e7 : nI m + 1 = nI (m + 1) := nI_add m 1
    obtain ⟨h', q1, q2, q3, q4⟩ := ih (m + 1) (sAi h (q 38) (51 * N + m) x) hM h24 h34 (by omega) F (by omega)
    refine ⟨h', ?_, (SameS_sAi (SameS.rf h)).tr q2, ?_, q4⟩
    · simp only [X9_paper_L82, aN, kA201, kA202, kA203, kA206, kA306, i1n0, i0n1, i0e0, i1e1, gI, gR, pI, pB, pR, xI, xL, yI, yL, vc, kd_sFi, fr_sFi, ln_sFi, ai_sFi, al_sFi, ar_sFi, cs_sFi, sz_sFi, sz_sAi, kd_sAi, fi_sAi, fr_sAi, ln_sAi, al_sAi, ar_sAi, cs_sAi, kd_wz, fi_wz, fr_wz, ln_wz, ai_wz, al_wz, ar_wz, Option.bind_some, if_true, if_false, Nat.reduceAdd, Nat.reduceMul, reduceIte, and_self, true_and, and_true, hkm, i24, w_div hw, e1, r38, k38, l38, i34, e6, cl2, ib2, nar_i32, e7]
      exact q1
    · rw [q3, mv_sAi hq]
      funext k i
      simp only [up2]
      by_cases h1 : k = 38 ∧ 51 * N + (m + 1) ≤ i ∧ i < 51 * N + w / 4
      · rw [if_pos h1, if_pos (by omega)]
      · rw [if_neg h1]
        by_cases h2 : k = 38 ∧ i = 51 * N + m
        · rw [if_pos h2, if_pos (by omega)]
        · rw [if_neg h2, if_neg (by omega)]
theorem e_paper9 {h : HS} (hM : SMA q am h) {N : Nat} (h34 : mf am h 34 = nI N) (h24 : mf am h 24 = nI w) (hw : w ≤ 200) (hN : N < 20) {a b c : Int32} (h1 : Wi a 0 999) (h2 : Wi b 0 999) (h3 : Wi c 1 100000) : ∃ h', m_X9_paper am a b c h = some (nI N, h') ∧ SameS h h' ∧ mv q h' = (fun k i => if k = 38 ∧ 51 * N ≤ i ∧ i < 51 * N + w / 4 then c else up2 (up2 (up2 (mv q h) 35 N a) 36 N b) 37 N c k i) ∧ mf am h' = va_up (va_up (mf am h) 0 0) 34 (nI (N + 1)) := by
  have hkm : kd h am = 11 := hM.1
  have r35 : fr h 1035 am = some (q 35) := (hM.2.1 (35, 201, 20) (by decide)).1
  have k35 : kd h (q 35) = 201 := (hM.2.1 (35, 201, 20) (by decide)).2.1
  have l35 : ln h (q 35) = 20 := (hM.2.1 (35, 201, 20) (by decide)).2.2
  have r36 : fr h 1036 am = some (q 36) := (hM.2.1 (36, 201, 20) (by decide)).1
  have k36 : kd h (q 36) = 201 := (hM.2.1 (36, 201, 20) (by decide)).2.1
  have l36 : ln h (q 36) = 20 := (hM.2.1 (36, 201, 20) (by decide)).2.2
  have r37 : fr h 1037 am = some (q 37) := (hM.2.1 (37, 201, 20) (by decide)).1
  have k37 : kd h (q 37) = 201 := (hM.2.1 (37, 201, 20) (by decide)).2.1
  have l37 : ln h (q 37) = 20 := (hM.2.1 (37, 201, 20) (by decide)).2.2
  have hq : ∀ k k', q k = q k' → k = k' := hM.2.2
  have i34 : fi (sFi h 1000 am 0) 1034 am = nI N := h34
  have h9 : ¬ nI N = 20 := fun z => by have := (nI_eq (a := N) (b := 20) (by omega) (by omega)).mp z; omega
  have cl : (nI N).toNatClampNeg = N := nI_cl hN (by omega)
  have ib : inB (nI N) 20 = true := inB_nI hN (by omega)
  obtain ⟨h', q1, q2, q3, q4⟩ := e_paperL hN c hw (w / 4) 0 (sAi (sAi (sAi (sFi h 1000 am 0) (q 35) N a) (q 36) N b) (q 37) N c) hM h24 h34 (by omega) FU (by unfold FU; omega)
  refine ⟨h', ?_, (SameS_sAi (SameS_sAi (SameS_sAi (SameS_sFi (SameS.rf h))))).tr q2, ?_, ?_⟩
  · have q1' : X9_paper_L82 am FU c 0 (sAi (sAi (sAi (sFi h 1000 am 0) (q 35) N a) (q 36) N b) (q 37) N c) = some (nI N, h') := q1
    simp only [m_X9_paper, e_within9, wi_pos h1, wi_pos h2, wi_pos h3, aN, kA201, kA202, kA203, kA206, kA306, i1n0, i0n1, i0e0, i1e1, gI, gR, pI, pB, pR, xI, xL, yI, yL, vc, kd_sFi, fr_sFi, ln_sFi, ai_sFi, al_sFi, ar_sFi, cs_sFi, sz_sFi, sz_sAi, kd_sAi, fi_sAi, fr_sAi, ln_sAi, al_sAi, ar_sAi, cs_sAi, kd_wz, fi_wz, fr_wz, ln_wz, ai_wz, al_wz, ar_wz, Option.bind_some, if_true, if_false, Nat.reduceAdd, Nat.reduceMul, reduceIte, and_self, true_and, and_true, hkm, i34, h9, r35, k35, l35, r36, k36, l36, r37, k37, l37, cl, ib, nar_i32, q1']
  · rw [q3, mv_sAi hq, mv_sAi hq, mv_sAi hq, mv_sFi, Nat.add_zero]
  · rw [q4, mf_sAi, mf_sAi, mf_sAi, mf_sFi (k := 0) (by decide)]
end PAP
