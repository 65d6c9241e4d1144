section WKL3
variable {ax ao am : Nat} {ad : Nat → Nat → Nat} {n e pO fO q tm : Nat → Nat} {tx : Nat → List (Int32 × List Int32)} {w : Nat} {pn : Nat → Nat} {nw : Nat → Nat → Nat} {fs : Nat → Nat} {ls : Nat → Option Nat} {rs rl pr : Nat → Nat} {tl : Nat} {hx hm : HS}
theorem f909_of {h : HS} (hS : SXA ax ao ad n e pO fO h) {x : Int32} (h9 : cf ad n h 909 0 = x) : fi h 909 ax = x := by
  have n9 : 0 < n 9 := by rw [hS.1.2.2.2.2.2.1]; decide
  have e9 : ad 9 0 = ax := hS.2.2.2.2.1.1
  rw [← cf_at (g := 909) (t := 9) (by decide) n9, e9] at h9
  exact h9
theorem irem4 {u : Nat} (hu : u ≤ 1000) : irem (nI u) 4 = nI (u % 4) := by
  unfold irem
  rw [show (4 : Int32) = nI 4 from rfl, nI_div (by omega) (by omega) (by omega), nI_mul, nI_sub (by omega)]
  congr 1
  omega
theorem wc_loop {pn' : Nat → Nat} {nw' : Nat → Nat → Nat} {gF : Nat → Nat} {hx0 hm0 : HS} (hw : w + 1 ≤ 200) (hn : n 1 ≤ 60) (hn2 : n 2 ≤ 10) (h909 : cf ad n hx0 909 0 = nI (w + 1)) (h24 : mf am hm0 24 = nI (w + 1)) (h39 : mf am hm0 39 = nI (n 1)) (hF : FT n w pn nw pn' nw' gF (cf ad n hx0 206) (cf ad n hx0 207) (mv q hm0 31) (mv q hm0 32)) : ∀ (k c : Nat) (hx hm : HS) (rs rl pr : Nat → Nat), c + k = n 1 → WC ax ao am ad n e pO fO q w pn nw pn' nw' fs ls c hx0 hm0 rs rl pr hx hm → ∀ F, k < F → ∀ F', k < F' → ∃ hx' hm' rs' rl' pr', X8_passWeek_L49 ax F (nI c) hx = (if (w + 1) % 4 = 0 then m_X8_endMonth ax (nI ((w + 1) / 4 - 1)) hx' else some hx') ∧ X9_week_L81 am F' (nI c) hm = (if (w + 1) % 4 = 0 then m_X9_bills am (nI ((w + 1) / 4 - 1)) hm' else some hm') ∧ WC ax ao am ad n e pO fO q w pn nw pn' nw' fs ls (n 1) hx0 hm0 rs' rl' pr' hx' hm' := by
  have e4 : nI (w + 1) / 4 = nI ((w + 1) / 4) := nI_div (a := w + 1) (b := 4) (by omega) (by omega) (by omega)
  have eR : irem (nI (w + 1)) 4 = nI ((w + 1) % 4) := irem4 (by omega)
  intro k
  induction k with
  | zero =>
    intro c hx hm rs rl pr hck hW F hF1 F' hF2
    obtain ⟨F, rfl⟩ := nF1 hF1
    obtain ⟨F', rfl⟩ := nF1 hF2
    have hcn : c = n 1 := by omega
    subst hcn
    refine ⟨hx, hm, rs, rl, pr, ?_, ?_, hW⟩
    · have hS := hW.1.1
      have hka := kax hS
      obtain ⟨hL, hr, hk⟩ := lcs hS
      have f9 := f909_of hS (x := nI (w + 1)) (by rw [hW.1.2.2.1 909 (by decide)]; exact h909)
      have e1 : nI (n 1) ≤ nI (n 1) := Int32.le_refl _
      conv => lhs; unfold X8_passWeek_L49
      by_cases h4 : (w + 1) % 4 = 0
      · have z : nI ((w + 1) % 4) = 0 := by rw [h4]; rfl
        have em : nI ((w + 1) / 4) - 1 = nI ((w + 1) / 4 - 1) := nI_sub (a := (w + 1) / 4) (b := 1) (by omega)
        rw [if_pos h4]
        simp only [aN, kA201, kA202, kA203, kA206, kA306, i1n0, i0n1, i0e0, i1e1, gI, gR, pI, pB, pR, xI, xL, yI, yL, vc, kd_sFi, fr_sFi, ln_sFi, ai_sFi, al_sFi, ar_sFi, cs_sFi, sz_sFi, sz_sAi, kd_sAi, fi_sAi, fr_sAi, ln_sAi, al_sAi, ar_sAi, cs_sAi, kd_wz, fi_wz, fr_wz, ln_wz, ai_wz, al_wz, ar_wz, Option.bind_some, if_true, if_false, Nat.reduceAdd, Nat.reduceMul, reduceIte, and_self, true_and, and_true, hka, hr, hk, Nat.zero_add, e_size hk hL, e1, f9, eR, z, e4, em]
        cases m_X8_endMonth ax (nI ((w + 1) / 4 - 1)) hx <;> rfl
      · have z : (nI ((w + 1) % 4) = 0) = False := eq_false fun y => h4 ((nI_eq (b := 0) (by omega) (by omega)).mp y)
        rw [if_neg h4]
        simp only [aN, kA201, kA202, kA203, kA206, kA306, i1n0, i0n1, i0e0, i1e1, gI, gR, pI, pB, pR, xI, xL, yI, yL, vc, kd_sFi, fr_sFi, ln_sFi, ai_sFi, al_sFi, ar_sFi, cs_sFi, sz_sFi, sz_sAi, kd_sAi, fi_sAi, fr_sAi, ln_sAi, al_sAi, ar_sAi, cs_sAi, kd_wz, fi_wz, fr_wz, ln_wz, ai_wz, al_wz, ar_wz, Option.bind_some, if_true, if_false, Nat.reduceAdd, Nat.reduceMul, reduceIte, and_self, true_and, and_true, hka, hr, hk, Nat.zero_add, e_size hk hL, e1, f9, eR, z]
    · have hM := hW.2.1.1
      have hkm : kd hm am = 11 := hM.1
      have f24 : fi hm 1024 am = nI (w + 1) := by rw [hW.2.1.2.2.1]; exact h24
      have f39 : fi hm 1039 am = nI (n 1) := by rw [hW.2.1.2.2.1]; exact h39
      have e1 : nI (n 1) ≤ nI (n 1) := Int32.le_refl _
      conv => lhs; unfold X9_week_L81
      by_cases h4 : (w + 1) % 4 = 0
      · have z : nI ((w + 1) % 4) = 0 := by rw [h4]; rfl
        have em : nI ((w + 1) / 4) - 1 = nI ((w + 1) / 4 - 1) := nI_sub (a := (w + 1) / 4) (b := 1) (by omega)
        rw [if_pos h4]
        simp only [aN, kA201, kA202, kA203, kA206, kA306, i1n0, i0n1, i0e0, i1e1, gI, gR, pI, pB, pR, xI, xL, yI, yL, vc, kd_sFi, fr_sFi, ln_sFi, ai_sFi, al_sFi, ar_sFi, cs_sFi, sz_sFi, sz_sAi, kd_sAi, fi_sAi, fr_sAi, ln_sAi, al_sAi, ar_sAi, cs_sAi, kd_wz, fi_wz, fr_wz, ln_wz, ai_wz, al_wz, ar_wz, Option.bind_some, if_true, if_false, Nat.reduceAdd, Nat.reduceMul, reduceIte, and_self, true_and, and_true, hkm, f24, f39, e1, eR, z, e4, em]
        cases m_X9_bills am (nI ((w + 1) / 4 - 1)) hm <;> rfl
      · have z : (nI ((w + 1) % 4) = 0) = False := eq_false fun y => h4 ((nI_eq (b := 0) (by omega) (by omega)).mp y)
        rw [if_neg h4]
        simp only [aN, kA201, kA202, kA203, kA206, kA306, i1n0, i0n1, i0e0, i1e1, gI, gR, pI, pB, pR, xI, xL, yI, yL, vc, kd_sFi, fr_sFi, ln_sFi, ai_sFi, al_sFi, ar_sFi, cs_sFi, sz_sFi, sz_sAi, kd_sAi, fi_sAi, fr_sAi, ln_sAi, al_sAi, ar_sAi, cs_sAi, kd_wz, fi_wz, fr_wz, ln_wz, ai_wz, al_wz, ar_wz, Option.bind_some, if_true, if_false, Nat.reduceAdd, Nat.reduceMul, reduceIte, and_self, true_and, and_true, hkm, f24, f39, e1, eR, z]
  | succ k ih =>
    intro c hx hm rs rl pr hck hW F hF1 F' hF2
    obtain ⟨F, rfl⟩ := nF1 hF1
    obtain ⟨F', rfl⟩ := nF1 hF2
    have hc : c < n 1 := by omega
    have hS := hW.1.1
    have hka := kax hS
    obtain ⟨hL, hr, hk⟩ := lcs hS
    have f9 := f909_of hS (x := nI (w + 1)) (by rw [hW.1.2.2.1 909 (by decide)]; exact h909)
    have hM := hW.2.1.1
    have hkm : kd hm am = 11 := hM.1
    have f24 : fi hm 1024 am = nI (w + 1) := by rw [hW.2.1.2.2.1]; exact h24
    have f39 : fi hm 1039 am = nI (n 1) := by rw [hW.2.1.2.2.1]; exact h39
    have e1 : ¬ nI (n 1) ≤ nI c := nI_ge hc (by omega)
    have kj : kd hx (ad 1 c) = 2 := k0 hS hc
    have e7 : nI c + 1 = nI (c + 1) := nI_add c 1
    obtain ⟨⟨s1, s2, s3, s4, s5, s6, s7, s8, s9⟩, -⟩ := hW.2.2.2.1 c (Nat.le_refl _) hc
    have er := e_runs hS hc (u := w + 1) (by omega) s3 s7 (by omega) (fun z hz => by have := (s9 z hz).1; omega)
    have er9 := e_runs9 hM (c := c) (by omega) (u := w + 1) (by omega) s4 s8 (by omega) (fun z hz => by have := (s9 z hz).1; omega)
    have r46 : fr hm 1046 am = some (q 46) := (hM.2.1 (46, 202, 60) (by decide)).1
    have k46 : kd hm (q 46) = 202 := (hM.2.1 (46, 202, 60) (by decide)).2.1
    have l46 : ln hm (q 46) = 60 := (hM.2.1 (46, 202, 60) (by decide)).2.2
    have clc : (nI c).toNatClampNeg = c := nI_cl hc (by omega)
    have ibc : inB (nI c) 60 = true := inB_nI (by omega) (by omega)
    rcases wk1_or (fs c) (w + 1) (ls c) with z | z
    · have hnr : ¬ rn (fs c) (ls c) (w + 1) := fun y => by rw [wk1_iff.mpr y] at z; cases z
      have z' : nI (wk1 (fs c) (ls c) (w + 1)) = 0 := by rw [z]; rfl
      obtain ⟨hx', hm', rs', rl', pr', o1, o2, o3⟩ := ih (c + 1) hx (sAi hm (q 46) c 0) rs rl pr (by omega) (wc_idle hw hc hn hF hW hnr) F (by omega) F' (by omega)
      refine ⟨hx', hm', rs', rl', pr', ?_, ?_, o3⟩
      · rw [← o1]
        conv => lhs; unfold X8_passWeek_L49
        simp only [X8_passWeek_b103, aN, kA201, kA202, kA203, kA206, kA306, i1n0, i0n1, i0e0, i1e1, gI, gR, pI, pB, pR, xI, xL, yI, yL, vc, kd_sFi, fr_sFi, ln_sFi, ai_sFi, al_sFi, ar_sFi, cs_sFi, sz_sFi, sz_sAi, kd_sAi, fi_sAi, fr_sAi, ln_sAi, al_sAi, ar_sAi, cs_sAi, kd_wz, fi_wz, fr_wz, ln_wz, ai_wz, al_wz, ar_wz, Option.bind_some, if_true, if_false, Nat.reduceAdd, Nat.reduceMul, reduceIte, and_self, true_and, and_true, hka, hr, hk, Nat.zero_add, e_size hk hL, e1, e_get hk hL (by omega) hc, cst, isO, kj, beq_self_eq_true, or_true, f9, er, z', e7]
      · rw [← o2]
        conv => lhs; unfold X9_week_L81
        simp only [X9_week_b106, aN, kA201, kA202, kA203, kA206, kA306, i1n0, i0n1, i0e0, i1e1, gI, gR, pI, pB, pR, xI, xL, yI, yL, vc, kd_sFi, fr_sFi, ln_sFi, ai_sFi, al_sFi, ar_sFi, cs_sFi, sz_sFi, sz_sAi, kd_sAi, fi_sAi, fr_sAi, ln_sAi, al_sAi, ar_sAi, cs_sAi, kd_wz, fi_wz, fr_wz, ln_wz, ai_wz, al_wz, ar_wz, Option.bind_some, if_true, if_false, Nat.reduceAdd, Nat.reduceMul, reduceIte, and_self, true_and, and_true, hkm, f24, f39, e1, er9, z', r46, k46, l46, clc, ibc, nar_z (Or.inl rfl), e7]
    · have hr' : rn (fs c) (ls c) (w + 1) := wk1_iff.mp z
      have z' : nI (wk1 (fs c) (ls c) (w + 1)) = 1 := by rw [z]; rfl
      obtain ⟨hx1, hx2, hm2, rs', rl', pr', r1, r2, r3, r4, r5, r6, r7⟩ := wc_run hw hc hn hn2 h24 hF hW hr'
      obtain ⟨hx', hm', rs'', rl'', pr'', o1, o2, o3⟩ := ih (c + 1) hx2 (sAi hm2 (q 46) c 0) rs' rl' pr' (by omega) r7 F (by omega) F' (by omega)
      have d1 := r2.1
      have f91 : fi hx1 909 ax = nI (w + 1) := by
        have n9 : 0 < n 9 := by rw [hS.1.2.2.2.2.2.1]; decide
        have e9 : ad 9 0 = ax := hS.2.2.2.2.1.1
        have := r3 909 0 (Or.inl (by decide))
        rw [← cf_at (g := 909) (t := 9) (by decide) n9, ← cf_at (g := 909) (t := 9) (by decide) n9, e9] at this
        rw [this]; exact f9
      have ew : nI (w + 1) - 1 = nI w := nI_sub (a := w + 1) (b := 1) (by omega)
      have ew4 : nI w / 4 = nI (w / 4) := w_div (by omega)
      have g1 := r6.1
      have g2 := r6.2.1
      have g3 := r6.2.2.1
      refine ⟨hx', hm', rs'', rl'', pr'', ?_, ?_, o3⟩
      · rw [← o1]
        conv => lhs; unfold X8_passWeek_L49
        simp only [X8_passWeek_b103, aN, kA201, kA202, kA203, kA206, kA306, i1n0, i0n1, i0e0, i1e1, gI, gR, pI, pB, pR, xI, xL, yI, yL, vc, kd_sFi, fr_sFi, ln_sFi, ai_sFi, al_sFi, ar_sFi, cs_sFi, sz_sFi, sz_sAi, kd_sAi, fi_sAi, fr_sAi, ln_sAi, al_sAi, ar_sAi, cs_sAi, kd_wz, fi_wz, fr_wz, ln_wz, ai_wz, al_wz, ar_wz, Option.bind_some, if_true, if_false, Nat.reduceAdd, Nat.reduceMul, reduceIte, and_self, true_and, and_true, hka, hr, hk, Nat.zero_add, e_size hk hL, e1, e_get hk hL (by omega) hc, cst, isO, kj, beq_self_eq_true, or_true, f9, er, z', r1, d1, f91, ew, ew4, r4, e7]
      · rw [← o2]
        conv => lhs; unfold X9_week_L81
        simp only [X9_week_b106, aN, kA201, kA202, kA203, kA206, kA306, i1n0, i0n1, i0e0, i1e1, gI, gR, pI, pB, pR, xI, xL, yI, yL, vc, kd_sFi, fr_sFi, ln_sFi, ai_sFi, al_sFi, ar_sFi, cs_sFi, sz_sFi, sz_sAi, kd_sAi, fi_sAi, fr_sAi, ln_sAi, al_sAi, ar_sAi, cs_sAi, kd_wz, fi_wz, fr_wz, ln_wz, ai_wz, al_wz, ar_wz, Option.bind_some, if_true, if_false, Nat.reduceAdd, Nat.reduceMul, reduceIte, and_self, true_and, and_true, hkm, f24, f39, e1, er9, z', r5, g1, g2, g3, r46, k46, l46, clc, ibc, nar_z (Or.inl rfl), e7]
end WKL3
