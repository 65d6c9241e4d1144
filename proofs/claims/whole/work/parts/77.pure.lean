section WKC9
variable {ax ao am : Nat} {ad : Nat → Nat → Nat} {n e pO fO q tm : Nat → Nat} {tx : Nat → List (Int32 × List Int32)} {w : Nat} {pn : Nat → Nat} {nw : Nat → Nat → Nat} {fs : Nat → Nat} {ls : Nat → Option Nat} {rs rl pr : Nat → Nat} {tl : Nat} {hx hm : HS}
theorem w_pr0 {h : HS} (hM : SMA q am h) {c f N u : Nat} {b : Int32} (hc : c < 60) (hf : f < 10) (hN : N ≤ 201) (h24 : mf am h 24 = nI u) (h41 : mv q h 41 c = nI f) (h31 : mv q h 31 f = nI N) (hz : mv q h 44 c < 0 ∨ ∃ K, K < 1000 ∧ mv q h 44 c = nI K ∧ (N < K ∨ (K ≤ N ∧ (mv q h 47 (202 * c + K) = 0 ∨ (b = 1 ∧ nI u ≤ mv q h 32 (202 * f + K)))))) : m_X9_prints am (nI c) b h = some h := by
  have hkm : kd h am = 11 := hM.1
  have f24 : fi h 1024 am = nI u := h24
  have r31 : fr h 1031 am = some (q 31) := (hM.2.1 (31, 201, 10) (by decide)).1
  have k31 : kd h (q 31) = 201 := (hM.2.1 (31, 201, 10) (by decide)).2.1
  have l31 : ln h (q 31) = 10 := (hM.2.1 (31, 201, 10) (by decide)).2.2
  have r32 : fr h 1032 am = some (q 32) := (hM.2.1 (32, 201, 2020) (by decide)).1
  have k32 : kd h (q 32) = 201 := (hM.2.1 (32, 201, 2020) (by decide)).2.1
  have l32 : ln h (q 32) = 2020 := (hM.2.1 (32, 201, 2020) (by decide)).2.2
  have r41 : fr h 1041 am = some (q 41) := (hM.2.1 (41, 201, 60) (by decide)).1
  have k41 : kd h (q 41) = 201 := (hM.2.1 (41, 201, 60) (by decide)).2.1
  have l41 : ln h (q 41) = 60 := (hM.2.1 (41, 201, 60) (by decide)).2.2
  have r44 : fr h 1044 am = some (q 44) := (hM.2.1 (44, 201, 60) (by decide)).1
  have k44 : kd h (q 44) = 201 := (hM.2.1 (44, 201, 60) (by decide)).2.1
  have l44 : ln h (q 44) = 60 := (hM.2.1 (44, 201, 60) (by decide)).2.2
  have r47 : fr h 1047 am = some (q 47) := (hM.2.1 (47, 202, 12120) (by decide)).1
  have k47 : kd h (q 47) = 202 := (hM.2.1 (47, 202, 12120) (by decide)).2.1
  have l47 : ln h (q 47) = 12120 := (hM.2.1 (47, 202, 12120) (by decide)).2.2
  have clc : (nI c).toNatClampNeg = c := nI_cl hc (by omega)
  have ibc : inB (nI c) 60 = true := inB_nI hc (by omega)
  have clf : (nI f).toNatClampNeg = f := nI_cl hf (by omega)
  have ibf : inB (nI f) 10 = true := inB_nI hf (by omega)
  have v41 : ai h (q 41) c = nI f := h41
  have v31 : ai h (q 31) f = nI N := h31
  rcases hz with hz | ⟨K, hK, h44, hz⟩
  · have v44 : ai h (q 44) c < 0 := hz
    simp only [m_X9_prints, X9_prints_b45, X9_prints_b46, aN, kA201, kA202, kA203, kA206, kA306, i1n0, i0n1, i0e0, i1e1, gI, gR, pI, pB, pR, xI, xL, yI, yL, vc, kd_sFi, fr_sFi, ln_sFi, ai_sFi, al_sFi, ar_sFi, cs_sFi, sz_sFi, sz_sAi, kd_sAi, fi_sAi, fr_sAi, ln_sAi, al_sAi, ar_sAi, cs_sAi, kd_wz, fi_wz, fr_wz, ln_wz, ai_wz, al_wz, ar_wz, Option.bind_some, if_true, if_false, Nat.reduceAdd, Nat.reduceMul, reduceIte, and_self, true_and, and_true, hkm, r31, k31, l31, r32, k32, l32, r41, k41, l41, r44, k44, l44, r47, k47, l47, clc, ibc, v44]
  · have v44 : ai h (q 44) c = nI K := h44
    have e0 : ¬ nI K < 0 := nI_pos (by omega)
    rcases hz with hz | ⟨hKN, hz⟩
    · have e1 : nI N < nI K := nI_lt hz (by omega)
      simp only [m_X9_prints, X9_prints_b45, X9_prints_b46, aN, kA201, kA202, kA203, kA206, kA306, i1n0, i0n1, i0e0, i1e1, gI, gR, pI, pB, pR, xI, xL, yI, yL, vc, kd_sFi, fr_sFi, ln_sFi, ai_sFi, al_sFi, ar_sFi, cs_sFi, sz_sFi, sz_sAi, kd_sAi, fi_sAi, fr_sAi, ln_sAi, al_sAi, ar_sAi, cs_sAi, kd_wz, fi_wz, fr_wz, ln_wz, ai_wz, al_wz, ar_wz, Option.bind_some, if_true, if_false, Nat.reduceAdd, Nat.reduceMul, reduceIte, and_self, true_and, and_true, hkm, r31, k31, l31, r32, k32, l32, r41, k41, l41, r44, k44, l44, r47, k47, l47, clc, ibc, v44, e0, v41, clf, ibf, v31, e1]
    · have e1 : ¬ nI N < nI K := fun z => absurd ((nI_ltI (by omega) (by omega)).mp z) (by omega)
      have e2 : (202 : Int32) * nI c + nI K = nI (202 * c + K) := by rw [show (202 : Int32) = nI 202 from rfl, nI_mul, nI_add]
      have cl2 : (nI (202 * c + K)).toNatClampNeg = 202 * c + K := nI_cl (N := 12120) (by omega) (by omega)
      have ib2 : inB (nI (202 * c + K)) 12120 = true := inB_nI (by omega) (by omega)
      have e3 : (202 : Int32) * nI f + nI K = nI (202 * f + K) := by rw [show (202 : Int32) = nI 202 from rfl, nI_mul, nI_add]
      have cl3 : (nI (202 * f + K)).toNatClampNeg = 202 * f + K := nI_cl (N := 2020) (by omega) (by omega)
      have ib3 : inB (nI (202 * f + K)) 2020 = true := inB_nI (by omega) (by omega)
      by_cases hz0 : ai h (q 47) (202 * c + K) = 0
      · simp only [m_X9_prints, X9_prints_b45, X9_prints_b46, aN, kA201, kA202, kA203, kA206, kA306, i1n0, i0n1, i0e0, i1e1, gI, gR, pI, pB, pR, xI, xL, yI, yL, vc, kd_sFi, fr_sFi, ln_sFi, ai_sFi, al_sFi, ar_sFi, cs_sFi, sz_sFi, sz_sAi, kd_sAi, fi_sAi, fr_sAi, ln_sAi, al_sAi, ar_sAi, cs_sAi, kd_wz, fi_wz, fr_wz, ln_wz, ai_wz, al_wz, ar_wz, Option.bind_some, if_true, if_false, Nat.reduceAdd, Nat.reduceMul, reduceIte, and_self, true_and, and_true, hkm, r31, k31, l31, r32, k32, l32, r41, k41, l41, r44, k44, l44, r47, k47, l47, clc, ibc, v44, e0, v41, clf, ibf, v31, e1, e2, cl2, ib2, hz0]
      · rcases hz with hz | ⟨hb, hz⟩
        · exact absurd hz hz0
        · subst hb
          have v32 : nI u ≤ ai h (q 32) (202 * f + K) := hz
          simp only [m_X9_prints, X9_prints_b45, X9_prints_b46, aN, kA201, kA202, kA203, kA206, kA306, i1n0, i0n1, i0e0, i1e1, gI, gR, pI, pB, pR, xI, xL, yI, yL, vc, kd_sFi, fr_sFi, ln_sFi, ai_sFi, al_sFi, ar_sFi, cs_sFi, sz_sFi, sz_sAi, kd_sAi, fi_sAi, fr_sAi, ln_sAi, al_sAi, ar_sAi, cs_sAi, kd_wz, fi_wz, fr_wz, ln_wz, ai_wz, al_wz, ar_wz, Option.bind_some, if_true, if_false, Nat.reduceAdd, Nat.reduceMul, reduceIte, and_self, true_and, and_true, hkm, r31, k31, l31, r32, k32, l32, r41, k41, l41, r44, k44, l44, r47, k47, l47, clc, ibc, v44, e0, v41, clf, ibf, v31, e1, e2, cl2, ib2, hz0, e3, cl3, ib3, f24, v32]
theorem w_pr1 {h : HS} (hM : SMA q am h) {c f N u K : Nat} {b : Int32} (hc : c < 60) (hf : f < 10) (hN : N ≤ 201) (hu1 : 1 ≤ u) (hu : u ≤ 200) (h24 : mf am h 24 = nI u) (h41 : mv q h 41 c = nI f) (h31 : mv q h 31 f = nI N) (h44 : mv q h 44 c = nI K) (hK : K ≤ N) (h47 : mv q h 47 (202 * c + K) ≠ 0) (hb : b = 0 ∨ (b = 1 ∧ ¬ nI u ≤ mv q h 32 (202 * f + K))) : ∃ h', m_X9_prints am (nI c) b h = some h' ∧ SameS h h' ∧ fi h' = fi h ∧ mv q h' = up2 (up2 (up2 (mv q h) 44 c (nI (K + 1))) 45 c (mv q h 45 c + 1)) 48 (51 * c + (u - 1) / 4) (mv q h 48 (51 * c + (u - 1) / 4) + 1) := by
  have hkm : kd h am = 11 := hM.1
  have f24 : fi h 1024 am = nI u := h24
  have r31 : fr h 1031 am = some (q 31) := (hM.2.1 (31, 201, 10) (by decide)).1
  have k31 : kd h (q 31) = 201 := (hM.2.1 (31, 201, 10) (by decide)).2.1
  have l31 : ln h (q 31) = 10 := (hM.2.1 (31, 201, 10) (by decide)).2.2
  have r32 : fr h 1032 am = some (q 32) := (hM.2.1 (32, 201, 2020) (by decide)).1
  have k32 : kd h (q 32) = 201 := (hM.2.1 (32, 201, 2020) (by decide)).2.1
  have l32 : ln h (q 32) = 2020 := (hM.2.1 (32, 201, 2020) (by decide)).2.2
  have r41 : fr h 1041 am = some (q 41) := (hM.2.1 (41, 201, 60) (by decide)).1
  have k41 : kd h (q 41) = 201 := (hM.2.1 (41, 201, 60) (by decide)).2.1
  have l41 : ln h (q 41) = 60 := (hM.2.1 (41, 201, 60) (by decide)).2.2
  have r44 : fr h 1044 am = some (q 44) := (hM.2.1 (44, 201, 60) (by decide)).1
  have k44 : kd h (q 44) = 201 := (hM.2.1 (44, 201, 60) (by decide)).2.1
  have l44 : ln h (q 44) = 60 := (hM.2.1 (44, 201, 60) (by decide)).2.2
  have r45 : fr h 1045 am = some (q 45) := (hM.2.1 (45, 201, 60) (by decide)).1
  have k45 : kd h (q 45) = 201 := (hM.2.1 (45, 201, 60) (by decide)).2.1
  have l45 : ln h (q 45) = 60 := (hM.2.1 (45, 201, 60) (by decide)).2.2
  have r47 : fr h 1047 am = some (q 47) := (hM.2.1 (47, 202, 12120) (by decide)).1
  have k47 : kd h (q 47) = 202 := (hM.2.1 (47, 202, 12120) (by decide)).2.1
  have l47 : ln h (q 47) = 12120 := (hM.2.1 (47, 202, 12120) (by decide)).2.2
  have r48 : fr h 1048 am = some (q 48) := (hM.2.1 (48, 201, 3060) (by decide)).1
  have k48 : kd h (q 48) = 201 := (hM.2.1 (48, 201, 3060) (by decide)).2.1
  have l48 : ln h (q 48) = 3060 := (hM.2.1 (48, 201, 3060) (by decide)).2.2
  have clc : (nI c).toNatClampNeg = c := nI_cl hc (by omega)
  have ibc : inB (nI c) 60 = true := inB_nI hc (by omega)
  have clf : (nI f).toNatClampNeg = f := nI_cl hf (by omega)
  have ibf : inB (nI f) 10 = true := inB_nI hf (by omega)
  have v41 : ai h (q 41) c = nI f := h41
  have v31 : ai h (q 31) f = nI N := h31
  have v44 : ai h (q 44) c = nI K := h44
  have e0 : ¬ nI K < 0 := nI_pos (by omega)
  have e1 : ¬ nI N < nI K := fun z => absurd ((nI_ltI (by omega) (by omega)).mp z) (by omega)
  have e2 : (202 : Int32) * nI c + nI K = nI (202 * c + K) := by rw [show (202 : Int32) = nI 202 from rfl, nI_mul, nI_add]
  have cl2 : (nI (202 * c + K)).toNatClampNeg = 202 * c + K := nI_cl (N := 12120) (by omega) (by omega)
  have ib2 : inB (nI (202 * c + K)) 12120 = true := inB_nI (by omega) (by omega)
  have e3 : (202 : Int32) * nI f + nI K = nI (202 * f + K) := by rw [show (202 : Int32) = nI 202 from rfl, nI_mul, nI_add]
  have cl3 : (nI (202 * f + K)).toNatClampNeg = 202 * f + K := nI_cl (N := 2020) (by omega) (by omega)
  have ib3 : inB (nI (202 * f + K)) 2020 = true := inB_nI (by omega) (by omega)
  have z47 : (ai h (q 47) (202 * c + K) = 0) = False := eq_false h47
  have e4 : nI K + 1 = nI (K + 1) := nI_add K 1
  have e5 : nI u - 1 = nI (u - 1) := nI_sub (a := u) (b := 1) (by omega)
  have e6 : nI (u - 1) / 4 = nI ((u - 1) / 4) := nI_div (a := u - 1) (b := 4) (by omega) (by omega) (by omega)
  have e7 : (51 : Int32) * nI c + nI ((u - 1) / 4) = nI (51 * c + (u - 1) / 4) := by rw [show (51 : Int32) = nI 51 from rfl, nI_mul, nI_add]
  have cl4 : (nI (51 * c + (u - 1) / 4)).toNatClampNeg = 51 * c + (u - 1) / 4 := nI_cl (N := 3060) (by omega) (by omega)
  have ib4 : inB (nI (51 * c + (u - 1) / 4)) 3060 = true := inB_nI (by omega) (by omega)
  have n1 : (q 45 = q 44) = False := eq_false fun z => absurd (hM.2.2 _ _ z) (by decide)
  have n2 : (q 48 = q 44) = False := eq_false fun z => absurd (hM.2.2 _ _ z) (by decide)
  have n3 : (q 48 = q 45) = False := eq_false fun z => absurd (hM.2.2 _ _ z) (by decide)
  have v45 : ai h (q 45) c = mv q h 45 c := rfl
  have v48 : ai h (q 48) (51 * c + (u - 1) / 4) = mv q h 48 (51 * c + (u - 1) / 4) := rfl
  refine ⟨sAi (sAi (sAi h (q 44) c (nI (K + 1))) (q 45) c (mv q h 45 c + 1)) (q 48) (51 * c + (u - 1) / 4) (mv q h 48 (51 * c + (u - 1) / 4) + 1), ?_, ⟨rfl, rfl, rfl, rfl, rfl, rfl, rfl⟩, rfl, ?_⟩
  · rcases hb with hb | ⟨hb, hz⟩
    · subst hb
      simp only [m_X9_prints, X9_prints_b46, X9_prints_b81, aN, kA201, kA202, kA203, kA206, kA306, i1n0, i0n1, i0e0, i1e1, gI, gR, pI, pB, pR, xI, xL, yI, yL, vc, kd_sFi, fr_sFi, ln_sFi, ai_sFi, al_sFi, ar_sFi, cs_sFi, sz_sFi, sz_sAi, kd_sAi, fi_sAi, fr_sAi, ln_sAi, al_sAi, ar_sAi, cs_sAi, kd_wz, fi_wz, fr_wz, ln_wz, ai_wz, al_wz, ar_wz, Option.bind_some, if_true, if_false, Nat.reduceAdd, Nat.reduceMul, reduceIte, and_self, true_and, and_true, hkm, r31, k31, l31, r32, k32, l32, r41, k41, l41, r44, k44, l44, r45, k45, l45, r47, k47, l47, r48, k48, l48, clc, ibc, v44, e0, v41, clf, ibf, v31, e1, e2, cl2, ib2, z47, e4, nar_i32, f24, e5, e6, e7, cl4, ib4, ai_sAi, up2, n1, n2, n3, false_and, v45, v48]
    · subst hb
      have v32 : ¬ nI u ≤ ai h (q 32) (202 * f + K) := hz
      simp only [m_X9_prints, X9_prints_b46, X9_prints_b81, aN, kA201, kA202, kA203, kA206, kA306, i1n0, i0n1, i0e0, i1e1, gI, gR, pI, pB, pR, xI, xL, yI, yL, vc, kd_sFi, fr_sFi, ln_sFi, ai_sFi, al_sFi, ar_sFi, cs_sFi, sz_sFi, sz_sAi, kd_sAi, fi_sAi, fr_sAi, ln_sAi, al_sAi, ar_sAi, cs_sAi, kd_wz, fi_wz, fr_wz, ln_wz, ai_wz, al_wz, ar_wz, Option.bind_some, if_true, if_false, Nat.reduceAdd, Nat.reduceMul, reduceIte, and_self, true_and, and_true, hkm, r31, k31, l31, r32, k32, l32, r41, k41, l41, r44, k44, l44, r45, k45, l45, r47, k47, l47, r48, k48, l48, clc, ibc, v44, e0, v41, clf, ibf, v31, e1, e2, cl2, ib2, z47, e3, cl3, ib3, v32, e4, nar_i32, f24, e5, e6, e7, cl4, ib4, ai_sAi, up2, n1, n2, n3, false_and, v45, v48]
  · rw [mv_sAi hM.2.2, mv_sAi hM.2.2, mv_sAi hM.2.2]
theorem w_b100 {h : HS} (hM : SMA q am h) {c f N u P R S g : Nat} {v : Nat → Int32} (hc : c < 60) (hf : f < 10) (hN : N ≤ 200) (hu1 : 1 ≤ u) (hu : u ≤ 200) (hg : g ≤ 1) (h24 : mf am h 24 = nI u) (h41 : mv q h 41 c = nI f) (h31 : mv q h 31 f = nI N) (h44 : mv q h 44 c = if R = 0 then -1 else nI (S + P)) (h45 : mv q h 45 c = nI P) (hPR : P ≤ R) (hS1 : 0 < R → 1 ≤ S) (hcon : 0 < R → S + R = N + 1) (hh : ∀ i, i < R → mv q h 47 (202 * c + (S + i)) = v i) (hnew : ∀ K, 1 ≤ K → K ≤ N → (nI u ≤ mv q h 32 (202 * f + K) ↔ g = 1 ∧ K = N)) : ∃ h', X9_runs_b100 am (nI c) h = some h' ∧ SameS h h' ∧ fi h' = fi h ∧ (∀ k, (k ≠ 44 ∧ k ≠ 45 ∧ k ≠ 48) → mv q h' k = mv q h k) ∧ mv q h' 44 = va_up (mv q h 44) c (if R = 0 then -1 else nI (S + (P + dP g P R v))) ∧ mv q h' 45 = va_up (mv q h 45) c (nI (P + dP g P R v)) ∧ mv q h' 48 = va_up (mv q h 48) (51 * c + (u - 1) / 4) (mv q h 48 (51 * c + (u - 1) / 4) + nI (dP g P R v)) := by
  have hkm : kd h am = 11 := hM.1
  have r45 : fr h 1045 am = some (q 45) := (hM.2.1 (45, 201, 60) (by decide)).1
  have k45 : kd h (q 45) = 201 := (hM.2.1 (45, 201, 60) (by decide)).2.1
  have l45 : ln h (q 45) = 60 := (hM.2.1 (45, 201, 60) (by decide)).2.2
  have clc : (nI c).toNatClampNeg = c := nI_cl hc (by omega)
  have ibc : inB (nI c) 60 = true := inB_nI hc (by omega)
  have v45 : ai h (q 45) c = nI P := h45
  have va0 : ∀ (f : Nat → Int32) (i : Nat) (x : Int32), f i = x → va_up f i x = f := fun f i x hx => by
    funext j
    by_cases hj : j = i
    · subst hj; rw [va_up_same]; exact hx.symm
    · rw [va_upN _ _ hj]
  by_cases c0 : P < R ∧ v P ≠ 0
  · have hR0 : ¬ R = 0 := by omega
    have hcc := hcon (by omega)
    rw [if_neg hR0] at h44
    rw [if_neg hR0]
    obtain ⟨h1, a1, a2, a3, a4⟩ := w_pr1 (b := 0) hM hc hf (by omega) hu1 hu h24 h41 h31 h44 (by omega) (by rw [hh P c0.1]; exact c0.2) (Or.inl rfl)
    have hM1 := SMA_same a2 hM
    have n44 : mv q h1 44 = va_up (mv q h 44) c (nI (S + P + 1)) := by rw [a4, up2_ne1' (by decide), up2_ne1' (by decide), up2_va]
    have n45 : mv q h1 45 = va_up (mv q h 45) c (mv q h 45 c + 1) := by rw [a4, up2_ne1' (by decide), up2_va, up2_ne1' (by decide)]
    have n48 : mv q h1 48 = va_up (mv q h 48) (51 * c + (u - 1) / 4) (mv q h 48 (51 * c + (u - 1) / 4) + 1) := by rw [a4, up2_va, up2_ne1' (by decide), up2_ne1' (by decide)]
    have no : ∀ k, (k ≠ 44 ∧ k ≠ 45 ∧ k ≠ 48) → mv q h1 k = mv q h k := fun k hk => by rw [a4, up2_ne1' hk.2.2, up2_ne1' hk.2.1, up2_ne1' hk.1]
    have e1 : nI P + 1 = nI (P + 1) := nI_add P 1
    have w45 : ai h1 (q 45) c = nI (P + 1) := by
      have : mv q h1 45 c = nI (P + 1) := by rw [n45, va_up_same, h45, e1]
      exact this
    have e2 : ¬ nI (P + 1) ≤ nI P := nI_ge (by omega) (by omega)
    have d1 := a2.1
    have d2 := a2.2.1
    have d3 := a2.2.2.1
    have step : ∀ h2, m_X9_prints am (nI c) 1 h1 = some h2 → X9_runs_b100 am (nI c) h = some h2 := fun h2 hp => by
      simp only [X9_runs_b100, aN, kA201, kA202, kA203, kA206, kA306, i1n0, i0n1, i0e0, i1e1, gI, gR, pI, pB, pR, xI, xL, yI, yL, vc, kd_sFi, fr_sFi, ln_sFi, ai_sFi, al_sFi, ar_sFi, cs_sFi, sz_sFi, sz_sAi, kd_sAi, fi_sAi, fr_sAi, ln_sAi, al_sAi, ar_sAi, cs_sAi, kd_wz, fi_wz, fr_wz, ln_wz, ai_wz, al_wz, ar_wz, Option.bind_some, if_true, if_false, Nat.reduceAdd, Nat.reduceMul, reduceIte, and_self, true_and, and_true, hkm, r45, k45, l45, clc, ibc, v45, a1, d1, d2, d3, w45, e2, hp]
    have h24' : mf am h1 24 = nI u := by unfold mf; rw [a3]; exact h24
    have g44 : mv q h1 44 c = nI (S + P + 1) := by rw [n44, va_up_same]
    have one : ∀ h', (dP g P R v = 1 → h' = h1) → dP g P R v = 1 → m_X9_prints am (nI c) 1 h1 = some h' → ∃ h', X9_runs_b100 am (nI c) h = some h' ∧ SameS h h' ∧ fi h' = fi h ∧ (∀ k, (k ≠ 44 ∧ k ≠ 45 ∧ k ≠ 48) → mv q h' k = mv q h k) ∧ mv q h' 44 = va_up (mv q h 44) c (nI (S + (P + dP g P R v))) ∧ mv q h' 45 = va_up (mv q h 45) c (nI (P + dP g P R v)) ∧ mv q h' 48 = va_up (mv q h 48) (51 * c + (u - 1) / 4) (mv q h 48 (51 * c + (u - 1) / 4) + nI (dP g P R v)) := by
      intro h' hh' hd hp
      have := hh' hd
      subst this
      rw [hd]
      exact ⟨h', step h' hp, a2, a3, no, n44, by rw [n45, h45, e1], n48⟩
    by_cases c1 : P + 1 < R
    · by_cases c2 : v (P + 1) = 0
      · exact one h1 (fun _ => rfl) (dP1 c0 (fun z => z.2.2 c2)) (w_pr0 (N := N) hM1 hc hf (by omega) h24' (by rw [no 41 (by decide)]; exact h41) (by rw [no 31 (by decide)]; exact h31) (Or.inr ⟨S + P + 1, by omega, g44, Or.inr ⟨by omega, Or.inl (by rw [no 47 (by decide), Nat.add_assoc S P 1, hh (P + 1) c1]; exact c2)⟩⟩))
      · have hn := hnew (S + P + 1) (by omega) (by omega)
        by_cases c3 : g = 0 ∨ P + 1 < R - 1
        · obtain ⟨h2, b1, b2, b3, b4⟩ := w_pr1 (N := N) (b := 1) hM1 hc hf (by omega) hu1 hu h24' (by rw [no 41 (by decide)]; exact h41) (by rw [no 31 (by decide)]; exact h31) g44 (by omega) (by rw [no 47 (by decide), Nat.add_assoc S P 1, hh (P + 1) c1]; exact c2) (Or.inr ⟨rfl, by rw [no 32 (by decide), hn]; omega⟩)
          rw [dP2 c0 ⟨c3, c1, c2⟩]
          refine ⟨h2, step h2 b1, a2.tr b2, b3.trans a3, fun k hk => ?_, ?_, ?_, ?_⟩
          · rw [b4, up2_ne1' hk.2.2, up2_ne1' hk.2.1, up2_ne1' hk.1]; exact no k hk
          · rw [b4, up2_ne1' (by decide), up2_ne1' (by decide), up2_va, n44]; funext j
            by_cases hj : j = c
            · subst hj; rw [va_up_same, va_up_same]; rfl
            · rw [va_upN _ _ hj, va_upN _ _ hj, va_upN _ _ hj]
          · rw [b4, up2_ne1' (by decide), up2_va, up2_ne1' (by decide), n45, va_up_same, h45, e1]; funext j
            by_cases hj : j = c
            · subst hj; rw [va_up_same, va_up_same]; exact nI_add (P + 1) 1
            · rw [va_upN _ _ hj, va_upN _ _ hj, va_upN _ _ hj]
          · rw [b4, up2_va, up2_ne1' (by decide), up2_ne1' (by decide), n48, va_up_same]; funext j
            by_cases hj : j = 51 * c + (u - 1) / 4
            · subst hj; rw [va_up_same, va_up_same, Int32.add_assoc]; rfl
            · rw [va_upN _ _ hj, va_upN _ _ hj, va_upN _ _ hj]
        · exact one h1 (fun _ => rfl) (dP1 c0 (fun z => c3 z.1)) (w_pr0 (N := N) hM1 hc hf (by omega) h24' (by rw [no 41 (by decide)]; exact h41) (by rw [no 31 (by decide)]; exact h31) (Or.inr ⟨S + P + 1, by omega, g44, Or.inr ⟨by omega, Or.inr ⟨rfl, by rw [no 32 (by decide), hn]; omega⟩⟩⟩))
    · exact one h1 (fun _ => rfl) (dP1 c0 (fun z => c1 z.2.1)) (w_pr0 (N := N) hM1 hc hf (by omega) h24' (by rw [no 41 (by decide)]; exact h41) (by rw [no 31 (by decide)]; exact h31) (Or.inr ⟨S + P + 1, by omega, g44, Or.inl (by omega)⟩))
  · rw [dP0 c0]
    have hp : m_X9_prints am (nI c) 0 h = some h := by
      refine w_pr0 hM hc hf (by omega) h24 h41 h31 ?_
      by_cases hR0 : R = 0
      · left; rw [h44, if_pos hR0]; decide
      · right
        rw [if_neg hR0] at h44
        have hcc := hcon (by omega)
        refine ⟨S + P, by omega, h44, ?_⟩
        by_cases hPl : P < R
        · exact Or.inr ⟨by omega, Or.inl (by rw [hh P hPl]; exact Classical.byContradiction fun z => c0 ⟨hPl, z⟩)⟩
        · exact Or.inl (by omega)
    refine ⟨h, ?_, SameS.rf h, rfl, fun _ _ => rfl, ?_, ?_, ?_⟩
    · have e2 : nI P ≤ nI P := Int32.le_refl _
      simp only [X9_runs_b100, aN, kA201, kA202, kA203, kA206, kA306, i1n0, i0n1, i0e0, i1e1, gI, gR, pI, pB, pR, xI, xL, yI, yL, vc, kd_sFi, fr_sFi, ln_sFi, ai_sFi, al_sFi, ar_sFi, cs_sFi, sz_sFi, sz_sAi, kd_sAi, fi_sAi, fr_sAi, ln_sAi, al_sAi, ar_sAi, cs_sAi, kd_wz, fi_wz, fr_wz, ln_wz, ai_wz, al_wz, ar_wz, Option.bind_some, if_true, if_false, Nat.reduceAdd, Nat.reduceMul, reduceIte, and_self, true_and, and_true, hkm, r45, k45, l45, clc, ibc, v45, hp, e2]
    · exact (va0 _ _ _ h44).symm
    · exact (va0 _ _ _ h45).symm
    · exact (va0 _ _ _ (Int32.add_zero _).symm).symm
theorem w_runs0 {h : HS} (hM : SMA q am h) {c f N u : Nat} (hc : c < 60) (hf : f < 10) (hN : N ≤ 201) (h24 : mf am h 24 = nI u) (h41 : mv q h 41 c = nI f) (h31 : mv q h 31 f = nI N) (hz : N = 0 ∨ mv q h 32 (202 * f + N) ≠ nI u) : m_X9_runs am (nI c) h = X9_runs_b100 am (nI c) h := by
  have hkm : kd h am = 11 := hM.1
  have f24 : fi h 1024 am = nI u := h24
  have r31 : fr h 1031 am = some (q 31) := (hM.2.1 (31, 201, 10) (by decide)).1
  have k31 : kd h (q 31) = 201 := (hM.2.1 (31, 201, 10) (by decide)).2.1
  have l31 : ln h (q 31) = 10 := (hM.2.1 (31, 201, 10) (by decide)).2.2
  have r32 : fr h 1032 am = some (q 32) := (hM.2.1 (32, 201, 2020) (by decide)).1
  have k32 : kd h (q 32) = 201 := (hM.2.1 (32, 201, 2020) (by decide)).2.1
  have l32 : ln h (q 32) = 2020 := (hM.2.1 (32, 201, 2020) (by decide)).2.2
  have r41 : fr h 1041 am = some (q 41) := (hM.2.1 (41, 201, 60) (by decide)).1
  have k41 : kd h (q 41) = 201 := (hM.2.1 (41, 201, 60) (by decide)).2.1
  have l41 : ln h (q 41) = 60 := (hM.2.1 (41, 201, 60) (by decide)).2.2
  have clc : (nI c).toNatClampNeg = c := nI_cl hc (by omega)
  have ibc : inB (nI c) 60 = true := inB_nI hc (by omega)
  have clf : (nI f).toNatClampNeg = f := nI_cl hf (by omega)
  have ibf : inB (nI f) 10 = true := inB_nI hf (by omega)
  have v41 : ai h (q 41) c = nI f := h41
  have v31 : ai h (q 31) f = nI N := h31
  by_cases hN0 : N = 0
  · have e0 : nI N ≤ 0 := by rw [hN0]; decide
    simp only [m_X9_runs, X9_runs_b41, X9_runs_b42, aN, kA201, kA202, kA203, kA206, kA306, i1n0, i0n1, i0e0, i1e1, gI, gR, pI, pB, pR, xI, xL, yI, yL, vc, kd_sFi, fr_sFi, ln_sFi, ai_sFi, al_sFi, ar_sFi, cs_sFi, sz_sFi, sz_sAi, kd_sAi, fi_sAi, fr_sAi, ln_sAi, al_sAi, ar_sAi, cs_sAi, kd_wz, fi_wz, fr_wz, ln_wz, ai_wz, al_wz, ar_wz, Option.bind_some, if_true, if_false, Nat.reduceAdd, Nat.reduceMul, reduceIte, and_self, true_and, and_true, hkm, r31, k31, l31, r32, k32, l32, r41, k41, l41, clc, ibc, clf, ibf, v41, v31, e0]
  · have e0 : ¬ nI N ≤ 0 := nI_ge (a := 0) (by omega) (by omega)
    have e3 : (202 : Int32) * nI f + nI N = nI (202 * f + N) := by rw [show (202 : Int32) = nI 202 from rfl, nI_mul, nI_add]
    have cl3 : (nI (202 * f + N)).toNatClampNeg = 202 * f + N := nI_cl (N := 2020) (by omega) (by omega)
    have ib3 : inB (nI (202 * f + N)) 2020 = true := inB_nI (by omega) (by omega)
    have v32 : (ai h (q 32) (202 * f + N) = nI u) = False := eq_false (hz.resolve_left hN0)
    simp only [m_X9_runs, X9_runs_b41, X9_runs_b42, aN, kA201, kA202, kA203, kA206, kA306, i1n0, i0n1, i0e0, i1e1, gI, gR, pI, pB, pR, xI, xL, yI, yL, vc, kd_sFi, fr_sFi, ln_sFi, ai_sFi, al_sFi, ar_sFi, cs_sFi, sz_sFi, sz_sAi, kd_sAi, fi_sAi, fr_sAi, ln_sAi, al_sAi, ar_sAi, cs_sAi, kd_wz, fi_wz, fr_wz, ln_wz, ai_wz, al_wz, ar_wz, Option.bind_some, if_true, if_false, Nat.reduceAdd, Nat.reduceMul, reduceIte, and_self, true_and, and_true, hkm, r31, k31, l31, r32, k32, l32, r41, k41, l41, clc, ibc, clf, ibf, v41, v31, e0, e3, cl3, ib3, v32, f24]
theorem w_runs1 {h : HS} (hM : SMA q am h) {c f N u : Nat} (hc : c < 60) (hf : f < 10) (hN0 : 1 ≤ N) (hN : N ≤ 201) (h24 : mf am h 24 = nI u) (h41 : mv q h 41 c = nI f) (h31 : mv q h 31 f = nI N) (h32 : mv q h 32 (202 * f + N) = nI u) : ∃ h', m_X9_runs am (nI c) h = X9_runs_b100 am (nI c) h' ∧ SameS h h' ∧ fi h' = fi h ∧ (∀ k, (k ≠ 44 ∧ k ≠ 47) → mv q h' k = mv q h k) ∧ mv q h' 47 = va_up (mv q h 47) (202 * c + N) (if mv q h 46 c = 0 then 1 else 0) ∧ mv q h' 44 = va_up (mv q h 44) c (if 0 ≤ mv q h 44 c then mv q h 44 c else nI N) := by
  have hkm : kd h am = 11 := hM.1
  have f24 : fi h 1024 am = nI u := h24
  have r31 : fr h 1031 am = some (q 31) := (hM.2.1 (31, 201, 10) (by decide)).1
  have k31 : kd h (q 31) = 201 := (hM.2.1 (31, 201, 10) (by decide)).2.1
  have l31 : ln h (q 31) = 10 := (hM.2.1 (31, 201, 10) (by decide)).2.2
  have r32 : fr h 1032 am = some (q 32) := (hM.2.1 (32, 201, 2020) (by decide)).1
  have k32 : kd h (q 32) = 201 := (hM.2.1 (32, 201, 2020) (by decide)).2.1
  have l32 : ln h (q 32) = 2020 := (hM.2.1 (32, 201, 2020) (by decide)).2.2
  have r41 : fr h 1041 am = some (q 41) := (hM.2.1 (41, 201, 60) (by decide)).1
  have k41 : kd h (q 41) = 201 := (hM.2.1 (41, 201, 60) (by decide)).2.1
  have l41 : ln h (q 41) = 60 := (hM.2.1 (41, 201, 60) (by decide)).2.2
  have r44 : fr h 1044 am = some (q 44) := (hM.2.1 (44, 201, 60) (by decide)).1
  have k44 : kd h (q 44) = 201 := (hM.2.1 (44, 201, 60) (by decide)).2.1
  have l44 : ln h (q 44) = 60 := (hM.2.1 (44, 201, 60) (by decide)).2.2
  have r46 : fr h 1046 am = some (q 46) := (hM.2.1 (46, 202, 60) (by decide)).1
  have k46 : kd h (q 46) = 202 := (hM.2.1 (46, 202, 60) (by decide)).2.1
  have l46 : ln h (q 46) = 60 := (hM.2.1 (46, 202, 60) (by decide)).2.2
  have r47 : fr h 1047 am = some (q 47) := (hM.2.1 (47, 202, 12120) (by decide)).1
  have k47 : kd h (q 47) = 202 := (hM.2.1 (47, 202, 12120) (by decide)).2.1
  have l47 : ln h (q 47) = 12120 := (hM.2.1 (47, 202, 12120) (by decide)).2.2
  have clc : (nI c).toNatClampNeg = c := nI_cl hc (by omega)
  have ibc : inB (nI c) 60 = true := inB_nI hc (by omega)
  have clf : (nI f).toNatClampNeg = f := nI_cl hf (by omega)
  have ibf : inB (nI f) 10 = true := inB_nI hf (by omega)
  have v41 : ai h (q 41) c = nI f := h41
  have v31 : ai h (q 31) f = nI N := h31
  have e0 : ¬ nI N ≤ 0 := nI_ge (a := 0) (by omega) (by omega)
  have e3 : (202 : Int32) * nI f + nI N = nI (202 * f + N) := by rw [show (202 : Int32) = nI 202 from rfl, nI_mul, nI_add]
  have cl3 : (nI (202 * f + N)).toNatClampNeg = 202 * f + N := nI_cl (N := 2020) (by omega) (by omega)
  have ib3 : inB (nI (202 * f + N)) 2020 = true := inB_nI (by omega) (by omega)
  have v32 : ai h (q 32) (202 * f + N) = nI u := h32
  have e2 : (202 : Int32) * nI c + nI N = nI (202 * c + N) := by rw [show (202 : Int32) = nI 202 from rfl, nI_mul, nI_add]
  have cl2 : (nI (202 * c + N)).toNatClampNeg = 202 * c + N := nI_cl (N := 12120) (by omega) (by omega)
  have ib2 : inB (nI (202 * c + N)) 12120 = true := inB_nI (by omega) (by omega)
  obtain ⟨b, hb⟩ : ∃ b : Int32, b = if mv q h 46 c = 0 then 1 else 0 := ⟨_, rfl⟩
  have hb01 : b = 0 ∨ b = 1 := by
    rw [hb]; split
    · exact Or.inr rfl
    · exact Or.inl rfl
  have nb := nar_z hb01
  obtain ⟨x, hx⟩ : ∃ x : Int32, x = if 0 ≤ mv q h 44 c then mv q h 44 c else nI N := ⟨_, rfl⟩
  rw [← hb, ← hx]
  have n1 : (q 44 = q 47) = False := eq_false fun z => absurd (hM.2.2 _ _ z) (by decide)
  have b74 : X9_runs_b74 am (nI c) (nI N) b (nI (202 * c + N)) (some (q 47)) h = X9_runs_b100 am (nI c) (sAi (sAi h (q 47) (202 * c + N) b) (q 44) c x) := by
    have v44 : ai h (q 44) c = mv q h 44 c := rfl
    by_cases hp : 0 ≤ mv q h 44 c
    · rw [if_pos hp] at hx
      simp only [X9_runs_b74, X9_runs_b99, aN, kA201, kA202, kA203, kA206, kA306, i1n0, i0n1, i0e0, i1e1, gI, gR, pI, pB, pR, xI, xL, yI, yL, vc, kd_sFi, fr_sFi, ln_sFi, ai_sFi, al_sFi, ar_sFi, cs_sFi, sz_sFi, sz_sAi, kd_sAi, fi_sAi, fr_sAi, ln_sAi, al_sAi, ar_sAi, cs_sAi, kd_wz, fi_wz, fr_wz, ln_wz, ai_wz, al_wz, ar_wz, Option.bind_some, if_true, if_false, Nat.reduceAdd, Nat.reduceMul, reduceIte, and_self, true_and, and_true, hkm, r44, k44, l44, r47, k47, l47, cl2, ib2, nb, clc, ibc, ai_sAi, up2, n1, false_and, v44, hp, hx, nar_i32]
    · rw [if_neg hp] at hx
      simp only [X9_runs_b74, X9_runs_b99, aN, kA201, kA202, kA203, kA206, kA306, i1n0, i0n1, i0e0, i1e1, gI, gR, pI, pB, pR, xI, xL, yI, yL, vc, kd_sFi, fr_sFi, ln_sFi, ai_sFi, al_sFi, ar_sFi, cs_sFi, sz_sFi, sz_sAi, kd_sAi, fi_sAi, fr_sAi, ln_sAi, al_sAi, ar_sAi, cs_sAi, kd_wz, fi_wz, fr_wz, ln_wz, ai_wz, al_wz, ar_wz, Option.bind_some, if_true, if_false, Nat.reduceAdd, Nat.reduceMul, reduceIte, and_self, true_and, and_true, hkm, r44, k44, l44, r47, k47, l47, cl2, ib2, nb, clc, ibc, ai_sAi, up2, n1, false_and, v44, hp, hx, nar_i32]
  have em : mv q (sAi (sAi h (q 47) (202 * c + N) b) (q 44) c x) = up2 (up2 (mv q h) 47 (202 * c + N) b) 44 c x := by rw [mv_sAi hM.2.2, mv_sAi hM.2.2]
  refine ⟨sAi (sAi h (q 47) (202 * c + N) b) (q 44) c x, ?_, ⟨rfl, rfl, rfl, rfl, rfl, rfl, rfl⟩, rfl, fun k hk => ?_, ?_, ?_⟩
  · rw [← b74]
    by_cases h46 : mv q h 46 c = 0
    · rw [if_pos h46] at hb
      have v46 : ai h (q 46) c = 0 := h46
      simp only [m_X9_runs, X9_runs_b42, aN, kA201, kA202, kA203, kA206, kA306, i1n0, i0n1, i0e0, i1e1, gI, gR, pI, pB, pR, xI, xL, yI, yL, vc, kd_sFi, fr_sFi, ln_sFi, ai_sFi, al_sFi, ar_sFi, cs_sFi, sz_sFi, sz_sAi, kd_sAi, fi_sAi, fr_sAi, ln_sAi, al_sAi, ar_sAi, cs_sAi, kd_wz, fi_wz, fr_wz, ln_wz, ai_wz, al_wz, ar_wz, Option.bind_some, if_true, if_false, Nat.reduceAdd, Nat.reduceMul, reduceIte, and_self, true_and, and_true, hkm, r31, k31, l31, r32, k32, l32, r41, k41, l41, r46, k46, l46, r47, k47, l47, clc, ibc, clf, ibf, v41, v31, e0, e3, cl3, ib3, v32, f24, e2, v46, hb]
    · rw [if_neg h46] at hb
      have v46 : (ai h (q 46) c = 0) = False := eq_false h46
      simp only [m_X9_runs, X9_runs_b42, aN, kA201, kA202, kA203, kA206, kA306, i1n0, i0n1, i0e0, i1e1, gI, gR, pI, pB, pR, xI, xL, yI, yL, vc, kd_sFi, fr_sFi, ln_sFi, ai_sFi, al_sFi, ar_sFi, cs_sFi, sz_sFi, sz_sAi, kd_sAi, fi_sAi, fr_sAi, ln_sAi, al_sAi, ar_sAi, cs_sAi, kd_wz, fi_wz, fr_wz, ln_wz, ai_wz, al_wz, ar_wz, Option.bind_some, if_true, if_false, Nat.reduceAdd, Nat.reduceMul, reduceIte, and_self, true_and, and_true, hkm, r31, k31, l31, r32, k32, l32, r41, k41, l41, r46, k46, l46, r47, k47, l47, clc, ibc, clf, ibf, v41, v31, e0, e3, cl3, ib3, v32, f24, e2, v46, hb]
  · rw [em, up2_ne1' hk.1, up2_ne1' hk.2]
  · rw [em, up2_ne1' (by decide), up2_va]
  · rw [em, up2_va, up2_ne1' (by decide)]
end WKC9
