/-! a week: a contract -/
section WKC
variable {ax ao am : Nat} {ad : Nat → Nat → Nat} {n e pO fO q tm : Nat → Nat} {tx : Nat → List (Int32 × List Int32)} {w : Nat} {pn : Nat → Nat} {nw : Nat → Nat → Nat} {fs : Nat → Nat} {ls : Nat → Option Nat} {rs rl pr : Nat → Nat} {tl : Nat} {hx hm : HS}
theorem e_receive0 {h : HS} (hS : SXA ax ao ad n e pO fO h) {c : Nat} (hc : c < n 1) (u : Int32) (h207 : cf ad n h 207 (fO c) = 0) : m_X0_receive (ad 1 c) u h = some h := by
  obtain ⟨k1, k2, k3, k4, k5, -⟩ := kthere hS hc
  obtain ⟨z1, z2, z3, z4, z5, z6⟩ := crf hS hc
  have kf : kd h (ad 2 (fO c)) = 3 := k0 hS z6
  have f207 : fi h 207 (ad 2 (fO c)) = 0 := by rw [cf_at (g := 207) (n := n) (t := 2) (by decide) z6]; exact h207
  simp only [m_X0_receive, aN, kA201, kA202, kA203, kA206, kA306, i1n0, i0n1, i0e0, i1e1, gI, gR, pI, pB, pR, xI, xL, yI, yL, vc, kd_sFi, fr_sFi, ln_sFi, ai_sFi, al_sFi, ar_sFi, cs_sFi, sz_sFi, sz_sAi, kd_sAi, fi_sAi, fr_sAi, ln_sAi, al_sAi, ar_sAi, cs_sAi, kd_wz, fi_wz, fr_wz, ln_wz, ai_wz, al_wz, ar_wz, Option.bind_some, if_true, if_false, Nat.reduceAdd, Nat.reduceMul, reduceIte, and_self, true_and, and_true, k1, z4, kf, f207]
theorem e_receive1 {h : HS} (hS : SXA ax ao ad n e pO fO h) {c u R : Nat} (hc : c < n 1) (h207 : cf ad n h 207 (fO c) = 1) (h106 : cf ad n h 106 c = nI R) (hR : R < 200) : ∃ h', m_X0_receive (ad 1 c) (nI u) h = some h' ∧ SXA ax ao ad n e pO fO h' ∧ SameS h h' ∧ (∀ g, (g ≠ 105 ∧ g ≠ 106) → cf ad n h' g = cf ad n h g) ∧ cf ad n h' 105 = va_up (cf ad n h 105) c (if R = 0 then cf ad n h 206 (fO c) else cf ad n h 105 c) ∧ cf ad n h' 106 = va_up (cf ad n h 106) c (nI (R + 1)) ∧ cv ad n h' = up3 (cv ad n h) 11 c R (if cf ad n h 104 c = nI u then 0 else 1) := by
  obtain ⟨k1, k2, k3, k4, k5, -⟩ := kthere hS hc
  obtain ⟨z1, z2, z3, z4, z5, z6⟩ := crf hS hc
  have kf : kd h (ad 2 (fO c)) = 3 := k0 hS z6
  have f207 : fi h 207 (ad 2 (fO c)) = 1 := by rw [cf_at (g := 207) (n := n) (t := 2) (by decide) z6]; exact h207
  have f206 : fi h 206 (ad 2 (fO c)) = cf ad n h 206 (fO c) := cf_at (g := 206) (n := n) (t := 2) (by decide) z6
  have f106 : fi h 106 (ad 1 c) = nI R := by rw [cf_at (g := 106) (n := n) (t := 1) (by decide) hc]; exact h106
  have f104 : fi h 104 (ad 1 c) = cf ad n h 104 c := cf_at (g := 104) (n := n) (t := 1) (by decide) hc
  have e0 : nI R < nI 200 := nI_lt hR (by omega)
  have cl : (nI R).toNatClampNeg = R := nI_cl hR (by omega)
  have ib : inB (nI R) 200 = true := inB_nI hR (by omega)
  have e1 : nI R + 1 = nI (R + 1) := nI_add R 1
  obtain ⟨b, hb⟩ : ∃ b : Int32, b = if cf ad n h 104 c = nI u then 0 else 1 := ⟨_, rfl⟩
  have hb01 : b = 0 ∨ b = 1 := by
    rw [hb]; split
    · exact Or.inl rfl
    · exact Or.inr rfl
  rw [← hb]
  have nb := nar_z hb01
  have n1 : ((106 : Nat) = 105) = False := eq_false (by decide)
  have n2 : ((104 : Nat) = 105) = False := eq_false (by decide)
  have b62 : ∀ h1 : HS, kd h1 = kd h → ln h1 = ln h → fi h1 106 (ad 1 c) = nI R → X0_receive_b62 (ad 1 c) b (nI R) (some (ad 11 c)) h1 = some (sFi (sAi h1 (ad 11 c) R b) 106 (ad 1 c) (nI (R + 1))) := by
    intro h1 d1 d2 d3
    simp only [X0_receive_b62, aN, kA201, kA202, kA203, kA206, kA306, i1n0, i0n1, i0e0, i1e1, gI, gR, pI, pB, pR, xI, xL, yI, yL, vc, kd_sFi, fr_sFi, ln_sFi, ai_sFi, al_sFi, ar_sFi, cs_sFi, sz_sFi, sz_sAi, kd_sAi, fi_sAi, fr_sAi, ln_sAi, al_sAi, ar_sAi, cs_sAi, kd_wz, fi_wz, fr_wz, ln_wz, ai_wz, al_wz, ar_wz, Option.bind_some, if_true, if_false, Nat.reduceAdd, Nat.reduceMul, reduceIte, and_self, true_and, and_true, d1, d2, d3, k1, k3, k4, cl, ib, nb, e1]
  have b41 : ∀ h1 : HS, kd h1 = kd h → ln h1 = ln h → fr h1 = fr h → fi h1 106 (ad 1 c) = nI R → fi h1 104 (ad 1 c) = cf ad n h 104 c → X0_receive_b41 (ad 1 c) (nI u) h1 = some (sFi (sAi h1 (ad 11 c) R b) 106 (ad 1 c) (nI (R + 1))) := by
    intro h1 d1 d2 d3 d4 d5
    rw [← b62 h1 d1 d2 d4]
    by_cases hq : cf ad n h 104 c = nI u
    · rw [if_pos hq] at hb
      simp only [X0_receive_b41, aN, kA201, kA202, kA203, kA206, kA306, i1n0, i0n1, i0e0, i1e1, gI, gR, pI, pB, pR, xI, xL, yI, yL, vc, kd_sFi, fr_sFi, ln_sFi, ai_sFi, al_sFi, ar_sFi, cs_sFi, sz_sFi, sz_sAi, kd_sAi, fi_sAi, fr_sAi, ln_sAi, al_sAi, ar_sAi, cs_sAi, kd_wz, fi_wz, fr_wz, ln_wz, ai_wz, al_wz, ar_wz, Option.bind_some, if_true, if_false, Nat.reduceAdd, Nat.reduceMul, reduceIte, and_self, true_and, and_true, d1, d3, d4, d5, k1, k2, hq, hb]
    · rw [if_neg hq] at hb
      simp only [X0_receive_b41, aN, kA201, kA202, kA203, kA206, kA306, i1n0, i0n1, i0e0, i1e1, gI, gR, pI, pB, pR, xI, xL, yI, yL, vc, kd_sFi, fr_sFi, ln_sFi, ai_sFi, al_sFi, ar_sFi, cs_sFi, sz_sFi, sz_sAi, kd_sAi, fi_sAi, fr_sAi, ln_sAi, al_sAi, ar_sAi, cs_sAi, kd_wz, fi_wz, fr_wz, ln_wz, ai_wz, al_wz, ar_wz, Option.bind_some, if_true, if_false, Nat.reduceAdd, Nat.reduceMul, reduceIte, and_self, true_and, and_true, d1, d3, d4, d5, k1, k2, hq, hb]
  have hcf : ∀ h1 : HS, SXA ax ao ad n e pO fO h1 → cf ad n (sFi (sAi h1 (ad 11 c) R b) 106 (ad 1 c) (nI (R + 1))) = up2 (cf ad n h1) 106 c (nI (R + 1)) := fun h1 hS1 => cf_sFi hS1.2.1 (t := 1) (by decide) hc
  have hcv : ∀ h1 : HS, SXA ax ao ad n e pO fO h1 → cv ad n (sFi (sAi h1 (ad 11 c) R b) 106 (ad 1 c) (nI (R + 1))) = up3 (cv ad n h1) 11 c R b := fun h1 hS1 => cv_sAi hS1.2.1 k5
  have hsx : ∀ h1 : HS, kd h1 = kd h → SXA ax ao ad n e pO fO h1 → SXA ax ao ad n e pO fO (sFi (sAi h1 (ad 11 c) R b) 106 (ad 1 c) (nI (R + 1))) := fun h1 d1 hS1 => SXA_sFi (by decide) (by decide) (SXA_sAi (by rw [d1, k3]; decide) hS1)
  by_cases h0 : R = 0
  · subst h0
    have z0 : nI 0 = 0 := rfl
    have hS1 : SXA ax ao ad n e pO fO (sFi h 105 (ad 1 c) (cf ad n h 206 (fO c))) := SXA_sFi (by decide) (by decide) hS
    have c1 : cf ad n (sFi h 105 (ad 1 c) (cf ad n h 206 (fO c))) = up2 (cf ad n h) 105 c (cf ad n h 206 (fO c)) := cf_sFi hS.2.1 (t := 1) (by decide) hc
    have g1 : fi (sFi h 105 (ad 1 c) (cf ad n h 206 (fO c))) 106 (ad 1 c) = nI 0 := by rw [fi_sFi, up2_ne1 _ _ _ _ (by decide)]; exact f106
    have g2 : fi (sFi h 105 (ad 1 c) (cf ad n h 206 (fO c))) 104 (ad 1 c) = cf ad n h 104 c := by rw [fi_sFi, up2_ne1 _ _ _ _ (by decide)]; exact f104
    refine ⟨_, ?_, hsx (sFi h 105 (ad 1 c) (cf ad n h 206 (fO c))) rfl hS1, ⟨rfl, rfl, rfl, rfl, rfl, rfl, rfl⟩, fun g hg => ?_, ?_, ?_, hcv _ hS1⟩
    · have bb := b41 (sFi h 105 (ad 1 c) (cf ad n h 206 (fO c))) rfl rfl rfl g1 g2
      rw [z0] at e0 f106
      simp only [m_X0_receive, aN, kA201, kA202, kA203, kA206, kA306, i1n0, i0n1, i0e0, i1e1, gI, gR, pI, pB, pR, xI, xL, yI, yL, vc, kd_sFi, fr_sFi, ln_sFi, ai_sFi, al_sFi, ar_sFi, cs_sFi, sz_sFi, sz_sAi, kd_sAi, fi_sAi, fr_sAi, ln_sAi, al_sAi, ar_sAi, cs_sAi, kd_wz, fi_wz, fr_wz, ln_wz, ai_wz, al_wz, ar_wz, Option.bind_some, if_true, if_false, Nat.reduceAdd, Nat.reduceMul, reduceIte, and_self, true_and, and_true, k1, k2, k3, k4, z4, kf, f207, f206, f106, e0]
      exact bb
    · rw [hcf _ hS1, c1, up2_ne1' hg.2, up2_ne1' hg.1]
    · rw [hcf _ hS1, c1, up2_ne1' (by decide), up2_va]; rfl
    · rw [hcf _ hS1, c1, up2_va, up2_ne1' (by decide)]
  · have z0 : (nI R = 0) = False := eq_false fun z => h0 ((nI_eq (b := 0) (by omega) (by omega)).mp z)
    refine ⟨_, ?_, hsx _ rfl hS, ⟨rfl, rfl, rfl, rfl, rfl, rfl, rfl⟩, fun g hg => ?_, ?_, ?_, hcv _ hS⟩
    · have bb := b41 h rfl rfl rfl f106 f104
      simp only [m_X0_receive, aN, kA201, kA202, kA203, kA206, kA306, i1n0, i0n1, i0e0, i1e1, gI, gR, pI, pB, pR, xI, xL, yI, yL, vc, kd_sFi, fr_sFi, ln_sFi, ai_sFi, al_sFi, ar_sFi, cs_sFi, sz_sFi, sz_sAi, kd_sAi, fi_sAi, fr_sAi, ln_sAi, al_sAi, ar_sAi, cs_sAi, kd_wz, fi_wz, fr_wz, ln_wz, ai_wz, al_wz, ar_wz, Option.bind_some, if_true, if_false, Nat.reduceAdd, Nat.reduceMul, reduceIte, and_self, true_and, and_true, k1, k2, k3, k4, z4, kf, f207, f106, e0, z0]
      exact bb
    · rw [hcf _ hS, up2_ne1' hg.2]
    · rw [hcf _ hS, up2_ne1' (by decide), if_neg h0]; funext i
      by_cases hi : i = c
      · subst hi; rw [va_up_same]
      · rw [va_upN _ _ hi]
    · rw [hcf _ hS, up2_va]
/-- how many panels are printed: P of R are, those there by v; g: the last one is new -/
noncomputable def dP (g P R : Nat) (v : Nat → Int32) : Nat := by
  classical
  exact if P < R ∧ v P ≠ 0 then (if (g = 0 ∨ P + 1 < R - 1) ∧ P + 1 < R ∧ v (P + 1) ≠ 0 then 2 else 1) else 0
theorem dP0 {g P R : Nat} {v : Nat → Int32} (h : ¬ (P < R ∧ v P ≠ 0)) : dP g P R v = 0 := by unfold dP; rw [if_neg h]
theorem dP1 {g P R : Nat} {v : Nat → Int32} (h : P < R ∧ v P ≠ 0) (h2 : ¬ ((g = 0 ∨ P + 1 < R - 1) ∧ P + 1 < R ∧ v (P + 1) ≠ 0)) : dP g P R v = 1 := by unfold dP; rw [if_pos h, if_neg h2]
theorem dP2 {g P R : Nat} {v : Nat → Int32} (h : P < R ∧ v P ≠ 0) (h2 : (g = 0 ∨ P + 1 < R - 1) ∧ P + 1 < R ∧ v (P + 1) ≠ 0) : dP g P R v = 2 := by unfold dP; rw [if_pos h, if_pos h2]
theorem e_printW {h : HS} (hS : SXA ax ao ad n e pO fO h) {c m P d : Nat} (hc : c < n 1) (hm5 : m < 50) (h107 : cf ad n h 107 c = nI P) : ∃ h', X0_print_b64 (ad 1 c) (nI m) (nI d) h = some h' ∧ SXA ax ao ad n e pO fO h' ∧ SameS h h' ∧ (∀ g, g ≠ 107 → cf ad n h' g = cf ad n h g) ∧ cf ad n h' 107 = va_up (cf ad n h 107) c (nI (P + d)) ∧ cv ad n h' = up3 (cv ad n h) 14 c m (cv ad n h 14 c m + nI d) := by
  obtain ⟨k1, k2, k3, k4, k5, k6, k7, k8, k9⟩ := kthere hS hc
  have f107 : fi h 107 (ad 1 c) = nI P := by rw [cf_at (g := 107) (n := n) (t := 1) (by decide) hc]; exact h107
  have e0 : ¬ nI m < 0 := nI_pos (by omega)
  have e1 : ¬ nI 50 - 1 < nI m := by
    rw [nI_m1 _ _ (by omega) e0]
    exact nI_ge hm5 (by omega)
  have cl : (nI m).toNatClampNeg = m := nI_cl hm5 (by omega)
  have ib : inB (nI m) 50 = true := inB_nI hm5 (by omega)
  have e2 : nI P + nI d = nI (P + d) := nI_add P d
  have v14 : ai h (ad 14 c) m = cv ad n h 14 c m := cv_at (n := n) k9
  have hS1 : SXA ax ao ad n e pO fO (sFi h 107 (ad 1 c) (nI (P + d))) := SXA_sFi (by decide) (by decide) hS
  have c1 : cf ad n (sFi h 107 (ad 1 c) (nI (P + d))) = up2 (cf ad n h) 107 c (nI (P + d)) := cf_sFi hS.2.1 (t := 1) (by decide) hc
  refine ⟨sAi (sFi h 107 (ad 1 c) (nI (P + d))) (ad 14 c) m (cv ad n h 14 c m + nI d), ?_, SXA_sAi (by show kd h (ad 14 c) ≠ 303; rw [k7]; decide) hS1, ⟨rfl, rfl, rfl, rfl, rfl, rfl, rfl⟩, fun g hg => ?_, ?_, ?_⟩
  · simp only [X0_print_b64, aN, kA201, kA202, kA203, kA206, kA306, i1n0, i0n1, i0e0, i1e1, gI, gR, pI, pB, pR, xI, xL, yI, yL, vc, kd_sFi, fr_sFi, ln_sFi, ai_sFi, al_sFi, ar_sFi, cs_sFi, sz_sFi, sz_sAi, kd_sAi, fi_sAi, fr_sAi, ln_sAi, al_sAi, ar_sAi, cs_sAi, kd_wz, fi_wz, fr_wz, ln_wz, ai_wz, al_wz, ar_wz, Option.bind_some, if_true, if_false, Nat.reduceAdd, Nat.reduceMul, reduceIte, and_self, true_and, and_true, k1, k6, k7, k8, f107, e2, e_within, e0, e1, cl, ib, v14, nar_i32]
  · show cf ad n (sFi h 107 (ad 1 c) (nI (P + d))) g = _
    rw [c1, up2_ne1' hg]
  · show cf ad n (sFi h 107 (ad 1 c) (nI (P + d))) 107 = _
    rw [c1, up2_va]
  · rw [cv_sAi hS.2.1 k9]; rfl
theorem e_print {h : HS} (hS : SXA ax ao ad n e pO fO h) {c m P R g : Nat} (hc : c < n 1) (hm5 : m < 50) (h107 : cf ad n h 107 c = nI P) (h106 : cf ad n h 106 c = nI R) (hR : R ≤ 200) (hP : P ≤ R) (h207 : cf ad n h 207 (fO c) = nI g) (hg : g ≤ 1) : ∃ h', m_X0_print (ad 1 c) (nI m) h = some h' ∧ SXA ax ao ad n e pO fO h' ∧ SameS h h' ∧ (∀ g, g ≠ 107 → cf ad n h' g = cf ad n h g) ∧ cf ad n h' 107 = va_up (cf ad n h 107) c (nI (P + dP g P R (cv ad n h 11 c))) ∧ (∀ t, t ≠ 14 → cv ad n h' t = cv ad n h t) ∧ ∀ i j, cv ad n h' 14 i j = if i = c ∧ j = m then cv ad n h 14 c m + nI (dP g P R (cv ad n h 11 c)) else cv ad n h 14 i j := by
  obtain ⟨k1, k2, k3, k4, k5, k6, k7, k8, k9⟩ := kthere hS hc
  obtain ⟨z1, z2, z3, z4, z5, z6⟩ := crf hS hc
  have kf : kd h (ad 2 (fO c)) = 3 := k0 hS z6
  have f207 : fi h 207 (ad 2 (fO c)) = nI g := by rw [cf_at (g := 207) (n := n) (t := 2) (by decide) z6]; exact h207
  have f106 : fi h 106 (ad 1 c) = nI R := by rw [cf_at (g := 106) (n := n) (t := 1) (by decide) hc]; exact h106
  have f107 : fi h 107 (ad 1 c) = nI P := by rw [cf_at (g := 107) (n := n) (t := 1) (by decide) hc]; exact h107
  have t0 := e_isThere hS hc h106 hR (i := P) (by omega)
  have t1 := e_isThere hS hc h106 hR (i := P + 1) (by omega)
  have e1 : nI P + 1 = nI (P + 1) := nI_add P 1
  by_cases c0 : P < R ∧ cv ad n h 11 c P ≠ 0
  · rw [if_pos c0] at t0
    have hR1 : nI R - 1 = nI (R - 1) := nI_sub (a := R) (b := 1) (by omega)
    have fin : ∀ d, dP g P R (cv ad n h 11 c) = d → m_X0_print (ad 1 c) (nI m) h = X0_print_b64 (ad 1 c) (nI m) (nI d) h → ∃ h', m_X0_print (ad 1 c) (nI m) h = some h' ∧ SXA ax ao ad n e pO fO h' ∧ SameS h h' ∧ (∀ g, g ≠ 107 → cf ad n h' g = cf ad n h g) ∧ cf ad n h' 107 = va_up (cf ad n h 107) c (nI (P + dP g P R (cv ad n h 11 c))) ∧ (∀ t, t ≠ 14 → cv ad n h' t = cv ad n h t) ∧ ∀ i j, cv ad n h' 14 i j = if i = c ∧ j = m then cv ad n h 14 c m + nI (dP g P R (cv ad n h 11 c)) else cv ad n h 14 i j := by
      intro d hd hp
      obtain ⟨h', a1, a2, a3, a4, a5, a6⟩ := e_printW hS hc hm5 h107 (d := d)
      rw [hd]
      refine ⟨h', hp.trans a1, a2, a3, a4, a5, fun t ht => ?_, fun i j => ?_⟩
      · rw [a6]; funext i j; exact up3_ne1 _ _ _ _ _ ht
      · rw [a6]; simp [up3]
    by_cases cO : g = 0 ∨ P + 1 < R - 1
    · have old : m_X0_print (ad 1 c) (nI m) h = X0_print_b39 (ad 1 c) (nI m) 1 h := by
        by_cases hg0 : g = 0
        · have g0 : nI g = 0 := by rw [hg0]; rfl
          simp only [m_X0_print, aN, kA201, kA202, kA203, kA206, kA306, i1n0, i0n1, i0e0, i1e1, gI, gR, pI, pB, pR, xI, xL, yI, yL, vc, kd_sFi, fr_sFi, ln_sFi, ai_sFi, al_sFi, ar_sFi, cs_sFi, sz_sFi, sz_sAi, kd_sAi, fi_sAi, fr_sAi, ln_sAi, al_sAi, ar_sAi, cs_sAi, kd_wz, fi_wz, fr_wz, ln_wz, ai_wz, al_wz, ar_wz, Option.bind_some, if_true, if_false, Nat.reduceAdd, Nat.reduceMul, reduceIte, and_self, true_and, and_true, k1, f107, t0, z4, kf, f207, g0]
        · have g1 : (nI g = 0) = False := eq_false fun z => hg0 ((nI_eq (b := 0) (by omega) (by omega)).mp z)
          have l1 : ¬ nI (R - 1) ≤ nI (P + 1) := nI_ge (by omega) (by omega)
          simp only [m_X0_print, aN, kA201, kA202, kA203, kA206, kA306, i1n0, i0n1, i0e0, i1e1, gI, gR, pI, pB, pR, xI, xL, yI, yL, vc, kd_sFi, fr_sFi, ln_sFi, ai_sFi, al_sFi, ar_sFi, cs_sFi, sz_sFi, sz_sAi, kd_sAi, fi_sAi, fr_sAi, ln_sAi, al_sAi, ar_sAi, cs_sAi, kd_wz, fi_wz, fr_wz, ln_wz, ai_wz, al_wz, ar_wz, Option.bind_some, if_true, if_false, Nat.reduceAdd, Nat.reduceMul, reduceIte, and_self, true_and, and_true, k1, f107, f106, t0, z4, kf, f207, g1, e1, hR1, l1]
      by_cases cT : P + 1 < R ∧ cv ad n h 11 c (P + 1) ≠ 0
      · rw [if_pos cT] at t1
        refine fin 2 (dP2 c0 ⟨cO, cT⟩) ?_
        rw [old]
        simp only [X0_print_b39, X0_print_b44, aN, kA201, kA202, kA203, kA206, kA306, i1n0, i0n1, i0e0, i1e1, gI, gR, pI, pB, pR, xI, xL, yI, yL, vc, kd_sFi, fr_sFi, ln_sFi, ai_sFi, al_sFi, ar_sFi, cs_sFi, sz_sFi, sz_sAi, kd_sAi, fi_sAi, fr_sAi, ln_sAi, al_sAi, ar_sAi, cs_sAi, kd_wz, fi_wz, fr_wz, ln_wz, ai_wz, al_wz, ar_wz, Option.bind_some, if_true, if_false, Nat.reduceAdd, Nat.reduceMul, reduceIte, and_self, true_and, and_true, k1, f107, e1, t1]
        rfl
      · rw [if_neg cT] at t1
        refine fin 1 (dP1 c0 (fun z => cT z.2)) ?_
        rw [old]
        simp only [X0_print_b39, X0_print_b44, aN, kA201, kA202, kA203, kA206, kA306, i1n0, i0n1, i0e0, i1e1, gI, gR, pI, pB, pR, xI, xL, yI, yL, vc, kd_sFi, fr_sFi, ln_sFi, ai_sFi, al_sFi, ar_sFi, cs_sFi, sz_sFi, sz_sAi, kd_sAi, fi_sAi, fr_sAi, ln_sAi, al_sAi, ar_sAi, cs_sAi, kd_wz, fi_wz, fr_wz, ln_wz, ai_wz, al_wz, ar_wz, Option.bind_some, if_true, if_false, Nat.reduceAdd, Nat.reduceMul, reduceIte, and_self, true_and, and_true, k1, f107, e1, t1]
        rfl
    · refine fin 1 (dP1 c0 (fun z => cO z.1)) ?_
      have g1 : (nI g = 0) = False := eq_false fun z => cO (Or.inl ((nI_eq (b := 0) (by omega) (by omega)).mp z))
      have l1 : nI (R - 1) ≤ nI (P + 1) := nI_le (by omega) (by omega)
      simp only [m_X0_print, X0_print_b44, aN, kA201, kA202, kA203, kA206, kA306, i1n0, i0n1, i0e0, i1e1, gI, gR, pI, pB, pR, xI, xL, yI, yL, vc, kd_sFi, fr_sFi, ln_sFi, ai_sFi, al_sFi, ar_sFi, cs_sFi, sz_sFi, sz_sAi, kd_sAi, fi_sAi, fr_sAi, ln_sAi, al_sAi, ar_sAi, cs_sAi, kd_wz, fi_wz, fr_wz, ln_wz, ai_wz, al_wz, ar_wz, Option.bind_some, if_true, if_false, Nat.reduceAdd, Nat.reduceMul, reduceIte, and_self, true_and, and_true, k1, f107, f106, t0, z4, kf, f207, g1, e1, hR1, l1]
      rfl
  · rw [if_neg c0] at t0
    rw [dP0 c0]
    refine ⟨h, ?_, hS, SameS.rf h, fun _ _ => rfl, ?_, fun _ _ => rfl, fun i j => ?_⟩
    · simp only [m_X0_print, aN, kA201, kA202, kA203, kA206, kA306, i1n0, i0n1, i0e0, i1e1, gI, gR, pI, pB, pR, xI, xL, yI, yL, vc, kd_sFi, fr_sFi, ln_sFi, ai_sFi, al_sFi, ar_sFi, cs_sFi, sz_sFi, sz_sAi, kd_sAi, fi_sAi, fr_sAi, ln_sAi, al_sAi, ar_sAi, cs_sAi, kd_wz, fi_wz, fr_wz, ln_wz, ai_wz, al_wz, ar_wz, Option.bind_some, if_true, if_false, Nat.reduceAdd, Nat.reduceMul, reduceIte, and_self, true_and, and_true, k1, f107, t0]
    · funext i
      by_cases hi : i = c
      · subst hi; rw [va_up_same]; exact h107
      · rw [va_upN _ _ hi]
    · split
      · rename_i hij
        rw [hij.1, hij.2]; exact (Int32.add_zero _).symm
      · rfl
end WKC
