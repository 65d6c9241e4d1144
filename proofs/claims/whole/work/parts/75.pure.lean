/-! a week: the features -/
section WKF
variable {ax ao am : Nat} {ad : Nat → Nat → Nat} {n e pO fO q tm : Nat → Nat} {tx : Nat → List (Int32 × List Int32)} {w : Nat} {pn : Nat → Nat} {nw : Nat → Nat → Nat} {fs : Nat → Nat} {ls : Nat → Option Nat} {rs rl pr : Nat → Nat} {tl : Nat} {hx hm : HS}
def frI (x y : Int32) (u : Nat) : Prop := x = 0 ∧ ¬ nI u ≤ y
theorem gp_le1 (p : Prop) : gp p ≤ 1 := by rcases gp_or p with h | h <;> rw [h.1] <;> decide
theorem e_draw {h : HS} (hS : SXA ax ao ad n e pO fO h) {i u : Nat} (hi : i < n 2) (hz : cf ad n h 204 i = 0 ∨ cf ad n h 204 i = 1) : ∃ h', m_X1_draw (ad 2 i) (nI u) h = some h' ∧ SXA ax ao ad n e pO fO h' ∧ SameS h h' ∧ cv ad n h' = cv ad n h ∧ (∀ g j, (g ≠ 206 ∧ g ≠ 207) ∨ j ≠ i → cf ad n h' g j = cf ad n h g j) ∧ cf ad n h' 206 i = cf ad n h 206 i + nI (gp (frI (cf ad n h 204 i) (cf ad n h 205 i) u)) ∧ cf ad n h' 207 i = nI (gp (frI (cf ad n h 204 i) (cf ad n h 205 i) u)) := by
  have k2 : kd h (ad 2 i) = 3 := k0 hS hi
  have f204 : fi h 204 (ad 2 i) = cf ad n h 204 i := cf_at (g := 204) (n := n) (t := 2) (by decide) hi
  have f205 : fi h 205 (ad 2 i) = cf ad n h 205 i := cf_at (g := 205) (n := n) (t := 2) (by decide) hi
  have f206 : fi h 206 (ad 2 i) = cf ad n h 206 i := cf_at (g := 206) (n := n) (t := 2) (by decide) hi
  have c207 : ∀ x, cf ad n (sFi h 207 (ad 2 i) x) = up2 (cf ad n h) 207 i x := fun x => cf_sFi hS.2.1 (t := 2) (by decide) hi
  have n1 : ((206 : Nat) = 207) = False := eq_false (by decide)
  by_cases hf : frI (cf ad n h 204 i) (cf ad n h 205 i) u
  · rw [gp_pos hf]
    refine ⟨sFi (sFi h 207 (ad 2 i) 1) 206 (ad 2 i) (cf ad n h 206 i + 1), ?_, SXA_sFi (by decide) (by decide) (SXA_sFi (by decide) (by decide) hS), ⟨rfl, rfl, rfl, rfl, rfl, rfl, rfl⟩, rfl, fun g j hg => ?_, ?_, ?_⟩
    · have z1 : cf ad n h 204 i = 0 := hf.1
      have z2 := hf.2
      simp only [m_X1_draw, X1_draw_b21, aN, kA201, kA202, kA203, kA206, kA306, i1n0, i0n1, i0e0, i1e1, gI, gR, pI, pB, pR, xI, xL, yI, yL, vc, kd_sFi, fr_sFi, ln_sFi, ai_sFi, al_sFi, ar_sFi, cs_sFi, sz_sFi, sz_sAi, kd_sAi, fi_sAi, fr_sAi, ln_sAi, al_sAi, ar_sAi, cs_sAi, kd_wz, fi_wz, fr_wz, ln_wz, ai_wz, al_wz, ar_wz, Option.bind_some, if_true, if_false, Nat.reduceAdd, Nat.reduceMul, reduceIte, and_self, true_and, and_true, k2, f204, f205, f206, z1, z2, or_true, fi_sFi, up2, n1, false_and]
    · rw [cf_sFi hS.2.1 (t := 2) (by decide) hi, c207]
      rcases hg with hg | hg
      · rw [up2_ne1 _ _ _ _ hg.1, up2_ne1 _ _ _ _ hg.2]
      · rw [up2_ne2 _ _ _ _ hg, up2_ne2 _ _ _ _ hg]
    · rw [cf_sFi hS.2.1 (t := 2) (by decide) hi, up2_same]; rfl
    · rw [cf_sFi hS.2.1 (t := 2) (by decide) hi, up2_ne1 _ _ _ _ (by decide), c207, up2_same]; rfl
  · rw [gp_neg hf]
    refine ⟨sFi h 207 (ad 2 i) 0, ?_, SXA_sFi (by decide) (by decide) hS, ⟨rfl, rfl, rfl, rfl, rfl, rfl, rfl⟩, rfl, fun g j hg => ?_, ?_, ?_⟩
    · by_cases z1 : cf ad n h 204 i = 0
      · have z2 : nI u ≤ cf ad n h 205 i := Classical.byContradiction fun z => hf ⟨z1, z⟩
        simp only [m_X1_draw, X1_draw_b20, X1_draw_b21, aN, kA201, kA202, kA203, kA206, kA306, i1n0, i0n1, i0e0, i1e1, gI, gR, pI, pB, pR, xI, xL, yI, yL, vc, kd_sFi, fr_sFi, ln_sFi, ai_sFi, al_sFi, ar_sFi, cs_sFi, sz_sFi, sz_sAi, kd_sAi, fi_sAi, fr_sAi, ln_sAi, al_sAi, ar_sAi, cs_sAi, kd_wz, fi_wz, fr_wz, ln_wz, ai_wz, al_wz, ar_wz, Option.bind_some, if_true, if_false, Nat.reduceAdd, Nat.reduceMul, reduceIte, and_self, true_and, and_true, k2, f204, f205, f206, z1, z2, true_or, fi_sFi, up2]
      · simp only [m_X1_draw, X1_draw_b20, X1_draw_b21, aN, kA201, kA202, kA203, kA206, kA306, i1n0, i0n1, i0e0, i1e1, gI, gR, pI, pB, pR, xI, xL, yI, yL, vc, kd_sFi, fr_sFi, ln_sFi, ai_sFi, al_sFi, ar_sFi, cs_sFi, sz_sFi, sz_sAi, kd_sAi, fi_sAi, fr_sAi, ln_sAi, al_sAi, ar_sAi, cs_sAi, kd_wz, fi_wz, fr_wz, ln_wz, ai_wz, al_wz, ar_wz, Option.bind_some, if_true, if_false, Nat.reduceAdd, Nat.reduceMul, reduceIte, and_self, true_and, and_true, k2, f204, z1, true_or, fi_sFi, up2]
    · rw [c207]
      rcases hg with hg | hg
      · rw [up2_ne1 _ _ _ _ hg.2]
      · rw [up2_ne2 _ _ _ _ hg]
    · rw [c207, up2_ne1 _ _ _ _ (by decide)]; exact (Int32.add_zero _).symm
    · rw [c207, up2_same]; rfl
theorem x_feat {u : Nat} : ∀ (k i : Nat) (h : HS), SXA ax ao ad n e pO fO h → fi h 909 ax = nI u → (∀ j, j < n 2 → cf ad n h 204 j = 0 ∨ cf ad n h 204 j = 1) → i + k = n 2 → ∀ F, k < F → ∃ h', X8_passWeek_L12 ax F (nI i) h = X8_passWeek_L49 ax FU 0 h' ∧ SXA ax ao ad n e pO fO h' ∧ SameS h h' ∧ cv ad n h' = cv ad n h ∧ (∀ g, (g ≠ 206 ∧ g ≠ 207) → cf ad n h' g = cf ad n h g) ∧ (∀ j, j < i → cf ad n h' 206 j = cf ad n h 206 j ∧ cf ad n h' 207 j = cf ad n h 207 j) ∧ ∀ j, i ≤ j → j < n 2 → cf ad n h' 206 j = cf ad n h 206 j + nI (gp (frI (cf ad n h 204 j) (cf ad n h 205 j) u)) ∧ cf ad n h' 207 j = nI (gp (frI (cf ad n h 204 j) (cf ad n h 205 j) u)) := by
  intro k
  induction k with
  | zero =>
    intro i h hS h909 hz hik F hF
    obtain ⟨F, rfl⟩ := nF1 hF
    have hka := kax hS
    obtain ⟨hL, hr, hk⟩ := lfs hS
    have e1 : nI (n 2) ≤ nI i := by rw [← hik]; exact Int32.le_refl _
    refine ⟨h, ?_, hS, SameS.rf h, rfl, fun _ _ => rfl, fun _ _ => ⟨rfl, rfl⟩, fun j h1 h2 => by omega⟩
    conv => lhs; unfold X8_passWeek_L12
    simp only [aN, kA201, kA202, kA203, kA206, kA306, i1n0, i0n1, i0e0, i1e1, gI, gR, pI, pB, pR, xI, xL, yI, yL, vc, kd_sFi, fr_sFi, ln_sFi, ai_sFi, al_sFi, ar_sFi, cs_sFi, sz_sFi, sz_sAi, kd_sAi, fi_sAi, fr_sAi, ln_sAi, al_sAi, ar_sAi, cs_sAi, kd_wz, fi_wz, fr_wz, ln_wz, ai_wz, al_wz, ar_wz, Option.bind_some, if_true, if_false, Nat.reduceAdd, Nat.reduceMul, reduceIte, and_self, true_and, and_true, hka, hr, hk, Nat.zero_add, e_size hk hL, e1]
  | succ k ih =>
    intro i h hS h909 hz hik F hF
    obtain ⟨F, rfl⟩ := nF1 hF
    have hka := kax hS
    have hn := n_le hS
    obtain ⟨hL, hr, hk⟩ := lfs hS
    have hi : i < n 2 := by omega
    have e1 : ¬ nI (n 2) ≤ nI i := nI_ge hi (by omega)
    have kj : kd h (ad 2 i) = 3 := k0 hS hi
    have e7 : nI i + 1 = nI (i + 1) := nI_add i 1
    obtain ⟨h1, q1, q2, q3, q4, q5, q6, q7⟩ := e_draw hS (u := u) hi (hz i hi)
    have c9 : ∀ g, (g ≠ 206 ∧ g ≠ 207) → cf ad n h1 g = cf ad n h g := fun g hg => by funext j; exact q5 g j (Or.inl hg)
    have h909' : fi h1 909 ax = nI u := by
      have n9 : 0 < n 9 := by rw [hS.1.2.2.2.2.2.1]; decide
      have e9 : ad 9 0 = ax := hS.2.2.2.2.1.1
      have := congrFun (c9 909 (by decide)) 0
      rw [← cf_at (g := 909) (t := 9) (by decide) n9, ← cf_at (g := 909) (t := 9) (by decide) n9, e9] at this
      rw [this]; exact h909
    obtain ⟨h', a1, a2, a3, a4, a5, a6, a7⟩ := ih (i + 1) h1 q2 h909' (fun j hj => by rw [c9 204 (by decide)]; exact hz j hj) (by omega) F (by omega)
    refine ⟨h', ?_, a2, q3.tr a3, a4.trans q4, fun g hg => (a5 g hg).trans (c9 g hg), fun j hj => ?_, fun j h1 h2 => ?_⟩
    · rw [← a1]
      conv => lhs; unfold X8_passWeek_L12
      simp only [aN, kA201, kA202, kA203, kA206, kA306, i1n0, i0n1, i0e0, i1e1, gI, gR, pI, pB, pR, xI, xL, yI, yL, vc, kd_sFi, fr_sFi, ln_sFi, ai_sFi, al_sFi, ar_sFi, cs_sFi, sz_sFi, sz_sAi, kd_sAi, fi_sAi, fr_sAi, ln_sAi, al_sAi, ar_sAi, cs_sAi, kd_wz, fi_wz, fr_wz, ln_wz, ai_wz, al_wz, ar_wz, Option.bind_some, if_true, if_false, Nat.reduceAdd, Nat.reduceMul, reduceIte, and_self, true_and, and_true, hka, hr, hk, Nat.zero_add, e_size hk hL, e1, e_get hk hL (by omega) hi, cst, isO, kj, beq_self_eq_true, or_true, h909, q1, e7]
    · obtain ⟨b1, b2⟩ := a6 j (by omega)
      exact ⟨b1.trans (q5 206 j (Or.inr (by omega))), b2.trans (q5 207 j (Or.inr (by omega)))⟩
    · by_cases hji : j = i
      · subst hji
        obtain ⟨b1, b2⟩ := a6 j (by omega)
        exact ⟨b1.trans q6, b2.trans q7⟩
      · obtain ⟨b1, b2⟩ := a7 j (by omega) h2
        rw [c9 204 (by decide), c9 205 (by decide)] at b1 b2
        exact ⟨by rw [b1, q5 206 j (Or.inr hji)], b2⟩
theorem w_feat {u : Nat} {pn0 : Nat → Nat} (hn2 : n 2 ≤ 10) : ∀ (k i : Nat) (h : HS), SMA q am h → mf am h 24 = nI u → mf am h 25 = nI (n 2) → (∀ j, i ≤ j → j < n 2 → mv q h 31 j = nI (pn0 j) ∧ pn0 j ≤ 200) → i + k = n 2 → ∀ F, k < F → ∃ h', X9_week_L12 am F (nI i) h = X9_week_L81 am FU 0 h' ∧ SameS h h' ∧ fi h' = fi h ∧ (∀ k, (k ≠ 31 ∧ k ≠ 32) → mv q h' k = mv q h k) ∧ (∀ j, ¬ (i ≤ j ∧ j < n 2) → mv q h' 31 j = mv q h 31 j) ∧ (∀ j, i ≤ j → j < n 2 → mv q h' 31 j = nI (pn0 j + gp (frI (mv q h 29 j) (mv q h 30 j) u))) ∧ (∀ j, i ≤ j → j < n 2 → frI (mv q h 29 j) (mv q h 30 j) u → mv q h' 32 (202 * j + (pn0 j + 1)) = nI u) ∧ ∀ x, (∀ j, i ≤ j → j < n 2 → frI (mv q h 29 j) (mv q h 30 j) u → x ≠ 202 * j + (pn0 j + 1)) → mv q h' 32 x = mv q h 32 x := by
  intro k
  induction k with
  | zero =>
    intro i h hM h24 h25 hp hik F hF
    obtain ⟨F, rfl⟩ := nF1 hF
    have hkm : kd h am = 11 := hM.1
    have f25 : fi h 1025 am = nI (n 2) := h25
    have e1 : nI (n 2) ≤ nI i := by rw [← hik]; exact Int32.le_refl _
    refine ⟨h, ?_, SameS.rf h, rfl, fun _ _ => rfl, fun _ _ => rfl, fun j h1 h2 => by omega, fun j h1 h2 => by omega, fun _ _ => rfl⟩
    conv => lhs; unfold X9_week_L12
    simp only [aN, kA201, kA202, kA203, kA206, kA306, i1n0, i0n1, i0e0, i1e1, gI, gR, pI, pB, pR, xI, xL, yI, yL, vc, kd_sFi, fr_sFi, ln_sFi, ai_sFi, al_sFi, ar_sFi, cs_sFi, sz_sFi, sz_sAi, kd_sAi, fi_sAi, fr_sAi, ln_sAi, al_sAi, ar_sAi, cs_sAi, kd_wz, fi_wz, fr_wz, ln_wz, ai_wz, al_wz, ar_wz, Option.bind_some, if_true, if_false, Nat.reduceAdd, Nat.reduceMul, reduceIte, and_self, true_and, and_true, hkm, f25, e1]
  | succ k ih =>
    intro i h hM h24 h25 hp hik F hF
    obtain ⟨F, rfl⟩ := nF1 hF
    have hkm : kd h am = 11 := hM.1
    have f25 : fi h 1025 am = nI (n 2) := h25
    have f24 : fi h 1024 am = nI u := h24
    have hi : i < n 2 := by omega
    have e1 : ¬ nI (n 2) ≤ nI i := nI_ge hi (by omega)
    have e7 : nI i + 1 = nI (i + 1) := nI_add i 1
    have r29 : fr h 1029 am = some (q 29) := (hM.2.1 (29, 202, 10) (by decide)).1
    have k29 : kd h (q 29) = 202 := (hM.2.1 (29, 202, 10) (by decide)).2.1
    have l29 : ln h (q 29) = 10 := (hM.2.1 (29, 202, 10) (by decide)).2.2
    have r30 : fr h 1030 am = some (q 30) := (hM.2.1 (30, 201, 10) (by decide)).1
    have k30 : kd h (q 30) = 201 := (hM.2.1 (30, 201, 10) (by decide)).2.1
    have l30 : ln h (q 30) = 10 := (hM.2.1 (30, 201, 10) (by decide)).2.2
    have r31 : fr h 1031 am = some (q 31) := (hM.2.1 (31, 201, 10) (by decide)).1
    have k31 : kd h (q 31) = 201 := (hM.2.1 (31, 201, 10) (by decide)).2.1
    have l31 : ln h (q 31) = 10 := (hM.2.1 (31, 201, 10) (by decide)).2.2
    have r32 : fr h 1032 am = some (q 32) := (hM.2.1 (32, 201, 2020) (by decide)).1
    have k32 : kd h (q 32) = 201 := (hM.2.1 (32, 201, 2020) (by decide)).2.1
    have l32 : ln h (q 32) = 2020 := (hM.2.1 (32, 201, 2020) (by decide)).2.2
    have cli : (nI i).toNatClampNeg = i := nI_cl hi (by omega)
    have ibi : inB (nI i) 10 = true := inB_nI (by omega) (by omega)
    obtain ⟨p1, p2⟩ := hp i (Nat.le_refl _) hi
    have v31 : ai h (q 31) i = nI (pn0 i) := p1
    by_cases hf : frI (mv q h 29 i) (mv q h 30 i) u
    · have z1 : ai h (q 29) i = 0 := hf.1
      have z2 : ¬ nI u ≤ ai h (q 30) i := hf.2
      have e8 : nI (pn0 i) + 1 = nI (pn0 i + 1) := nI_add _ 1
      have e9 : (202 : Int32) * nI i + nI (pn0 i + 1) = nI (202 * i + (pn0 i + 1)) := by rw [show (202 : Int32) = nI 202 from rfl, nI_mul, nI_add]
      have cl2 : (nI (202 * i + (pn0 i + 1))).toNatClampNeg = 202 * i + (pn0 i + 1) := nI_cl (N := 2020) (by omega) (by omega)
      have ib2 : inB (nI (202 * i + (pn0 i + 1))) 2020 = true := inB_nI (by omega) (by omega)
      obtain ⟨h1, hh1⟩ : ∃ x, x = sAi (sAi h (q 31) i (nI (pn0 i + 1))) (q 32) (202 * i + (pn0 i + 1)) (nI u) := ⟨_, rfl⟩
      have em : mv q h1 = up2 (up2 (mv q h) 31 i (nI (pn0 i + 1))) 32 (202 * i + (pn0 i + 1)) (nI u) := by rw [hh1, mv_sAi hM.2.2, mv_sAi hM.2.2]
      have hs1 : SameS h h1 := by rw [hh1]; exact ⟨rfl, rfl, rfl, rfl, rfl, rfl, rfl⟩
      have hf1 : fi h1 = fi h := by rw [hh1]; rfl
      have mo : ∀ k, (k ≠ 31 ∧ k ≠ 32) → mv q h1 k = mv q h k := fun k hk => by rw [em, up2_ne1' hk.2, up2_ne1' hk.1]
      have m31 : mv q h1 31 = va_up (mv q h 31) i (nI (pn0 i + 1)) := by rw [em, up2_ne1' (by decide), up2_va]
      have m32 : mv q h1 32 = va_up (mv q h 32) (202 * i + (pn0 i + 1)) (nI u) := by rw [em, up2_va, up2_ne1' (by decide)]
      obtain ⟨h', a1, a2, a3, a4, a5, a6, a7, a8⟩ := ih (i + 1) h1 (SMA_same hs1 hM) (by unfold mf; rw [hf1]; exact h24) (by unfold mf; rw [hf1]; exact h25) (fun j h1 h2 => by rw [m31, va_upN _ _ (by omega)]; exact hp j (by omega) h2) (by omega) F (by omega)
      rw [mo 29 (by decide), mo 30 (by decide)] at a6 a7 a8
      refine ⟨h', ?_, hs1.tr a2, a3.trans hf1, fun k hk => (a4 k hk).trans (mo k hk), fun j hj => ?_, fun j h1 h2 => ?_, fun j h1 h2 h3 => ?_, fun x hx => ?_⟩
      · rw [← a1, hh1]
        conv => lhs; unfold X9_week_L12
        simp only [X9_week_b73, aN, kA201, kA202, kA203, kA206, kA306, i1n0, i0n1, i0e0, i1e1, gI, gR, pI, pB, pR, xI, xL, yI, yL, vc, kd_sFi, fr_sFi, ln_sFi, ai_sFi, al_sFi, ar_sFi, cs_sFi, sz_sFi, sz_sAi, kd_sAi, fi_sAi, fr_sAi, ln_sAi, al_sAi, ar_sAi, cs_sAi, kd_wz, fi_wz, fr_wz, ln_wz, ai_wz, al_wz, ar_wz, Option.bind_some, if_true, if_false, Nat.reduceAdd, Nat.reduceMul, reduceIte, and_self, true_and, and_true, hkm, f25, f24, e1, r29, k29, l29, r30, k30, l30, r31, k31, l31, r32, k32, l32, cli, ibi, z1, z2, v31, e8, e9, cl2, ib2, nar_i32, e7, ai_sAi, up2]
      · rw [a5 j (by omega), m31, va_upN _ _ (by omega)]
      · by_cases hji : j = i
        · subst hji
          rw [a5 j (by omega), m31, va_up_same, gp_pos hf]
        · exact a6 j (by omega) h2
      · by_cases hji : j = i
        · subst hji
          rw [a8 _ (fun j' y1 y2 y3 => by have := (hp j' (by omega) y2).2; omega), m32, va_up_same]
        · exact a7 j (by omega) h2 h3
      · rw [a8 x (fun j' y1 y2 y3 => hx j' (by omega) y2 y3), m32, va_upN _ _ (hx i (Nat.le_refl _) hi hf)]
    · obtain ⟨h', a1, a2, a3, a4, a5, a6, a7, a8⟩ := ih (i + 1) h hM h24 h25 (fun j h1 h2 => hp j (by omega) h2) (by omega) F (by omega)
      refine ⟨h', ?_, a2, a3, a4, fun j hj => ?_, fun j h1 h2 => ?_, fun j h1 h2 h3 => ?_, fun x hx => ?_⟩
      · rw [← a1]
        conv => lhs; unfold X9_week_L12
        by_cases z1 : ai h (q 29) i = 0
        · have z2 : nI u ≤ ai h (q 30) i := Classical.byContradiction fun z => hf ⟨z1, z⟩
          simp only [X9_week_b73, aN, kA201, kA202, kA203, kA206, kA306, i1n0, i0n1, i0e0, i1e1, gI, gR, pI, pB, pR, xI, xL, yI, yL, vc, kd_sFi, fr_sFi, ln_sFi, ai_sFi, al_sFi, ar_sFi, cs_sFi, sz_sFi, sz_sAi, kd_sAi, fi_sAi, fr_sAi, ln_sAi, al_sAi, ar_sAi, cs_sAi, kd_wz, fi_wz, fr_wz, ln_wz, ai_wz, al_wz, ar_wz, Option.bind_some, if_true, if_false, Nat.reduceAdd, Nat.reduceMul, reduceIte, and_self, true_and, and_true, hkm, f25, f24, e1, r29, k29, l29, r30, k30, l30, r31, k31, l31, r32, k32, l32, cli, ibi, z1, z2, e7]
        · simp only [X9_week_b73, aN, kA201, kA202, kA203, kA206, kA306, i1n0, i0n1, i0e0, i1e1, gI, gR, pI, pB, pR, xI, xL, yI, yL, vc, kd_sFi, fr_sFi, ln_sFi, ai_sFi, al_sFi, ar_sFi, cs_sFi, sz_sFi, sz_sAi, kd_sAi, fi_sAi, fr_sAi, ln_sAi, al_sAi, ar_sAi, cs_sAi, kd_wz, fi_wz, fr_wz, ln_wz, ai_wz, al_wz, ar_wz, Option.bind_some, if_true, if_false, Nat.reduceAdd, Nat.reduceMul, reduceIte, and_self, true_and, and_true, hkm, f25, f24, e1, r29, k29, l29, r30, k30, l30, r31, k31, l31, r32, k32, l32, cli, ibi, z1, e7]
      · exact a5 j (by omega)
      · by_cases hji : j = i
        · subst hji
          rw [a5 j (by omega), gp_neg hf]; exact p1
        · exact a6 j (by omega) h2
      · by_cases hji : j = i
        · subst hji; exact absurd h3 hf
        · exact a7 j (by omega) h2 h3
      · exact a8 x (fun j' y1 y2 y3 => hx j' (by omega) y2 y3)
end WKF
