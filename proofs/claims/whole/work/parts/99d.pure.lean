/-! a text is kept -/
section KEEP
variable {ax ao am : Nat} {ad : Nat → Nat → Nat} {n e pO fO q tm : Nat → Nat} {tx : Nat → List (Int32 × List Int32)} {w : Nat} {pn : Nat → Nat} {nw : Nat → Nat → Nat} {fs : Nat → Nat} {ls : Nat → Option Nat} {rs rl pr : Nat → Nat} {tl : Nat} {hx hm : HS}
theorem k_L2 {t : Nat} (ht : t < 20) : ∀ (r k : Nat) (h : HS), SMA q am h → mf am h 10 = nI t → k + r = 16 → ∀ F, r < F → ∃ h', X9_keeps_L2 am F (nI k) h = X9_keeps_L64 am FU 0 h' ∧ SameS h h' ∧ fi h' = fi h ∧ (∀ k', (k' ≠ 13 ∧ k' ≠ 14) → mv q h' k' = mv q h k') ∧ (∀ x, ¬ (16 * t + k ≤ x ∧ x < 16 * t + 16) → mv q h' 13 x = mv q h 13 x ∧ mv q h' 14 x = mv q h 14 x) ∧ ∀ j, k ≤ j → j < 16 → mv q h' 13 (16 * t + j) = mv q h 13 (320 + j) ∧ mv q h' 14 (16 * t + j) = mv q h 14 (320 + j) := by
  intro r
  induction r with
  | zero =>
    intro k h hM h10 hk F hF
    obtain ⟨F, rfl⟩ := nF1 hF
    have z : (16 : Int32) ≤ nI k := nI_le (a := 16) (by omega) (by omega)
    refine ⟨h, ?_, SameS.rf h, rfl, fun _ _ => rfl, fun _ _ => ⟨rfl, rfl⟩, fun j h1 h2 => by omega⟩
    conv => lhs; unfold X9_keeps_L2
    simp only [z, if_true]
  | succ r ih =>
    intro k h hM h10 hk F hF
    obtain ⟨F, rfl⟩ := nF1 hF
    have hkm : kd h am = 11 := hM.1
    have f10 : fi h 1010 am = nI t := h10
    have r13 : fr h 1013 am = some (q 13) := (hM.2.1 (13, 201, 336) (by decide)).1
    have k13 : kd h (q 13) = 201 := (hM.2.1 (13, 201, 336) (by decide)).2.1
    have l13 : ln h (q 13) = 336 := (hM.2.1 (13, 201, 336) (by decide)).2.2
    have r14 : fr h 1014 am = some (q 14) := (hM.2.1 (14, 201, 336) (by decide)).1
    have k14 : kd h (q 14) = 201 := (hM.2.1 (14, 201, 336) (by decide)).2.1
    have l14 : ln h (q 14) = 336 := (hM.2.1 (14, 201, 336) (by decide)).2.2
    have z : ¬ (16 : Int32) ≤ nI k := nI_ge (b := 16) (by omega) (by omega)
    have e1 : (320 : Int32) + nI k = nI (320 + k) := nI_add 320 k
    have e2 : (16 : Int32) * nI t + nI k = nI (16 * t + k) := by rw [show (16 : Int32) = nI 16 from rfl, nI_mul, nI_add]
    have cl1 : (nI (320 + k)).toNatClampNeg = 320 + k := nI_cl (N := 336) (by omega) (by omega)
    have ib1 : inB (nI (320 + k)) 336 = true := inB_nI (by omega) (by omega)
    have cl2 : (nI (16 * t + k)).toNatClampNeg = 16 * t + k := nI_cl (N := 336) (by omega) (by omega)
    have ib2 : inB (nI (16 * t + k)) 336 = true := inB_nI (by omega) (by omega)
    have e7 : nI k + 1 = nI (k + 1) := nI_add k 1
    have v13 : ai h (q 13) (320 + k) = mv q h 13 (320 + k) := rfl
    have v14 : ai h (q 14) (320 + k) = mv q h 14 (320 + k) := rfl
    have n1 : (q 14 = q 13) = False := eq_false fun y => absurd (hM.2.2 _ _ y) (by decide)
    obtain ⟨h1, hh1⟩ : ∃ y, y = sAi (sAi h (q 13) (16 * t + k) (mv q h 13 (320 + k))) (q 14) (16 * t + k) (mv q h 14 (320 + k)) := ⟨_, rfl⟩
    have em : mv q h1 = up2 (up2 (mv q h) 13 (16 * t + k) (mv q h 13 (320 + k))) 14 (16 * t + k) (mv q h 14 (320 + k)) := by rw [hh1, mv_sAi hM.2.2, mv_sAi hM.2.2]
    have m13 : mv q h1 13 = va_up (mv q h 13) (16 * t + k) (mv q h 13 (320 + k)) := by rw [em, up2_ne1' (by decide), up2_va]
    have m14 : mv q h1 14 = va_up (mv q h 14) (16 * t + k) (mv q h 14 (320 + k)) := by rw [em, up2_va, up2_ne1' (by decide)]
    have hs1 : SameS h h1 := by rw [hh1]; exact ⟨rfl, rfl, rfl, rfl, rfl, rfl, rfl⟩
    have hf1 : fi h1 = fi h := by rw [hh1]; rfl
    obtain ⟨h', a1, a2, a3, a4, a5, a6⟩ := ih (k + 1) h1 (SMA_same hs1 hM) (by unfold mf; rw [hf1]; exact h10) (by omega) F (by omega)
    refine ⟨h', ?_, hs1.tr a2, a3.trans hf1, fun k' hk' => ?_, fun x hx => ?_, fun j h1' h2 => ?_⟩
    · rw [← a1, hh1]
      conv => lhs; unfold X9_keeps_L2
      simp only [aN, kA201, kA202, kA203, kA206, kA306, i1n0, i0n1, i0e0, i1e1, gI, gR, pI, pB, pR, xI, xL, yI, yL, vc, kd_sFi, fr_sFi, ln_sFi, ai_sFi, al_sFi, ar_sFi, cs_sFi, sz_sFi, sz_sAi, kd_sAi, fi_sAi, fr_sAi, ln_sAi, al_sAi, ar_sAi, cs_sAi, kd_wz, fi_wz, fr_wz, ln_wz, ai_wz, al_wz, ar_wz, Option.bind_some, if_true, if_false, Nat.reduceAdd, Nat.reduceMul, reduceIte, and_self, true_and, and_true, z, hkm, r13, k13, l13, r14, k14, l14, f10, e1, e2, cl1, ib1, cl2, ib2, v13, nar_i32, ai_sAi, up2, n1, false_and, v14, e7]
    · rw [a4 k' hk', em, up2_ne1' hk'.2, up2_ne1' hk'.1]
    · obtain ⟨y1, y2⟩ := a5 x (by omega)
      rw [y1, y2, m13, m14, va_upN _ _ (by omega), va_upN _ _ (by omega)]; exact ⟨rfl, rfl⟩
    · by_cases hj : j = k
      · subst hj
        obtain ⟨y1, y2⟩ := a5 (16 * t + j) (by omega)
        rw [y1, y2, m13, m14, va_up_same, va_up_same]; exact ⟨rfl, rfl⟩
      · obtain ⟨y1, y2⟩ := a6 j (by omega) h2
        rw [y1, y2, m13, m14, va_upN _ _ (by omega), va_upN _ _ (by omega)]; exact ⟨rfl, rfl⟩
theorem k_L64 {t c : Nat} (ht : t < 20) (hc : c ≤ 600) : ∀ (r k : Nat) (h : HS), SMA q am h → mf am h 10 = nI t → mf am h 17 = nI c → k + r = c → ∀ F, r < F → ∃ h', X9_keeps_L64 am F (nI k) h = some h' ∧ SameS h h' ∧ mf am h' = va_up (va_up (mf am h) 11 (nI t)) 10 (nI (t + 1)) ∧ (∀ k', (k' ≠ 12 ∧ k' ≠ 15 ∧ k' ≠ 16) → mv q h' k' = mv q h k') ∧ mv q h' 12 = va_up (mv q h 12) t (mv q h 12 20) ∧ (∀ x, ¬ (660 * t + k ≤ x ∧ x < 660 * t + c) → mv q h' 15 x = mv q h 15 x ∧ mv q h' 16 x = mv q h 16 x) ∧ ∀ j, k ≤ j → j < c → mv q h' 15 (660 * t + j) = mv q h 15 (13200 + j) ∧ mv q h' 16 (660 * t + j) = mv q h 16 (13200 + j) := by
  intro r
  induction r with
  | zero =>
    intro k h hM h10 h17 hk F hF
    obtain ⟨F, rfl⟩ := nF1 hF
    have hkm : kd h am = 11 := hM.1
    have f10 : fi h 1010 am = nI t := h10
    have f17 : fi h 1017 am = nI c := h17
    have r12 : fr h 1012 am = some (q 12) := (hM.2.1 (12, 201, 21) (by decide)).1
    have k12 : kd h (q 12) = 201 := (hM.2.1 (12, 201, 21) (by decide)).2.1
    have l12 : ln h (q 12) = 21 := (hM.2.1 (12, 201, 21) (by decide)).2.2
    have z : nI c ≤ nI k := nI_le (by omega) (by omega)
    have b20 : inB 20 21 = true := by decide
    have c20 : (20 : Int32).toNatClampNeg = 20 := by decide
    have cl : (nI t).toNatClampNeg = t := nI_cl (N := 21) (by omega) (by omega)
    have ib : inB (nI t) 21 = true := inB_nI (by omega) (by omega)
    have v12 : ai h (q 12) 20 = mv q h 12 20 := rfl
    have e7 : nI t + 1 = nI (t + 1) := nI_add t 1
    have n1 : ((1010 : Nat) = 1011) = False := eq_false (by decide)
    have em : mv q (sFi (sFi (sAi h (q 12) t (mv q h 12 20)) 1011 am (nI t)) 1010 am (nI (t + 1))) = up2 (mv q h) 12 t (mv q h 12 20) := by
      show mv q (sAi h (q 12) t (mv q h 12 20)) = _
      rw [mv_sAi hM.2.2]
    refine ⟨sFi (sFi (sAi h (q 12) t (mv q h 12 20)) 1011 am (nI t)) 1010 am (nI (t + 1)), ?_, ⟨rfl, rfl, rfl, rfl, rfl, rfl, rfl⟩, ?_, fun k' hk' => by rw [em, up2_ne1' hk'.1], by rw [em, up2_va], fun x hx => ⟨by rw [em, up2_ne1' (by decide)], by rw [em, up2_ne1' (by decide)]⟩, fun j h1 h2 => by omega⟩
    · conv => lhs; unfold X9_keeps_L64
      simp only [aN, kA201, kA202, kA203, kA206, kA306, i1n0, i0n1, i0e0, i1e1, gI, gR, pI, pB, pR, xI, xL, yI, yL, vc, kd_sFi, fr_sFi, ln_sFi, ai_sFi, al_sFi, ar_sFi, cs_sFi, sz_sFi, sz_sAi, kd_sAi, fi_sAi, fr_sAi, ln_sAi, al_sAi, ar_sAi, cs_sAi, kd_wz, fi_wz, fr_wz, ln_wz, ai_wz, al_wz, ar_wz, Option.bind_some, if_true, if_false, Nat.reduceAdd, Nat.reduceMul, reduceIte, and_self, true_and, and_true, hkm, f17, z, r12, k12, l12, f10, b20, c20, cl, ib, v12, nar_i32, fi_sFi, up2, n1, false_and, e7]
    · rw [mf_sFi (k := 10) rfl, mf_sFi (k := 11) rfl]; rfl
  | succ r ih =>
    intro k h hM h10 h17 hk F hF
    obtain ⟨F, rfl⟩ := nF1 hF
    have hkm : kd h am = 11 := hM.1
    have f10 : fi h 1010 am = nI t := h10
    have f17 : fi h 1017 am = nI c := h17
    have r15 : fr h 1015 am = some (q 15) := (hM.2.1 (15, 201, 13860) (by decide)).1
    have k15 : kd h (q 15) = 201 := (hM.2.1 (15, 201, 13860) (by decide)).2.1
    have l15 : ln h (q 15) = 13860 := (hM.2.1 (15, 201, 13860) (by decide)).2.2
    have r16 : fr h 1016 am = some (q 16) := (hM.2.1 (16, 201, 13860) (by decide)).1
    have k16 : kd h (q 16) = 201 := (hM.2.1 (16, 201, 13860) (by decide)).2.1
    have l16 : ln h (q 16) = 13860 := (hM.2.1 (16, 201, 13860) (by decide)).2.2
    have z : ¬ nI c ≤ nI k := nI_ge (by omega) (by omega)
    have e1 : (13200 : Int32) + nI k = nI (13200 + k) := nI_add 13200 k
    have e2 : (660 : Int32) * nI t + nI k = nI (660 * t + k) := by rw [show (660 : Int32) = nI 660 from rfl, nI_mul, nI_add]
    have cl1 : (nI (13200 + k)).toNatClampNeg = 13200 + k := nI_cl (N := 13860) (by omega) (by omega)
    have ib1 : inB (nI (13200 + k)) 13860 = true := inB_nI (by omega) (by omega)
    have cl2 : (nI (660 * t + k)).toNatClampNeg = 660 * t + k := nI_cl (N := 13860) (by omega) (by omega)
    have ib2 : inB (nI (660 * t + k)) 13860 = true := inB_nI (by omega) (by omega)
    have e7 : nI k + 1 = nI (k + 1) := nI_add k 1
    have v15 : ai h (q 15) (13200 + k) = mv q h 15 (13200 + k) := rfl
    have v16 : ai h (q 16) (13200 + k) = mv q h 16 (13200 + k) := rfl
    have n1 : (q 16 = q 15) = False := eq_false fun y => absurd (hM.2.2 _ _ y) (by decide)
    obtain ⟨h1, hh1⟩ : ∃ y, y = sAi (sAi h (q 15) (660 * t + k) (mv q h 15 (13200 + k))) (q 16) (660 * t + k) (mv q h 16 (13200 + k)) := ⟨_, rfl⟩
    have em : mv q h1 = up2 (up2 (mv q h) 15 (660 * t + k) (mv q h 15 (13200 + k))) 16 (660 * t + k) (mv q h 16 (13200 + k)) := by rw [hh1, mv_sAi hM.2.2, mv_sAi hM.2.2]
    have m15 : mv q h1 15 = va_up (mv q h 15) (660 * t + k) (mv q h 15 (13200 + k)) := by rw [em, up2_ne1' (by decide), up2_va]
    have m16 : mv q h1 16 = va_up (mv q h 16) (660 * t + k) (mv q h 16 (13200 + k)) := by rw [em, up2_va, up2_ne1' (by decide)]
    have m12 : mv q h1 12 = mv q h 12 := by rw [em, up2_ne1' (by decide), up2_ne1' (by decide)]
    have hs1 : SameS h h1 := by rw [hh1]; exact ⟨rfl, rfl, rfl, rfl, rfl, rfl, rfl⟩
    have hf1 : fi h1 = fi h := by rw [hh1]; rfl
    have hmf : mf am h1 = mf am h := by unfold mf; rw [hf1]
    obtain ⟨h', a1, a2, a3, a4, a5, a6, a7⟩ := ih (k + 1) h1 (SMA_same hs1 hM) (by rw [hmf]; exact h10) (by rw [hmf]; exact h17) (by omega) F (by omega)
    refine ⟨h', ?_, hs1.tr a2, by rw [a3, hmf], fun k' hk' => ?_, by rw [a5, m12], fun x hx => ?_, fun j h1' h2 => ?_⟩
    · rw [← a1, hh1]
      conv => lhs; unfold X9_keeps_L64
      simp only [aN, kA201, kA202, kA203, kA206, kA306, i1n0, i0n1, i0e0, i1e1, gI, gR, pI, pB, pR, xI, xL, yI, yL, vc, kd_sFi, fr_sFi, ln_sFi, ai_sFi, al_sFi, ar_sFi, cs_sFi, sz_sFi, sz_sAi, kd_sAi, fi_sAi, fr_sAi, ln_sAi, al_sAi, ar_sAi, cs_sAi, kd_wz, fi_wz, fr_wz, ln_wz, ai_wz, al_wz, ar_wz, Option.bind_some, if_true, if_false, Nat.reduceAdd, Nat.reduceMul, reduceIte, and_self, true_and, and_true, hkm, f17, z, r15, k15, l15, r16, k16, l16, f10, e1, e2, cl1, ib1, cl2, ib2, v15, nar_i32, ai_sAi, up2, n1, false_and, v16, e7]
    · rw [a4 k' hk', em, up2_ne1' hk'.2.2, up2_ne1' hk'.2.1]
    · obtain ⟨y1, y2⟩ := a6 x (by omega)
      rw [y1, y2, m15, m16, va_upN _ _ (by omega), va_upN _ _ (by omega)]; exact ⟨rfl, rfl⟩
    · by_cases hj : j = k
      · subst hj
        obtain ⟨y1, y2⟩ := a6 (660 * t + j) (by omega)
        rw [y1, y2, m15, m16, va_up_same, va_up_same]; exact ⟨rfl, rfl⟩
      · obtain ⟨y1, y2⟩ := a7 j (by omega) h2
        rw [y1, y2, m15, m16, va_upN _ _ (by omega), va_upN _ _ (by omega)]; exact ⟨rfl, rfl⟩
theorem e_keeps {t c : Nat} {h : HS} (hM : SMA q am h) (ht : t < 20) (hc : c ≤ 600) (h10 : mf am h 10 = nI t) (h17 : mf am h 17 = nI c) : ∃ h', m_X9_keeps am h = some h' ∧ SameS h h' ∧ mf am h' = va_up (va_up (mf am h) 11 (nI t)) 10 (nI (t + 1)) ∧ (∀ k', (k' ≠ 12 ∧ k' ≠ 13 ∧ k' ≠ 14 ∧ k' ≠ 15 ∧ k' ≠ 16) → mv q h' k' = mv q h k') ∧ mv q h' 12 = va_up (mv q h 12) t (mv q h 12 20) ∧ (∀ x, ¬ (16 * t ≤ x ∧ x < 16 * t + 16) → mv q h' 13 x = mv q h 13 x ∧ mv q h' 14 x = mv q h 14 x) ∧ (∀ j, j < 16 → mv q h' 13 (16 * t + j) = mv q h 13 (320 + j) ∧ mv q h' 14 (16 * t + j) = mv q h 14 (320 + j)) ∧ (∀ x, ¬ (660 * t ≤ x ∧ x < 660 * t + c) → mv q h' 15 x = mv q h 15 x ∧ mv q h' 16 x = mv q h 16 x) ∧ ∀ j, j < c → mv q h' 15 (660 * t + j) = mv q h 15 (13200 + j) ∧ mv q h' 16 (660 * t + j) = mv q h 16 (13200 + j) := by
  obtain ⟨h1, a1, a2, a3, a4, a5, a6⟩ := k_L2 ht 16 0 h hM h10 (Nat.zero_add _) FU (by unfold FU; omega)
  have hmf : mf am h1 = mf am h := by unfold mf; rw [a3]
  obtain ⟨h2, b1, b2, b3, b4, b5, b6, b7⟩ := k_L64 ht hc c 0 h1 (SMA_same a2 hM) (by rw [hmf]; exact h10) (by rw [hmf]; exact h17) (Nat.zero_add _) FU (by unfold FU; omega)
  have a1' : X9_keeps_L2 am FU 0 h = X9_keeps_L64 am FU 0 h1 := a1
  refine ⟨h2, a1'.trans b1, a2.tr b2, by rw [b3, hmf], fun k' hk' => by rw [b4 k' ⟨hk'.1, hk'.2.2.2.1, hk'.2.2.2.2⟩, a4 k' ⟨hk'.2.1, hk'.2.2.1⟩], by rw [b5, a4 12 (by decide)], fun x hx => ?_, fun j hj => ?_, fun x hx => ?_, fun j hj => ?_⟩
  · rw [b4 13 (by decide), b4 14 (by decide)]; exact a5 x (by omega)
  · rw [b4 13 (by decide), b4 14 (by decide)]; exact a6 j (Nat.zero_le _) hj
  · obtain ⟨y1, y2⟩ := b6 x (by omega)
    rw [y1, y2, a4 15 (by decide), a4 16 (by decide)]; exact ⟨rfl, rfl⟩
  · obtain ⟨y1, y2⟩ := b7 j (Nat.zero_le _) hj
    rw [y1, y2, a4 15 (by decide), a4 16 (by decide)]; exact ⟨rfl, rfl⟩
end KEEP
