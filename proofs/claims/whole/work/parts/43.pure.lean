section SHORT2
variable {ax ao am : Nat} {ad : Nat → Nat → Nat} {n e pO fO q tm : Nat → Nat} {tx : Nat → List (Int32 × List Int32)} {w : Nat} {pn : Nat → Nat} {nw : Nat → Nat → Nat} {fs : Nat → Nat} {ls : Nat → Option Nat} {rs rl pr : Nat → Nat} {tl : Nat} {hx hm : HS}
theorem nar_i32 (x : Int32) : vp_nar (tyK 201) x = x := rfl
theorem up2_va {α : Type} (f : Nat → Nat → α) (a b : Nat) (v : α) : up2 f a b v a = va_up (f a) b v := by funext i; simp [up2, va_up]
theorem va_up_same {α : Type} (f : Nat → α) (a : Nat) (v : α) : va_up f a v a = v := by simp [va_up]
theorem va_upN {α : Type} (f : Nat → α) {a i : Nat} (v : α) (h : i ≠ a) : va_up f a v i = f i := by simp [va_up, h]
theorem va_both {f g : Nat → Int32} {i j : Nat} {x : Int32} (h : f i = g i) : va_up f j x i = va_up g j x i := by
  by_cases hij : i = j
  · subst hij; simp [va_up]
  · simp [va_up, hij, h]
theorem e_isPaper_in (hk : kd hm am = 11) (hn : mf am hm 34 = nI (n 3)) (hn2 : n 3 ≤ 100) {j : Nat} (hj : j < n 3) : m_X9_isPaper am (nI j) hm = some (1, hm) := by
  have e1 : ¬ nI j < 0 := nI_pos (by omega)
  have e2 : ¬ nI (n 3) ≤ nI j := nI_ge hj (by omega)
  have e3 : fi hm 1034 am = nI (n 3) := hn
  simp only [m_X9_isPaper, gI, hk, e1, e2, e3, if_true, if_false, Option.bind_some, Nat.reduceMul, Nat.reduceAdd]
theorem e_isPaper_out (hk : kd hm am = 11) (hn : mf am hm 34 = nI (n 3)) {a : Int32} (ho : a < 0 ∨ (¬ a < 0 ∧ nI (n 3) ≤ a)) : m_X9_isPaper am a hm = some (0, hm) := by
  have e3 : fi hm 1034 am = nI (n 3) := hn
  rcases ho with ho | ⟨h1, h2⟩
  · simp only [m_X9_isPaper, ho, if_true]
  · simp only [m_X9_isPaper, gI, hk, h1, h2, e3, if_true, if_false, Option.bind_some, Nat.reduceMul, Nat.reduceAdd]
theorem e_isContract_in (hk : kd hm am = 11) (hn : mf am hm 39 = nI (n 1)) (hn2 : n 1 ≤ 100) {j : Nat} (hj : j < n 1) : m_X9_isContract am (nI j) hm = some (1, hm) := by
  have e1 : ¬ nI j < 0 := nI_pos (by omega)
  have e2 : ¬ nI (n 1) ≤ nI j := nI_ge hj (by omega)
  have e3 : fi hm 1039 am = nI (n 1) := hn
  simp only [m_X9_isContract, gI, hk, e1, e2, e3, if_true, if_false, Option.bind_some, Nat.reduceMul, Nat.reduceAdd]
theorem e_isContract_out (hk : kd hm am = 11) (hn : mf am hm 39 = nI (n 1)) {a : Int32} (ho : a < 0 ∨ (¬ a < 0 ∧ nI (n 1) ≤ a)) : m_X9_isContract am a hm = some (0, hm) := by
  have e3 : fi hm 1039 am = nI (n 1) := hn
  rcases ho with ho | ⟨h1, h2⟩
  · simp only [m_X9_isContract, ho, if_true]
  · simp only [m_X9_isContract, gI, hk, h1, h2, e3, if_true, if_false, Option.bind_some, Nat.reduceMul, Nat.reduceAdd]
theorem op_ill (a b : Int32) : StI (PP ax am ao) (m_X8_ill ax a b) (m_X9_ill am a b) := by
  rintro hx hm ⟨ad, n, e, pO, fO, q, tm, tx, w, pn, nw, fs, ls, rs, rl, pr, tl, hS, hM, hN, hF, hP, hC, hB, hT, hX, hW⟩
  have hka := kax hS
  have hkm : kd hm am = 11 := hM.1
  have hn := n_le hS
  have hI := hS.2.1
  have hq : ∀ k k', q k = q k' → k = k' := hM.2.2
  have hw : w ≤ 200 := hN.1
  have f909 : fi hx 909 ax = nI w := by
    have h1 := hN.2.1
    rw [← cf_at (g := 909) (n := n) (t := 9) (by decide) (by rw [hS.1.2.2.2.2.2.1]; decide), hS.2.2.2.2.1.1] at h1
    exact h1
  have i24 : fi hm 1024 am = nI w := hN.2.2.1
  have h25 : mf am hm 25 = nI (n 2) := hN.2.2.2.1
  have h34 : mf am hm 34 = nI (n 3) := hN.2.2.2.2.1
  have h39 : mf am hm 39 = nI (n 1) := hN.2.2.2.2.2.1
  have r30 : fr hm 1030 am = some (q 30) := (hM.2.1 (30, 201, 10) (by decide)).1
  have k30 : kd hm (q 30) = 201 := (hM.2.1 (30, 201, 10) (by decide)).2.1
  have l30 : ln hm (q 30) = 10 := (hM.2.1 (30, 201, 10) (by decide)).2.2
  rcases idx a (n 2) (by omega) with ⟨j, hj, rfl⟩ | ho
  · have kj : kd hx (ad 2 j) = 3 := k0 hS hj
    have cl : (nI j).toNatClampNeg = j := nI_cl hj (by omega)
    have ib : inB (nI j) 10 = true := inB_nI (by omega) (by omega)
    have hf := hF.1 j hj
    have e1 := e_isFeature_in (hm := sFi (wz hm (sz hx)) 1000 am 0) hkm h25 (by omega) hj
    by_cases hb : (if b < 1 then (0 : Int32) else if 50 < b then 0 else 1) = 0
    · refine ⟨0, hx, sFi (wz hm (sz hx)) 1000 am 0, ?_, ?_, rfl, ad, n, e, pO, fO, q, tm, tx, w, pn, nw, fs, ls, rs, rl, pr, tl, hS, hM, hN, hF, hP, hC, hB, hT, hX, hW⟩
      · simp only [m_X8_ill, hka, e_featureAt_in hS hj, e_within, hb, aN, kA201, kA202, kA203, kA206, kA306, i1n0, i0n1, i0e0, i1e1, gI, gR, pI, pB, pR, xI, xL, yI, yL, vc, kd_sFi, fr_sFi, ln_sFi, ai_sFi, al_sFi, ar_sFi, cs_sFi, sz_sFi, sz_sAi, kd_sAi, fi_sAi, fr_sAi, ln_sAi, al_sAi, ar_sAi, cs_sAi, kd_wz, fi_wz, fr_wz, ln_wz, ai_wz, al_wz, ar_wz, Option.bind_some, if_true, if_false, Nat.reduceAdd, Nat.reduceMul, reduceIte, and_self, true_and, and_true, reduceCtorEq]
      · simp only [m_X9_ill, aN, kA201, kA202, kA203, kA206, kA306, i1n0, i0n1, i0e0, i1e1, gI, gR, pI, pB, pR, xI, xL, yI, yL, vc, kd_sFi, fr_sFi, ln_sFi, ai_sFi, al_sFi, ar_sFi, cs_sFi, sz_sFi, sz_sAi, kd_sAi, fi_sAi, fr_sAi, ln_sAi, al_sAi, ar_sAi, cs_sAi, kd_wz, fi_wz, fr_wz, ln_wz, ai_wz, al_wz, ar_wz, Option.bind_some, if_true, if_false, Nat.reduceAdd, Nat.reduceMul, reduceIte, and_self, true_and, and_true, hkm, e1, e_within9, hb]
    · refine ⟨1, sFi hx 205 (ad 2 j) (nI w + b), sAi (sFi (wz hm (sz hx)) 1000 am 0) (q 30) j (nI w + b), ?_, ?_, rfl, ad, n, e, pO, fO, q, tm, tx, w, pn, nw, fs, ls, rs, rl, pr, tl, ?_⟩
      · simp only [m_X8_ill, hka, e_featureAt_in hS hj, e_within, hb, aN, kA201, kA202, kA203, kA206, kA306, i1n0, i0n1, i0e0, i1e1, gI, gR, pI, pB, pR, xI, xL, yI, yL, vc, kd_sFi, fr_sFi, ln_sFi, ai_sFi, al_sFi, ar_sFi, cs_sFi, sz_sFi, sz_sAi, kd_sAi, fi_sAi, fr_sAi, ln_sAi, al_sAi, ar_sAi, cs_sAi, kd_wz, fi_wz, fr_wz, ln_wz, ai_wz, al_wz, ar_wz, Option.bind_some, if_true, if_false, Nat.reduceAdd, Nat.reduceMul, reduceIte, and_self, true_and, and_true, reduceCtorEq, f909, kj]
      · have i24' : fi (sFi (wz hm (sz hx)) 1000 am 0) 1024 am = nI w := i24
        simp only [m_X9_ill, aN, kA201, kA202, kA203, kA206, kA306, i1n0, i0n1, i0e0, i1e1, gI, gR, pI, pB, pR, xI, xL, yI, yL, vc, kd_sFi, fr_sFi, ln_sFi, ai_sFi, al_sFi, ar_sFi, cs_sFi, sz_sFi, sz_sAi, kd_sAi, fi_sAi, fr_sAi, ln_sAi, al_sAi, ar_sAi, cs_sAi, kd_wz, fi_wz, fr_wz, ln_wz, ai_wz, al_wz, ar_wz, Option.bind_some, if_true, if_false, Nat.reduceAdd, Nat.reduceMul, reduceIte, and_self, true_and, and_true, hkm, e1, e_within9, hb, r30, k30, l30, ib, cl, i24', nar_i32]
      · have ec := cf_sFi (h := hx) (g := 205) (x := nI w + b) hI (t := 2) (by decide) hj
        have em : mv q (sAi (sFi (wz hm (sz hx)) 1000 am 0) (q 30) j (nI w + b)) = up2 (mv q hm) 30 j (nI w + b) := mv_sAi hq
        unfold PQ
        rw [ec, em]
        refine ⟨SXA_sFi (by decide) (by decide) hS, hM, hN, ⟨fun i hi => ?_, fun i h1 h2 => ?_⟩, hP, hC, hB, hT, hX, hW⟩
        · obtain ⟨a1, a2, a3, a4, a5, a6, a7, a8, a9, a10, a11, a12, a13, a14, a15⟩ := hF.1 i hi
          refine ⟨a1, a2, a3, a4, a5, a6, a7, ?_, a9, a10, a11, a12, a13, a14, a15⟩
          rw [up2_va, up2_va]
          exact va_both a8
        · obtain ⟨b1, b2, b3, b4⟩ := hF.2 i h1 h2
          refine ⟨b1, ?_, b3, b4⟩
          rw [up2_va, va_upN _ _ (by omega)]
          exact b2
  · refine ⟨0, hx, sFi (wz hm (sz hx)) 1000 am 0, ?_, ?_, rfl, ad, n, e, pO, fO, q, tm, tx, w, pn, nw, fs, ls, rs, rl, pr, tl, hS, hM, hN, hF, hP, hC, hB, hT, hX, hW⟩
    · simp only [m_X8_ill, hka, e_featureAt_out hS ho, aN, kA201, kA202, kA203, kA206, kA306, i1n0, i0n1, i0e0, i1e1, gI, gR, pI, pB, pR, xI, xL, yI, yL, vc, kd_sFi, fr_sFi, ln_sFi, ai_sFi, al_sFi, ar_sFi, cs_sFi, sz_sFi, sz_sAi, kd_sAi, fi_sAi, fr_sAi, ln_sAi, al_sAi, ar_sAi, cs_sAi, kd_wz, fi_wz, fr_wz, ln_wz, ai_wz, al_wz, ar_wz, Option.bind_some, if_true, if_false, Nat.reduceAdd, Nat.reduceMul, reduceIte, and_self, true_and, and_true]
    · have := e_isFeature_out (hm := sFi (wz hm (sz hx)) 1000 am 0) hkm h25 ho
      simp only [m_X9_ill, aN, kA201, kA202, kA203, kA206, kA306, i1n0, i0n1, i0e0, i1e1, gI, gR, pI, pB, pR, xI, xL, yI, yL, vc, kd_sFi, fr_sFi, ln_sFi, ai_sFi, al_sFi, ar_sFi, cs_sFi, sz_sFi, sz_sAi, kd_sAi, fi_sAi, fr_sAi, ln_sAi, al_sAi, ar_sAi, cs_sAi, kd_wz, fi_wz, fr_wz, ln_wz, ai_wz, al_wz, ar_wz, Option.bind_some, if_true, if_false, Nat.reduceAdd, Nat.reduceMul, reduceIte, and_self, true_and, and_true, hkm, this]
theorem nar_z {x : Int32} (h : x = 0 ∨ x = 1) : vp_nar (tyK 202) x = x := by rcases h with rfl | rfl <;> rfl
theorem op_stop (a b : Int32) (hb01 : b = 0 ∨ b = 1) : StI (PP ax am ao) (m_X8_stop ax a b) (m_X9_stop am a b) := by
  rintro hx hm ⟨ad, n, e, pO, fO, q, tm, tx, w, pn, nw, fs, ls, rs, rl, pr, tl, hS, hM, hN, hF, hP, hC, hB, hT, hX, hW⟩
  have hka := kax hS
  have hkm : kd hm am = 11 := hM.1
  have hn := n_le hS
  have hI := hS.2.1
  have hq : ∀ k k', q k = q k' → k = k' := hM.2.2
  have hw : w ≤ 200 := hN.1
  have f909 : fi hx 909 ax = nI w := by
    have h1 := hN.2.1
    rw [← cf_at (g := 909) (n := n) (t := 9) (by decide) (by rw [hS.1.2.2.2.2.2.1]; decide), hS.2.2.2.2.1.1] at h1
    exact h1
  have i24 : fi hm 1024 am = nI w := hN.2.2.1
  have h25 : mf am hm 25 = nI (n 2) := hN.2.2.2.1
  have h34 : mf am hm 34 = nI (n 3) := hN.2.2.2.2.1
  have h39 : mf am hm 39 = nI (n 1) := hN.2.2.2.2.2.1
  have r29 : fr hm 1029 am = some (q 29) := (hM.2.1 (29, 202, 10) (by decide)).1
  have k29 : kd hm (q 29) = 202 := (hM.2.1 (29, 202, 10) (by decide)).2.1
  have l29 : ln hm (q 29) = 10 := (hM.2.1 (29, 202, 10) (by decide)).2.2
  rcases idx a (n 2) (by omega) with ⟨j, hj, rfl⟩ | ho
  · have kj : kd hx (ad 2 j) = 3 := k0 hS hj
    have cl : (nI j).toNatClampNeg = j := nI_cl hj (by omega)
    have ib : inB (nI j) 10 = true := inB_nI (by omega) (by omega)
    have hf := hF.1 j hj
    have e1 := e_isFeature_in (hm := sFi (wz hm (sz hx)) 1000 am 0) hkm h25 (by omega) hj
    have f204 : fi hx 204 (ad 2 j) = ai hm (q 29) j := by
      rw [cf_at (g := 204) (n := n) (t := 2) (by decide) hj]; exact hf.2.2.2.2.2.1
    by_cases hb : ai hm (q 29) j = b
    · refine ⟨0, hx, sFi (wz hm (sz hx)) 1000 am 0, ?_, ?_, rfl, ad, n, e, pO, fO, q, tm, tx, w, pn, nw, fs, ls, rs, rl, pr, tl, hS, hM, hN, hF, hP, hC, hB, hT, hX, hW⟩
      · simp only [m_X8_stop, hka, e_featureAt_in hS hj, aN, kA201, kA202, kA203, kA206, kA306, i1n0, i0n1, i0e0, i1e1, gI, gR, pI, pB, pR, xI, xL, yI, yL, vc, kd_sFi, fr_sFi, ln_sFi, ai_sFi, al_sFi, ar_sFi, cs_sFi, sz_sFi, sz_sAi, kd_sAi, fi_sAi, fr_sAi, ln_sAi, al_sAi, ar_sAi, cs_sAi, kd_wz, fi_wz, fr_wz, ln_wz, ai_wz, al_wz, ar_wz, Option.bind_some, if_true, if_false, Nat.reduceAdd, Nat.reduceMul, reduceIte, and_self, true_and, and_true, reduceCtorEq, kj, f204, hb]
      · simp only [m_X9_stop, aN, kA201, kA202, kA203, kA206, kA306, i1n0, i0n1, i0e0, i1e1, gI, gR, pI, pB, pR, xI, xL, yI, yL, vc, kd_sFi, fr_sFi, ln_sFi, ai_sFi, al_sFi, ar_sFi, cs_sFi, sz_sFi, sz_sAi, kd_sAi, fi_sAi, fr_sAi, ln_sAi, al_sAi, ar_sAi, cs_sAi, kd_wz, fi_wz, fr_wz, ln_wz, ai_wz, al_wz, ar_wz, Option.bind_some, if_true, if_false, Nat.reduceAdd, Nat.reduceMul, reduceIte, and_self, true_and, and_true, hkm, e1, r29, k29, l29, ib, cl, hb]
    · refine ⟨1, sFi hx 204 (ad 2 j) b, sAi (sFi (wz hm (sz hx)) 1000 am 0) (q 29) j b, ?_, ?_, rfl, ad, n, e, pO, fO, q, tm, tx, w, pn, nw, fs, ls, rs, rl, pr, tl, ?_⟩
      · simp only [m_X8_stop, hka, e_featureAt_in hS hj, aN, kA201, kA202, kA203, kA206, kA306, i1n0, i0n1, i0e0, i1e1, gI, gR, pI, pB, pR, xI, xL, yI, yL, vc, kd_sFi, fr_sFi, ln_sFi, ai_sFi, al_sFi, ar_sFi, cs_sFi, sz_sFi, sz_sAi, kd_sAi, fi_sAi, fr_sAi, ln_sAi, al_sAi, ar_sAi, cs_sAi, kd_wz, fi_wz, fr_wz, ln_wz, ai_wz, al_wz, ar_wz, Option.bind_some, if_true, if_false, Nat.reduceAdd, Nat.reduceMul, reduceIte, and_self, true_and, and_true, reduceCtorEq, kj, f204, hb, hb01]
      · simp only [m_X9_stop, aN, kA201, kA202, kA203, kA206, kA306, i1n0, i0n1, i0e0, i1e1, gI, gR, pI, pB, pR, xI, xL, yI, yL, vc, kd_sFi, fr_sFi, ln_sFi, ai_sFi, al_sFi, ar_sFi, cs_sFi, sz_sFi, sz_sAi, kd_sAi, fi_sAi, fr_sAi, ln_sAi, al_sAi, ar_sAi, cs_sAi, kd_wz, fi_wz, fr_wz, ln_wz, ai_wz, al_wz, ar_wz, Option.bind_some, if_true, if_false, Nat.reduceAdd, Nat.reduceMul, reduceIte, and_self, true_and, and_true, hkm, e1, r29, k29, l29, ib, cl, hb, nar_z hb01]
      · have ec := cf_sFi (h := hx) (g := 204) (x := b) hI (t := 2) (by decide) hj
        have em : mv q (sAi (sFi (wz hm (sz hx)) 1000 am 0) (q 29) j b) = up2 (mv q hm) 29 j b := mv_sAi hq
        unfold PQ
        rw [ec, em]
        refine ⟨SXA_sFi (by decide) (by decide) hS, hM, hN, ⟨fun i hi => ?_, fun i h1 h2 => ?_⟩, hP, hC, hB, hT, hX, hW⟩
        · obtain ⟨a1, a2, a3, a4, a5, a6, a7, a8, a9, a10, a11, a12, a13, a14, a15⟩ := hF.1 i hi
          refine ⟨a1, a2, a3, a4, a5, ?_, ?_, a8, a9, a10, a11, a12, a13, a14, a15⟩
          · rw [up2_va, up2_va]
            exact va_both a6
          · rw [up2_va]
            by_cases hij : i = j
            · subst hij; rw [va_up_same]; exact hb01
            · rw [va_upN _ _ hij]; exact a7
        · obtain ⟨b1, b2, b3, b4⟩ := hF.2 i h1 h2
          refine ⟨?_, b2, b3, b4⟩
          rw [up2_va, va_upN _ _ (by omega)]
          exact b1
  · refine ⟨0, hx, sFi (wz hm (sz hx)) 1000 am 0, ?_, ?_, rfl, ad, n, e, pO, fO, q, tm, tx, w, pn, nw, fs, ls, rs, rl, pr, tl, hS, hM, hN, hF, hP, hC, hB, hT, hX, hW⟩
    · simp only [m_X8_stop, hka, e_featureAt_out hS ho, aN, kA201, kA202, kA203, kA206, kA306, i1n0, i0n1, i0e0, i1e1, gI, gR, pI, pB, pR, xI, xL, yI, yL, vc, kd_sFi, fr_sFi, ln_sFi, ai_sFi, al_sFi, ar_sFi, cs_sFi, sz_sFi, sz_sAi, kd_sAi, fi_sAi, fr_sAi, ln_sAi, al_sAi, ar_sAi, cs_sAi, kd_wz, fi_wz, fr_wz, ln_wz, ai_wz, al_wz, ar_wz, Option.bind_some, if_true, if_false, Nat.reduceAdd, Nat.reduceMul, reduceIte, and_self, true_and, and_true]
    · have := e_isFeature_out (hm := sFi (wz hm (sz hx)) 1000 am 0) hkm h25 ho
      simp only [m_X9_stop, aN, kA201, kA202, kA203, kA206, kA306, i1n0, i0n1, i0e0, i1e1, gI, gR, pI, pB, pR, xI, xL, yI, yL, vc, kd_sFi, fr_sFi, ln_sFi, ai_sFi, al_sFi, ar_sFi, cs_sFi, sz_sFi, sz_sAi, kd_sAi, fi_sAi, fr_sAi, ln_sAi, al_sAi, ar_sAi, cs_sAi, kd_wz, fi_wz, fr_wz, ln_wz, ai_wz, al_wz, ar_wz, Option.bind_some, if_true, if_false, Nat.reduceAdd, Nat.reduceMul, reduceIte, and_self, true_and, and_true, hkm, this]
theorem op_income (a : Int32) : StW (PP ax am ao) am ao (m_L_income (some ax) a (some ao)) (m_X9_income am a) := by
  rintro hx hm ⟨ad, n, e, pO, fO, q, tm, tx, w, pn, nw, fs, ls, rs, rl, pr, tl, hS, hM, hN, hF, hP, hC, hB, hT, hX, hW⟩
  have hka := kax hS
  have hkm : kd hm am = 11 := hM.1
  have hn := n_le hS
  have hI := hS.2.1
  have hq : ∀ k k', q k = q k' → k = k' := hM.2.2
  have hw : w ≤ 200 := hN.1
  have f909 : fi hx 909 ax = nI w := by
    have h1 := hN.2.1
    rw [← cf_at (g := 909) (n := n) (t := 9) (by decide) (by rw [hS.1.2.2.2.2.2.1]; decide), hS.2.2.2.2.1.1] at h1
    exact h1
  have i24 : fi hm 1024 am = nI w := hN.2.2.1
  have h25 : mf am hm 25 = nI (n 2) := hN.2.2.2.1
  have h34 : mf am hm 34 = nI (n 3) := hN.2.2.2.2.1
  have h39 : mf am hm 39 = nI (n 1) := hN.2.2.2.2.2.1
  have r33 : fr hm 1033 am = some (q 33) := (hM.2.1 (33, 201, 10) (by decide)).1
  have k33 : kd hm (q 33) = 201 := (hM.2.1 (33, 201, 10) (by decide)).2.1
  have l33 : ln hm (q 33) = 10 := (hM.2.1 (33, 201, 10) (by decide)).2.2
  have kao : kd hx ao = 204 := by
    have h1 := k0 hS (t := 23) (i := 0) (by rw [hS.1.2.2.2.2.2.2.2.2.2.2.2.2.2.2.2.2.2.2.1]; decide)
    rw [hS.2.2.2.2.1.2.1] at h1; exact h1
  have lao : ln hx ao = 1 := by
    have h1 := hS.2.2.2.1 23 0 (by rw [hS.1.2.2.2.2.2.2.2.2.2.2.2.2.2.2.2.2.2.2.1]; decide) (by decide) (by decide)
    rw [hS.2.2.2.2.1.2.1] at h1; exact h1
  have ib0 : inB 0 1 = true := by decide
  rcases idx a (n 2) (by omega) with ⟨j, hj, rfl⟩ | ho
  · have kj : kd hx (ad 2 j) = 3 := k0 hS hj
    have cl : (nI j).toNatClampNeg = j := nI_cl hj (by omega)
    have ib : inB (nI j) 10 = true := inB_nI (by omega) (by omega)
    have hf := hF.1 j hj
    have f208 : fi hx 208 (ad 2 j) = ai hm (q 33) j := by
      rw [cf_at (g := 208) (n := n) (t := 2) (by decide) hj]; exact hf.2.2.2.2.2.2.2.2.2.2.2.1
    refine ⟨0, sAl hx ao 0 (ai hm (q 33) j).toInt64, ?_, fun k hk => ⟨ai hm (q 33) j, sFi (wz hm k) 1000 am 0, ?_, rfl, ?_, ?_, ad, n, e, pO, fO, q, tm, tx, w, pn, nw, fs, ls, rs, rl, pr, tl, ?_⟩⟩
    · simp only [m_L_income, m_X8_income, hka, e_featureAt_in hS hj, aN, kA201, kA202, kA203, kA206, kA306, i1n0, i0n1, i0e0, i1e1, gI, gR, pI, pB, pR, xI, xL, yI, yL, vc, kd_sFi, fr_sFi, ln_sFi, ai_sFi, al_sFi, ar_sFi, cs_sFi, sz_sFi, sz_sAi, kd_sAi, fi_sAi, fr_sAi, ln_sAi, al_sAi, ar_sAi, cs_sAi, kd_wz, fi_wz, fr_wz, ln_wz, ai_wz, al_wz, ar_wz, Option.bind_some, if_true, if_false, Nat.reduceAdd, Nat.reduceMul, reduceIte, and_self, true_and, and_true, reduceCtorEq, kj, f208, oM, kao, lao, ib0]
      rfl
    · have e1 := e_isFeature_in (hm := wz hm k) hkm h25 (by omega) hj
      have e2 : fi (sFi (wz hm k) 1000 am 0) 1000 am = 0 := up2_same _ _ _ _
      have e3 : ((0 : Int32) ≤ 0) = True := eq_true (by decide)
      simp only [m_X9_income, X9_income_b14, aN, kA201, kA202, kA203, kA206, kA306, i1n0, i0n1, i0e0, i1e1, gI, gR, pI, pB, pR, xI, xL, yI, yL, vc, kd_sFi, fr_sFi, ln_sFi, ai_sFi, al_sFi, ar_sFi, cs_sFi, sz_sFi, sz_sAi, kd_sAi, fi_sAi, fr_sAi, ln_sAi, al_sAi, ar_sAi, cs_sAi, kd_wz, fi_wz, fr_wz, ln_wz, ai_wz, al_wz, ar_wz, Option.bind_some, if_true, if_false, Nat.reduceAdd, Nat.reduceMul, reduceIte, and_self, true_and, and_true, hkm, e1, r33, k33, l33, ib, cl, e2, e3]
    · have e2 : fi (sFi (wz hm k) 1000 am 0) 1000 am = 0 := up2_same _ _ _ _
      simp only [m_X9_thrown, aN, kA201, kA202, kA203, kA206, kA306, i1n0, i0n1, i0e0, i1e1, gI, gR, pI, pB, pR, xI, xL, yI, yL, vc, kd_sFi, fr_sFi, ln_sFi, ai_sFi, al_sFi, ar_sFi, cs_sFi, sz_sFi, sz_sAi, kd_sAi, fi_sAi, fr_sAi, ln_sAi, al_sAi, ar_sAi, cs_sAi, kd_wz, fi_wz, fr_wz, ln_wz, ai_wz, al_wz, ar_wz, Option.bind_some, if_true, if_false, Nat.reduceAdd, Nat.reduceMul, reduceIte, and_self, true_and, and_true, hkm, e2]
    · intro _
      exact up2_same _ _ _ _
    · refine ⟨SXA_wz hk ?_, hM, hN, hF, hP, hC, hB, hT, hX, hW⟩
      exact hS
  · refine ⟨1, hx, ?_, fun k hk => ⟨0, sFi (wz hm k) 1000 am 1, ?_, rfl, ?_, ?_, ad, n, e, pO, fO, q, tm, tx, w, pn, nw, fs, ls, rs, rl, pr, tl, ?_⟩⟩
    · simp only [m_L_income, m_X8_income, hka, e_featureAt_out hS ho, aN, kA201, kA202, kA203, kA206, kA306, i1n0, i0n1, i0e0, i1e1, gI, gR, pI, pB, pR, xI, xL, yI, yL, vc, kd_sFi, fr_sFi, ln_sFi, ai_sFi, al_sFi, ar_sFi, cs_sFi, sz_sFi, sz_sAi, kd_sAi, fi_sAi, fr_sAi, ln_sAi, al_sAi, ar_sAi, cs_sAi, kd_wz, fi_wz, fr_wz, ln_wz, ai_wz, al_wz, ar_wz, Option.bind_some, if_true, if_false, Nat.reduceAdd, Nat.reduceMul, reduceIte, and_self, true_and, and_true, oM]
    · have e1 := e_isFeature_out (hm := wz hm k) hkm h25 ho
      have e2 : fi (sFi (wz hm k) 1000 am 1) 1000 am = 1 := up2_same _ _ _ _
      have e3 : ((1 : Int32) ≤ 0) = False := eq_false (by decide)
      simp only [m_X9_income, X9_income_b14, aN, kA201, kA202, kA203, kA206, kA306, i1n0, i0n1, i0e0, i1e1, gI, gR, pI, pB, pR, xI, xL, yI, yL, vc, kd_sFi, fr_sFi, ln_sFi, ai_sFi, al_sFi, ar_sFi, cs_sFi, sz_sFi, sz_sAi, kd_sAi, fi_sAi, fr_sAi, ln_sAi, al_sAi, ar_sAi, cs_sAi, kd_wz, fi_wz, fr_wz, ln_wz, ai_wz, al_wz, ar_wz, Option.bind_some, if_true, if_false, Nat.reduceAdd, Nat.reduceMul, reduceIte, and_self, true_and, and_true, hkm, e1, e2, e3]
    · have e2 : fi (sFi (wz hm k) 1000 am 1) 1000 am = 1 := up2_same _ _ _ _
      simp only [m_X9_thrown, aN, kA201, kA202, kA203, kA206, kA306, i1n0, i0n1, i0e0, i1e1, gI, gR, pI, pB, pR, xI, xL, yI, yL, vc, kd_sFi, fr_sFi, ln_sFi, ai_sFi, al_sFi, ar_sFi, cs_sFi, sz_sFi, sz_sAi, kd_sAi, fi_sAi, fr_sAi, ln_sAi, al_sAi, ar_sAi, cs_sAi, kd_wz, fi_wz, fr_wz, ln_wz, ai_wz, al_wz, ar_wz, Option.bind_some, if_true, if_false, Nat.reduceAdd, Nat.reduceMul, reduceIte, and_self, true_and, and_true, hkm, e2]
    · intro h; exact absurd h (by decide)
    · exact ⟨SXA_wz hk hS, hM, hN, hF, hP, hC, hB, hT, hX, hW⟩
end SHORT2
