/-! the short calls: panel, ill, stop -/
section SHORT
variable {ax ao am : Nat} {ad : Nat → Nat → Nat} {n e pO fO q tm : Nat → Nat} {tx : Nat → List (Int32 × List Int32)} {w : Nat} {pn : Nat → Nat} {nw : Nat → Nat → Nat} {fs : Nat → Nat} {ls : Nat → Option Nat} {rs rl pr : Nat → Nat} {tl : Nat} {hx hm : HS}
theorem e_isFeature_in (hk : kd hm am = 11) (hn : mf am hm 25 = nI (n 2)) (hn2 : n 2 ≤ 100) {j : Nat} (hj : j < n 2) : m_X9_isFeature am (nI j) hm = some (1, hm) := by
  have e1 : ¬ nI j < 0 := nI_pos (by omega)
  have e2 : ¬ nI (n 2) ≤ nI j := nI_ge hj (by omega)
  have e3 : fi hm 1025 am = nI (n 2) := hn
  simp only [m_X9_isFeature, gI, hk, e1, e2, e3, if_true, if_false, Option.bind_some, Nat.reduceMul, Nat.reduceAdd]
theorem e_isFeature_out (hk : kd hm am = 11) (hn : mf am hm 25 = nI (n 2)) {a : Int32} (ho : a < 0 ∨ (¬ a < 0 ∧ nI (n 2) ≤ a)) : m_X9_isFeature am a hm = some (0, hm) := by
  have e3 : fi hm 1025 am = nI (n 2) := hn
  rcases ho with ho | ⟨h1, h2⟩
  · simp only [m_X9_isFeature, ho, if_true]
  · simp only [m_X9_isFeature, gI, hk, h1, h2, e3, if_true, if_false, Option.bind_some, Nat.reduceMul, Nat.reduceAdd]
theorem vc_eq {β : Type} {h : HS} {a c : Nat} {f : Nat → Option β} (hk : kd h a = c + 1) : vc h (some a) c f = f a := by simp only [vc, hk, if_true]
/-- what every call of the reference begins with -/
theorem SMA_sFi {g a : Nat} {x : Int32} (hM : SMA q am hm) : SMA q am (sFi hm g a x) := hM
theorem op_panel (a : Int32) : StI (PP ax am ao) (m_X8_panel ax a) (m_X9_panel am a) := by
  rintro hx hm ⟨ad, n, e, pO, fO, q, tm, tx, w, pn, nw, fs, ls, rs, rl, pr, tl, hS, hM, hN, hF, hP, hC, hB, hT, hX, hW⟩
  have hka := kax hS
  have hkm : kd hm am = 11 := hM.1
  have hn := n_le hS
  have h25 : mf am hm 25 = nI (n 2) := hN.2.2.2.1
  have r31 : fr hm 1031 am = some (q 31) := (hM.2.1 (31, 201, 10) (by decide)).1
  have k31 : kd hm (q 31) = 201 := (hM.2.1 (31, 201, 10) (by decide)).2.1
  have l31 : ln hm (q 31) = 10 := (hM.2.1 (31, 201, 10) (by decide)).2.2
  rcases idx a (n 2) (by omega) with ⟨j, hj, rfl⟩ | ho
  · have kj : kd hx (ad 2 j) = 3 := k0 hS hj
    have cl : (nI j).toNatClampNeg = j := nI_cl hj (by omega)
    have ib : inB (nI j) 10 = true := inB_nI (by omega) (by omega)
    have hf := hF.1 j hj
    refine ⟨nI (pn j), hx, sFi (wz hm (sz hx)) 1000 am 0, ?_, ?_, rfl, ad, n, e, pO, fO, q, tm, tx, w, pn, nw, fs, ls, rs, rl, pr, tl, hS, hM, hN, hF, hP, hC, hB, hT, hX, hW⟩
    · simp only [m_X8_panel, hka, e_featureAt_in hS hj, aN, kA201, kA202, kA203, kA206, kA306, i1n0, i0n1, i0e0, i1e1, gI, gR, pI, pB, pR, xI, xL, yI, yL, vc, kd_sFi, fr_sFi, ln_sFi, ai_sFi, al_sFi, ar_sFi, cs_sFi, sz_sFi, sz_sAi, kd_sAi, fi_sAi, fr_sAi, ln_sAi, al_sAi, ar_sAi, cs_sAi, kd_wz, fi_wz, fr_wz, ln_wz, ai_wz, al_wz, ar_wz, Option.bind_some, if_true, if_false, Nat.reduceAdd, Nat.reduceMul, reduceIte, and_self, true_and, and_true, kj, reduceCtorEq]
      rw [cf_at (g := 206) (n := n) (t := 2) (by decide) hj, hf.2.2.2.2.2.2.2.2.1, hf.2.2.2.2.2.2.2.2.2.1]
    · have := e_isFeature_in (hm := sFi (wz hm (sz hx)) 1000 am 0) hkm h25 (by omega) hj
      simp only [m_X9_panel, aN, kA201, kA202, kA203, kA206, kA306, i1n0, i0n1, i0e0, i1e1, gI, gR, pI, pB, pR, xI, xL, yI, yL, vc, kd_sFi, fr_sFi, ln_sFi, ai_sFi, al_sFi, ar_sFi, cs_sFi, sz_sFi, sz_sAi, kd_sAi, fi_sAi, fr_sAi, ln_sAi, al_sAi, ar_sAi, cs_sAi, kd_wz, fi_wz, fr_wz, ln_wz, ai_wz, al_wz, ar_wz, Option.bind_some, if_true, if_false, Nat.reduceAdd, Nat.reduceMul, reduceIte, and_self, true_and, and_true, hkm, this, r31, k31, l31, ib, cl]
      exact congrArg (fun x => some (x, _)) hf.2.2.2.2.2.2.2.2.2.1
  · refine ⟨-1, hx, sFi (wz hm (sz hx)) 1000 am 0, ?_, ?_, rfl, ad, n, e, pO, fO, q, tm, tx, w, pn, nw, fs, ls, rs, rl, pr, tl, hS, hM, hN, hF, hP, hC, hB, hT, hX, hW⟩
    · simp only [m_X8_panel, hka, e_featureAt_out hS ho, aN, kA201, kA202, kA203, kA206, kA306, i1n0, i0n1, i0e0, i1e1, gI, gR, pI, pB, pR, xI, xL, yI, yL, vc, kd_sFi, fr_sFi, ln_sFi, ai_sFi, al_sFi, ar_sFi, cs_sFi, sz_sFi, sz_sAi, kd_sAi, fi_sAi, fr_sAi, ln_sAi, al_sAi, ar_sAi, cs_sAi, kd_wz, fi_wz, fr_wz, ln_wz, ai_wz, al_wz, ar_wz, Option.bind_some, if_true, if_false, Nat.reduceAdd, Nat.reduceMul, reduceIte, and_self, true_and, and_true]
    · have := e_isFeature_out (hm := sFi (wz hm (sz hx)) 1000 am 0) hkm h25 ho
      simp only [m_X9_panel, aN, kA201, kA202, kA203, kA206, kA306, i1n0, i0n1, i0e0, i1e1, gI, gR, pI, pB, pR, xI, xL, yI, yL, vc, kd_sFi, fr_sFi, ln_sFi, ai_sFi, al_sFi, ar_sFi, cs_sFi, sz_sFi, sz_sAi, kd_sAi, fi_sAi, fr_sAi, ln_sAi, al_sAi, ar_sAi, cs_sAi, kd_wz, fi_wz, fr_wz, ln_wz, ai_wz, al_wz, ar_wz, Option.bind_some, if_true, if_false, Nat.reduceAdd, Nat.reduceMul, reduceIte, and_self, true_and, and_true, hkm, this]
end SHORT
