/-! a new contract -/
section CON
variable {ax ao am : Nat} {ad : Nat → Nat → Nat} {n e pO fO q tm : Nat → Nat} {tx : Nat → List (Int32 × List Int32)} {w : Nat} {pn : Nat → Nat} {nw : Nat → Nat → Nat} {fs : Nat → Nat} {ls : Nat → Option Nat} {rs rl pr : Nat → Nat} {tl : Nat} {hx hm : HS}
def hC0 (hx : HS) : HS := sFi (sFi (sFi (sFi (sFi (sFi (nO hx 1) 103 (sz hx) (-1)) 104 (sz hx) 0) 105 (sz hx) (-1)) 106 (sz hx) 0) 107 (sz hx) 0) 108 (sz hx) 0
def hC1 (hx : HS) (a1 a2 : Option Nat) (a3 : Int32) : HS := sFi (sFr (sFr (sFr (nA (sFr (nA (hC0 hx) 202 200) 109 (sz hx) (some (sz hx + 1))) 201 50) 110 (sz hx) (some (sz hx + 2))) 100 (sz hx) a1) 101 (sz hx) a2) 102 (sz hx) a3
theorem fi_nA (h : HS) (k m : Nat) : fi (nA h k m) = fi h := rfl
theorem fr_nA (h : HS) (k m : Nat) : fr (nA h k m) = fr h := rfl
theorem kd_nA (h : HS) (k m : Nat) : kd (nA h k m) = va_up (kd h) (sz h) k := rfl
theorem ln_nA (h : HS) (k m : Nat) : ln (nA h k m) = va_up (ln h) (sz h) m := rfl
theorem ai_nA (h : HS) (k m : Nat) : ai (nA h k m) = va_up (ai h) (sz h) (fun _ => 0) := rfl
theorem sz_nA (h : HS) (k m : Nat) : sz (nA h k m) = sz h + 1 := rfl
theorem hC0_sz : sz (hC0 hx) = sz hx + 1 := by
  unfold hC0
  rw [sz_sFi, sz_sFi, sz_sFi, sz_sFi, sz_sFi, sz_sFi]; rfl
theorem hC0_kd : kd (hC0 hx) (sz hx) = 2 := by
  unfold hC0
  rw [kd_sFi, kd_sFi, kd_sFi, kd_sFi, kd_sFi, kd_sFi]
  exact va_up_same _ _ _
theorem e_initC1 (a1 a2 : Option Nat) (a3 : Int32) : NEW hx (hC1 hx a1 a2 a3) := by
  unfold hC1 hC0
  have z1 : sz hx ≤ sz hx := Nat.le_refl _
  exact NEW_sFi z1 (NEW_sFr z1 (NEW_sFr z1 (NEW_sFr z1 (NEW_nA (NEW_sFr z1 (NEW_nA (NEW_sFi z1 (NEW_sFi z1 (NEW_sFi z1 (NEW_sFi z1 (NEW_sFi z1 (NEW_sFi z1 NEW_nO))))))))))))
theorem e_initC2 (a1 a2 : Option Nat) (a3 : Int32) : kd (hC1 hx a1 a2 a3) = va_up (va_up (kd (hC0 hx)) (sz hx + 1) 202) (sz hx + 2) 201 ∧ ln (hC1 hx a1 a2 a3) = va_up (va_up (ln (hC0 hx)) (sz hx + 1) 200) (sz hx + 2) 50 ∧ ai (hC1 hx a1 a2 a3) = va_up (va_up (ai (hC0 hx)) (sz hx + 1) (fun _ => 0)) (sz hx + 2) (fun _ => 0) ∧ sz (hC1 hx a1 a2 a3) = sz hx + 3 ∧ fi (hC1 hx a1 a2 a3) = up2 (fi (hC0 hx)) 102 (sz hx) a3 := by
  unfold hC1
  refine ⟨?_, ?_, ?_, ?_, ?_⟩
  · rw [kd_sFi, kd_sFr, kd_sFr, kd_sFr, kd_nA, kd_sFr, kd_nA, sz_sFr, sz_nA, hC0_sz]
  · rw [ln_sFi, ln_sFr, ln_sFr, ln_sFr, ln_nA, ln_sFr, ln_nA, sz_sFr, sz_nA, hC0_sz]
  · rw [ai_sFi, ai_sFr, ai_sFr, ai_sFr, ai_nA, ai_sFr, ai_nA, sz_sFr, sz_nA, hC0_sz]
  · rw [sz_sFi, sz_sFr, sz_sFr, sz_sFr, sz_nA, sz_sFr, sz_nA, hC0_sz]
  · rw [fi_sFi, fi_sFr, fi_sFr, fi_sFr, fi_nA, fi_sFr, fi_nA]
theorem e_initC3 (a1 a2 : Option Nat) (a3 : Int32) : fr (hC1 hx a1 a2 a3) 109 (sz hx) = some (sz hx + 1) ∧ fr (hC1 hx a1 a2 a3) 110 (sz hx) = some (sz hx + 2) ∧ fr (hC1 hx a1 a2 a3) 100 (sz hx) = a1 ∧ fr (hC1 hx a1 a2 a3) 101 (sz hx) = a2 := by
  have e : ∀ g, fr (hC1 hx a1 a2 a3) g (sz hx) = if g = 101 then a2 else if g = 100 then a1 else if g = 110 then some (sz hx + 2) else if g = 109 then some (sz hx + 1) else fr (hC0 hx) g (sz hx) := by
    intro g
    unfold hC1
    rw [fr_sFi, fr_sFrU, fr_sFrU, fr_sFrU, fr_nA, fr_sFrU, fr_nA]
    simp only [up2, and_true]
  refine ⟨?_, ?_, ?_, ?_⟩ <;> (rw [e]; simp)
theorem e_initC4 (a1 a2 : Option Nat) (a3 : Int32) : fi (hC1 hx a1 a2 a3) 102 (sz hx) = a3 ∧ fi (hC1 hx a1 a2 a3) 103 (sz hx) = -1 ∧ fi (hC1 hx a1 a2 a3) 104 (sz hx) = 0 ∧ fi (hC1 hx a1 a2 a3) 105 (sz hx) = -1 ∧ fi (hC1 hx a1 a2 a3) 106 (sz hx) = 0 ∧ fi (hC1 hx a1 a2 a3) 107 (sz hx) = 0 ∧ fi (hC1 hx a1 a2 a3) 108 (sz hx) = 0 := by
  have e : ∀ g, fi (hC1 hx a1 a2 a3) g (sz hx) = if g = 102 then a3 else if g = 108 then 0 else if g = 107 then 0 else if g = 106 then 0 else if g = 105 then -1 else if g = 104 then 0 else if g = 103 then -1 else fi (nO hx 1) g (sz hx) := by
    intro g
    rw [(e_initC2 a1 a2 a3).2.2.2.2]
    unfold hC0
    rw [fi_sFi, fi_sFi, fi_sFi, fi_sFi, fi_sFi, fi_sFi]
    simp only [up2, and_true]
  refine ⟨?_, ?_, ?_, ?_, ?_, ?_, ?_⟩ <;> (rw [e]; simp)
theorem e_initC5 (a1 a2 : Option Nat) (a3 : Int32) : m_X0_init (sz hx) a1 a2 a3 (nO hx 1) = some (hC1 hx a1 a2 a3) := by
  have kO : kd (nO hx 1) (sz hx) = 2 := va_up_same _ _ _
  have c200 : (200 : Int32).toNatClampNeg = 200 := by decide
  have c50 : (50 : Int32).toNatClampNeg = 50 := by decide
  have kA : kd (nA (hC0 hx) 202 200) (sz hx) = 2 := by
    rw [kd_nA, hC0_sz, va_upN _ _ (by omega)]; exact hC0_kd
  have kB : kd (nA (sFr (nA (hC0 hx) 202 200) 109 (sz hx) (some (sz hx + 1))) 201 50) (sz hx) = 2 := by
    rw [kd_nA, sz_sFr, sz_nA, hC0_sz, va_upN _ _ (by omega), kd_sFr]; exact kA
  have zA : sz (sFr (nA (hC0 hx) 202 200) 109 (sz hx) (some (sz hx + 1))) = sz hx + 2 := by rw [sz_sFr, sz_nA, hC0_sz]
  unfold m_X0_init
  rw [pI_b, pI_b, pI_b, pI_b, pI_b, pI_b]
  · show (nwA 200 (hC0 hx) 202 200).bind _ = _
    rw [nwA_b (by decide), c200, hC0_sz]
    rw [pR_b kA, nwA_b (by decide), c50]
    show (pR (nA (sFr (nA (hC0 hx) 202 200) 109 (sz hx) (some (sz hx + 1))) 201 50) (some (sz hx)) 1 10 (some (sz (sFr (nA (hC0 hx) 202 200) 109 (sz hx) (some (sz hx + 1)))))).bind _ = _
    rw [zA, pR_b kB, pR_b, pR_b, pI_b]
    · rfl
    all_goals exact kB
  all_goals exact kO
theorem e_sign9 {h : HS} (hM : SMA q am h) {N : Nat} (h39 : mf am h 39 = nI N) (h24 : mf am h 24 = nI w) (hN : N < 60) {a b : Int32} (hwy : m_X9_why am a b (sFi h 1000 am 0) = some (0, sFi h 1000 am 0)) : ∃ h', m_X9_sign am a b h = some (nI (100 + N), h') ∧ SameS h h' ∧ mv q h' = up2 (up2 (up2 (up2 (up2 (mv q h) 40 N a) 41 N b) 42 N (nI (w + 1))) 43 N (-1)) 44 N (-1) ∧ mf am h' = va_up (va_up (mf am h) 0 0) 39 (nI (N + 1)) := by
  have hkm : kd h am = 11 := hM.1
  have r40 : fr h 1040 am = some (q 40) := (hM.2.1 (40, 201, 60) (by decide)).1
  have k40 : kd h (q 40) = 201 := (hM.2.1 (40, 201, 60) (by decide)).2.1
  have l40 : ln h (q 40) = 60 := (hM.2.1 (40, 201, 60) (by decide)).2.2
  have r41 : fr h 1041 am = some (q 41) := (hM.2.1 (41, 201, 60) (by decide)).1
  have k41 : kd h (q 41) = 201 := (hM.2.1 (41, 201, 60) (by decide)).2.1
  have l41 : ln h (q 41) = 60 := (hM.2.1 (41, 201, 60) (by decide)).2.2
  have r42 : fr h 1042 am = some (q 42) := (hM.2.1 (42, 201, 60) (by decide)).1
  have k42 : kd h (q 42) = 201 := (hM.2.1 (42, 201, 60) (by decide)).2.1
  have l42 : ln h (q 42) = 60 := (hM.2.1 (42, 201, 60) (by decide)).2.2
  have r43 : fr h 1043 am = some (q 43) := (hM.2.1 (43, 201, 60) (by decide)).1
  have k43 : kd h (q 43) = 201 := (hM.2.1 (43, 201, 60) (by decide)).2.1
  have l43 : ln h (q 43) = 60 := (hM.2.1 (43, 201, 60) (by decide)).2.2
  have r44 : fr h 1044 am = some (q 44) := (hM.2.1 (44, 201, 60) (by decide)).1
  have k44 : kd h (q 44) = 201 := (hM.2.1 (44, 201, 60) (by decide)).2.1
  have l44 : ln h (q 44) = 60 := (hM.2.1 (44, 201, 60) (by decide)).2.2
  have hq : ∀ k k', q k = q k' → k = k' := hM.2.2
  have i39 : fi (sFi h 1000 am 0) 1039 am = nI N := h39
  have i24 : fi (sFi h 1000 am 0) 1024 am = nI w := h24
  have cl : (nI N).toNatClampNeg = N := nI_cl hN (by omega)
  have ib : inB (nI N) 60 = true := inB_nI hN (by omega)
  have e3 : nI N + 1 = nI (N + 1) := nI_add N 1
  have e4 : (99 : Int32) + nI (N + 1) = nI (100 + N) := by
    have h1 : nI 99 + nI (N + 1) = nI (99 + (N + 1)) := nI_add _ _
    rw [show (100 + N) = 99 + (N + 1) by omega]; exact h1
  have e5 : nI w + 1 = nI (w + 1) := nI_add w 1
  have e00 : ((0 : Int32) ≤ 0) = True := eq_true (by decide)
  refine ⟨sFi (sAi (sAi (sAi (sAi (sAi (sFi h 1000 am 0) (q 40) N a) (q 41) N b) (q 42) N (nI (w + 1))) (q 43) N (-1)) (q 44) N (-1)) 1039 am (nI (N + 1)), ?_, ?_, ?_, ?_⟩
  · simp only [m_X9_sign, aN, kA201, kA202, kA203, kA206, kA306, i1n0, i0n1, i0e0, i1e1, gI, gR, pI, pB, pR, xI, xL, yI, yL, vc, kd_sFi, fr_sFi, ln_sFi, ai_sFi, al_sFi, ar_sFi, cs_sFi, sz_sFi, sz_sAi, kd_sAi, fi_sAi, fr_sAi, ln_sAi, al_sAi, ar_sAi, cs_sAi, kd_wz, fi_wz, fr_wz, ln_wz, ai_wz, al_wz, ar_wz, Option.bind_some, if_true, if_false, Nat.reduceAdd, Nat.reduceMul, reduceIte, and_self, true_and, and_true, hkm, hwy, e00, i39, i24, r40, k40, l40, r41, k41, l41, r42, k42, l42, r43, k43, l43, r44, k44, l44, cl, ib, nar_i32, e3, e5, fi_sFi, up2_same, e4]
  · exact SameS_sFi (SameS_sAi (SameS_sAi (SameS_sAi (SameS_sAi (SameS_sAi (SameS_sFi (SameS.rf h)))))))
  · rw [mv_sFi, mv_sAi hq, mv_sAi hq, mv_sAi hq, mv_sAi hq, mv_sAi hq, mv_sFi]
  · rw [mf_sFi (k := 39) (by decide), mf_sAi, mf_sAi, mf_sAi, mf_sAi, mf_sAi, mf_sFi (k := 0) (by decide)]
theorem e_sign9_bad {h : HS} (hM : SMA q am h) {a b r : Int32} (hr : ¬ r ≤ 0) (hwy : m_X9_why am a b (sFi h 1000 am 0) = some (r, sFi h 1000 am 0)) : m_X9_sign am a b h = some (r, sFi h 1000 am 0) := by
  have hkm : kd h am = 11 := hM.1
  simp only [m_X9_sign, aN, kA201, kA202, kA203, kA206, kA306, i1n0, i0n1, i0e0, i1e1, gI, gR, pI, pB, pR, xI, xL, yI, yL, vc, kd_sFi, fr_sFi, ln_sFi, ai_sFi, al_sFi, ar_sFi, cs_sFi, sz_sFi, sz_sAi, kd_sAi, fi_sAi, fr_sAi, ln_sAi, al_sAi, ar_sAi, cs_sAi, kd_wz, fi_wz, fr_wz, ln_wz, ai_wz, al_wz, ar_wz, Option.bind_some, if_true, if_false, Nat.reduceAdd, Nat.reduceMul, reduceIte, and_self, true_and, and_true, hkm, hwy, hr]
end CON
