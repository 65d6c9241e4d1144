section EXR
variable {ax ao : Nat} {ad : Nat → Nat → Nat} {n e pO fO pO' fO' : Nat → Nat} {hx h' : HS} {tg : Nat → Option Nat} {N x l : Nat}
theorem SXr_ext (hS : SXA ax ao ad n e pO fO hx) (hE : EXT hx h' (ad 0 l) (e l) N x) (hno : ∀ t, t = 0 ∨ t = 4 ∨ t = 5 ∨ t = 6 ∨ t = 7 ∨ t = 8 ∨ t = 9 ∨ t = 15 ∨ t = 16 ∨ t = 17 ∨ t = 18 ∨ t = 19 ∨ t = 20 ∨ t = 21 ∨ t = 22 ∨ t = 23 → tg t = none) (h2 : ∀ i, i < nX tg n 2 → ¬ i < n 2 → fr h' 203 (adX tg n ad 2 i) = some (adX tg n ad 12 i)) (h3 : ∀ i, i < nX tg n 3 → ¬ i < n 3 → fr h' 303 (adX tg n ad 3 i) = some (adX tg n ad 13 i)) (hle : n 2 ≤ nX tg n 2 ∧ n 3 ≤ nX tg n 3)
    (h1 : ∀ i, i < nX tg n 1 → ¬ i < n 1 → fr h' 109 (adX tg n ad 1 i) = some (adX tg n ad 11 i) ∧ fr h' 110 (adX tg n ad 1 i) = some (adX tg n ad 14 i) ∧ fr h' 100 (adX tg n ad 1 i) = some (adX tg n ad 3 (pO' i)) ∧ fr h' 101 (adX tg n ad 1 i) = some (adX tg n ad 2 (fO' i)) ∧ pO' i < nX tg n 3 ∧ fO' i < nX tg n 2) (hp : ∀ i, i < n 1 → pO' i = pO i ∧ fO' i = fO i) : SXr ax ao (adX tg n ad) (nX tg n) pO' fO' (fr h') := by
  have hn := nSX hS
  have hn4 := n_le hS
  have hz : ∀ t i, i < n t → ad t i < sz hx := fun t i hi => (hS.2.2.1 t i hi).2
  have old : ∀ t i, i < n t → adX tg n ad t i = ad t i := fun t i hi => adX_old hi
  have fx : ∀ g a, a < sz hx → g ≠ 1 → fr h' g a = fr hx g a := fun g a ha hg => hE.2.2.2.2.2.1 g a ha (fun z => hg z.2)
  obtain ⟨r1, r2, r3, r4, r5, r6, r7, r8, r9, r10, r11, r12, r13, r14, r15, r16, r17, r18, r19, r20, r21⟩ := hS.2.2.2.2.1
  obtain ⟨n0, n5, n6, n7, n8, n9, n11, n12, n13, n14, n15, n16, n17, n18, n19, n20, n21, n22, n23⟩ := hn
  have a90 : adX tg n ad 9 0 = ax := by rw [old 9 0 (by omega)]; exact r1
  have zax : ax < sz hx := by rw [← r1]; exact hz 9 0 (by omega)
  refine ⟨a90, by rw [old 23 0 (by omega)]; exact r2, ?_, ?_, ?_, ?_, ?_, ?_, ?_, ?_, ?_, ?_, ?_, ?_, ?_, ?_, ?_, fun i hi => ?_, fun i hi => ?_, fun i hi => ?_, fun i hi => ?_⟩
  · rw [fx _ _ zax (by decide), old 0 0 (by omega)]; exact r3
  · rw [fx _ _ zax (by decide), old 0 1 (by omega)]; exact r4
  · rw [fx _ _ zax (by decide), old 0 2 (by omega)]; exact r5
  · rw [fx _ _ zax (by decide), old 6 0 (by omega)]; exact r6
  · rw [fx _ _ zax (by decide), old 7 0 (by omega)]; exact r7
  · rw [fx _ _ zax (by decide), old 5 0 (by omega)]; exact r8
  · rw [fx _ _ zax (by decide), old 22 0 (by omega)]; exact r9
  · rw [fx _ _ zax (by decide), nX_none (hno 4 (by omega)), old 4 _ (by omega)]; exact r10
  · rw [old 6 0 (by omega), old 16 0 (by omega), fx _ _ (hz 6 0 (by omega)) (by decide)]; exact r11
  · rw [old 7 0 (by omega), old 8 0 (by omega), fx _ _ (hz 7 0 (by omega)) (by decide)]; exact r12
  · rw [old 7 0 (by omega), old 19 0 (by omega), fx _ _ (hz 7 0 (by omega)) (by decide)]; exact r13
  · rw [old 8 0 (by omega), old 17 0 (by omega), fx _ _ (hz 8 0 (by omega)) (by decide)]; exact r14
  · rw [old 8 0 (by omega), old 18 0 (by omega), fx _ _ (hz 8 0 (by omega)) (by decide)]; exact r15
  · rw [old 5 0 (by omega), old 20 0 (by omega), fx _ _ (hz 5 0 (by omega)) (by decide)]; exact r16
  · rw [old 5 0 (by omega), old 21 0 (by omega), fx _ _ (hz 5 0 (by omega)) (by decide)]; exact r17
  · by_cases hi2 : i < n 2
    · rw [old 2 i hi2, old 12 i (by omega), fx _ _ (hz 2 i hi2) (by decide)]; exact r18 i hi2
    · exact h2 i hi hi2
  · by_cases hi2 : i < n 3
    · rw [old 3 i hi2, old 13 i (by omega), fx _ _ (hz 3 i hi2) (by decide)]; exact r19 i hi2
    · exact h3 i hi hi2
  · by_cases hi2 : i < n 1
    · obtain ⟨c1, c2, c3, c4, c5, c6⟩ := r20 i hi2
      rw [(hp i hi2).1, (hp i hi2).2, old 1 i hi2, old 11 i (by omega), old 14 i (by omega), old 3 _ c5, old 2 _ c6, fx _ _ (hz 1 i hi2) (by decide), fx _ _ (hz 1 i hi2) (by decide), fx _ _ (hz 1 i hi2) (by decide), fx _ _ (hz 1 i hi2) (by decide)]
      exact ⟨c1, c2, c3, c4, by omega, by omega⟩
    · exact h1 i hi hi2
  · rw [nX_none (hno 4 (by omega))] at hi
    rw [old 4 i hi, old 15 i (by omega), fx _ _ (hz 4 i hi) (by decide)]; exact r21 i hi
end EXR
section FEAT2
variable {ax ao am : Nat} {ad : Nat → Nat → Nat} {n e pO fO q tm : Nat → Nat} {tx : Nat → List (Int32 × List Int32)} {w : Nat} {pn : Nat → Nat} {nw : Nat → Nat → Nat} {fs : Nat → Nat} {ls : Nat → Option Nat} {rs rl pr : Nat → Nat} {tl : Nat} {hx hm : HS}
theorem SameS_sFi {h0 h : HS} {g a : Nat} {x : Int32} (hs : SameS h0 h) : SameS h0 (sFi h g a x) := hs.tr ⟨rfl, rfl, rfl, rfl, rfl, rfl, rfl⟩
theorem SameS_sAi {h0 h : HS} {g a : Nat} {x : Int32} (hs : SameS h0 h) : SameS h0 (sAi h g a x) := hs.tr ⟨rfl, rfl, rfl, rfl, rfl, rfl, rfl⟩
theorem mv_sFi {q : Nat → Nat} {h : HS} {g a : Nat} {x : Int32} : mv q (sFi h g a x) = mv q h := rfl
theorem mf_sAi {am : Nat} {h : HS} {g a : Nat} {x : Int32} : mf am (sAi h g a x) = mf am h := rfl
theorem SMA_same {q : Nat → Nat} {am : Nat} {h h' : HS} (hs : SameS h h') (hM : SMA q am h) : SMA q am h' := by
  unfold SMA at hM ⊢
  rw [hs.1, hs.2.1, hs.2.2.1]; exact hM
theorem ml_same {q : Nat → Nat} {h h' : HS} (hs : SameS h h') : ml q h' = ml q h := by
  unfold ml; rw [hs.2.2.2.1]
theorem e_feature9 {h : HS} (hM : SMA q am h) {N : Nat} (h25 : mf am h 25 = nI N) (hN : N < 10) {a b c d f : Int32} (h5 : Wi a 0 3) (h6 : Wi b 0 500) (h1 : Wi c 0 100) (h2 : Wi d 0 100) (h3 : Wi f 0 100) (h4 : ¬ c + d + f = 0) : ∃ h', m_X9_feature am a b c d f h = some (nI N, h') ∧ SameS h h' ∧ mv q h' = up2 (up2 (up2 (up2 (up2 (mv q h) 26 N a) 27 N b) 28 (3 * N) c) 28 (3 * N + 1) d) 28 (3 * N + 2) f ∧ mf am h' = va_up (va_up (mf am h) 0 0) 25 (nI (N + 1)) := by
  have hkm : kd h am = 11 := hM.1
  have r26 : fr h 1026 am = some (q 26) := (hM.2.1 (26, 201, 10) (by decide)).1
  have k26 : kd h (q 26) = 201 := (hM.2.1 (26, 201, 10) (by decide)).2.1
  have l26 : ln h (q 26) = 10 := (hM.2.1 (26, 201, 10) (by decide)).2.2
  have r27 : fr h 1027 am = some (q 27) := (hM.2.1 (27, 201, 10) (by decide)).1
  have k27 : kd h (q 27) = 201 := (hM.2.1 (27, 201, 10) (by decide)).2.1
  have l27 : ln h (q 27) = 10 := (hM.2.1 (27, 201, 10) (by decide)).2.2
  have r28 : fr h 1028 am = some (q 28) := (hM.2.1 (28, 201, 30) (by decide)).1
  have k28 : kd h (q 28) = 201 := (hM.2.1 (28, 201, 30) (by decide)).2.1
  have l28 : ln h (q 28) = 30 := (hM.2.1 (28, 201, 30) (by decide)).2.2
  have i25 : fi (sFi h 1000 am 0) 1025 am = nI N := h25
  have h9 : ¬ nI N = 10 := fun z => by have := (nI_eq (a := N) (b := 10) (by omega) (by omega)).mp z; omega
  have cl : (nI N).toNatClampNeg = N := nI_cl hN (by omega)
  have ib : inB (nI N) 10 = true := inB_nI hN (by omega)
  have e0 : (3 : Int32) * nI N = nI (3 * N) := nI_mul 3 N
  have e1 : nI (3 * N) + 1 = nI (3 * N + 1) := nI_add _ 1
  have e2 : nI (3 * N) + 2 = nI (3 * N + 2) := nI_add _ 2
  have c0 : (nI (3 * N)).toNatClampNeg = 3 * N := nI_cl (N := 30) (by omega) (by omega)
  have c1 : (nI (3 * N + 1)).toNatClampNeg = 3 * N + 1 := nI_cl (N := 30) (by omega) (by omega)
  have c2 : (nI (3 * N + 2)).toNatClampNeg = 3 * N + 2 := nI_cl (N := 30) (by omega) (by omega)
  have b0 : inB (nI (3 * N)) 30 = true := inB_nI (by omega) (by omega)
  have b1 : inB (nI (3 * N + 1)) 30 = true := inB_nI (by omega) (by omega)
  have b2 : inB (nI (3 * N + 2)) 30 = true := inB_nI (by omega) (by omega)
  have e3 : nI N + 1 = nI (N + 1) := nI_add N 1
  have e4 : nI (N + 1) - 1 = nI N := nI_pred N
  have hq : ∀ k k', q k = q k' → k = k' := hM.2.2
  refine ⟨sFi (sAi (sAi (sAi (sAi (sAi (sFi h 1000 am 0) (q 26) N a) (q 27) N b) (q 28) (3 * N) c) (q 28) (3 * N + 1) d) (q 28) (3 * N + 2) f) 1025 am (nI (N + 1)), ?_, ?_, ?_, ?_⟩
  · simp only [m_X9_feature, e_within9, wi_pos h1, wi_pos h2, wi_pos h3, h4, wi_pos h5, wi_pos h6, aN, kA201, kA202, kA203, kA206, kA306, i1n0, i0n1, i0e0, i1e1, gI, gR, pI, pB, pR, xI, xL, yI, yL, vc, kd_sFi, fr_sFi, ln_sFi, ai_sFi, al_sFi, ar_sFi, cs_sFi, sz_sFi, sz_sAi, kd_sAi, fi_sAi, fr_sAi, ln_sAi, al_sAi, ar_sAi, cs_sAi, kd_wz, fi_wz, fr_wz, ln_wz, ai_wz, al_wz, ar_wz, Option.bind_some, if_true, if_false, Nat.reduceAdd, Nat.reduceMul, reduceIte, and_self, true_and, and_true, hkm, i25, h9, r26, k26, l26, r27, k27, l27, r28, k28, l28, cl, ib, e0, e1, e2, c0, c1, c2, b0, b1, b2, nar_i32, e3, fi_sFi, up2_same, e4]
  · exact SameS_sFi (SameS_sAi (SameS_sAi (SameS_sAi (SameS_sAi (SameS_sAi (SameS_sFi (SameS.rf h)))))))
  · rw [mv_sFi, mv_sAi hq, mv_sAi hq, mv_sAi hq, mv_sAi hq, mv_sAi hq, mv_sFi]
  · rw [mf_sFi (k := 25) (by decide), mf_sAi, mf_sAi, mf_sAi, mf_sAi, mf_sAi, mf_sFi (k := 0) (by decide)]
end FEAT2
