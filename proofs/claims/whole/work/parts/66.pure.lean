section SHARE3
variable {ax ao am : Nat} {ad : Nat → Nat → Nat} {n e pO fO q tm : Nat → Nat} {tx : Nat → List (Int32 × List Int32)} {w : Nat} {pn : Nat → Nat} {nw : Nat → Nat → Nat} {fs : Nat → Nat} {ls : Nat → Option Nat} {rs rl pr : Nat → Nat} {tl : Nat} {hx hm : HS}
theorem sh_step {h : HS} (hM : SMA q am h) {f a k L I C R S sk F : Nat} (hf : f < 10) (hk : k < 3) (h28 : mv q h 28 (3 * f + k) = nI sk) (hsk : sk ≤ 100) (hI : I < 2 ^ 31) (hS0 : 0 < S) (hS3 : S ≤ 300) (hC : C = I * sk / S) (hR : R = I * sk % S) (hCL : C ≤ L) : X9_share_L84 am (F + 1) (nI f) (nI a) (nI S) (nI L) (lN I) (nI k) h = X9_share_L84 am F (nI f) (nI a) (nI S) (nI (L - C)) (lN I) (nI (k + 1)) (sAi (sAi h (q 53) k (nI C)) (q 52) k (nI R)) := by
  have hkm : kd h am = 11 := hM.1
  have r28 : fr h 1028 am = some (q 28) := (hM.2.1 (28, 201, 30) (by decide)).1
  have k28 : kd h (q 28) = 201 := (hM.2.1 (28, 201, 30) (by decide)).2.1
  have l28 : ln h (q 28) = 30 := (hM.2.1 (28, 201, 30) (by decide)).2.2
  have r52 : fr h 1052 am = some (q 52) := (hM.2.1 (52, 201, 3) (by decide)).1
  have k52 : kd h (q 52) = 201 := (hM.2.1 (52, 201, 3) (by decide)).2.1
  have l52 : ln h (q 52) = 3 := (hM.2.1 (52, 201, 3) (by decide)).2.2
  have r53 : fr h 1053 am = some (q 53) := (hM.2.1 (53, 201, 3) (by decide)).1
  have k53 : kd h (q 53) = 201 := (hM.2.1 (53, 201, 3) (by decide)).2.1
  have l53 : ln h (q 53) = 3 := (hM.2.1 (53, 201, 3) (by decide)).2.2
  have hq : ∀ k k', q k = q k' → k = k' := hM.2.2
  have l0 : ¬ (3 : Int32) ≤ nI k := nI_ge (b := 3) hk (by omega)
  have e0 : (3 : Int32) * nI f + nI k = nI (3 * f + k) := by rw [← nI_add, ← nI_mul]; rfl
  have cl : (nI k).toNatClampNeg = k := nI_cl hk (by omega)
  have ib : inB (nI k) 3 = true := inB_nI hk (by omega)
  have cl2 : (nI (3 * f + k)).toNatClampNeg = 3 * f + k := nI_cl (N := 30) (by omega) (by omega)
  have ib2 : inB (nI (3 * f + k)) 30 = true := inB_nI (by omega) (by omega)
  have m28 : ai h (q 28) (3 * f + k) = nI sk := h28
  have tS : (nI S).toInt64 = lN S := nI_l (by omega)
  have tk : (nI sk).toInt64 = lN sk := nI_l (by omega)
  have hne : ¬ lN S = 0 := fun z => by have := (pk_lEQ (b := 0) (by omega) (by omega)).mp z; omega
  have hbig : I * sk < 2 ^ 63 := by
    have : I * sk ≤ 2 ^ 31 * 100 := Nat.mul_le_mul (by omega) hsk
    omega
  have eC : (lN (I * sk) / lN S).toInt32 = nI C := by rw [pk_lDiv hbig hS0 (by omega), lN_i, hC]
  have eR : (lrem (lN (I * sk)) (lN S)).toInt32 = nI R := by
    unfold lrem
    rw [pk_lRem hbig hS0 (by omega), lN_i, hR]
  have q28 : ¬ q 28 = q 53 := fun z => by have := hq _ _ z; omega
  have q53 : ¬ q 53 = q 52 := fun z => by have := hq _ _ z; omega
  have m28' : ai (sAi h (q 53) k (nI C)) (q 28) (3 * f + k) = nI sk := by rw [ai_sAi, up2_ne1 _ _ _ _ q28]; exact m28
  have m53' : ai (sAi (sAi h (q 53) k (nI C)) (q 52) k (nI R)) (q 53) k = nI C := by rw [ai_sAi, up2_ne1 _ _ _ _ q53, ai_sAi, up2_same]
  have e7 : nI k + 1 = nI (k + 1) := nI_add k 1
  conv => lhs; unfold X9_share_L84
  simp only [aN, kA201, kA202, kA203, kA206, kA306, i1n0, i0n1, i0e0, i1e1, gI, gR, pI, pB, pR, xI, xL, yI, yL, vc, kd_sFi, fr_sFi, ln_sFi, ai_sFi, al_sFi, ar_sFi, cs_sFi, sz_sFi, sz_sAi, kd_sAi, fi_sAi, fr_sAi, ln_sAi, al_sAi, ar_sAi, cs_sAi, kd_wz, fi_wz, fr_wz, ln_wz, ai_wz, al_wz, ar_wz, Option.bind_some, if_true, if_false, Nat.reduceAdd, Nat.reduceMul, reduceIte, and_self, true_and, and_true, l0, hkm, r28, k28, l28, r52, k52, l52, r53, k53, l53, e0, cl2, ib2, m28, tS, tk, hne, lN_mul, eC, cl, ib, nar_i32, m28', eR, m53', nI_sub hCL, e7]
/-- who has most left over: the first of them -/
def pk3 (x y z : Int32) : Nat := if y ≤ x then (if z ≤ x then 0 else 2) else (if z ≤ y then 1 else 2)
theorem pk3_lt (x y z : Int32) : pk3 x y z < 3 := by
  unfold pk3
  split <;> split <;> omega
theorem sh_round {h : HS} (hM : SMA q am h) {a l F : Nat} (hl : l < 2) : X9_share_L160 am (F + 1) (nI a) (nI (l + 1)) h = X9_share_L160 am F (nI a) (nI l) (sAi (sAi h (q 53) (pk3 (mv q h 52 0) (mv q h 52 1) (mv q h 52 2)) (mv q h 53 (pk3 (mv q h 52 0) (mv q h 52 1) (mv q h 52 2)) + 1)) (q 52) (pk3 (mv q h 52 0) (mv q h 52 1) (mv q h 52 2)) (-1)) := by
  have hkm : kd h am = 11 := hM.1
  have r52 : fr h 1052 am = some (q 52) := (hM.2.1 (52, 201, 3) (by decide)).1
  have k52 : kd h (q 52) = 201 := (hM.2.1 (52, 201, 3) (by decide)).2.1
  have l52 : ln h (q 52) = 3 := (hM.2.1 (52, 201, 3) (by decide)).2.2
  have r53 : fr h 1053 am = some (q 53) := (hM.2.1 (53, 201, 3) (by decide)).1
  have k53 : kd h (q 53) = 201 := (hM.2.1 (53, 201, 3) (by decide)).2.1
  have l53 : ln h (q 53) = 3 := (hM.2.1 (53, 201, 3) (by decide)).2.2
  have e1 : ¬ nI (l + 1) ≤ 0 := nI_nle (by omega) (by omega)
  have e2 : nI (l + 1) + (-1) = nI l := by
    have h1 := nI_pred l
    rw [Int32.sub_eq_add_neg] at h1
    exact h1
  have i0 : inB (0 : Int32) 3 = true := by decide
  have i1 : inB (1 : Int32) 3 = true := by decide
  have i2 : inB (2 : Int32) 3 = true := by decide
  have c0 : (0 : Int32).toNatClampNeg = 0 := by decide
  have c1 : (1 : Int32).toNatClampNeg = 1 := by decide
  have c2 : (2 : Int32).toNatClampNeg = 2 := by decide
  have l1 : ¬ (3 : Int32) ≤ 1 := by decide
  have l2 : ¬ (3 : Int32) ≤ 2 := by decide
  have l3 : (3 : Int32) ≤ 3 := by decide
  have a2 : (1 : Int32) + 1 = 2 := by decide
  have a3 : (2 : Int32) + 1 = 3 := by decide
  have hfu : FU = 997 + 1 + 1 + 1 := rfl
  conv => lhs; unfold X9_share_L160
  simp only [e1, if_false, hfu]
  unfold pk3
  show X9_share_L171 am (X9_share_L160 am F) (997 + 1 + 1 + 1) (nI a) (nI (l + 1)) 0 1 h = _
  rw [X9_share_L171]
  by_cases g1 : mv q h 52 1 ≤ mv q h 52 0
  · have g1' : ai h (q 52) 1 ≤ ai h (q 52) 0 := g1
    simp only [X9_share_b201, aN, kA201, kA202, kA203, kA206, kA306, i1n0, i0n1, i0e0, i1e1, gI, gR, pI, pB, pR, xI, xL, yI, yL, vc, kd_sFi, fr_sFi, ln_sFi, ai_sFi, al_sFi, ar_sFi, cs_sFi, sz_sFi, sz_sAi, kd_sAi, fi_sAi, fr_sAi, ln_sAi, al_sAi, ar_sAi, cs_sAi, kd_wz, fi_wz, fr_wz, ln_wz, ai_wz, al_wz, ar_wz, Option.bind_some, if_true, if_false, Nat.reduceAdd, Nat.reduceMul, reduceIte, and_self, true_and, and_true, l1, hkm, r52, k52, l52, i0, i1, c0, c1, g1', a2, g1]
    rw [X9_share_L171]
    by_cases g2 : mv q h 52 2 ≤ mv q h 52 0
    · have g2' : ai h (q 52) 2 ≤ ai h (q 52) 0 := g2
      simp only [X9_share_b201, aN, kA201, kA202, kA203, kA206, kA306, i1n0, i0n1, i0e0, i1e1, gI, gR, pI, pB, pR, xI, xL, yI, yL, vc, kd_sFi, fr_sFi, ln_sFi, ai_sFi, al_sFi, ar_sFi, cs_sFi, sz_sFi, sz_sAi, kd_sAi, fi_sAi, fr_sAi, ln_sAi, al_sAi, ar_sAi, cs_sAi, kd_wz, fi_wz, fr_wz, ln_wz, ai_wz, al_wz, ar_wz, Option.bind_some, if_true, if_false, Nat.reduceAdd, Nat.reduceMul, reduceIte, and_self, true_and, and_true, l2, hkm, r52, k52, l52, i0, i2, c0, c2, g2', a3, g2]
      rw [X9_share_L171]
      simp only [aN, kA201, kA202, kA203, kA206, kA306, i1n0, i0n1, i0e0, i1e1, gI, gR, pI, pB, pR, xI, xL, yI, yL, vc, kd_sFi, fr_sFi, ln_sFi, ai_sFi, al_sFi, ar_sFi, cs_sFi, sz_sFi, sz_sAi, kd_sAi, fi_sAi, fr_sAi, ln_sAi, al_sAi, ar_sAi, cs_sAi, kd_wz, fi_wz, fr_wz, ln_wz, ai_wz, al_wz, ar_wz, Option.bind_some, if_true, if_false, Nat.reduceAdd, Nat.reduceMul, reduceIte, and_self, true_and, and_true, l3, hkm, r52, k52, l52, r53, k53, l53, i0, c0, nar_i32, e2]
      rfl
    · have g2' : ¬ ai h (q 52) 2 ≤ ai h (q 52) 0 := g2
      simp only [X9_share_b201, aN, kA201, kA202, kA203, kA206, kA306, i1n0, i0n1, i0e0, i1e1, gI, gR, pI, pB, pR, xI, xL, yI, yL, vc, kd_sFi, fr_sFi, ln_sFi, ai_sFi, al_sFi, ar_sFi, cs_sFi, sz_sFi, sz_sAi, kd_sAi, fi_sAi, fr_sAi, ln_sAi, al_sAi, ar_sAi, cs_sAi, kd_wz, fi_wz, fr_wz, ln_wz, ai_wz, al_wz, ar_wz, Option.bind_some, if_true, if_false, Nat.reduceAdd, Nat.reduceMul, reduceIte, and_self, true_and, and_true, l2, hkm, r52, k52, l52, i0, i2, c0, c2, g2', a3, g2]
      rw [X9_share_L171]
      simp only [aN, kA201, kA202, kA203, kA206, kA306, i1n0, i0n1, i0e0, i1e1, gI, gR, pI, pB, pR, xI, xL, yI, yL, vc, kd_sFi, fr_sFi, ln_sFi, ai_sFi, al_sFi, ar_sFi, cs_sFi, sz_sFi, sz_sAi, kd_sAi, fi_sAi, fr_sAi, ln_sAi, al_sAi, ar_sAi, cs_sAi, kd_wz, fi_wz, fr_wz, ln_wz, ai_wz, al_wz, ar_wz, Option.bind_some, if_true, if_false, Nat.reduceAdd, Nat.reduceMul, reduceIte, and_self, true_and, and_true, l3, hkm, r52, k52, l52, r53, k53, l53, i2, c2, nar_i32, e2]
      rfl
  · have g1' : ¬ ai h (q 52) 1 ≤ ai h (q 52) 0 := g1
    simp only [X9_share_b201, aN, kA201, kA202, kA203, kA206, kA306, i1n0, i0n1, i0e0, i1e1, gI, gR, pI, pB, pR, xI, xL, yI, yL, vc, kd_sFi, fr_sFi, ln_sFi, ai_sFi, al_sFi, ar_sFi, cs_sFi, sz_sFi, sz_sAi, kd_sAi, fi_sAi, fr_sAi, ln_sAi, al_sAi, ar_sAi, cs_sAi, kd_wz, fi_wz, fr_wz, ln_wz, ai_wz, al_wz, ar_wz, Option.bind_some, if_true, if_false, Nat.reduceAdd, Nat.reduceMul, reduceIte, and_self, true_and, and_true, l1, hkm, r52, k52, l52, i0, i1, c0, c1, g1', a2, g1]
    rw [X9_share_L171]
    by_cases g2 : mv q h 52 2 ≤ mv q h 52 1
    · have g2' : ai h (q 52) 2 ≤ ai h (q 52) 1 := g2
      simp only [X9_share_b201, aN, kA201, kA202, kA203, kA206, kA306, i1n0, i0n1, i0e0, i1e1, gI, gR, pI, pB, pR, xI, xL, yI, yL, vc, kd_sFi, fr_sFi, ln_sFi, ai_sFi, al_sFi, ar_sFi, cs_sFi, sz_sFi, sz_sAi, kd_sAi, fi_sAi, fr_sAi, ln_sAi, al_sAi, ar_sAi, cs_sAi, kd_wz, fi_wz, fr_wz, ln_wz, ai_wz, al_wz, ar_wz, Option.bind_some, if_true, if_false, Nat.reduceAdd, Nat.reduceMul, reduceIte, and_self, true_and, and_true, l2, hkm, r52, k52, l52, i1, i2, c1, c2, g2', a3, g2]
      rw [X9_share_L171]
      simp only [aN, kA201, kA202, kA203, kA206, kA306, i1n0, i0n1, i0e0, i1e1, gI, gR, pI, pB, pR, xI, xL, yI, yL, vc, kd_sFi, fr_sFi, ln_sFi, ai_sFi, al_sFi, ar_sFi, cs_sFi, sz_sFi, sz_sAi, kd_sAi, fi_sAi, fr_sAi, ln_sAi, al_sAi, ar_sAi, cs_sAi, kd_wz, fi_wz, fr_wz, ln_wz, ai_wz, al_wz, ar_wz, Option.bind_some, if_true, if_false, Nat.reduceAdd, Nat.reduceMul, reduceIte, and_self, true_and, and_true, l3, hkm, r52, k52, l52, r53, k53, l53, i1, c1, nar_i32, e2]
      rfl
    · have g2' : ¬ ai h (q 52) 2 ≤ ai h (q 52) 1 := g2
      simp only [X9_share_b201, aN, kA201, kA202, kA203, kA206, kA306, i1n0, i0n1, i0e0, i1e1, gI, gR, pI, pB, pR, xI, xL, yI, yL, vc, kd_sFi, fr_sFi, ln_sFi, ai_sFi, al_sFi, ar_sFi, cs_sFi, sz_sFi, sz_sAi, kd_sAi, fi_sAi, fr_sAi, ln_sAi, al_sAi, ar_sAi, cs_sAi, kd_wz, fi_wz, fr_wz, ln_wz, ai_wz, al_wz, ar_wz, Option.bind_some, if_true, if_false, Nat.reduceAdd, Nat.reduceMul, reduceIte, and_self, true_and, and_true, l2, hkm, r52, k52, l52, i1, i2, c1, c2, g2', a3, g2]
      rw [X9_share_L171]
      simp only [aN, kA201, kA202, kA203, kA206, kA306, i1n0, i0n1, i0e0, i1e1, gI, gR, pI, pB, pR, xI, xL, yI, yL, vc, kd_sFi, fr_sFi, ln_sFi, ai_sFi, al_sFi, ar_sFi, cs_sFi, sz_sFi, sz_sAi, kd_sAi, fi_sAi, fr_sAi, ln_sAi, al_sAi, ar_sAi, cs_sAi, kd_wz, fi_wz, fr_wz, ln_wz, ai_wz, al_wz, ar_wz, Option.bind_some, if_true, if_false, Nat.reduceAdd, Nat.reduceMul, reduceIte, and_self, true_and, and_true, l3, hkm, r52, k52, l52, r53, k53, l53, i2, c2, nar_i32, e2]
      rfl
theorem sh_end {h : HS} (hM : SMA q am h) {a F : Nat} (ha : a < 3) : X9_share_L160 am (F + 1) (nI a) (nI 0) h = some (mv q h 53 a, h) := by
  have hkm : kd h am = 11 := hM.1
  have r53 : fr h 1053 am = some (q 53) := (hM.2.1 (53, 201, 3) (by decide)).1
  have k53 : kd h (q 53) = 201 := (hM.2.1 (53, 201, 3) (by decide)).2.1
  have l53 : ln h (q 53) = 3 := (hM.2.1 (53, 201, 3) (by decide)).2.2
  have e1 : nI 0 ≤ 0 := by decide
  have cl : (nI a).toNatClampNeg = a := nI_cl ha (by omega)
  have ib : inB (nI a) 3 = true := inB_nI ha (by omega)
  simp only [X9_share_L160, e1, aN, kA201, kA202, kA203, kA206, kA306, i1n0, i0n1, i0e0, i1e1, gI, gR, pI, pB, pR, xI, xL, yI, yL, vc, kd_sFi, fr_sFi, ln_sFi, ai_sFi, al_sFi, ar_sFi, cs_sFi, sz_sFi, sz_sAi, kd_sAi, fi_sAi, fr_sAi, ln_sAi, al_sAi, ar_sAi, cs_sAi, kd_wz, fi_wz, fr_wz, ln_wz, ai_wz, al_wz, ar_wz, Option.bind_some, if_true, if_false, Nat.reduceAdd, Nat.reduceMul, reduceIte, and_self, true_and, and_true, hkm, r53, k53, l53, cl, ib]
  rfl
end SHARE3
