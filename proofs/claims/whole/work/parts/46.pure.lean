/-! feed -/
theorem sgn_bv (x : BitVec 64) (k : Nat) (hk : k ≤ 56) : BitVec.signExtend 32 (x >>> k) &&& 255#32 = BitVec.signExtend 32 (x.sshiftRight k) &&& 255#32 := by
  apply BitVec.eq_of_getLsbD_eq
  intro i hi
  rw [BitVec.getLsbD_and, BitVec.getLsbD_and]
  by_cases h8 : i < 8
  · congr 1
    rw [BitVec.getLsbD_signExtend, BitVec.getLsbD_signExtend]
    have h1 : i < 64 := by omega
    simp only [h1, hi, if_true, decide_true, Bool.true_and]
    rw [BitVec.getLsbD_ushiftRight, BitVec.getLsbD_sshiftRight]
    have h2 : k + i < 64 := by omega
    have h3 : ¬ 64 ≤ i := by omega
    simp [h2, h3]
  · have h9 : (255#32).getLsbD i = false := by
      have h : ∀ i : Fin 32, 8 ≤ i.val → (255#32).getLsbD i.val = false := by decide
      exact h ⟨i, hi⟩ (show 8 ≤ i by omega)
    rw [h9]
    simp
theorem sgn_at (v : Int64) (s : Int32) (hs : s = 56 ∨ s = 48 ∨ s = 40 ∨ s = 32 ∨ s = 24 ∨ s = 16 ∨ s = 8 ∨ s = 0) : (lushr v s).toInt32 &&& (255 : Int32) = (lshr v s).toInt32 &&& (255 : Int32) := by
  apply Int32.toBitVec_inj.mp
  rcases hs with rfl | rfl | rfl | rfl | rfl | rfl | rfl | rfl
  all_goals try simp [lushr, lshr]
  all_goals exact sgn_bv _ _ (by decide)
section FEED
variable {ax ao am : Nat} {ad : Nat → Nat → Nat} {n e pO fO q tm : Nat → Nat} {tx : Nat → List (Int32 × List Int32)} {w : Nat} {pn : Nat → Nat} {nw : Nat → Nat → Nat} {fs : Nat → Nat} {ls : Nat → Option Nat} {rs rl pr : Nat → Nat} {tl : Nat} {hx hm : HS}
def fit (c : Int32) : Prop := c = 10 ∨ (¬ c < 32 ∧ ¬ 126 < c)
theorem fit_b {c : Int32} (hc : fit c) : ∃ j : Nat, c = nI j ∧ j ≤ 126 := by
  rcases hc with rfl | ⟨h1, h2⟩
  · exact ⟨10, rfl, by decide⟩
  · have h0 : ¬ c < 0 := fun z => h1 (Int32.lt_trans z (by decide))
    obtain ⟨j, hj, rfl⟩ := nI_of h0
    refine ⟨j, rfl, ?_⟩
    by_cases h3 : j ≤ 126
    · exact h3
    · exact absurd (nI_lt (a := 126) (b := j) (by omega) hj) h2
theorem byt_nar {j : Nat} (hj : j ≤ 126) : vp_nar (tyK 203) (i2b (nI j)) = nI j := by
  have h : ∀ j : Fin 127, vp_nar (tyK 203) (i2b (nI j.val)) = nI j.val := by decide +kernel
  exact h ⟨j, by omega⟩
theorem ktape {h : HS} (hS : SXA ax ao ad n e pO fO h) : 0 < n 6 ∧ 0 < n 16 ∧ kd h (ad 6 0) = 7 ∧ fr h 600 (ad 6 0) = some (ad 16 0) ∧ kd h (ad 16 0) = 203 ∧ ln h (ad 16 0) = 600 ∧ fr h 903 ax = some (ad 6 0) := by
  have h1 := nSX hS
  have h6 : 0 < n 6 := by rw [h1.2.2.1]; decide
  have h16 : 0 < n 16 := by rw [h1.2.2.2.2.2.2.2.2.2.2.2.1]; decide
  exact ⟨h6, h16, k0 hS h6, hS.2.2.2.2.1.2.2.2.2.2.2.2.2.2.2.1, k0 hS h16, hS.2.2.2.1 16 0 h16 (by decide) (by decide), hS.2.2.2.2.1.2.2.2.2.2.1⟩
theorem e_addSign_fit {h : HS} (hS : SXA ax ao ad n e pO fO h) {tl : Nat} (ht : cf ad n h 601 0 = nI tl) (htl : tl < 600) {c : Int32} (hc : fit c) : m_X5_addSign (ad 6 0) c h = some (sFi (sAi h (ad 16 0) tl c) 601 (ad 6 0) (nI (tl + 1))) := by
  obtain ⟨n6, n16, k1, k2, k3, k4, -⟩ := ktape hS
  have f601 : fi h 601 (ad 6 0) = nI tl := by rw [cf_at (g := 601) (n := n) (t := 6) (by decide) n6]; exact ht
  have e1 : ¬ nI 600 ≤ nI tl := nI_ge htl (by omega)
  have cl : (nI tl).toNatClampNeg = tl := nI_cl htl (by omega)
  have ib : inB (nI tl) 600 = true := inB_nI htl (by omega)
  have e2 : nI tl + 1 = nI (tl + 1) := nI_add tl 1
  obtain ⟨j, hj, hj2⟩ := fit_b hc
  have e3 : vp_nar (tyK 203) (i2b c) = c := by rw [hj]; exact byt_nar hj2
  have e4 : X5_addSign_b22 (ad 6 0) c 1 h = some (sFi (sAi h (ad 16 0) tl c) 601 (ad 6 0) (nI (tl + 1))) := by
    simp only [X5_addSign_b22, aN, kA201, kA202, kA203, kA206, kA306, i1n0, i0n1, i0e0, i1e1, gI, gR, pI, pB, pR, xI, xL, yI, yL, vc, kd_sFi, fr_sFi, ln_sFi, ai_sFi, al_sFi, ar_sFi, cs_sFi, sz_sFi, sz_sAi, kd_sAi, fi_sAi, fr_sAi, ln_sAi, al_sAi, ar_sAi, cs_sAi, kd_wz, fi_wz, fr_wz, ln_wz, ai_wz, al_wz, ar_wz, Option.bind_some, if_true, if_false, Nat.reduceAdd, Nat.reduceMul, reduceIte, and_self, true_and, and_true, k1, k2, k3, k4, f601, e1, cl, ib, e3, e2]
  by_cases h10 : c = 10
  · simp only [m_X5_addSign, X5_addSign_b17, h10, if_true]
    rw [h10] at e4
    exact e4
  · rcases hc with hc | ⟨hc1, hc2⟩
    · exact absurd hc h10
    · simp only [m_X5_addSign, X5_addSign_b17, h10, aN, kA201, kA202, kA203, kA206, kA306, i1n0, i0n1, i0e0, i1e1, gI, gR, pI, pB, pR, xI, xL, yI, yL, vc, kd_sFi, fr_sFi, ln_sFi, ai_sFi, al_sFi, ar_sFi, cs_sFi, sz_sFi, sz_sAi, kd_sAi, fi_sAi, fr_sAi, ln_sAi, al_sAi, ar_sAi, cs_sAi, kd_wz, fi_wz, fr_wz, ln_wz, ai_wz, al_wz, ar_wz, Option.bind_some, if_true, if_false, Nat.reduceAdd, Nat.reduceMul, reduceIte, and_self, true_and, and_true, e_within, hc1, hc2, e4]
theorem e_addSign_full {h : HS} (hS : SXA ax ao ad n e pO fO h) {tl : Nat} (ht : cf ad n h 601 0 = nI tl) (htl : tl ≤ 600) {c : Int32} (hc : ¬ fit c ∨ tl = 600) : m_X5_addSign (ad 6 0) c h = some h := by
  obtain ⟨n6, n16, k1, k2, k3, k4, -⟩ := ktape hS
  have f601 : fi h 601 (ad 6 0) = nI tl := by rw [cf_at (g := 601) (n := n) (t := 6) (by decide) n6]; exact ht
  have e0 : X5_addSign_b22 (ad 6 0) c 0 h = some h := by simp only [X5_addSign_b22, if_true]
  by_cases hf : fit c
  · have htl6 : tl = 600 := by
      rcases hc with hc | hc
      · exact absurd hf hc
      · exact hc
    have e1 : nI 600 ≤ nI tl := by rw [htl6]; exact Int32.le_refl _
    have e4 : X5_addSign_b22 (ad 6 0) c 1 h = some h := by
      simp only [X5_addSign_b22, aN, kA201, kA202, kA203, kA206, kA306, i1n0, i0n1, i0e0, i1e1, gI, gR, pI, pB, pR, xI, xL, yI, yL, vc, kd_sFi, fr_sFi, ln_sFi, ai_sFi, al_sFi, ar_sFi, cs_sFi, sz_sFi, sz_sAi, kd_sAi, fi_sAi, fr_sAi, ln_sAi, al_sAi, ar_sAi, cs_sAi, kd_wz, fi_wz, fr_wz, ln_wz, ai_wz, al_wz, ar_wz, Option.bind_some, if_true, if_false, Nat.reduceAdd, Nat.reduceMul, reduceIte, and_self, true_and, and_true, k1, k2, k3, k4, f601, e1]
    by_cases h10 : c = 10
    · simp only [m_X5_addSign, X5_addSign_b17, h10, if_true]
      rw [h10] at e4
      exact e4
    · rcases hf with hc | ⟨hc1, hc2⟩
      · exact absurd hc h10
      · simp only [m_X5_addSign, X5_addSign_b17, h10, aN, kA201, kA202, kA203, kA206, kA306, i1n0, i0n1, i0e0, i1e1, gI, gR, pI, pB, pR, xI, xL, yI, yL, vc, kd_sFi, fr_sFi, ln_sFi, ai_sFi, al_sFi, ar_sFi, cs_sFi, sz_sFi, sz_sAi, kd_sAi, fi_sAi, fr_sAi, ln_sAi, al_sAi, ar_sAi, cs_sAi, kd_wz, fi_wz, fr_wz, ln_wz, ai_wz, al_wz, ar_wz, Option.bind_some, if_true, if_false, Nat.reduceAdd, Nat.reduceMul, reduceIte, and_self, true_and, and_true, e_within, hc1, hc2, e4]
  · have h10 : ¬ c = 10 := fun z => hf (Or.inl z)
    have h5 : (if c < 32 then (0 : Int32) else if 126 < c then 0 else 1) = 0 := by
      by_cases h1 : c < 32
      · rw [if_pos h1]
      · rw [if_neg h1]
        by_cases h2 : 126 < c
        · rw [if_pos h2]
        · exact absurd (Or.inr ⟨h1, h2⟩) hf
    simp only [m_X5_addSign, h10, aN, kA201, kA202, kA203, kA206, kA306, i1n0, i0n1, i0e0, i1e1, gI, gR, pI, pB, pR, xI, xL, yI, yL, vc, kd_sFi, fr_sFi, ln_sFi, ai_sFi, al_sFi, ar_sFi, cs_sFi, sz_sFi, sz_sAi, kd_sAi, fi_sAi, fr_sAi, ln_sAi, al_sAi, ar_sAi, cs_sAi, kd_wz, fi_wz, fr_wz, ln_wz, ai_wz, al_wz, ar_wz, Option.bind_some, if_true, if_false, Nat.reduceAdd, Nat.reduceMul, reduceIte, and_self, true_and, and_true, e_within, h5, e0]
/-- the two tapes, step by step -/
def FD (ax am ao : Nat) (ad : Nat → Nat → Nat) (n e pO fO q : Nat → Nat) (hx0 hm0 hx hm : HS) (tl : Nat) : Prop := SXA ax ao ad n e pO fO hx ∧ SMA q am hm ∧ SameS hx0 hx ∧ SameS hm0 hm ∧ (∀ g, g ≠ 601 → cf ad n hx g = cf ad n hx0 g) ∧ (∀ t, t ≠ 16 → cv ad n hx t = cv ad n hx0 t) ∧ (∀ k, k ≠ 2 → mf am hm k = mf am hm0 k) ∧ (∀ k, k ≠ 1 → mv q hm k = mv q hm0 k) ∧ RT (cf ad n hx 601) (cv ad n hx 16) (mf am hm 2) (mv q hm 1) tl
theorem fd_step {hx0 hm0 : HS} {tl : Nat} (hD : FD ax am ao ad n e pO fO q hx0 hm0 hx hm tl) {c : Int32} (hc : fit c) (htl : tl < 600) : FD ax am ao ad n e pO fO q hx0 hm0 (sFi (sAi hx (ad 16 0) tl c) 601 (ad 6 0) (nI (tl + 1))) (sFi (sAi hm (q 1) tl c) 1002 am (nI (tl + 1))) (tl + 1) := by
  obtain ⟨hS, hM, s1, s2, c1, c2, c3, c4, t1, t2, t3, t4⟩ := hD
  obtain ⟨n6, n16, k1, k2, k3, k4, -⟩ := ktape hS
  have hq : ∀ k k', q k = q k' → k = k' := hM.2.2
  have hS1 : SXA ax ao ad n e pO fO (sAi hx (ad 16 0) tl c) := SXA_sAi (by rw [k3]; decide) hS
  have ec : cf ad n (sFi (sAi hx (ad 16 0) tl c) 601 (ad 6 0) (nI (tl + 1))) = up2 (cf ad n hx) 601 0 (nI (tl + 1)) := cf_sFi hS.2.1 (t := 6) (by decide) n6
  have ev : cv ad n (sFi (sAi hx (ad 16 0) tl c) 601 (ad 6 0) (nI (tl + 1))) = up3 (cv ad n hx) 16 0 tl c := cv_sAi hS.2.1 n16
  have em : mv q (sFi (sAi hm (q 1) tl c) 1002 am (nI (tl + 1))) = up2 (mv q hm) 1 tl c := mv_sAi hq
  have ei : mf am (sFi (sAi hm (q 1) tl c) 1002 am (nI (tl + 1))) = va_up (mf am hm) 2 (nI (tl + 1)) := mf_sFi (k := 2) (by decide)
  refine ⟨SXA_sFi (by decide) (by decide) hS1, hM, s1.tr ⟨rfl, rfl, rfl, rfl, rfl, rfl, rfl⟩, s2.tr ⟨rfl, rfl, rfl, rfl, rfl, rfl, rfl⟩, fun g hg => ?_, fun t ht => ?_, fun k hk => ?_, fun k hk => ?_, ?_⟩
  · rw [ec, ← c1 g hg]; funext i; exact up2_ne1 _ _ _ _ hg
  · rw [ev, ← c2 t ht]; funext i j; simp [up3, ht]
  · rw [ei, ← c3 k hk]; exact va_upN _ _ hk
  · rw [em, ← c4 k hk]; funext i; exact up2_ne1 _ _ _ _ hk
  · rw [ec, ev, em, ei]
    refine ⟨by omega, up2_same _ _ _ _, va_up_same _ _ _, fun i hi => ?_⟩
    have hcc : c = 10 ∨ (32 ≤ c ∧ c ≤ 126) := by
      rcases hc with h | ⟨h1, h2⟩
      · exact Or.inl h
      · exact Or.inr ⟨Int32.not_lt.mp h1, Int32.not_lt.mp h2⟩
    by_cases hit : i = tl
    · subst hit
      refine ⟨?_, ?_⟩
      · simp [up3, up2]
      · rw [up2_same]; exact hcc
    · have h1 := t4 i (by omega)
      refine ⟨?_, ?_⟩
      · rw [up2_ne2 _ _ _ _ hit, ← h1.1]; simp [up3, hit]
      · rw [up2_ne2 _ _ _ _ hit]; exact h1.2
theorem lay_fit {h : HS} (hk : kd h am = 11) (hM : SMA q am h) (ht : mf am h 2 = nI tl) (htl : tl < 600) {v : Int64} {s : Int32} {F : Nat} (hs : ¬ s < 0) (hc : fit ((lshr v s).toInt32 &&& 255)) : X9_lay_L3 am (F + 1) v s h = X9_lay_L3 am F v (s + (-8)) (sFi (sAi h (q 1) tl ((lshr v s).toInt32 &&& 255)) 1002 am (nI (tl + 1))) := by
  have r1 : fr h 1001 am = some (q 1) := (hM.2.1 (1, 201, 600) (by decide)).1
  have k1 : kd h (q 1) = 201 := (hM.2.1 (1, 201, 600) (by decide)).2.1
  have l1 : ln h (q 1) = 600 := (hM.2.1 (1, 201, 600) (by decide)).2.2
  have i2 : fi h 1002 am = nI tl := ht
  have e1 : ¬ (600 : Int32) ≤ nI tl := nI_ge (b := 600) htl (by omega)
  have cl : (nI tl).toNatClampNeg = tl := nI_cl htl (by omega)
  have ib : inB (nI tl) 600 = true := inB_nI htl (by omega)
  have e2 : nI tl + 1 = nI (tl + 1) := nI_add tl 1
  have e4 : X9_lay_b38 am (X9_lay_L3 am F) v s ((lshr v s).toInt32 &&& 255) h = X9_lay_L3 am F v (s + (-8)) (sFi (sAi h (q 1) tl ((lshr v s).toInt32 &&& 255)) 1002 am (nI (tl + 1))) := by
    simp only [X9_lay_b38, X9_lay_b69, aN, kA201, kA202, kA203, kA206, kA306, i1n0, i0n1, i0e0, i1e1, gI, gR, pI, pB, pR, xI, xL, yI, yL, vc, kd_sFi, fr_sFi, ln_sFi, ai_sFi, al_sFi, ar_sFi, cs_sFi, sz_sFi, sz_sAi, kd_sAi, fi_sAi, fr_sAi, ln_sAi, al_sAi, ar_sAi, cs_sAi, kd_wz, fi_wz, fr_wz, ln_wz, ai_wz, al_wz, ar_wz, Option.bind_some, if_true, if_false, Nat.reduceAdd, Nat.reduceMul, reduceIte, and_self, true_and, and_true, hk, i2, e1, r1, k1, l1, cl, ib, nar_i32, e2]
  simp only [X9_lay_L3, hs, if_false]
  rcases hc with hc | ⟨hc1, hc2⟩
  · rw [if_pos hc]; exact e4
  · by_cases h10 : (lshr v s).toInt32 &&& 255 = 10
    · rw [if_pos h10]; exact e4
    · rw [if_neg h10, if_neg hc1, if_neg hc2]; exact e4
theorem lay_full {h : HS} (hk : kd h am = 11) (ht : mf am h 2 = nI tl) {v : Int64} {s : Int32} {F : Nat} (hs : ¬ s < 0) (hc : ¬ fit ((lshr v s).toInt32 &&& 255) ∨ tl = 600) : X9_lay_L3 am (F + 1) v s h = X9_lay_L3 am F v (s + (-8)) h := by
  have i2 : fi h 1002 am = nI tl := ht
  simp only [X9_lay_L3, hs, if_false]
  by_cases hf : fit ((lshr v s).toInt32 &&& 255)
  · have htl6 : tl = 600 := by
      rcases hc with hc | hc
      · exact absurd hf hc
      · exact hc
    have e1 : (600 : Int32) ≤ nI tl := by rw [htl6]; exact Int32.le_refl _
    have e4 : X9_lay_b38 am (X9_lay_L3 am F) v s ((lshr v s).toInt32 &&& 255) h = X9_lay_L3 am F v (s + (-8)) h := by
      simp only [X9_lay_b38, X9_lay_b69, aN, kA201, kA202, kA203, kA206, kA306, i1n0, i0n1, i0e0, i1e1, gI, gR, pI, pB, pR, xI, xL, yI, yL, vc, kd_sFi, fr_sFi, ln_sFi, ai_sFi, al_sFi, ar_sFi, cs_sFi, sz_sFi, sz_sAi, kd_sAi, fi_sAi, fr_sAi, ln_sAi, al_sAi, ar_sAi, cs_sAi, kd_wz, fi_wz, fr_wz, ln_wz, ai_wz, al_wz, ar_wz, Option.bind_some, if_true, if_false, Nat.reduceAdd, Nat.reduceMul, reduceIte, and_self, true_and, and_true, hk, i2, e1]
    rcases hf with hc | ⟨hc1, hc2⟩
    · rw [if_pos hc]; exact e4
    · by_cases h10 : (lshr v s).toInt32 &&& 255 = 10
      · rw [if_pos h10]; exact e4
      · rw [if_neg h10, if_neg hc1, if_neg hc2]; exact e4
  · have h10 : ¬ (lshr v s).toInt32 &&& 255 = 10 := fun z => hf (Or.inl z)
    rw [if_neg h10]
    by_cases h1 : (lshr v s).toInt32 &&& 255 < 32
    · rw [if_pos h1]; rfl
    · rw [if_neg h1]
      by_cases h2 : 126 < (lshr v s).toInt32 &&& 255
      · rw [if_pos h2]; rfl
      · exact absurd (Or.inr ⟨h1, h2⟩) hf
theorem sh_ok : ∀ k : Nat, k ≤ 7 → nI (8 * k) = 56 ∨ nI (8 * k) = 48 ∨ nI (8 * k) = 40 ∨ nI (8 * k) = 32 ∨ nI (8 * k) = 24 ∨ nI (8 * k) = 16 ∨ nI (8 * k) = 8 ∨ nI (8 * k) = 0 := by
  intro k hk
  match k, hk with
  | 0, _ => decide
  | 1, _ => decide
  | 2, _ => decide
  | 3, _ => decide
  | 4, _ => decide
  | 5, _ => decide
  | 6, _ => decide
  | 7, _ => decide
theorem fd_bytes {hx0 hm0 : HS} (v : Int64) : ∀ (k : Nat), k ≤ 7 → ∀ (hx hm : HS) (tl : Nat), FD ax am ao ad n e pO fO q hx0 hm0 hx hm tl → ∀ F F', k + 2 ≤ F → k + 2 ≤ F' → ∃ hx' hm' tl', X5_addBytes_L3 (ad 6 0) F v (nI (8 * k)) hx = some hx' ∧ X9_lay_L3 am F' v (nI (8 * k)) hm = some hm' ∧ FD ax am ao ad n e pO fO q hx0 hm0 hx' hm' tl' := by
  intro k
  induction k with
  | zero =>
    intro hk hx hm tl hD F F' hF hF'
    obtain ⟨F, rfl⟩ : ∃ N, F = N + 2 := ⟨F - 2, by omega⟩
    obtain ⟨F', rfl⟩ : ∃ N, F' = N + 2 := ⟨F' - 2, by omega⟩
    have hs : ¬ nI (8 * 0) < 0 := by decide
    have hs2 : nI (8 * 0) + (-8) < 0 := by decide
    have k6 := (ktape hD.1).2.2.1
    have hkm : kd hm am = 11 := hD.2.1.1
    have esg := sgn_at v (nI (8 * 0)) (sh_ok 0 (by decide))
    have hR := hD.2.2.2.2.2.2.2.2
    by_cases hc : fit ((lshr v (nI (8 * 0))).toInt32 &&& 255) ∧ tl < 600
    · refine ⟨_, _, _, ?_, ?_, fd_step hD hc.1 hc.2⟩
      · simp only [X5_addBytes_L3, hs, hs2, if_true, if_false, vc, k6, esg, e_addSign_fit hD.1 hR.2.1 hc.2 hc.1, Option.bind_some, Nat.reduceAdd]
      · rw [lay_fit hkm hD.2.1 hR.2.2.1 hc.2 hs hc.1]
        simp only [X9_lay_L3, hs2, if_true]
    · have hc2 : ¬ fit ((lshr v (nI (8 * 0))).toInt32 &&& 255) ∨ tl = 600 := by
        by_cases hf : fit ((lshr v (nI (8 * 0))).toInt32 &&& 255)
        · have : ¬ tl < 600 := fun z => hc ⟨hf, z⟩
          have := hR.1
          omega
        · exact Or.inl hf
      refine ⟨hx, hm, tl, ?_, ?_, hD⟩
      · simp only [X5_addBytes_L3, hs, hs2, if_true, if_false, vc, k6, esg, e_addSign_full hD.1 hR.2.1 hR.1 hc2, Option.bind_some, Nat.reduceAdd]
      · rw [lay_full hkm hR.2.2.1 hs hc2]
        simp only [X9_lay_L3, hs2, if_true]
  | succ k ih =>
    intro hk hx hm tl hD F F' hF hF'
    obtain ⟨F, rfl⟩ : ∃ N, F = N + 1 := ⟨F - 1, by omega⟩
    obtain ⟨F', rfl⟩ : ∃ N, F' = N + 1 := ⟨F' - 1, by omega⟩
    have hs : ¬ nI (8 * (k + 1)) < 0 := nI_pos (by omega)
    have hs2 : nI (8 * (k + 1)) + (-8) = nI (8 * k) := by
      have h1 : nI (8 * (k + 1)) = nI (8 * k) + nI 8 := by rw [nI_add]; congr 1
      rw [h1]
      have h2 : (-8 : Int32) = - nI 8 := by decide
      rw [h2, Int32.add_assoc, Int32.add_right_neg, Int32.add_zero]
    have k6 := (ktape hD.1).2.2.1
    have hkm : kd hm am = 11 := hD.2.1.1
    have esg := sgn_at v (nI (8 * (k + 1))) (sh_ok (k + 1) hk)
    have hR := hD.2.2.2.2.2.2.2.2
    by_cases hc : fit ((lshr v (nI (8 * (k + 1)))).toInt32 &&& 255) ∧ tl < 600
    · obtain ⟨hx', hm', tl', q1, q2, q3⟩ := ih (by omega) _ _ _ (fd_step hD hc.1 hc.2) F F' (by omega) (by omega)
      refine ⟨hx', hm', tl', ?_, ?_, q3⟩
      · simp only [X5_addBytes_L3, hs, hs2, if_true, if_false, vc, k6, esg, e_addSign_fit hD.1 hR.2.1 hc.2 hc.1, Option.bind_some, Nat.reduceAdd, q1]
      · rw [lay_fit hkm hD.2.1 hR.2.2.1 hc.2 hs hc.1, hs2]
        exact q2
    · have hc2 : ¬ fit ((lshr v (nI (8 * (k + 1)))).toInt32 &&& 255) ∨ tl = 600 := by
        by_cases hf : fit ((lshr v (nI (8 * (k + 1)))).toInt32 &&& 255)
        · have : ¬ tl < 600 := fun z => hc ⟨hf, z⟩
          have := hR.1
          omega
        · exact Or.inl hf
      obtain ⟨hx', hm', tl', q1, q2, q3⟩ := ih (by omega) _ _ _ hD F F' (by omega) (by omega)
      refine ⟨hx', hm', tl', ?_, ?_, q3⟩
      · simp only [X5_addBytes_L3, hs, hs2, if_true, if_false, vc, k6, esg, e_addSign_full hD.1 hR.2.1 hR.1 hc2, Option.bind_some, Nat.reduceAdd, q1]
      · rw [lay_full hkm hR.2.2.1 hs hc2, hs2]
        exact q2
theorem op_feed (a b c : Int64) : StI (PP ax am ao) (m_X8_feed ax a b c) (m_X9_feed am a b c) := by
  rintro hx hm ⟨ad, n, e, pO, fO, q, tm, tx, w, pn, nw, fs, ls, rs, rl, pr, tl, hS, hM, hN, hF, hP, hC, hB, hT, hX, hW⟩
  have hka := kax hS
  have hkm : kd hm am = 11 := hM.1
  have hn := n_le hS
  have hI := hS.2.1
  have hq : ∀ k k', q k = q k' → k = k' := hM.2.2
  have hw : w ≤ 200 := hN.1
  have f909 : fi hx 909 ax = nI w := by
    have h1 := hN.2.1
    rw [← cf_at (g := 909) (n := n) (t := 9) (by decide) (by rw [hS.1.2.2.2.2.2.1]; decide), hS.2.2.2.2.1.1] at h1
    exact h1
  have i24 : fi hm 1024 am = nI w := hN.2.2.1
  have h25 : mf am hm 25 = nI (n 2) := hN.2.2.2.1
  have h34 : mf am hm 34 = nI (n 3) := hN.2.2.2.2.1
  have h39 : mf am hm 39 = nI (n 1) := hN.2.2.2.2.2.1
  have hD0 : FD ax am ao ad n e pO fO q hx (sFi (wz hm (sz hx)) 1000 am 0) hx (sFi (wz hm (sz hx)) 1000 am 0) tl := ⟨hS, hM, SameS.rf hx, SameS.rf _, fun _ _ => rfl, fun _ _ => rfl, fun _ _ => rfl, fun _ _ => rfl, hT⟩
  obtain ⟨x1, y1, t1, q1, p1, d1⟩ := fd_bytes a 7 (by decide) _ _ _ hD0 FU FU (by decide) (by decide)
  obtain ⟨x2, y2, t2, q2, p2, d2⟩ := fd_bytes b 7 (by decide) _ _ _ d1 FU FU (by decide) (by decide)
  obtain ⟨x3, y3, t3, q3, p3, d3⟩ := fd_bytes c 7 (by decide) _ _ _ d2 FU FU (by decide) (by decide)
  have kx1 : kd x1 ax = 10 := kax d1.1
  have kx2 : kd x2 ax = 10 := kax d2.1
  have kx3 : kd x3 ax = 10 := kax d3.1
  have tx0 := ktape hS
  have tx1 := ktape d1.1
  have tx2 := ktape d2.1
  have tx3 := ktape d3.1
  have ky1 : kd y1 am = 11 := d1.2.1.1
  have ky2 : kd y2 am = 11 := d2.2.1.1
  have ky3 : kd y3 am = 11 := d3.2.1.1
  obtain ⟨g1, g2, g3, g4, c1, c2, c3, c4, r1, r2, r3, r4⟩ := d3
  have hz : sz x3 = sz hx := g3.2.2.2.2.2.1
  have f601 : fi x3 601 (ad 6 0) = nI t3 := by rw [cf_at (g := 601) (n := n) (t := 6) (by decide) tx3.1]; exact r2
  have i2 : fi y3 1002 am = nI t3 := r3
  have e7 : (56 : Int32) = nI (8 * 7) := by decide
  refine ⟨nI t3, x3, y3, ?_, ?_, ?_, ad, n, e, pO, fO, q, tm, tx, w, pn, nw, fs, ls, rs, rl, pr, t3, ?_⟩
  · simp only [m_X8_feed, m_X5_addBytes, e7, aN, kA201, kA202, kA203, kA206, kA306, i1n0, i0n1, i0e0, i1e1, gI, gR, pI, pB, pR, xI, xL, yI, yL, vc, kd_sFi, fr_sFi, ln_sFi, ai_sFi, al_sFi, ar_sFi, cs_sFi, sz_sFi, sz_sAi, kd_sAi, fi_sAi, fr_sAi, ln_sAi, al_sAi, ar_sAi, cs_sAi, kd_wz, fi_wz, fr_wz, ln_wz, ai_wz, al_wz, ar_wz, Option.bind_some, if_true, if_false, Nat.reduceAdd, Nat.reduceMul, reduceIte, and_self, true_and, and_true, hka, kx1, kx2, kx3, tx0.2.2.1, tx0.2.2.2.2.2.2, tx1.2.2.1, tx1.2.2.2.2.2.2, tx2.2.2.1, tx2.2.2.2.2.2.2, tx3.2.2.1, tx3.2.2.2.2.2.2, q1, q2, q3, f601]
  · rw [hz]
    simp only [m_X9_feed, m_X9_lay, e7, aN, kA201, kA202, kA203, kA206, kA306, i1n0, i0n1, i0e0, i1e1, gI, gR, pI, pB, pR, xI, xL, yI, yL, vc, kd_sFi, fr_sFi, ln_sFi, ai_sFi, al_sFi, ar_sFi, cs_sFi, sz_sFi, sz_sAi, kd_sAi, fi_sAi, fr_sAi, ln_sAi, al_sAi, ar_sAi, cs_sAi, kd_wz, fi_wz, fr_wz, ln_wz, ai_wz, al_wz, ar_wz, Option.bind_some, if_true, if_false, Nat.reduceAdd, Nat.reduceMul, reduceIte, and_self, true_and, and_true, hkm, ky1, ky2, ky3, p1, p2, p3, i2]
  · rw [hz, g4.2.2.2.2.2.1]; rfl
  · unfold PQ
    simp only [c1 908 (by decide), c1 909 (by decide), c1 200 (by decide), c1 201 (by decide), c1 202 (by decide), c1 204 (by decide), c1 205 (by decide), c1 206 (by decide), c1 207 (by decide), c1 208 (by decide), c1 300 (by decide), c1 301 (by decide), c1 302 (by decide), c1 102 (by decide), c1 103 (by decide), c1 104 (by decide), c1 105 (by decide), c1 106 (by decide), c1 107 (by decide), c1 108 (by decide), c1 401 (by decide), c2 12 (by decide), c2 13 (by decide), c2 11 (by decide), c2 14 (by decide), c2 15 (by decide), c3 10 (by decide), c3 11 (by decide), c3 24 (by decide), c3 25 (by decide), c3 34 (by decide), c3 39 (by decide), c4 26 (by decide), c4 27 (by decide), c4 28 (by decide), c4 29 (by decide), c4 30 (by decide), c4 31 (by decide), c4 32 (by decide), c4 33 (by decide), c4 35 (by decide), c4 36 (by decide), c4 37 (by decide), c4 38 (by decide), c4 40 (by decide), c4 41 (by decide), c4 42 (by decide), c4 43 (by decide), c4 44 (by decide), c4 45 (by decide), c4 46 (by decide), c4 47 (by decide), c4 48 (by decide), c4 49 (by decide), c4 50 (by decide), c4 51 (by decide), c4 12 (by decide), c4 13 (by decide), c4 14 (by decide), c4 15 (by decide), c4 16 (by decide)]
    rw [g3.2.2.2.2.1, g3.2.2.1]
    have hal : ml q y3 9 = ml q hm 9 := by unfold ml; rw [g4.2.2.2.1]; rfl
    rw [hal]
    exact ⟨g1, g2, hN, hF, hP, hC, hB, ⟨r1, r2, r3, r4⟩, hX, hW⟩
end FEED
