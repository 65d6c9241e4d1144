/-! right -/
section RIGHT
variable {ax ao am : Nat} {ad : Nat → Nat → Nat} {n e pO fO q tm : Nat → Nat} {tx : Nat → List (Int32 × List Int32)} {w : Nat} {pn : Nat → Nat} {nw : Nat → Nat → Nat} {fs : Nat → Nat} {ls : Nat → Option Nat} {rs rl pr : Nat → Nat} {tl : Nat} {hx hm : HS}
theorem RX_TxX (hX : RX n tx (cf ad n hx 401) (cv ad n hx 15) (fun t => ln hx (ad 15 t)) (mv q hm 12) (mv q hm 13) (mv q hm 14) (mv q hm 15) (mv q hm 16)) {t : Nat} (ht : t < n 4) : TxX ad n hx t (tx t) := by
  obtain ⟨⟨a1, a2, a3, a4, a5⟩, a6, -⟩ := hX.2 t ht
  exact ⟨ht, a2, a4, a5, a6⟩
theorem RX_Tx9 (hX : RX n tx (cf ad n hx 401) (cv ad n hx 15) (fun t => ln hx (ad 15 t)) (mv q hm 12) (mv q hm 13) (mv q hm 14) (mv q hm 15) (mv q hm 16)) {t : Nat} (ht : t < n 4) (h21 : n 4 ≤ 21) : Tx9 q hm t (tx t) := by
  obtain ⟨⟨a1, a2, a3, a4, a5⟩, a6, a7⟩ := hX.2 t ht
  exact ⟨by omega, fun z => by rw [z]; exact hX.1, fun p hp => (a6 p hp).1, a1, a7⟩
theorem e_putRight {h : HS} (hS : SXA ax ao ad n e pO fO h) {p m : Nat} (hp : p < n 3) (hm5 : m < 51) (x : Int32) : m_X2_putRight (ad 3 p) (nI m) x h = some (sAi h (ad 13 p) m x) := by
  obtain ⟨k1, k2, k3, k4⟩ := ksold hS hp
  have e0 : ¬ nI m < 0 := nI_pos (by omega)
  have e1 : ¬ nI 51 - 1 < nI m := by
    rw [nI_m1 _ _ (by omega) e0]
    exact nI_ge hm5 (by omega)
  have cl : (nI m).toNatClampNeg = m := nI_cl hm5 (by omega)
  have ib : inB (nI m) 51 = true := inB_nI hm5 (by omega)
  simp only [m_X2_putRight, aN, kA201, kA202, kA203, kA206, kA306, i1n0, i0n1, i0e0, i1e1, gI, gR, pI, pB, pR, xI, xL, yI, yL, vc, kd_sFi, fr_sFi, ln_sFi, ai_sFi, al_sFi, ar_sFi, cs_sFi, sz_sFi, sz_sAi, kd_sAi, fi_sAi, fr_sAi, ln_sAi, al_sAi, ar_sAi, cs_sAi, kd_wz, fi_wz, fr_wz, ln_wz, ai_wz, al_wz, ar_wz, Option.bind_some, if_true, if_false, Nat.reduceAdd, Nat.reduceMul, reduceIte, and_self, true_and, and_true, k1, k2, k3, k4, e_within, e0, e1, cl, ib, nar_i32]
theorem op_right (a b c : Int32) : StW (PP ax am ao) am ao (m_L_right (some ax) a b c (some ao)) (m_X9_right am a b c) := by
  rintro hx hm ⟨ad, n, e, pO, fO, q, tm, tx, w, pn, nw, fs, ls, rs, rl, pr, tl, hS, hM, hN, hF, hP, hC, hB, hT, hX, hW⟩
  have hka := kax hS
  have hkm : kd hm am = 11 := hM.1
  have hn := n_le hS
  have hI := hS.2.1
  have hq : ∀ k k', q k = q k' → k = k' := hM.2.2
  have hw : w ≤ 200 := hN.1
  have f909 : fi hx 909 ax = nI w := by
    have h1 := hN.2.1
    rw [← cf_at (g := 909) (n := n) (t := 9) (by decide) (by rw [hS.1.2.2.2.2.2.1]; decide), hS.2.2.2.2.1.1] at h1
    exact h1
  have i24 : fi hm 1024 am = nI w := hN.2.2.1
  have h25 : mf am hm 25 = nI (n 2) := hN.2.2.2.1
  have h34 : mf am hm 34 = nI (n 3) := hN.2.2.2.2.1
  have h39 : mf am hm 39 = nI (n 1) := hN.2.2.2.2.2.1
  have r38 : fr hm 1038 am = some (q 38) := (hM.2.1 (38, 201, 1020) (by decide)).1
  have k38 : kd hm (q 38) = 201 := (hM.2.1 (38, 201, 1020) (by decide)).2.1
  have l38 : ln hm (q 38) = 1020 := (hM.2.1 (38, 201, 1020) (by decide)).2.2
  obtain ⟨kao, lao⟩ := kout hS
  have ib0 : inB 0 1 = true := by decide
  have finN : m_X8_right ax a b c hx = some (none, hx) → (∀ k, m_X9_right am a b c (wz hm k) = some (0, sFi (wz hm k) 1000 am 1)) → ∃ k hx', m_L_right (some ax) a b c (some ao) hx = some (k, hx') ∧ ∀ m, sz hx' ≤ m → ∃ v hm', m_X9_right am a b c (wz hm m) = some (v, hm') ∧ sz hm' = m ∧ m_X9_thrown am hm' = some (k, hm') ∧ (k = 0 → al hx' ao 0 = v.toInt64) ∧ PP ax am ao (wz hx' m) hm' := by
    intro h1 h2
    refine ⟨1, hx, ?_, fun m hm => ⟨0, _, h2 m, rfl, ?_, fun h => absurd h (by decide), ad, n, e, pO, fO, q, tm, tx, w, pn, nw, fs, ls, rs, rl, pr, tl, SXA_wz hm hS, hM, hN, hF, hP, hC, hB, hT, hX, hW⟩⟩
    · simp only [m_L_right, hka, h1, aN, kA201, kA202, kA203, kA206, kA306, i1n0, i0n1, i0e0, i1e1, gI, gR, pI, pB, pR, xI, xL, yI, yL, vc, kd_sFi, fr_sFi, ln_sFi, ai_sFi, al_sFi, ar_sFi, cs_sFi, sz_sFi, sz_sAi, kd_sAi, fi_sAi, fr_sAi, ln_sAi, al_sAi, ar_sAi, cs_sAi, kd_wz, fi_wz, fr_wz, ln_wz, ai_wz, al_wz, ar_wz, Option.bind_some, if_true, if_false, Nat.reduceAdd, Nat.reduceMul, reduceIte, and_self, true_and, and_true, oM]
    · have e2 : fi (sFi (wz ‹HS› m) 1000 am 1) 1000 am = 1 := up2_same _ _ _ _
      simp only [m_X9_thrown, aN, kA201, kA202, kA203, kA206, kA306, i1n0, i0n1, i0e0, i1e1, gI, gR, pI, pB, pR, xI, xL, yI, yL, vc, kd_sFi, fr_sFi, ln_sFi, ai_sFi, al_sFi, ar_sFi, cs_sFi, sz_sFi, sz_sAi, kd_sAi, fi_sAi, fr_sAi, ln_sAi, al_sAi, ar_sAi, cs_sAi, kd_wz, fi_wz, fr_wz, ln_wz, ai_wz, al_wz, ar_wz, Option.bind_some, if_true, if_false, Nat.reduceAdd, Nat.reduceMul, reduceIte, and_self, true_and, and_true, hkm, e2]
  have thr : ∀ k, X9_right_b38 am a b c (some am) (wz hm k) = some (0, sFi (wz hm k) 1000 am 1) := by
    intro k
    have e2 : fi (sFi (wz hm k) 1000 am 1) 1000 am = 1 := up2_same _ _ _ _
    have e3 : ((1 : Int32) ≤ 0) = False := eq_false (by decide)
    simp only [X9_right_b38, X9_right_b39, aN, kA201, kA202, kA203, kA206, kA306, i1n0, i0n1, i0e0, i1e1, gI, gR, pI, pB, pR, xI, xL, yI, yL, vc, kd_sFi, fr_sFi, ln_sFi, ai_sFi, al_sFi, ar_sFi, cs_sFi, sz_sFi, sz_sAi, kd_sAi, fi_sAi, fr_sAi, ln_sAi, al_sAi, ar_sAi, cs_sAi, kd_wz, fi_wz, fr_wz, ln_wz, ai_wz, al_wz, ar_wz, Option.bind_some, if_true, if_false, Nat.reduceAdd, Nat.reduceMul, reduceIte, and_self, true_and, and_true, hkm, e2, e3]
  rcases idx a (n 3) (by omega) with ⟨p, hp, rfl⟩ | ho
  · obtain ⟨kp, -⟩ := ksold hS hp
    have i24' : ∀ k, fi (wz hm k) 1024 am = nI w := fun k => i24
    have e1 : ∀ k, m_X9_isPaper am (nI p) (wz hm k) = some (1, wz hm k) := fun k => e_isPaper_in (hm := wz hm k) hkm h34 (by omega) hp
    rcases idx b (w / 4) (by omega) with ⟨m, hmw, rfl⟩ | hbo
    · have b0 : ¬ nI m < 0 := nI_pos (by omega)
      have b1 : ¬ nI (w / 4) ≤ nI m := nI_ge hmw (by omega)
      by_cases hcc : (if c < 1 then (0 : Int32) else if 100000 < c then 0 else 1) = 0
      · refine finN ?_ (fun k => ?_)
        · simp only [m_X8_right, X8_right_b31, m_X8_runningMonth, hka, e_paperAt_in hS hp, e_circ, hcc, aN, kA201, kA202, kA203, kA206, kA306, i1n0, i0n1, i0e0, i1e1, gI, gR, pI, pB, pR, xI, xL, yI, yL, vc, kd_sFi, fr_sFi, ln_sFi, ai_sFi, al_sFi, ar_sFi, cs_sFi, sz_sFi, sz_sAi, kd_sAi, fi_sAi, fr_sAi, ln_sAi, al_sAi, ar_sAi, cs_sAi, kd_wz, fi_wz, fr_wz, ln_wz, ai_wz, al_wz, ar_wz, Option.bind_some, if_true, if_false, Nat.reduceAdd, Nat.reduceMul, reduceIte, and_self, true_and, and_true, reduceCtorEq, b0, b1, f909, w_div hw]
        · simp only [m_X9_right, aN, kA201, kA202, kA203, kA206, kA306, i1n0, i0n1, i0e0, i1e1, gI, gR, pI, pB, pR, xI, xL, yI, yL, vc, kd_sFi, fr_sFi, ln_sFi, ai_sFi, al_sFi, ar_sFi, cs_sFi, sz_sFi, sz_sAi, kd_sAi, fi_sAi, fr_sAi, ln_sAi, al_sAi, ar_sAi, cs_sAi, kd_wz, fi_wz, fr_wz, ln_wz, ai_wz, al_wz, ar_wz, Option.bind_some, if_true, if_false, Nat.reduceAdd, Nat.reduceMul, reduceIte, and_self, true_and, and_true, hkm, e1, b0, b1, i24, w_div hw, e_within9, hcc]
          exact thr k
      · have hS1 : SXA ax ao ad n e pO fO (sAi hx (ad 13 p) m c) := SXA_sAi (by rw [(ksold hS hp).2.2.1]; decide) hS
        have hp13 : p < n 13 := by rw [(nSX hS).2.2.2.2.2.2.2.2.1]; exact hp
        have ecv : cv ad n (sAi hx (ad 13 p) m c) = up3 (cv ad n hx) 13 p m c := cv_sAi hS.2.1 hp13
        have emv : ∀ k, mv q (sAi (sFi (wz hm k) 1000 am 0) (q 38) (51 * p + m) c) = up2 (mv q hm) 38 (51 * p + m) c := fun k => mv_sAi hq
        obtain ⟨t1, t2, t3, t4⟩ := hB.1 m hmw
        have hbf : cv ad n hx 13 p m = mv q hm 38 (51 * p + m) := by
          have := (hP p hp).2.2.2 m (by omega)
          rw [if_pos hmw] at this; exact this
        have hBF : ∀ k, BF am ad n pO fO q fs ls m (tm m) (tx (tm m)) (sAi hx (ad 13 p) m c) (sAi (sFi (wz hm k) 1000 am 0) (q 38) (51 * p + m) c) := by
          intro k
          refine ⟨⟨by omega, hn.2.2.1, ?_, t3, ?_⟩, (RX_TxX hX t1).fr rfl ?_, (RX_Tx9 hX t1 hn.2.2.2.1).fr (fun k' hk' => ?_), fun c' hc' => ?_⟩
          · have : mf am (sAi (sFi (wz hm k) 1000 am 0) (q 38) (51 * p + m) c) 39 = mf am hm 39 := by
              show fi (sFi (wz hm k) 1000 am 0) 1039 am = _
              rw [fi_sFi, up2_ne1 _ _ _ _ (by decide)]; rfl
            rw [this]; exact h39
          · rw [emv, up2_ne1' (by decide)]; exact t2
          · rw [ecv]; funext i j; exact up3_ne1 _ _ _ _ _ (by decide)
          · rw [emv, up2_ne1' (by omega)]
          · obtain ⟨⟨z1, z2, z3, z4, z5, z6, z7, z8, z9⟩, -, -, -, z10, -⟩ := hC.1 c' hc'
            obtain ⟨-, -, -, -, y5, y6⟩ := crf hS hc'
            rw [emv, up2_ne1' (by decide), up2_ne1' (by decide), up2_ne1' (by decide), up2_ne1' (by decide), up2_ne1' (by decide), up2_ne1' (by decide), ecv]
            exact ⟨⟨z3, z7, z4, z8, by omega, fun z hz => by have := (z9 z hz).1; omega⟩, z1, z2, by omega, by omega, y6, (hF.1 _ y6).2.1, by rw [up3_ne1 _ _ _ _ _ (by decide)]; exact z10 m (by omega)⟩
        have hbi0 : ∀ k, BI ax ao am ad n e pO fO q m (fun c' => c' < 0 ∧ pO c' = p) (bl q fO fs ls m (tx (tm m)) (sAi (sFi (wz hm k) 1000 am 0) (q 38) (51 * p + m) c) c) (sAi hx (ad 13 p) m c) (sAi (sFi (wz hm k) 1000 am 0) (q 38) (51 * p + m) c) (sAi hx (ad 13 p) m c) (sAi (sFi (wz hm k) 1000 am 0) (q 38) (51 * p + m) c) := by
          intro k
          refine ⟨⟨hS1, SameS.rf _, fun _ _ => rfl, fun _ _ => rfl⟩, ⟨hM, SameS.rf _, rfl, fun _ _ => rfl⟩, ⟨fun c' hc' => ?_, fun f hf => ?_⟩, ⟨fun _ _ => rfl, fun _ _ => rfl⟩, fun c' hc' hd => absurd hd.1 (by omega), fun _ _ => rfl⟩
          · rw [emv, up2_ne1' (by decide)]; exact (hC.1 c' hc').2.2.2.2.2
          · rw [emv, up2_ne1' (by decide)]; exact (hF.1 f hf).2.2.2.2.2.2.2.2.2.2.2.1
        have key := fun k => bi_right hp (hBF k) (nv := c) (bf := mv q hm 38 (51 * p + m)) (by rw [emv]; exact up2_same _ _ _ _) (fun c' hc' hpc => by
          unfold bl
          rw [emv, up2_ne1' (by decide), up2_ne1' (by decide), up2_ne1' (by decide), t4 c' hc', hpc]) (n 1) 0 0 _ _ (Nat.zero_add _) (hbi0 k) FU (by unfold FU; omega) FU (by unfold FU; omega)
        obtain ⟨sm, hx', -, o1, -, -⟩ := key 0
        have o1' : X8_right_L60 ax FU (nI m) c (some (ad 3 p)) (mv q hm 38 (51 * p + m)) 0 0 (sAi hx (ad 13 p) m c) = some (some sm, hx') := o1
        refine ⟨0, sAl hx' ao 0 sm.toInt64, ?_, fun k hk => ?_⟩
        · have hSm : SameS (sAi hx (ad 13 p) m c) hx' := by
            obtain ⟨sm2, hx2, hm2, p1, p2, p3⟩ := key 0
            rw [o1] at p1
            cases p1
            exact p3.1.2.1
          have kao' : kd hx' ao = 204 := by rw [hSm.1]; exact kao
          have lao' : ln hx' ao = 1 := by rw [hSm.2.2.1]; exact lao
          have eR : m_X8_right ax (nI p) (nI m) c hx = some (some sm, hx') := by
            simp only [m_X8_right, m_X8_runningMonth, hka, e_paperAt_in hS hp, e_circ, hcc, aN, kA201, kA202, kA203, kA206, kA306, i1n0, i0n1, i0e0, i1e1, gI, gR, pI, pB, pR, xI, xL, yI, yL, vc, kd_sFi, fr_sFi, ln_sFi, ai_sFi, al_sFi, ar_sFi, cs_sFi, sz_sFi, sz_sAi, kd_sAi, fi_sAi, fr_sAi, ln_sAi, al_sAi, ar_sAi, cs_sAi, kd_wz, fi_wz, fr_wz, ln_wz, ai_wz, al_wz, ar_wz, Option.bind_some, if_true, if_false, Nat.reduceAdd, Nat.reduceMul, reduceIte, and_self, true_and, and_true, reduceCtorEq, b0, b1, f909, w_div hw, kp, e_soldIn hS hp (show m < 51 by omega), hbf, e_putRight hS hp (show m < 51 by omega), o1']
          simp only [m_L_right, hka, eR, aN, kA201, kA202, kA203, kA206, kA306, i1n0, i0n1, i0e0, i1e1, gI, gR, pI, pB, pR, xI, xL, yI, yL, vc, kd_sFi, fr_sFi, ln_sFi, ai_sFi, al_sFi, ar_sFi, cs_sFi, sz_sFi, sz_sAi, kd_sAi, fi_sAi, fr_sAi, ln_sAi, al_sAi, ar_sAi, cs_sAi, kd_wz, fi_wz, fr_wz, ln_wz, ai_wz, al_wz, ar_wz, Option.bind_some, if_true, if_false, Nat.reduceAdd, Nat.reduceMul, reduceIte, and_self, true_and, and_true, oM, kao', lao', ib0]
          rfl
        · obtain ⟨sm2, hx2, hm', p1, p2, p3⟩ := key k
          rw [o1] at p1
          cases p1
          have p2' : X9_right_L69 am FU (nI p) (nI m) 0 0 (sAi (sFi (wz hm k) 1000 am 0) (q 38) (51 * p + m) c) = some (sm, hm') := p2
          have e38 : (51 : Int32) * nI p + nI m = nI (51 * p + m) := by rw [show (51 : Int32) = nI 51 from rfl, nI_mul, nI_add]
          have cl38 : (nI (51 * p + m)).toNatClampNeg = 51 * p + m := nI_cl (N := 1020) (by omega) (by omega)
          have ib38 : inB (nI (51 * p + m)) 1020 = true := inB_nI (by omega) (by omega)
          have e2 : fi (sFi (wz hm k) 1000 am 0) 1000 am = 0 := up2_same _ _ _ _
          have e3 : ((0 : Int32) ≤ 0) = True := eq_true (by decide)
          obtain ⟨⟨q1, q2, q3, q4⟩, ⟨q5, q6, q7, q8⟩, ⟨q9, q10⟩, ⟨q11, q12⟩, q13, q14⟩ := p3
          have io : ∀ k', k' ≠ 0 → mf am hm' k' = mf am hm k' := fun k' hk' => by
            unfold mf
            rw [q7]
            show fi (sFi (wz hm k) 1000 am 0) (1000 + k') am = _
            rw [fi_sFi, up2_ne1 _ _ _ _ (by omega)]; rfl
          refine ⟨sm, hm', ?_, q6.2.2.2.2.2.1, ?_, fun _ => up2_same _ _ _ _, ?_⟩
          · simp only [m_X9_right, X9_right_b39, aN, kA201, kA202, kA203, kA206, kA306, i1n0, i0n1, i0e0, i1e1, gI, gR, pI, pB, pR, xI, xL, yI, yL, vc, kd_sFi, fr_sFi, ln_sFi, ai_sFi, al_sFi, ar_sFi, cs_sFi, sz_sFi, sz_sAi, kd_sAi, fi_sAi, fr_sAi, ln_sAi, al_sAi, ar_sAi, cs_sAi, kd_wz, fi_wz, fr_wz, ln_wz, ai_wz, al_wz, ar_wz, Option.bind_some, if_true, if_false, Nat.reduceAdd, Nat.reduceMul, reduceIte, and_self, true_and, and_true, hkm, e1, b0, b1, i24, w_div hw, e_within9, hcc, e2, e3, r38, k38, l38, e38, cl38, ib38, nar_i32, p2']
          · have hkm' : kd hm' am = 11 := by rw [q6.1]; exact hkm
            have e2' : fi hm' 1000 am = 0 := by rw [q7]; exact e2
            simp only [m_X9_thrown, aN, kA201, kA202, kA203, kA206, kA306, i1n0, i0n1, i0e0, i1e1, gI, gR, pI, pB, pR, xI, xL, yI, yL, vc, kd_sFi, fr_sFi, ln_sFi, ai_sFi, al_sFi, ar_sFi, cs_sFi, sz_sFi, sz_sAi, kd_sAi, fi_sAi, fr_sAi, ln_sAi, al_sAi, ar_sAi, cs_sAi, kd_wz, fi_wz, fr_wz, ln_wz, ai_wz, al_wz, ar_wz, Option.bind_some, if_true, if_false, Nat.reduceAdd, Nat.reduceMul, reduceIte, and_self, true_and, and_true, hkm', e2']
          · have co : ∀ g, (g ≠ 502 ∧ g ≠ 108 ∧ g ≠ 208) → cf ad n hx' g = cf ad n hx g := q3
            have vo : ∀ t, (t ≠ 20 ∧ t ≠ 21 ∧ t ≠ 13) → cv ad n hx' t = cv ad n hx t := fun t ht => by
              rw [q4 t ⟨ht.1, ht.2.1⟩, ecv]; funext i j; exact up3_ne1 _ _ _ _ _ ht.2.2
            have v13 : ∀ i j, cv ad n hx' 13 i j = if i = p ∧ j = m then c else cv ad n hx 13 i j := fun i j => by
              rw [q4 13 (by decide), ecv]; simp [up3]
            have mo : ∀ k', (k' ≠ 22 ∧ k' ≠ 23 ∧ k' ≠ 33 ∧ k' ≠ 49 ∧ k' ≠ 50 ∧ k' ≠ 38) → mv q hm' k' = mv q hm k' := fun k' hk' => by
              rw [q8 k' ⟨hk'.1, hk'.2.1, hk'.2.2.1, hk'.2.2.2.1, hk'.2.2.2.2.1⟩, emv, up2_ne1' hk'.2.2.2.2.2]
            have m38 : ∀ i, mv q hm' 38 i = if i = 51 * p + m then c else mv q hm 38 i := fun i => by
              rw [q8 38 (by decide), emv]; simp [up2]
            have m49 : ∀ i, (∀ c', c' < n 1 → pO c' = p → i ≠ 51 * c' + m) → mv q hm' 49 i = mv q hm 49 i := fun i hi => by
              rw [q14 i hi, emv, up2_ne1' (by decide)]
            have m50 : ∀ c', n 1 ≤ c' → mv q hm' 50 c' = mv q hm 50 c' := fun c' hc' => by
              rw [q11 c' hc', emv, up2_ne1' (by decide)]
            have m33 : ∀ f, n 2 ≤ f → mv q hm' 33 f = mv q hm 33 f := fun f hf => by
              rw [q12 f hf, emv, up2_ne1' (by decide)]
            have har : ar hx' = ar hx := q2.2.2.2.2.1
            have hln : ln hx' = ln hx := q2.2.2.1
            have key2 : PQ ax am ao ad n e pO fO q tm tx w pn nw fs ls rs rl pr tl hx' hm' := by
              unfold PQ
              simp only [co 908 (by decide), co 909 (by decide), co 200 (by decide), co 201 (by decide), co 202 (by decide), co 204 (by decide), co 205 (by decide), co 206 (by decide), co 207 (by decide), co 300 (by decide), co 301 (by decide), co 302 (by decide), co 102 (by decide), co 103 (by decide), co 104 (by decide), co 105 (by decide), co 106 (by decide), co 107 (by decide), co 601 (by decide), co 401 (by decide), vo 12 (by decide), vo 11 (by decide), vo 14 (by decide), vo 16 (by decide), vo 15 (by decide), io 10 (by decide), io 11 (by decide), io 24 (by decide), io 25 (by decide), io 34 (by decide), io 39 (by decide), io 2 (by decide), mo 26 (by decide), mo 27 (by decide), mo 28 (by decide), mo 29 (by decide), mo 30 (by decide), mo 31 (by decide), mo 32 (by decide), mo 35 (by decide), mo 36 (by decide), mo 37 (by decide), mo 40 (by decide), mo 41 (by decide), mo 42 (by decide), mo 43 (by decide), mo 44 (by decide), mo 45 (by decide), mo 46 (by decide), mo 47 (by decide), mo 48 (by decide), mo 51 (by decide), mo 1 (by decide), mo 12 (by decide), mo 13 (by decide), mo 14 (by decide), mo 15 (by decide), mo 16 (by decide), har, hln]
              have hml : ml q hm' 9 = ml q hm 9 := by unfold ml; rw [q6.2.2.2.1]; rfl
              rw [hml]
              refine ⟨q1, q5, hN, ⟨fun i hi => ?_, fun i hi1 hi2 => ?_⟩, fun i hi => ?_, ⟨fun c' hc' => ?_, fun c' hc1 hc2 => ?_⟩, ⟨fun m' hm' => ?_, fun m' c' h1 h2 h3 => ?_⟩, hT, hX, hW⟩
              · obtain ⟨g1, g2, g3, g4, g5, g6, g7, g8, g9, g10, g11, g12, g13⟩ := hF.1 i hi
                exact ⟨g1, g2, g3, g4, g5, g6, g7, g8, g9, g10, g11, q10 i hi, g13⟩
              · rw [m33 i hi1]; exact hF.2 i hi1 hi2
              · obtain ⟨g1, g2, g3, g4⟩ := hP i hi
                refine ⟨g1, g2, g3, fun m' hm5 => ?_⟩
                rw [v13, m38]
                by_cases hip : i = p ∧ m' = m
                · rw [if_pos hip, if_pos (by omega), if_pos (by omega)]
                · rw [if_neg hip, g4 m' hm5]
                  by_cases hw4 : m' < w / 4
                  · rw [if_pos hw4, if_pos hw4, if_neg (by omega)]
                  · rw [if_neg hw4, if_neg hw4]
              · obtain ⟨g1, g2, g3, g4, g5, g6⟩ := hC.1 c' hc'
                exact ⟨g1, g2, g3, g4, g5, q9 c' hc'⟩
              · rw [m50 c' hc1]; exact hC.2 c' hc1 hc2
              · obtain ⟨g1, g2, g3, g4⟩ := hB.1 m' hm'
                refine ⟨g1, g2, g3, fun c' hc' => ?_⟩
                by_cases hpc : pO c' = p ∧ m' = m
                · obtain ⟨u1, u2⟩ := hpc
                  subst u2
                  rw [q13 c' hc' u1, m38, if_pos (by rw [u1])]
                  unfold bl
                  rw [emv, up2_ne1' (by decide), up2_ne1' (by decide)]
                · rw [m49 _ (fun c2 hc2 hp2 z => hpc ⟨by rw [show c' = c2 by omega]; exact hp2, by omega⟩), m38, if_neg (fun z => hpc ⟨by omega, by omega⟩)]
                  exact g4 c' hc'
              · rw [m49 _ (fun c2 hc2 hp2 z => by
                  have : c' = c2 := by omega
                  have : m' = m := by omega
                  omega)]
                exact hB.2 m' c' h1 h2 h3
            exact ⟨ad, n, e, pO, fO, q, tm, tx, w, pn, nw, fs, ls, rs, rl, pr, tl, SXA_wz hk key2.1, key2.2⟩
    · refine finN ?_ (fun k => ?_)
      · rcases hbo with hbo | ⟨h1, h2⟩
        · simp only [m_X8_right, X8_right_b31, hka, e_paperAt_in hS hp, aN, kA201, kA202, kA203, kA206, kA306, i1n0, i0n1, i0e0, i1e1, gI, gR, pI, pB, pR, xI, xL, yI, yL, vc, kd_sFi, fr_sFi, ln_sFi, ai_sFi, al_sFi, ar_sFi, cs_sFi, sz_sFi, sz_sAi, kd_sAi, fi_sAi, fr_sAi, ln_sAi, al_sAi, ar_sAi, cs_sAi, kd_wz, fi_wz, fr_wz, ln_wz, ai_wz, al_wz, ar_wz, Option.bind_some, if_true, if_false, Nat.reduceAdd, Nat.reduceMul, reduceIte, and_self, true_and, and_true, reduceCtorEq, hbo]
        · simp only [m_X8_right, X8_right_b31, m_X8_runningMonth, hka, e_paperAt_in hS hp, aN, kA201, kA202, kA203, kA206, kA306, i1n0, i0n1, i0e0, i1e1, gI, gR, pI, pB, pR, xI, xL, yI, yL, vc, kd_sFi, fr_sFi, ln_sFi, ai_sFi, al_sFi, ar_sFi, cs_sFi, sz_sFi, sz_sAi, kd_sAi, fi_sAi, fr_sAi, ln_sAi, al_sAi, ar_sAi, cs_sAi, kd_wz, fi_wz, fr_wz, ln_wz, ai_wz, al_wz, ar_wz, Option.bind_some, if_true, if_false, Nat.reduceAdd, Nat.reduceMul, reduceIte, and_self, true_and, and_true, reduceCtorEq, h1, h2, f909, w_div hw]
      · rcases hbo with hbo | ⟨h1, h2⟩
        · simp only [m_X9_right, aN, kA201, kA202, kA203, kA206, kA306, i1n0, i0n1, i0e0, i1e1, gI, gR, pI, pB, pR, xI, xL, yI, yL, vc, kd_sFi, fr_sFi, ln_sFi, ai_sFi, al_sFi, ar_sFi, cs_sFi, sz_sFi, sz_sAi, kd_sAi, fi_sAi, fr_sAi, ln_sAi, al_sAi, ar_sAi, cs_sAi, kd_wz, fi_wz, fr_wz, ln_wz, ai_wz, al_wz, ar_wz, Option.bind_some, if_true, if_false, Nat.reduceAdd, Nat.reduceMul, reduceIte, and_self, true_and, and_true, hkm, e1, hbo]
          exact thr k
        · simp only [m_X9_right, aN, kA201, kA202, kA203, kA206, kA306, i1n0, i0n1, i0e0, i1e1, gI, gR, pI, pB, pR, xI, xL, yI, yL, vc, kd_sFi, fr_sFi, ln_sFi, ai_sFi, al_sFi, ar_sFi, cs_sFi, sz_sFi, sz_sAi, kd_sAi, fi_sAi, fr_sAi, ln_sAi, al_sAi, ar_sAi, cs_sAi, kd_wz, fi_wz, fr_wz, ln_wz, ai_wz, al_wz, ar_wz, Option.bind_some, if_true, if_false, Nat.reduceAdd, Nat.reduceMul, reduceIte, and_self, true_and, and_true, hkm, e1, h1, h2, i24, w_div hw]
          exact thr k
  · refine finN ?_ (fun k => ?_)
    · simp only [m_X8_right, X8_right_b31, hka, e_paperAt_out hS ho, aN, kA201, kA202, kA203, kA206, kA306, i1n0, i0n1, i0e0, i1e1, gI, gR, pI, pB, pR, xI, xL, yI, yL, vc, kd_sFi, fr_sFi, ln_sFi, ai_sFi, al_sFi, ar_sFi, cs_sFi, sz_sFi, sz_sAi, kd_sAi, fi_sAi, fr_sAi, ln_sAi, al_sAi, ar_sAi, cs_sAi, kd_wz, fi_wz, fr_wz, ln_wz, ai_wz, al_wz, ar_wz, Option.bind_some, if_true, if_false, Nat.reduceAdd, Nat.reduceMul, reduceIte, and_self, true_and, and_true]
    · have e1 := e_isPaper_out (hm := wz hm k) hkm h34 ho
      simp only [m_X9_right, aN, kA201, kA202, kA203, kA206, kA306, i1n0, i0n1, i0e0, i1e1, gI, gR, pI, pB, pR, xI, xL, yI, yL, vc, kd_sFi, fr_sFi, ln_sFi, ai_sFi, al_sFi, ar_sFi, cs_sFi, sz_sFi, sz_sAi, kd_sAi, fi_sAi, fr_sAi, ln_sAi, al_sAi, ar_sAi, cs_sAi, kd_wz, fi_wz, fr_wz, ln_wz, ai_wz, al_wz, ar_wz, Option.bind_some, if_true, if_false, Nat.reduceAdd, Nat.reduceMul, reduceIte, and_self, true_and, and_true, hkm, e1]
      exact thr k
end RIGHT
