section PAP2
variable {ax ao am : Nat} {ad : Nat → Nat → Nat} {n e pO fO q tm : Nat → Nat} {tx : Nat → List (Int32 × List Int32)} {w : Nat} {pn : Nat → Nat} {nw : Nat → Nat → Nat} {fs : Nat → Nat} {ls : Nat → Option Nat} {rs rl pr : Nat → Nat} {tl : Nat} {hx hm : HS}
def tgP (S : Nat) : Nat → Option Nat := fun t => match t with
  | 3 => some S
  | 13 => some (S + 1)
  | _ => none
theorem tgP_some {S t a : Nat} (h : tgP S t = some a) : (t = 3 ∧ a = S) ∨ (t = 13 ∧ a = S + 1) := by
  unfold tgP at h
  split at h
  · exact Or.inl ⟨rfl, (Option.some.inj h).symm⟩
  · exact Or.inr ⟨rfl, (Option.some.inj h).symm⟩
  · cases h
theorem e_paper (hS : SXA ax ao ad n e pO fO hx) (hN : n 3 < 20) {a b c : Int32} (h1 : Wi a 0 999) (h2 : Wi b 0 999) (h3 : Wi c 1 100000) : ∃ hI h', m_X8_paper ax a b c hx = some (nI (n 3), h') ∧ EXT hx h' (ad 0 1) (e 1) (n 3) (sz hx) ∧ AddOk hI h' (ad 0 1) (e 1) (n 3) (sz hx) ∧ kd hI (sz hx) = 4 ∧ kd hI (sz hx + 1) = 201 ∧ ln hI (sz hx + 1) = 51 ∧ sz hI = sz hx + 2 ∧ fr hI 303 (sz hx) = some (sz hx + 1) ∧ fi hI 300 (sz hx) = nI (n 3) ∧ fi hI 301 (sz hx) = a ∧ fi hI 302 (sz hx) = b ∧ ∀ i, i < 51 → ai hI (sz hx + 1) i = c := by
  have hka := kax hS
  have hn := n_le hS
  obtain ⟨hL, hr, hk⟩ := lps hS
  have zax := ax_lt hS
  have n1 := nSX hS
  have zL : ad 0 1 < sz hx := (hS.2.2.1 0 1 (by omega)).2
  obtain ⟨hI, hev, hnew, g1, g2, g3, g4, g5, f0, f1, f2, f3⟩ := e_initP (hx := hx) (nI (n 3)) a b c
  have hex := hnew.2.2
  obtain ⟨l1, l2, l3, l4, l5⟩ := hL
  obtain ⟨h', q1, q2⟩ := e_add (h := hI) (L := ad 0 1) (el := e 1) (N := n 3) (x := sz hx) (by rw [(hex _ zL).1]; exact hk) (by rw [(hex _ zL).2.2.2.2.2.2 1]; exact l1) (by rw [(hex _ zL).2.2.2.2.2.1 2]; exact l2) (by omega) (by
      rw [hnew.2.1, (hex _ l4).1, (hex _ l4).2.1]
      rcases l5 with ⟨z1, z2⟩ | z
      · obtain ⟨c1, c2, c3, -⟩ := hS.2.2.2.2.2.2
        exact Or.inl ⟨z1, z2, by rw [(hex _ c3).1]; exact c1, by rw [(hex _ c3).2.1]; exact c2⟩
      · exact Or.inr z) (by rw [g1]; rfl) (by rw [g4]; omega) (by rw [g4]; omega) (by rw [g4]; omega) (fun j hj => ⟨ad 3 j, by rw [(hex _ l4).2.2.2.2.1]; exact l3 j hj, by rw [(hex _ (hS.2.2.1 3 j hj).2).1, k0 hS hj]; rfl, by rw [g4]; have := (hS.2.2.1 3 j hj).2; omega⟩)
  refine ⟨hI, h', ?_, EXT.of hnew q2 l4, q2, g1, g2, g3, g4, g5, f0, f1, f2, f3⟩
  have e9 : nI (n 3) < 20 := nI_lt (b := 20) hN (by omega)
  have kO : kd (nO hx 3) ax = 10 := by
    show va_up (kd hx) (sz hx) 4 ax = 10
    rw [va_upN _ _ (by omega)]; exact hka
  have rO : fr (nO hx 3) 901 ax = some (ad 0 1) := by
    show (if ax = sz hx then none else fr hx 901 ax) = _
    rw [if_neg (by omega)]; exact hr
  have kL : kd (nO hx 3) (ad 0 1) = 1 := by
    show va_up (kd hx) (sz hx) 4 (ad 0 1) = 1
    rw [va_upN _ _ (by omega)]; exact hk
  have sO : m_Jx4a65c_size_8abf5 (ad 0 1) (nO hx 3) = some (nI (n 3), nO hx 3) := by
    have : fi (nO hx 3) 2 (ad 0 1) = nI (n 3) := by
      show (if ad 0 1 = sz hx then 0 else fi hx 2 (ad 0 1)) = _
      rw [if_neg (by omega)]; exact l2
    simp only [m_Jx4a65c_size_8abf5, gI, kL, if_true, Option.bind_some, Nat.mul_zero, Nat.zero_add, this]
  have kF : kd hI ax = 10 := by rw [(hex _ zax).1]; exact hka
  have rF : fr hI 901 ax = some (ad 0 1) := by rw [(hex _ zax).2.2.2.2.2.2 901]; exact hr
  have kFL : kd hI (ad 0 1) = 1 := by rw [(hex _ zL).1]; exact hk
  have kE : kd h' (sz hx) = 4 := by rw [(q2.2.2.1 (sz hx) (by rw [g4]; omega)).1]; exact g1
  have fE : fi h' 300 (sz hx) = nI (n 3) := by rw [q2.2.2.2.1 300 (sz hx) (by omega)]; exact f0
  simp only [m_X8_paper, e_within, e_circ, wi_pos h1, wi_pos h2, wi_pos h3, aN, kA201, kA202, kA203, kA206, kA306, i1n0, i0n1, i0e0, i1e1, gI, gR, pI, pB, pR, xI, xL, yI, yL, vc, kd_sFi, fr_sFi, ln_sFi, ai_sFi, al_sFi, ar_sFi, cs_sFi, sz_sFi, sz_sAi, kd_sAi, fi_sAi, fr_sAi, ln_sAi, al_sAi, ar_sAi, cs_sAi, kd_wz, fi_wz, fr_wz, ln_wz, ai_wz, al_wz, ar_wz, Option.bind_some, if_true, if_false, Nat.reduceAdd, Nat.reduceMul, reduceIte, and_self, true_and, and_true, hka, hr, hk, Nat.zero_add, e_size hk ⟨l1, l2, l3, l4, l5⟩, e9, kO, rO, kL, sO, hev, kF, rF, kFL, q1, kE, fE]
theorem op_paper (a b c : Int32) : StI (PP ax am ao) (m_X8_paper ax a b c) (m_X9_paper am a b c) := by
  rintro hx hm ⟨ad, n, e, pO, fO, q, tm, tx, w, pn, nw, fs, ls, rs, rl, pr, tl, hS, hM, hN, hF, hP, hC, hB, hT, hX, hW⟩
  have hka := kax hS
  have hkm : kd hm am = 11 := hM.1
  have hn := n_le hS
  have hI := hS.2.1
  have hq : ∀ k k', q k = q k' → k = k' := hM.2.2
  have hw : w ≤ 200 := hN.1
  have f909 : fi hx 909 ax = nI w := by
    have h1 := hN.2.1
    rw [← cf_at (g := 909) (n := n) (t := 9) (by decide) (by rw [hS.1.2.2.2.2.2.1]; decide), hS.2.2.2.2.1.1] at h1
    exact h1
  have i24 : fi hm 1024 am = nI w := hN.2.2.1
  have h25 : mf am hm 25 = nI (n 2) := hN.2.2.2.1
  have h34 : mf am hm 34 = nI (n 3) := hN.2.2.2.2.1
  have h39 : mf am hm 39 = nI (n 1) := hN.2.2.2.2.2.1
  by_cases hok : Wi a 0 999 ∧ Wi b 0 999 ∧ Wi c 1 100000 ∧ n 3 < 20
  · obtain ⟨h1, h2, h3, hN20⟩ := hok
    obtain ⟨hI1, h', q1, hE, hA, g1, g2, g3, g4, g5, i0, i1, i2, j0⟩ := e_paper hS hN20 h1 h2 h3
    have hns := nSX hS
    have zL : ad 0 1 < sz hx := (hS.2.2.1 0 1 (by omega)).2
    have ez : sz hx < sz hI1 := by rw [g4]; omega
    have ez1 : sz hx + 1 < sz hI1 := by rw [g4]; omega
    have fN : ∀ g, g ≠ 0 → g ≠ 2 → fi h' g (sz hx) = fi hI1 g (sz hx) := fun g _ _ => hA.2.2.2.1 g (sz hx) (by omega)
    have aN' : ai h' (sz hx + 1) = ai hI1 (sz hx + 1) := (hA.2.2.1 _ ez1).2.2.1
    have hzz : sz hI1 ≤ sz h' := by rcases hA.1 with z | z <;> omega
    have t2 : tgP (sz hx) 3 = some (sz hx) := rfl
    have t12 : tgP (sz hx) 13 = some (sz hx + 1) := rfl
    obtain ⟨e', hS'⟩ := SXA_ext (tg := tgP (sz hx)) (pO' := pO) (fO' := fO) (l := 1) (c := 3) hS hE (Or.inr (Or.inl ⟨rfl, rfl⟩)) t2 (fun t z hz => by
        rcases tgP_some hz with ⟨rfl, rfl⟩ | ⟨rfl, rfl⟩
        · exact ⟨Nat.le_refl _, by omega, by rw [(hA.2.2.1 _ ez).1]; exact g1, fun h => by omega⟩
        · exact ⟨by omega, by omega, by rw [(hA.2.2.1 _ ez1).1]; exact g2, fun _ _ => by rw [(hA.2.2.1 _ ez1).2.1]; exact g3⟩)
      (fun t t' z h1 h2 => by
        rcases tgP_some h1 with ⟨rfl, rfl⟩ | ⟨rfl, rfl⟩ <;> rcases tgP_some h2 with ⟨rfl, h⟩ | ⟨rfl, h⟩ <;> first | rfl | omega)
      (fun t ht => by
        cases htt : tgP (sz hx) t with
        | none => rfl
        | some z =>
          rcases tgP_some htt with ⟨rfl, -⟩ | ⟨rfl, -⟩
          · omega
          · omega)
      (by
        obtain ⟨m1, m2, m3, m4, m5, m6, m7, m8, m9, m10, m11, m12, m13, m14, m15, m16, m17, m18, m19, m20, m21, m22, m23, m24, m25, m26⟩ := hS.1
        refine ⟨m1, m2, m3, m4, m5, m6, m7, m8, ?_, m10, m11, m12, m13, m14, m15, m16, m17, m18, m19, m20, m21, ?_, m23, m24, m25, fun t ht => ?_⟩
        · show n 13 + 1 = n 3 + 1
          omega
        · show n 3 + 1 ≤ 20
          omega
        · have : tgP (sz hx) t = none := by
            cases htt : tgP (sz hx) t with
            | none => rfl
            | some z => rcases tgP_some htt with ⟨rfl, -⟩ | ⟨rfl, -⟩ <;> omega
          rw [nX_none this]; exact m26 t ht)
      (SXr_ext hS hE (fun t ht => by
          rcases ht with rfl | rfl | rfl | rfl | rfl | rfl | rfl | rfl | rfl | rfl | rfl | rfl | rfl | rfl | rfl | rfl <;> rfl)
        (fun i hi hi2 => absurd hi hi2)
        (fun i hi hi2 => by
          have : i = n 3 := by
            have h9 : nX (tgP (sz hx)) n 3 = n 3 + 1 := rfl
            omega
          subst this
          have h12 : adX (tgP (sz hx)) n ad 13 (n 3) = sz hx + 1 := by rw [← hns.2.2.2.2.2.2.2.2.1]; exact adX_new t12
          rw [adX_new t2, h12, hA.2.2.2.2.2.1 303 (sz hx) (by omega)]; exact g5)
        ⟨Nat.le_refl _, Nat.le_succ _⟩ (fun i hi hi2 => absurd hi hi2) (fun i hi => ⟨rfl, rfl⟩))
    obtain ⟨hm', q2, hs2, em, ei⟩ := e_paper9 (h := wz hm (sz h')) hM h34 i24 hw hN20 h1 h2 h3
    refine ⟨nI (n 3), h', hm', q1, q2, hs2.2.2.2.2.2.1, adX (tgP (sz hx)) n ad, nX (tgP (sz hx)) n, e', pO, fO, q, tm, tx, w, pn, nw, fs, ls, rs, rl, pr, tl, ?_⟩
    have em' : mv q hm' = (fun k i => if k = 38 ∧ 51 * n 3 ≤ i ∧ i < 51 * n 3 + w / 4 then c else up2 (up2 (up2 (mv q hm) 35 (n 3) a) 36 (n 3) b) 37 (n 3) c k i) := em
    have ei' : mf am hm' = va_up (va_up (mf am hm) 0 0) 34 (nI (n 3 + 1)) := ei
    have cN : ∀ g, (g / 100 ≠ 3 ∧ g / 100 ≠ 13 ∧ g ≠ 0 ∧ g ≠ 2) → cf (adX (tgP (sz hx)) n ad) (nX (tgP (sz hx)) n) h' g = cf ad n hx g := fun g ⟨h1, h2, h3, h4⟩ => cf_ext hS hE rfl (by
      cases htt : tgP (sz hx) (g / 100) with
      | none => rfl
      | some z => rcases tgP_some htt with ⟨h, -⟩ | ⟨h, -⟩ <;> omega) h3 h4
    have vN : ∀ t, (t ≠ 3 ∧ t ≠ 13) → cv (adX (tgP (sz hx)) n ad) (nX (tgP (sz hx)) n) h' t = cv ad n hx t := fun t ⟨h1, h2⟩ => cv_ext hS hE (by
      cases htt : tgP (sz hx) t with
      | none => rfl
      | some z => rcases tgP_some htt with ⟨h, -⟩ | ⟨h, -⟩ <;> omega)
    have cF : ∀ g, (g / 100 = 3 ∧ g ≠ 2 ∧ g ≠ 0) → cf (adX (tgP (sz hx)) n ad) (nX (tgP (sz hx)) n) h' g = va_up (cf ad n hx g) (n 3) (fi hI1 g (sz hx)) := fun g ⟨h1, h2, h3⟩ => by
      rw [cf_extN hS hE h1 t2 h3 h2, fN g h3 h2]
    have v13 : cv (adX (tgP (sz hx)) n ad) (nX (tgP (sz hx)) n) h' 13 = va_up (cv ad n hx 13) (n 3) (ai hI1 (sz hx + 1)) := by
      rw [cv_extN hS hE t12, aN', hns.2.2.2.2.2.2.2.2.1]
    have z22 : ad 22 0 < sz hx := (hS.2.2.1 22 0 (by omega)).2
    have k22 : kd hx (ad 22 0) = 205 := k0 hS (t := 22) (i := 0) (by omega)
    have e22 : ar h' (adX (tgP (sz hx)) n ad 22 0) = ar hx (ad 22 0) := by
      have h9 : adX (tgP (sz hx)) n ad 22 0 = ad 22 0 := rfl
      rw [h9]
      refine hE.2.2.2.2.2.2.1 _ z22 (fun z => ?_)
      rw [z] at k22
      rcases (lps hS).1.2.2.2.2 with y | y
      · rw [y.2, hS.2.2.2.2.2.2.1] at k22; cases k22
      · rw [y.1] at k22; cases k22
    have l15 : ∀ t, t < n 4 → ln h' (adX (tgP (sz hx)) n ad 15 t) = ln hx (ad 15 t) := fun t ht => by
      have h9 : adX (tgP (sz hx)) n ad 15 t = ad 15 t := rfl
      rw [h9, (hE.2.2.1 _ (hS.2.2.1 15 t (by omega)).2).2.1]
    unfold PQ
    rw [ei', e22]
    have e35 : mv q hm' 35 = va_up (mv q hm 35) (n 3) a := by rw [em']; funext i; simp [up2, va_up]
    have e36 : mv q hm' 36 = va_up (mv q hm 36) (n 3) b := by rw [em']; funext i; simp [up2, va_up]
    have e37 : mv q hm' 37 = va_up (mv q hm 37) (n 3) c := by rw [em']; funext i; simp [up2, va_up]
    have e38 : mv q hm' 38 = fun i => if 51 * n 3 ≤ i ∧ i < 51 * n 3 + w / 4 then c else mv q hm 38 i := by rw [em']; funext i; simp [up2]
    have mo : ∀ k, (k ≠ 35 ∧ k ≠ 36 ∧ k ≠ 37 ∧ k ≠ 38) → mv q hm' k = mv q hm k := fun k hk => by rw [em']; funext i; simp [up2, hk.1, hk.2.1, hk.2.2.1, hk.2.2.2]
    simp only [cN 908 (by decide), cN 909 (by decide), cN 200 (by decide), cN 201 (by decide), cN 202 (by decide), cN 204 (by decide), cN 205 (by decide), cN 206 (by decide), cN 207 (by decide), cN 208 (by decide), cN 102 (by decide), cN 103 (by decide), cN 104 (by decide), cN 105 (by decide), cN 106 (by decide), cN 107 (by decide), cN 108 (by decide), cN 601 (by decide), cN 401 (by decide), vN 12 (by decide), vN 11 (by decide), vN 14 (by decide), vN 16 (by decide), vN 15 (by decide), mo 26 (by decide), mo 27 (by decide), mo 28 (by decide), mo 29 (by decide), mo 30 (by decide), mo 31 (by decide), mo 32 (by decide), mo 33 (by decide), mo 40 (by decide), mo 41 (by decide), mo 42 (by decide), mo 43 (by decide), mo 44 (by decide), mo 45 (by decide), mo 46 (by decide), mo 47 (by decide), mo 48 (by decide), mo 49 (by decide), mo 50 (by decide), mo 51 (by decide), mo 1 (by decide), mo 12 (by decide), mo 13 (by decide), mo 14 (by decide), mo 15 (by decide), mo 16 (by decide), e35, e36, e37, e38, cF 300 (by decide), cF 301 (by decide), cF 302 (by decide), v13, i0, i1, i2]
    have hM' : SMA q am hm' := SMA_same hs2 hM
    have hW' : ml q hm' 9 = ml q hm 9 := congrFun (ml_same hs2) 9
    rw [hW']
    refine ⟨hS', hM', ⟨hN.1, hN.2.1, hN.2.2.1, hN.2.2.2.1, rfl, hN.2.2.2.2.2⟩, hF, fun i hi => ?_, hC, ⟨fun m hmw => ?_, hB.2⟩, hT, ⟨hX.1, fun t ht => ?_⟩, hW⟩
    · have hi' : i < n 3 + 1 := hi
      by_cases hin : i < n 3
      · obtain ⟨a1, a2, a3, a4⟩ := hP i hin
        have hne : i ≠ n 3 := by omega
        simp only [va_upN _ _ hne]
        refine ⟨a1, a2, a3, fun m hm51 => ?_⟩
        have a5 := a4 m hm51
        rw [if_neg (by omega : ¬ (51 * n 3 ≤ 51 * i + m ∧ 51 * i + m < 51 * n 3 + w / 4))]
        exact a5
      · have hie : i = n 3 := by omega
        subst hie
        simp only [va_up_same]
        refine ⟨trivial, trivial, trivial, fun m hm51 => ?_⟩
        rw [j0 m hm51]
        by_cases hm4 : m < w / 4
        · rw [if_pos hm4, if_pos (by omega)]
        · rw [if_neg hm4]
    · obtain ⟨b1, b2, b3, b4⟩ := hB.1 m hmw
      refine ⟨b1, b2, b3, fun c' hc => ?_⟩
      have hcr := (crf hS hc).2.2.2.2.1
      have h9 := b4 c' hc
      show mv q hm 49 (51 * c' + m) = bil (tx (tm m)) (mv q hm 26 (fO c')) (if 51 * n 3 ≤ 51 * pO c' + m ∧ 51 * pO c' + m < 51 * n 3 + w / 4 then c else mv q hm 38 (51 * pO c' + m)) (mv q hm 48 (51 * c' + m)) m (wkN (fs c') (ls c') m)
      rw [if_neg (by omega : ¬ (51 * n 3 ≤ 51 * pO c' + m ∧ 51 * pO c' + m < 51 * n 3 + w / 4))]
      exact h9
    · obtain ⟨⟨x1, x2, x3, x4, x5⟩, x6⟩ := hX.2 t ht
      exact ⟨⟨x1, x2, x3, (l15 t ht).trans x4, x5⟩, x6⟩
  · refine ⟨-1, hx, sFi (wz hm (sz hx)) 1000 am 0, e_paper_bad hS hok, ?_, rfl, ad, n, e, pO, fO, q, tm, tx, w, pn, nw, fs, ls, rs, rl, pr, tl, hS, hM, hN, hF, hP, hC, hB, hT, hX, hW⟩
    exact e_paper9_bad (h := wz hm (sz hx)) hM h34 (by omega) hok
end PAP2
