section FEAT3
variable {ax ao am : Nat} {ad : Nat → Nat → Nat} {n e pO fO q tm : Nat → Nat} {tx : Nat → List (Int32 × List Int32)} {w : Nat} {pn : Nat → Nat} {nw : Nat → Nat → Nat} {fs : Nat → Nat} {ls : Nat → Option Nat} {rs rl pr : Nat → Nat} {tl : Nat} {hx hm : HS}
def tgF (S : Nat) : Nat → Option Nat := fun t => match t with
  | 2 => some S
  | 12 => some (S + 1)
  | _ => none
theorem tgF_some {S t a : Nat} (h : tgF S t = some a) : (t = 2 ∧ a = S) ∨ (t = 12 ∧ a = S + 1) := by
  unfold tgF at h
  split at h
  · exact Or.inl ⟨rfl, (Option.some.inj h).symm⟩
  · exact Or.inr ⟨rfl, (Option.some.inj h).symm⟩
  · cases h
theorem ax_lt {h : HS} (hS : SXA ax ao ad n e pO fO h) : ax < sz h := by
  have h1 := nSX hS
  have h2 := (hS.2.2.1 9 0 (by omega)).2
  rw [hS.2.2.2.2.1.1] at h2; exact h2
theorem e_feature (hS : SXA ax ao ad n e pO fO hx) (hN : n 2 < 10) {a b c d f : Int32} (h5 : Wi a 0 3) (h6 : Wi b 0 500) (h1 : Wi c 0 100) (h2 : Wi d 0 100) (h3 : Wi f 0 100) (h4 : ¬ c + d + f = 0) : ∃ h', m_X8_feature ax a b c d f hx = some (nI (n 2), h') ∧ EXT hx h' (ad 0 0) (e 0) (n 2) (sz hx) ∧ AddOk (hF1 hx (nI (n 2)) a b c d f) h' (ad 0 0) (e 0) (n 2) (sz hx) := by
  have hka := kax hS
  have hn := n_le hS
  obtain ⟨hL, hr, hk⟩ := lfs hS
  have zax := ax_lt hS
  have n1 := nSX hS
  have zL : ad 0 0 < sz hx := (hS.2.2.1 0 0 (by omega)).2
  obtain ⟨g1, g2, g3, g4, g5⟩ := e_initF2 (hx := hx) (nI (n 2)) a b c d f
  have hnew := e_initF1 (hx := hx) (nI (n 2)) a b c d f
  have hex := hnew.2.2
  obtain ⟨f0, -⟩ := e_initF3 (hx := hx) (nI (n 2)) a b c d f
  obtain ⟨l1, l2, l3, l4, l5⟩ := hL
  obtain ⟨h', q1, q2⟩ := e_add (h := hF1 hx (nI (n 2)) a b c d f) (L := ad 0 0) (el := e 0) (N := n 2) (x := sz hx) (by rw [(hex _ zL).1]; exact hk) (by rw [(hex _ zL).2.2.2.2.2.2 1]; exact l1) (by rw [(hex _ zL).2.2.2.2.2.1 2]; exact l2) (by omega) (by
      rw [hnew.2.1, (hex _ l4).1, (hex _ l4).2.1]
      rcases l5 with ⟨z1, z2⟩ | z
      · obtain ⟨c1, c2, c3, -⟩ := hS.2.2.2.2.2.2
        exact Or.inl ⟨z1, z2, by rw [(hex _ c3).1]; exact c1, by rw [(hex _ c3).2.1]; exact c2⟩
      · exact Or.inr z) (by rw [g1]; rfl) (by rw [g4]; omega) (by rw [g4]; omega) (by rw [g4]; omega) (fun j hj => ⟨ad 2 j, by rw [(hex _ l4).2.2.2.2.1]; exact l3 j hj, by rw [(hex _ (hS.2.2.1 2 j hj).2).1, k0 hS hj]; rfl, by rw [g4]; have := (hS.2.2.1 2 j hj).2; omega⟩)
  refine ⟨h', ?_, EXT.of hnew q2 l4, q2⟩
  have e9 : nI (n 2) < 10 := nI_lt (b := 10) hN (by omega)
  have kO : kd (nO hx 2) ax = 10 := by
    show va_up (kd hx) (sz hx) 3 ax = 10
    rw [va_upN _ _ (by omega)]; exact hka
  have rO : fr (nO hx 2) 900 ax = some (ad 0 0) := by
    show (if ax = sz hx then none else fr hx 900 ax) = _
    rw [if_neg (by omega)]; exact hr
  have kL : kd (nO hx 2) (ad 0 0) = 1 := by
    show va_up (kd hx) (sz hx) 3 (ad 0 0) = 1
    rw [va_upN _ _ (by omega)]; exact hk
  have sO : m_Jx4a65c_size_8abf5 (ad 0 0) (nO hx 2) = some (nI (n 2), nO hx 2) := by
    have : fi (nO hx 2) 2 (ad 0 0) = nI (n 2) := by
      show (if ad 0 0 = sz hx then 0 else fi hx 2 (ad 0 0)) = _
      rw [if_neg (by omega)]; exact l2
    simp only [m_Jx4a65c_size_8abf5, gI, kL, if_true, Option.bind_some, Nat.mul_zero, Nat.zero_add, this]
  have kF : kd (hF1 hx (nI (n 2)) a b c d f) ax = 10 := by rw [(hex _ zax).1]; exact hka
  have rF : fr (hF1 hx (nI (n 2)) a b c d f) 900 ax = some (ad 0 0) := by rw [(hex _ zax).2.2.2.2.2.2 900]; exact hr
  have kFL : kd (hF1 hx (nI (n 2)) a b c d f) (ad 0 0) = 1 := by rw [(hex _ zL).1]; exact hk
  have kE : kd h' (sz hx) = 3 := by rw [(q2.2.2.1 (sz hx) (by rw [g4]; omega)).1]; exact g1
  have fE : fi h' 200 (sz hx) = nI (n 2) := by rw [q2.2.2.2.1 200 (sz hx) (by omega)]; exact f0
  simp only [m_X8_feature, X8_feature_b36, X8_feature_b37, e_within, wi_pos h1, wi_pos h2, wi_pos h3, h4, wi_pos h5, wi_pos h6, aN, kA201, kA202, kA203, kA206, kA306, i1n0, i0n1, i0e0, i1e1, gI, gR, pI, pB, pR, xI, xL, yI, yL, vc, kd_sFi, fr_sFi, ln_sFi, ai_sFi, al_sFi, ar_sFi, cs_sFi, sz_sFi, sz_sAi, kd_sAi, fi_sAi, fr_sAi, ln_sAi, al_sAi, ar_sAi, cs_sAi, kd_wz, fi_wz, fr_wz, ln_wz, ai_wz, al_wz, ar_wz, Option.bind_some, if_true, if_false, Nat.reduceAdd, Nat.reduceMul, reduceIte, and_self, true_and, and_true, hka, hr, hk, Nat.zero_add, e_size hk ⟨l1, l2, l3, l4, l5⟩, e9, kO, rO, kL, sO, e_initF5, kF, rF, kFL, q1, kE, fE]
theorem nI_val {a : Int32} {b : Nat} (h : Wi a 0 (nI b)) (hb : b < 2 ^ 31) : ∃ j : Nat, a = nI j ∧ j ≤ b := by
  obtain ⟨j, hj, rfl⟩ := nI_of h.1
  refine ⟨j, rfl, ?_⟩
  by_cases h3 : j ≤ b
  · exact h3
  · exact absurd (nI_lt (a := b) (b := j) (by omega) hj) h.2
theorem op_feature (a b c d f : Int32) : StI (PP ax am ao) (m_X8_feature ax a b c d f) (m_X9_feature am a b c d f) := by
  rintro hx hm ⟨ad, n, e, pO, fO, q, tm, tx, w, pn, nw, fs, ls, rs, rl, pr, tl, hS, hM, hN, hF, hP, hC, hB, hT, hX, hW⟩
  have hka := kax hS
  have hkm : kd hm am = 11 := hM.1
  have hn := n_le hS
  have hI := hS.2.1
  have hq : ∀ k k', q k = q k' → k = k' := hM.2.2
  have hw : w ≤ 200 := hN.1
  have f909 : fi hx 909 ax = nI w := by
    have h1 := hN.2.1
    rw [← cf_at (g := 909) (n := n) (t := 9) (by decide) (by rw [hS.1.2.2.2.2.2.1]; decide), hS.2.2.2.2.1.1] at h1
    exact h1
  have i24 : fi hm 1024 am = nI w := hN.2.2.1
  have h25 : mf am hm 25 = nI (n 2) := hN.2.2.2.1
  have h34 : mf am hm 34 = nI (n 3) := hN.2.2.2.2.1
  have h39 : mf am hm 39 = nI (n 1) := hN.2.2.2.2.2.1
  by_cases hok : Wi a 0 3 ∧ Wi b 0 500 ∧ Wi c 0 100 ∧ Wi d 0 100 ∧ Wi f 0 100 ∧ ¬ c + d + f = 0 ∧ n 2 < 10
  · obtain ⟨h5, h6, h1, h2, h3, h4, hN10⟩ := hok
    obtain ⟨h', q1, hE, hA⟩ := e_feature hS hN10 h5 h6 h1 h2 h3 h4
    obtain ⟨c1, hc1, hc1'⟩ := nI_val (b := 100) h1 (by omega)
    obtain ⟨d1, hd1, hd1'⟩ := nI_val (b := 100) h2 (by omega)
    obtain ⟨f1, hf1, hf1'⟩ := nI_val (b := 100) h3 (by omega)
    have hsum : 1 ≤ c1 + d1 + f1 := by
      by_cases hz : c1 + d1 + f1 = 0
      · exfalso
        apply h4
        rw [hc1, hd1, hf1, nI_add, nI_add, hz]; rfl
      · omega
    obtain ⟨g1, g2, g3, g4, g5⟩ := e_initF2 (hx := hx) (nI (n 2)) a b c d f
    obtain ⟨i0, i1, i2, i3, i4, i5, i6, i7⟩ := e_initF3 (hx := hx) (nI (n 2)) a b c d f
    obtain ⟨j0, j1, j2⟩ := e_initF4 (hx := hx) (nI (n 2)) a b c d f
    have hns := nSX hS
    have zL : ad 0 0 < sz hx := (hS.2.2.1 0 0 (by omega)).2
    have ez : sz hx < sz (hF1 hx (nI (n 2)) a b c d f) := by rw [g4]; omega
    have ez1 : sz hx + 1 < sz (hF1 hx (nI (n 2)) a b c d f) := by rw [g4]; omega
    have fN : ∀ g, g ≠ 0 → g ≠ 2 → fi h' g (sz hx) = fi (hF1 hx (nI (n 2)) a b c d f) g (sz hx) := fun g _ _ => hA.2.2.2.1 g (sz hx) (by omega)
    have aN' : ai h' (sz hx + 1) = ai (hF1 hx (nI (n 2)) a b c d f) (sz hx + 1) := (hA.2.2.1 _ ez1).2.2.1
    have hzz : sz (hF1 hx (nI (n 2)) a b c d f) ≤ sz h' := by rcases hA.1 with z | z <;> omega
    have t2 : tgF (sz hx) 2 = some (sz hx) := rfl
    have t12 : tgF (sz hx) 12 = some (sz hx + 1) := rfl
    obtain ⟨e', hS'⟩ := SXA_ext (tg := tgF (sz hx)) (pO' := pO) (fO' := fO) (l := 0) (c := 2) hS hE (Or.inl ⟨rfl, rfl⟩) t2 (fun t z hz => by
        rcases tgF_some hz with ⟨rfl, rfl⟩ | ⟨rfl, rfl⟩
        · exact ⟨Nat.le_refl _, by omega, by rw [(hA.2.2.1 _ ez).1]; exact g1, fun h => by omega⟩
        · exact ⟨by omega, by omega, by rw [(hA.2.2.1 _ ez1).1]; exact g2, fun _ _ => by rw [(hA.2.2.1 _ ez1).2.1]; exact g3⟩)
      (fun t t' z h1 h2 => by
        rcases tgF_some h1 with ⟨rfl, rfl⟩ | ⟨rfl, rfl⟩ <;> rcases tgF_some h2 with ⟨rfl, h⟩ | ⟨rfl, h⟩ <;> first | rfl | omega)
      (fun t ht => by
        cases htt : tgF (sz hx) t with
        | none => rfl
        | some z =>
          rcases tgF_some htt with ⟨rfl, -⟩ | ⟨rfl, -⟩
          · omega
          · omega)
      (by
        obtain ⟨m1, m2, m3, m4, m5, m6, m7, m8, m9, m10, m11, m12, m13, m14, m15, m16, m17, m18, m19, m20, m21, m22, m23, m24, m25, m26⟩ := hS.1
        refine ⟨m1, m2, m3, m4, m5, m6, m7, ?_, m9, m10, m11, m12, m13, m14, m15, m16, m17, m18, m19, m20, ?_, m22, m23, m24, m25, fun t ht => ?_⟩
        · show n 12 + 1 = n 2 + 1
          omega
        · show n 2 + 1 ≤ 10
          omega
        · have : tgF (sz hx) t = none := by
            cases htt : tgF (sz hx) t with
            | none => rfl
            | some z => rcases tgF_some htt with ⟨rfl, -⟩ | ⟨rfl, -⟩ <;> omega
          rw [nX_none this]; exact m26 t ht)
      (SXr_ext hS hE (fun t ht => by
          rcases ht with rfl | rfl | rfl | rfl | rfl | rfl | rfl | rfl | rfl | rfl | rfl | rfl | rfl | rfl | rfl | rfl <;> rfl)
        (fun i hi hi2 => by
          have : i = n 2 := by
            have h9 : nX (tgF (sz hx)) n 2 = n 2 + 1 := rfl
            omega
          subst this
          have h12 : adX (tgF (sz hx)) n ad 12 (n 2) = sz hx + 1 := by rw [← hns.2.2.2.2.2.2.2.1]; exact adX_new t12
          rw [adX_new t2, h12, hA.2.2.2.2.2.1 203 (sz hx) (by omega)]; exact g5)
        (fun i hi hi2 => absurd hi hi2) ⟨Nat.le_succ _, Nat.le_refl _⟩ (fun i hi hi2 => absurd hi hi2) (fun i hi => ⟨rfl, rfl⟩))
    obtain ⟨hm', q2, hs2, em, ei⟩ := e_feature9 (h := wz hm (sz h')) hM h25 hN10 h5 h6 h1 h2 h3 h4
    refine ⟨nI (n 2), h', hm', q1, q2, hs2.2.2.2.2.2.1, adX (tgF (sz hx)) n ad, nX (tgF (sz hx)) n, e', pO, fO, q, tm, tx, w, va_up pn (n 2) 0, nw, fs, ls, rs, rl, pr, tl, ?_⟩
    have em' : mv q hm' = up2 (up2 (up2 (up2 (up2 (mv q hm) 26 (n 2) a) 27 (n 2) b) 28 (3 * n 2) c) 28 (3 * n 2 + 1) d) 28 (3 * n 2 + 2) f := em
    have ei' : mf am hm' = va_up (va_up (mf am hm) 0 0) 25 (nI (n 2 + 1)) := ei
    have cN : ∀ g, (g / 100 ≠ 2 ∧ g / 100 ≠ 12 ∧ g ≠ 0 ∧ g ≠ 2) → cf (adX (tgF (sz hx)) n ad) (nX (tgF (sz hx)) n) h' g = cf ad n hx g := fun g ⟨h1, h2, h3, h4⟩ => cf_ext hS hE rfl (by
      cases htt : tgF (sz hx) (g / 100) with
      | none => rfl
      | some z => rcases tgF_some htt with ⟨h, -⟩ | ⟨h, -⟩ <;> omega) h3 h4
    have vN : ∀ t, (t ≠ 2 ∧ t ≠ 12) → cv (adX (tgF (sz hx)) n ad) (nX (tgF (sz hx)) n) h' t = cv ad n hx t := fun t ⟨h1, h2⟩ => cv_ext hS hE (by
      cases htt : tgF (sz hx) t with
      | none => rfl
      | some z => rcases tgF_some htt with ⟨h, -⟩ | ⟨h, -⟩ <;> omega)
    have cF : ∀ g, (g / 100 = 2 ∧ g ≠ 2 ∧ g ≠ 0) → cf (adX (tgF (sz hx)) n ad) (nX (tgF (sz hx)) n) h' g = va_up (cf ad n hx g) (n 2) (fi (hF1 hx (nI (n 2)) a b c d f) g (sz hx)) := fun g ⟨h1, h2, h3⟩ => by
      rw [cf_extN hS hE h1 t2 h3 h2, fN g h3 h2]
    have v12 : cv (adX (tgF (sz hx)) n ad) (nX (tgF (sz hx)) n) h' 12 = va_up (cv ad n hx 12) (n 2) (ai (hF1 hx (nI (n 2)) a b c d f) (sz hx + 1)) := by
      rw [cv_extN hS hE t12, aN', hns.2.2.2.2.2.2.2.1]
    have z22 : ad 22 0 < sz hx := (hS.2.2.1 22 0 (by omega)).2
    have k22 : kd hx (ad 22 0) = 205 := k0 hS (t := 22) (i := 0) (by omega)
    have e22 : ar h' (adX (tgF (sz hx)) n ad 22 0) = ar hx (ad 22 0) := by
      have h9 : adX (tgF (sz hx)) n ad 22 0 = ad 22 0 := rfl
      rw [h9]
      refine hE.2.2.2.2.2.2.1 _ z22 (fun z => ?_)
      rw [z] at k22
      rcases (lfs hS).1.2.2.2.2 with y | y
      · rw [y.2, hS.2.2.2.2.2.2.1] at k22; cases k22
      · rw [y.1] at k22; cases k22
    have l15 : ∀ t, t < n 4 → ln h' (adX (tgF (sz hx)) n ad 15 t) = ln hx (ad 15 t) := fun t ht => by
      have h9 : adX (tgF (sz hx)) n ad 15 t = ad 15 t := rfl
      rw [h9, (hE.2.2.1 _ (hS.2.2.1 15 t (by omega)).2).2.1]
    unfold PQ
    rw [em', ei', e22]
    simp only [cN 908 (by decide), cN 909 (by decide), cN 300 (by decide), cN 301 (by decide), cN 302 (by decide), cN 102 (by decide), cN 103 (by decide), cN 104 (by decide), cN 105 (by decide), cN 106 (by decide), cN 107 (by decide), cN 108 (by decide), cN 601 (by decide), cN 401 (by decide), vN 13 (by decide), vN 11 (by decide), vN 14 (by decide), vN 16 (by decide), vN 15 (by decide), cF 200 (by decide), cF 201 (by decide), cF 202 (by decide), cF 204 (by decide), cF 205 (by decide), cF 206 (by decide), cF 207 (by decide), cF 208 (by decide), v12, i0, i1, i2, i3, i4, i5, i6, i7]
    have m26 : up2 (up2 (up2 (up2 (up2 (mv q hm) 26 (n 2) a) 27 (n 2) b) 28 (3 * n 2) c) 28 (3 * n 2 + 1) d) 28 (3 * n 2 + 2) f 26 = va_up (mv q hm 26) (n 2) a := by funext i; simp [up2, va_up]
    have m27 : up2 (up2 (up2 (up2 (up2 (mv q hm) 26 (n 2) a) 27 (n 2) b) 28 (3 * n 2) c) 28 (3 * n 2 + 1) d) 28 (3 * n 2 + 2) f 27 = va_up (mv q hm 27) (n 2) b := by funext i; simp [up2, va_up]
    have m28 : up2 (up2 (up2 (up2 (up2 (mv q hm) 26 (n 2) a) 27 (n 2) b) 28 (3 * n 2) c) 28 (3 * n 2 + 1) d) 28 (3 * n 2 + 2) f 28 = fun i => if i = 3 * n 2 + 2 then f else if i = 3 * n 2 + 1 then d else if i = 3 * n 2 then c else mv q hm 28 i := by funext i; simp [up2]
    rw [m26, m27, m28]
    have hM' : SMA q am hm' := SMA_same hs2 hM
    have hW' : ml q hm' 9 = ml q hm 9 := congrFun (ml_same hs2) 9
    rw [hW']
    refine ⟨hS', hM', ⟨hN.1, hN.2.1, hN.2.2.1, rfl, hN.2.2.2.2.1, hN.2.2.2.2.2.1, hN.2.2.2.2.2.2⟩, ⟨fun i hi => ?_, fun i h1 h2 => ?_⟩, hP, ⟨fun c hc => ?_, hC.2⟩, ⟨fun m hmw => ?_, hB.2⟩, hT, ⟨hX.1, fun t ht => ?_⟩, hW⟩
    · have hi' : i < n 2 + 1 := hi
      by_cases hin : i < n 2
      · obtain ⟨a1, a2, a3, a4, a5, a6, a7, a8, a9, a10, a11, a12, a13, a14, a15⟩ := hF.1 i hin
        have hne : i ≠ n 2 := by omega
        simp only [va_upN _ _ hne]
        refine ⟨a1, a2, a3, fun j hj => ?_, ?_, a6, a7, a8, a9, a10, a11, a12, a13, a14, a15⟩
        · rw [if_neg (by omega), if_neg (by omega), if_neg (by omega)]; exact a4 j hj
        · rw [if_neg (by omega), if_neg (by omega), if_neg (by omega), if_neg (by omega), if_neg (by omega), if_neg (by omega), if_neg (by omega), if_neg (by omega), if_neg (by omega)]
          exact a5
      · have hie : i = n 2 := by omega
        subst hie
        obtain ⟨b1, b2, b3, b4⟩ := hF.2 (n 2) (Nat.le_refl _) hN10
        simp only [va_up_same]
        refine ⟨trivial, trivial, trivial, fun j hj => ?_, ⟨c1, d1, f1, ?_, ?_, ?_, hc1', hd1', hf1', hsum⟩, b1.symm, Or.inl b1, b2.symm, b3.symm, b3, Nat.zero_le _, b4.symm, fun k k1 k2 => by omega, fun k k' k1 k2 k3 => by omega, ?_⟩
        · rcases (show j = 0 ∨ j = 1 ∨ j = 2 by omega) with rfl | rfl | rfl
          · rw [if_neg (by omega), if_neg (by omega), if_pos (by omega)]; exact j0
          · rw [if_neg (by omega), if_pos (by omega)]; exact j1
          · rw [if_pos (by omega)]; exact j2
        · rw [if_neg (by omega), if_neg (by omega), if_pos trivial]; exact hc1
        · rw [if_neg (by omega), if_pos trivial]; exact hd1
        · rw [if_pos trivial]; exact hf1
        · rw [if_neg (by omega)]
    · have h1' : n 2 + 1 ≤ i := h1
      exact hF.2 i (by omega) h2
    · have hcr := (crf hS hc).2.2.2.2.2
      obtain ⟨x0, x1, ⟨y2, y3, y4, y5, y6, y7, y8, y9⟩, x2⟩ := hC.1 c hc
      refine ⟨x0, x1, ⟨y2, y3, y4, y5, y6, y7, ?_, ?_⟩, x2⟩
      · rw [va_upN _ _ (by omega)]; exact y8
      · rw [va_upN _ _ (by omega)]; exact y9
    · obtain ⟨b1, b2, b3, b4⟩ := hB.1 m hmw
      refine ⟨b1, b2, b3, fun c hc => ?_⟩
      have hcr := (crf hS hc).2.2.2.2.2
      have := b4 c hc
      rw [va_upN _ _ (by omega)]
      exact this
    · obtain ⟨⟨x1, x2, x3, x4, x5⟩, x6⟩ := hX.2 t ht
      exact ⟨⟨x1, x2, x3, (l15 t ht).trans x4, x5⟩, x6⟩
  · refine ⟨-1, hx, sFi (wz hm (sz hx)) 1000 am 0, e_feature_bad hS hok, ?_, rfl, ad, n, e, pO, fO, q, tm, tx, w, pn, nw, fs, ls, rs, rl, pr, tl, hS, hM, hN, hF, hP, hC, hB, hT, hX, hW⟩
    exact e_feature9_bad (h := wz hm (sz hx)) hM h25 (by omega) hok
end FEAT3
