section OPTEXT
variable {ax ao am : Nat} {ad : Nat → Nat → Nat} {n e pO fO q tm : Nat → Nat} {tx : Nat → List (Int32 × List Int32)} {w : Nat} {pn : Nat → Nat} {nw : Nat → Nat → Nat} {fs : Nat → Nat} {ls : Nat → Option Nat} {rs rl pr : Nat → Nat} {tl : Nat} {hx hm : HS}
theorem ax9 {h : HS} (hS : SXA ax ao ad n e pO fO h) {g : Nat} (hg : g / 100 = 9) : fi h g ax = cf ad n h g 0 := by
  have n9 : 0 < n 9 := by rw [hS.1.2.2.2.2.2.1]; decide
  have e9 : ad 9 0 = ax := hS.2.2.2.2.1.1
  rw [← cf_at (n := n) (t := 9) hg n9, e9]
theorem text_new {hx1 hm1 : HS} (hPQ : PQ ax am ao ad n e pO fO q tm tx w pn nw fs ls rs rl pr tl hx hm) (h20 : n 4 - 1 < 20) (hz : FZ ax ao ad n e pO fO hx hx1) (hy : FY am q hm hm1) (hM1 : SMA q am hm1) {K : Nat → Int32} {T A : Nat} {Ls : List (Int32 × List Int32)} (hL : LR am ad n q K T Ls A hx1 hm1) (hT6 : T ≤ 600) : ∃ h2 hm2, m_X6_rateText (ad 7 0) (sFi hx1 601 (ad 6 0) 0) = some (some (sz hx), h2) ∧ kd h2 ax = 10 ∧ fi h2 908 ax = nI (n 4 - 1) ∧ m_X9_keeps am hm1 = some hm2 ∧ mf am hm2 8 = mf am hm1 8 ∧ kd hm2 = kd hm1 ∧ sz h2 = sz hx + 2 ∧ sz hm2 = sz hm1 ∧ PP ax am ao (sFi (sFr h2 907 ax (some (sz hx))) 908 ax (nI (n 4))) hm2 := by
  obtain ⟨⟨hP', hC', h705⟩, ⟨h7, h8, hCm, h12⟩, ⟨hA, hCA, hCA3, hL16⟩, hok, hln⟩ := hL
  obtain ⟨hS0, hM0, hN, hF, hP, hC, hB, hT, hX, hW⟩ := id hPQ
  have hn := n_le hS0
  obtain ⟨z1, z2, z3⟩ := s601 hz.1
  have hl6 : (flat Ls).length < 600 := by
    by_cases h0 : 0 < Ls.length
    · have := hCA3 h0; omega
    · have : Ls = [] := List.length_eq_zero_iff.mp (by omega)
      rw [this]; decide
  have hCx : CX ad n (flat Ls) (sFi hx1 601 (ad 6 0) 0) := ⟨by rw [z3 702 (by decide)]; exact hC'.1, hC'.2⟩
  obtain ⟨h2, a1, a2, a3, a4, a5, a6, a7, a8, a9⟩ := x_rateText z1 hCx hl6
  have esz : sz (sFi hx1 601 (ad 6 0) 0) = sz hx := hz.2.1.2.2.2.2.2.1
  obtain ⟨S, hSe⟩ : ∃ S, S = sz (sFi hx1 601 (ad 6 0) 0) := ⟨_, rfl⟩
  have hSx : S = sz hx := hSe.trans esz
  have hax : ax < sz (sFi hx1 601 (ad 6 0) 0) := ax_lt z1
  have N3 := a2.2.2
  have c705 : cf ad n (sFi hx1 601 (ad 6 0) 0) 705 0 = nI Ls.length := by rw [z3 705 (by decide)]; exact h705
  rw [c705] at a8
  obtain ⟨⟨e1, e2, e3, e4, e5, e6⟩, io, mo, m15, m12, m13, mlo, hm2z⟩ := hy
  have t0e : n 4 = (n 4 - 1) + 1 := by omega
  obtain ⟨hm2, k1, k2, k3, k4, k5, k6, k7, k8, k9⟩ := e_keeps hM1 (t := n 4 - 1) (c := (flat Ls).length) h20 (by omega) (by rw [io 10 (by decide)]; exact hN.2.2.2.2.2.2.2.1) hCm.1
  have hM2 := SMA_same k2 hM1
  have hS2 := SXA_text z1 a2 a3 a4 a5 a7 (by omega)
  obtain ⟨ad', had'⟩ : ∃ y, y = adX (tgT (sz (sFi hx1 601 (ad 6 0) 0))) n ad := ⟨_, rfl⟩
  obtain ⟨n', hn'⟩ : ∃ y, y = nX (tgT (sz (sFi hx1 601 (ad 6 0) 0))) n := ⟨_, rfl⟩
  have vcf : ∀ g, g / 100 ≠ 4 → g / 100 ≠ 15 → cf ad' n' (sFr h2 907 ax (some (sz (sFi hx1 601 (ad 6 0) 0)))) g = cf ad n (sFi hx1 601 (ad 6 0) 0) g := fun g h4 h15 => by rw [had', hn']; exact cf_text z1 a2 h4 h15
  have vcf4 : cf ad' n' (sFr h2 907 ax (some (sz (sFi hx1 601 (ad 6 0) 0)))) 401 = va_up (cf ad n (sFi hx1 601 (ad 6 0) 0) 401) (n 4) (nI Ls.length) := by rw [had', hn', cf_text4 z1 a2, a8]
  have vcv : ∀ t, t ≠ 4 → t ≠ 15 → cv ad' n' (sFr h2 907 ax (some (sz (sFi hx1 601 (ad 6 0) 0)))) t = cv ad n hx1 t := fun t h4 h15 => by rw [had', hn']; exact cv_text z1 a2 h4 h15
  have vcv15 : ∀ j, (∀ i, i < n 4 → cv ad' n' (sFr h2 907 ax (some (sz (sFi hx1 601 (ad 6 0) 0)))) 15 i j = cv ad n hx1 15 i j) ∧ cv ad' n' (sFr h2 907 ax (some (sz (sFi hx1 601 (ad 6 0) 0)))) 15 (n 4) j = ai h2 (sz (sFi hx1 601 (ad 6 0) 0) + 1) j := fun j => by rw [had', hn']; exact cv_text15 z1 a2 j
  have no : ∀ t, t ≠ 4 → t ≠ 15 → n' t = n t := fun t h4 h15 => by rw [hn']; exact nX_none (tgT_none h4 h15)
  have n4' : n' 4 = n 4 + 1 := by rw [hn']; exact nX_some (a := sz (sFi hx1 601 (ad 6 0) 0)) rfl
  have ado : ∀ t i, i < n t → ad' t i = ad t i := fun t i hi => by rw [had']; exact adX_old hi
  have ad15 : ad' 15 (n 4) = sz (sFi hx1 601 (ad 6 0) 0) + 1 := by
    have a15 : n 15 = n 4 := (nSX hS0).2.2.2.2.2.2.2.2.2.2.1
    rw [had', ← a15]; exact adX_new (show tgT (sz (sFi hx1 601 (ad 6 0) 0)) 15 = some (sz (sFi hx1 601 (ad 6 0) 0) + 1) from rfl)
  rw [← had', ← hn'] at hS2
  have n9 : 0 < n' 9 := by rw [no 9 (by decide) (by decide), hS0.1.2.2.2.2.2.1]; decide
  have e9 : ad' 9 0 = ax := hS2.2.2.2.2.1.1
  have c908 : cf ad' n' (sFi (sFr h2 907 ax (some (sz (sFi hx1 601 (ad 6 0) 0)))) 908 ax (nI (n 4))) = up2 (cf ad' n' (sFr h2 907 ax (some (sz (sFi hx1 601 (ad 6 0) 0))))) 908 0 (nI (n 4)) := by
    have := cf_sFi (h := sFr h2 907 ax (some (sz (sFi hx1 601 (ad 6 0) 0)))) (g := 908) (x := nI (n 4)) hS2.2.1 (t := 9) (by decide) n9
    rw [e9] at this; exact this
  have hS3 : SXA ax ao ad' n' e pO fO (sFi (sFr h2 907 ax (some (sz (sFi hx1 601 (ad 6 0) 0)))) 908 ax (nI (n 4))) := SXA_sFi (by decide) (by decide) hS2
  have co : ∀ g, (g / 100 ≠ 4 ∧ g / 100 ≠ 15 ∧ g ≠ 908 ∧ g ≠ 601 ∧ g ≠ 702 ∧ g ≠ 703 ∧ g ≠ 704 ∧ g ≠ 705 ∧ g ≠ 706 ∧ g ≠ 802) → cf ad' n' (sFi (sFr h2 907 ax (some (sz (sFi hx1 601 (ad 6 0) 0)))) 908 ax (nI (n 4))) g = cf ad n hx g := fun g hg => by
    rw [c908, up2_ne1' hg.2.2.1, vcf g hg.1 hg.2.1, z3 g hg.2.2.2.1, hz.2.2.1 g hg.2.2.2.2]
  have vo : ∀ t, (t ≠ 4 ∧ t ≠ 15 ∧ t ≠ 17 ∧ t ≠ 18 ∧ t ≠ 19) → cv ad' n' (sFi (sFr h2 907 ax (some (sz (sFi hx1 601 (ad 6 0) 0)))) 908 ax (nI (n 4))) t = cv ad n hx t := fun t ht => by
    show cv ad' n' (sFr h2 907 ax (some (sz (sFi hx1 601 (ad 6 0) 0)))) t = _
    rw [vcv t ht.1 ht.2.1, hz.2.2.2 t ht.2.2]
  have io2 : ∀ k, (k ≠ 0 ∧ k ≠ 2 ∧ k ≠ 3 ∧ k ≠ 7 ∧ k ≠ 8 ∧ k ≠ 17 ∧ k ≠ 18 ∧ k ≠ 10 ∧ k ≠ 11) → mf am hm2 k = mf am hm k := fun k hk => by
    rw [k3, va_upN _ _ hk.2.2.2.2.2.2.2.1, va_upN _ _ hk.2.2.2.2.2.2.2.2, io k ⟨hk.1, hk.2.1, hk.2.2.1, hk.2.2.2.1, hk.2.2.2.2.1, hk.2.2.2.2.2.1, hk.2.2.2.2.2.2.1⟩]
  have mo2 : ∀ k, (k ≠ 4 ∧ k ≠ 5 ∧ k ≠ 12 ∧ k ≠ 13 ∧ k ≠ 14 ∧ k ≠ 15 ∧ k ≠ 16 ∧ k ≠ 19 ∧ k ≠ 20 ∧ k ≠ 21) → mv q hm2 k = mv q hm k := fun k hk => by
    rw [k4 k ⟨hk.2.2.1, hk.2.2.2.1, hk.2.2.2.2.1, hk.2.2.2.2.2.1, hk.2.2.2.2.2.2.1⟩, mo k hk]
  have d908 : fi h2 908 ax = nI (n 4 - 1) := by
    rw [(N3 ax hax).2.2.2.2.2.1 908, ax9 z1 (by decide), z3 908 (by decide), hz.2.2.1 908 (by decide)]
    exact hN.2.2.2.2.2.2.1
  refine ⟨h2, hm2, by rw [a1, esz], by rw [(N3 ax hax).1]; exact kax z1, d908, k1, by rw [k3, va_upN _ _ (by decide), va_upN _ _ (by decide)], k2.1, by rw [a3, esz], k2.2.2.2.2.2.1, ?_⟩
  rw [← esz]
  refine ⟨ad', n', e, pO, fO, q, tm, va_up tx (n 4) Ls, w, pn, nw, fs, ls, rs, rl, pr, 0, hS3, hM2, ?_, ?_, ?_, ?_, ?_, ?_, ?_, ?_⟩
  · obtain ⟨y1, y2, y3, y4, y5, y6, y7, y8, y9⟩ := hN
    have g10 : mf am hm2 10 = nI (n 4) := by rw [k3, va_up_same, ← t0e]
    have g11 : mf am hm2 11 = nI (n 4) - 1 := by
      rw [k3, va_upN _ _ (by decide), va_up_same]; exact (nI_sub (a := n 4) (b := 1) (by omega)).symm
    unfold RN
    rw [co 909 (by decide), io2 24 (by decide), io2 25 (by decide), io2 34 (by decide), io2 39 (by decide), g10, g11, no 1 (by decide) (by decide), no 2 (by decide) (by decide), no 3 (by decide) (by decide), n4', Nat.add_sub_cancel]
    exact ⟨y1, y2, y3, y4, y5, y6, by rw [c908, up2_same], rfl, rfl⟩
  · unfold RF
    rw [co 200 (by decide), co 201 (by decide), co 202 (by decide), co 204 (by decide), co 205 (by decide), co 206 (by decide), co 207 (by decide), co 208 (by decide), vo 12 (by decide), mo2 26 (by decide), mo2 27 (by decide), mo2 28 (by decide), mo2 29 (by decide), mo2 30 (by decide), mo2 31 (by decide), mo2 32 (by decide), mo2 33 (by decide), no 2 (by decide) (by decide)]
    exact hF
  · unfold RP
    rw [co 300 (by decide), co 301 (by decide), co 302 (by decide), vo 13 (by decide), mo2 35 (by decide), mo2 36 (by decide), mo2 37 (by decide), mo2 38 (by decide), no 3 (by decide) (by decide)]
    exact hP
  · unfold RC
    rw [co 102 (by decide), co 103 (by decide), co 104 (by decide), co 105 (by decide), co 106 (by decide), co 107 (by decide), co 108 (by decide), vo 11 (by decide), vo 14 (by decide), mo2 40 (by decide), mo2 41 (by decide), mo2 42 (by decide), mo2 43 (by decide), mo2 44 (by decide), mo2 45 (by decide), mo2 46 (by decide), mo2 47 (by decide), mo2 48 (by decide), mo2 50 (by decide), no 1 (by decide) (by decide)]
    exact hC
  · have l22 : 0 < n 22 := by rw [(nSX hS0).2.2.2.2.2.2.2.2.2.2.2.2.2.2.2.2.2.1]; decide
    have har : ar (sFi (sFr h2 907 ax (some (sz (sFi hx1 601 (ad 6 0) 0)))) 908 ax (nI (n 4))) (ad' 22 0) = ar hx (ad 22 0) := by
      rw [ado 22 0 l22]
      show ar h2 (ad 22 0) = _
      rw [(N3 _ (z1.2.2.1 22 0 l22).2).2.2.2.2.1]
      show ar hx1 (ad 22 0) = _
      rw [hz.2.1.2.2.2.2.1]
    unfold RB
    rw [har, mo2 26 (by decide), mo2 38 (by decide), mo2 48 (by decide), mo2 49 (by decide), mo2 51 (by decide), no 1 (by decide) (by decide), n4']
    refine ⟨fun m hm => ?_, hB.2⟩
    obtain ⟨y1, y2, y3, y4⟩ := hB.1 m hm
    refine ⟨by omega, y2, by rw [ado 4 _ y1]; exact y3, fun c hc => ?_⟩
    rw [va_upN _ _ (by omega)]; exact y4 c hc
  · refine ⟨Nat.zero_le _, ?_, ?_, fun i hi => absurd hi (by omega)⟩
    · rw [c908, up2_ne1 _ _ _ _ (by decide), vcf 601 (by decide) (by decide)]; exact z2
    · rw [k3, va_upN _ _ (by decide), va_upN _ _ (by decide)]; exact hm2z
  · have hc401 : cf ad' n' (sFi (sFr h2 907 ax (some (sz (sFi hx1 601 (ad 6 0) 0)))) 908 ax (nI (n 4))) 401 = va_up (cf ad n hx 401) (n 4) (nI Ls.length) := by
      rw [c908, up2_ne1' (by decide), vcf4, z3 401 (by decide), hz.2.2.1 401 (by decide)]
    refine RX_new hX t0e n4' (fun i hi => ?_) (fun i hi => ?_) (fun i hi => ?_) ?_ (fun k hk => ?_) (fun j hj => ?_) hc401 (fun t ht => ?_) ?_ (fun t j ht => ?_) (fun j hj => ?_) hok hL16 hl6
    · rw [k5, va_upN _ _ (by omega), m12 i (by omega)]
    · obtain ⟨y1, y2⟩ := k6 i (by omega)
      rw [y1, y2, (m13 i (by omega)).1, (m13 i (by omega)).2]; exact ⟨rfl, rfl⟩
    · obtain ⟨y1, y2⟩ := k8 i (by omega)
      rw [y1, y2, (m15 i (by omega)).1, (m15 i (by omega)).2]; exact ⟨rfl, rfl⟩
    · rw [k5, va_up_same]; exact h12
    · obtain ⟨y1, y2⟩ := k7 k (by omega)
      rw [y1, y2]; exact hln k hk
    · obtain ⟨y1, y2⟩ := k9 j hj
      rw [y1, y2]; exact hCm.2 j hj
    · have a15 : n 15 = n 4 := (nSX hS0).2.2.2.2.2.2.2.2.2.2.1
      show ln h2 (ad' 15 t) = ln hx (ad 15 t)
      rw [ado 15 t (by omega), (N3 _ (z1.2.2.1 15 t (by omega)).2).2.1]
      show ln hx1 _ = _
      rw [hz.2.1.2.2.1]
    · show ln h2 (ad' 15 (n 4)) = _
      rw [ad15]; exact a6
    · show cv ad' n' (sFr h2 907 ax (some (sz (sFi hx1 601 (ad 6 0) 0)))) 15 t j = _
      rw [(vcv15 j).1 t ht, hz.2.2.2 15 (by decide)]
    · show cv ad' n' (sFr h2 907 ax (some (sz (sFi hx1 601 (ad 6 0) 0)))) 15 (n 4) j = _
      rw [(vcv15 j).2]; exact a9 j hj
  · unfold RW
    rw [congrFun (ml_same k2) 9, mlo 9 (by decide)]; exact hW
theorem op_text : StI (PP ax am ao) (m_X8_text ax) (m_X9_text am) := by
  rintro hx hm ⟨ad, n, e, pO, fO, q, tm, tx, w, pn, nw, fs, ls, rs, rl, pr, tl, hS, hM, hN, hF, hP, hC, hB, hT, hX, hW⟩
  have hka := kax hS
  have hkm : kd hm am = 11 := hM.1
  have hn := n_le hS
  have hI := hS.2.1
  have hq : ∀ k k', q k = q k' → k = k' := hM.2.2
  have hw : w ≤ 200 := hN.1
  have f909 : fi hx 909 ax = nI w := by
    have h1 := hN.2.1
    rw [← cf_at (g := 909) (n := n) (t := 9) (by decide) (by rw [hS.1.2.2.2.2.2.1]; decide), hS.2.2.2.2.1.1] at h1
    exact h1
  have i24 : fi hm 1024 am = nI w := hN.2.2.1
  have h25 : mf am hm 25 = nI (n 2) := hN.2.2.2.1
  have h34 : mf am hm 34 = nI (n 3) := hN.2.2.2.2.1
  have h39 : mf am hm 39 = nI (n 1) := hN.2.2.2.2.2.1
  have hPQ : ∀ k, PQ ax am ao ad n e pO fO q tm tx w pn nw fs ls rs rl pr tl hx (wz hm k) := fun k => ⟨hS, hM, hN, hF, hP, hC, hB, hT, hX, hW⟩
  obtain ⟨n7, n8, n17, n18, n19, k7, k8, r700, r701, r800, r801, k17, l17, k18, l18, k19, l19, r904⟩ := ktok hS
  obtain ⟨n6, n16, k6, r600, k16, l16, r903⟩ := ktape hS
  have f908 : fi hx 908 ax = nI (n 4 - 1) := (ax9 hS (by decide)).trans hN.2.2.2.2.2.2.1
  have i10 : fi hm 1010 am = nI (n 4 - 1) := hN.2.2.2.2.2.2.2.1
  by_cases h20 : n 4 - 1 < 20
  · have z : nI (n 4 - 1) < 20 := nI_lt (b := 20) h20 (by omega)
    obtain ⟨f, hx1, hm0, a1, -, a3, -, -, -, -⟩ := text_sim (hPQ 0) h20
    have sm := a3.2.1
    have hka1 : kd hx1 ax = 10 := by rw [sm.1]; exact hka
    have r9031 : fr hx1 903 ax = some (ad 6 0) := by rw [sm.2.1]; exact r903
    have r9041 : fr hx1 904 ax = some (ad 7 0) := by rw [sm.2.1]; exact r904
    have k61 : kd hx1 (ad 6 0) = 7 := by rw [sm.1]; exact k6
    have k71 : kd hx1 (ad 7 0) = 8 := by rw [sm.1]; exact k7
    have det : ∀ k, ∃ hm1, m_X9_text am (wz hm k) = X9_text_b64 am hm1 ∧ FZ ax ao ad n e pO fO hx hx1 ∧ FY am q (wz hm k) hm1 ∧ SMA q am hm1 ∧ mf am hm1 8 = f ∧ (f = 0 → ∃ K T Ls A, LR am ad n q K T Ls A hx1 hm1 ∧ T ≤ 600) := fun k => by
      obtain ⟨f', hx1', hm1, b1, b2, b3, b4, b5, b6, b7⟩ := text_sim (hPQ k) h20
      rw [a1] at b1
      cases b1
      exact ⟨hm1, b2, b3, b4, b5, b6, b7⟩
    by_cases hf : f = 0
    · subst hf
      obtain ⟨hm1, b2, b3, b4, b5, b6, b7⟩ := det (sz hx + 2)
      obtain ⟨K, T, Ls, A, hL, hT6⟩ := b7 rfl
      obtain ⟨h2, hm2, c1, c2, c3, c4, c5, c6, c7, c8, c9⟩ := text_new (hPQ (sz hx + 2)) h20 b3 b4 b5 hL hT6
      have en : nI (n 4 - 1) + 1 = nI (n 4) := by rw [show (1 : Int32) = nI 1 from rfl, nI_add, Nat.sub_add_cancel hn.2.2.2.2]
      have n1 : ((908 : Nat) = 907) = False := eq_false (by decide)
      refine ⟨0, _, hm2, ?_, ?_, ?_, c9⟩
      · simp only [m_X8_text, m_X5_clear, aN, kA201, kA202, kA203, kA206, kA306, i1n0, i0n1, i0e0, i1e1, gI, gR, pI, pB, pR, xI, xL, yI, yL, vc, kd_sFi, fr_sFi, ln_sFi, ai_sFi, al_sFi, ar_sFi, cs_sFi, sz_sFi, sz_sAi, kd_sAi, fi_sAi, fr_sAi, ln_sAi, al_sAi, ar_sAi, cs_sAi, kd_wz, fi_wz, fr_wz, ln_wz, ai_wz, al_wz, ar_wz, Option.bind_some, if_true, if_false, Nat.reduceAdd, Nat.reduceMul, reduceIte, and_self, true_and, and_true, hka, f908, z, r904, r903, k7, a1, hka1, r9031, k61, r9041, k71, c1, c2, kd_sFr, fi_sFr, c3, en]
      · show m_X9_text am (wz hm (sz h2)) = some (0, hm2)
        rw [c7, b2]
        have hkm1 : kd hm1 am = 11 := b5.1
        have f8 : fi hm1 1008 am = 0 := b6
        have hkm2 : kd hm2 am = 11 := by rw [c6]; exact hkm1
        have f82 : fi hm2 1008 am = 0 := c5.trans b6
        simp only [X9_text_b64, X9_text_b75, aN, kA201, kA202, kA203, kA206, kA306, i1n0, i0n1, i0e0, i1e1, gI, gR, pI, pB, pR, xI, xL, yI, yL, vc, kd_sFi, fr_sFi, ln_sFi, ai_sFi, al_sFi, ar_sFi, cs_sFi, sz_sFi, sz_sAi, kd_sAi, fi_sAi, fr_sAi, ln_sAi, al_sAi, ar_sAi, cs_sAi, kd_wz, fi_wz, fr_wz, ln_wz, ai_wz, al_wz, ar_wz, Option.bind_some, if_true, if_false, Nat.reduceAdd, Nat.reduceMul, reduceIte, and_self, true_and, and_true, hkm1, f8, c4, hkm2, f82]
      · show sz hm2 = sz h2
        rw [c8, b4.1.2.2.2.2.1, c7]; rfl
    · obtain ⟨hm1, b2, b3, b4, b5, b6, -⟩ := det (sz hx)
      have zf : (f = 0) = False := eq_false hf
      refine ⟨f, sFi hx1 601 (ad 6 0) 0, hm1, ?_, ?_, ?_, ad, n, e, pO, fO, q, tm, tx, w, pn, nw, fs, ls, rs, rl, pr, 0, PQ_tape (hPQ (sz hx)) b3 b4 b5⟩
      · simp only [m_X8_text, m_X5_clear, aN, kA201, kA202, kA203, kA206, kA306, i1n0, i0n1, i0e0, i1e1, gI, gR, pI, pB, pR, xI, xL, yI, yL, vc, kd_sFi, fr_sFi, ln_sFi, ai_sFi, al_sFi, ar_sFi, cs_sFi, sz_sFi, sz_sAi, kd_sAi, fi_sAi, fr_sAi, ln_sAi, al_sAi, ar_sAi, cs_sAi, kd_wz, fi_wz, fr_wz, ln_wz, ai_wz, al_wz, ar_wz, Option.bind_some, if_true, if_false, Nat.reduceAdd, Nat.reduceMul, reduceIte, and_self, true_and, and_true, hka, f908, z, r904, r903, k7, a1, hka1, r9031, k61, zf]
      · have es : sz (sFi hx1 601 (ad 6 0) 0) = sz hx := sm.2.2.2.2.2.1
        rw [es, b2]
        have hkm1 : kd hm1 am = 11 := b5.1
        have f8 : fi hm1 1008 am = f := b6
        simp only [X9_text_b64, X9_text_b75, aN, kA201, kA202, kA203, kA206, kA306, i1n0, i0n1, i0e0, i1e1, gI, gR, pI, pB, pR, xI, xL, yI, yL, vc, kd_sFi, fr_sFi, ln_sFi, ai_sFi, al_sFi, ar_sFi, cs_sFi, sz_sFi, sz_sAi, kd_sAi, fi_sAi, fr_sAi, ln_sAi, al_sAi, ar_sAi, cs_sAi, kd_wz, fi_wz, fr_wz, ln_wz, ai_wz, al_wz, ar_wz, Option.bind_some, if_true, if_false, Nat.reduceAdd, Nat.reduceMul, reduceIte, and_self, true_and, and_true, hkm1, f8, zf]
      · have es : sz (sFi hx1 601 (ad 6 0) 0) = sz hx := sm.2.2.2.2.2.1
        rw [es, b4.1.2.2.2.2.1]; rfl
  · have h20' : n 4 - 1 = 20 := by omega
    have z : ¬ nI (n 4 - 1) < 20 := by rw [h20']; decide
    have fz : FZ ax ao ad n e pO fO hx hx := ⟨hS, SameS.rf _, fun _ _ => rfl, fun _ _ => rfl⟩
    obtain ⟨hm1, hhm1⟩ : ∃ y, y = sFi (sFi (wz hm (sz hx)) 1000 am 0) 1002 am 0 := ⟨_, rfl⟩
    have ef : mf am hm1 = va_up (va_up (mf am (wz hm (sz hx))) 0 0) 2 0 := by rw [hhm1, mf_sFi (k := 2) rfl, mf_sFi (k := 0) rfl]
    have fy : FY am q (wz hm (sz hx)) hm1 := by
      refine ⟨by rw [hhm1]; exact ⟨rfl, rfl, rfl, rfl, rfl, rfl⟩, fun k hk => by rw [ef, va_upN _ _ hk.2.1, va_upN _ _ hk.1], fun k _ => by rw [hhm1]; rfl, fun i _ => by rw [hhm1]; exact ⟨rfl, rfl⟩, fun i _ => by rw [hhm1]; rfl, fun i _ => by rw [hhm1]; exact ⟨rfl, rfl⟩, fun k _ => by rw [hhm1]; rfl, by rw [ef, va_up_same]⟩
    have hMm : SMA q am hm1 := by rw [hhm1]; exact hM
    refine ⟨-1, sFi hx 601 (ad 6 0) 0, hm1, ?_, ?_, by rw [hhm1]; rfl, ad, n, e, pO, fO, q, tm, tx, w, pn, nw, fs, ls, rs, rl, pr, 0, PQ_tape (hPQ (sz hx)) fz fy hMm⟩
    · simp only [m_X8_text, m_X5_clear, aN, kA201, kA202, kA203, kA206, kA306, i1n0, i0n1, i0e0, i1e1, gI, gR, pI, pB, pR, xI, xL, yI, yL, vc, kd_sFi, fr_sFi, ln_sFi, ai_sFi, al_sFi, ar_sFi, cs_sFi, sz_sFi, sz_sAi, kd_sAi, fi_sAi, fr_sAi, ln_sAi, al_sAi, ar_sAi, cs_sAi, kd_wz, fi_wz, fr_wz, ln_wz, ai_wz, al_wz, ar_wz, Option.bind_some, if_true, if_false, Nat.reduceAdd, Nat.reduceMul, reduceIte, and_self, true_and, and_true, hka, f908, z, r903, k6]
    · have f10 : fi (sFi (wz hm (sz hx)) 1000 am 0) 1010 am = nI (n 4 - 1) := by rw [fi_sFi, up2_ne1 _ _ _ _ (by decide)]; exact i10
      have z2 : (nI (n 4 - 1) = 20) = True := eq_true (by rw [h20']; rfl)
      show m_X9_text am (wz hm (sz hx)) = some (-1, hm1)
      rw [hhm1]
      simp only [m_X9_text, aN, kA201, kA202, kA203, kA206, kA306, i1n0, i0n1, i0e0, i1e1, gI, gR, pI, pB, pR, xI, xL, yI, yL, vc, kd_sFi, fr_sFi, ln_sFi, ai_sFi, al_sFi, ar_sFi, cs_sFi, sz_sFi, sz_sAi, kd_sAi, fi_sAi, fr_sAi, ln_sAi, al_sAi, ar_sAi, cs_sAi, kd_wz, fi_wz, fr_wz, ln_wz, ai_wz, al_wz, ar_wz, Option.bind_some, if_true, if_false, Nat.reduceAdd, Nat.reduceMul, reduceIte, and_self, true_and, and_true, hkm, f10, z2]
end OPTEXT
