/-! a text, side by side -/
section TEXT
variable {ax ao am : Nat} {ad : Nat → Nat → Nat} {n e pO fO q tm : Nat → Nat} {tx : Nat → List (Int32 × List Int32)} {w : Nat} {pn : Nat → Nat} {nw : Nat → Nat → Nat} {fs : Nat → Nat} {ls : Nat → Option Nat} {rs rl pr : Nat → Nat} {tl : Nat} {hx hm : HS}
theorem text_loop {K P : Nat → Int32} {T : Nat} : ∀ (r : Nat) (Ls : List (Int32 × List Int32)) (A : Nat) (hx hm : HS), SXA ax ao ad n e pO fO hx → TX ad n K P T hx → SMA q am hm → TM q K P T hm → LR am ad n q K T Ls A hx hm → Ls.length + r = 17 → ∀ F, r < F → ∀ F', r < F' → ∃ f hx' hm', X6_read_L34 (ad 7 0) F (nI Ls.length) hx = some (f, hx') ∧ X9_text_L38 am F' hm = X9_text_b64 am hm' ∧ FL ax ao ad n e pO fO hx hx' ∧ F9 am q hm hm' ∧ mf am hm' 8 = f ∧ (f = 0 → ∃ Ls' A', LR am ad n q K T Ls' A' hx' hm') := by
  intro r
  induction r with
  | zero =>
    intro Ls A hx hm hS hT hM hTm hL hr F hF F' hF'
    have := hL.2.2.1.2.2.2
    omega
  | succ r ih =>
    intro Ls A hx hm hS hT hM hTm hL hr F hF F' hF'
    obtain ⟨F, rfl⟩ := nF1 (x := r + 1) hF
    obtain ⟨F', rfl⟩ := nF1 (x := r + 1) hF'
    obtain ⟨⟨hP, hC, h705⟩, ⟨h7, h8, hCm, h12⟩, ⟨hA, hCA, hCA3, hL16⟩, hok, hln⟩ := id hL
    have hT6 := hT.1
    have k7 := (ktok hS).2.2.2.2.2.1
    have hkm : kd hm am = 11 := hM.1
    have f704 : fi hx 704 (ad 7 0) = K A := (f7 hS (by decide)).trans hP.2.1
    have f706 : fi hx 706 (ad 7 0) = 0 := (f7 hS (by decide)).trans hP.2.2
    have f7m : fi hm 1007 am = nI A := h7
    have f8m : fi hm 1008 am = 0 := h8
    have r4 : fr hm 1004 am = some (q 4) := (hM.2.1 (4, 201, 602) (by decide)).1
    have k4 : kd hm (q 4) = 201 := (hM.2.1 (4, 201, 602) (by decide)).2.1
    have l4 : ln hm (q 4) = 602 := (hM.2.1 (4, 201, 602) (by decide)).2.2
    have cl : (nI A).toNatClampNeg = A := nI_cl (N := 602) (by omega) (by omega)
    have ib : inB (nI A) 602 = true := inB_nI (by omega) (by omega)
    have v4 : ai hm (q 4) A = mv q hm 4 A := rfl
    have z16 : ¬ (16 : Int32) < nI Ls.length := fun z => by have := (nI_ltI (a := 16) (by omega) (by omega)).mp z; omega
    have t0 := (hTm.2.1 A hA).1.2.1
    by_cases hk : K A = 10025
    · have h40 : mv q hm 4 A = 0 := t0.mpr hk
      refine ⟨0, hx, hm, ?_, ?_, FL.rf hS, F9.rf _, h8, fun _ => ⟨Ls, A, hL⟩⟩
      · conv => lhs; unfold X6_read_L34
        rw [hk] at f704
        simp only [X6_read_b67, aN, kA201, kA202, kA203, kA206, kA306, i1n0, i0n1, i0e0, i1e1, gI, gR, pI, pB, pR, xI, xL, yI, yL, vc, kd_sFi, fr_sFi, ln_sFi, ai_sFi, al_sFi, ar_sFi, cs_sFi, sz_sFi, sz_sAi, kd_sAi, fi_sAi, fr_sAi, ln_sAi, al_sAi, ar_sAi, cs_sAi, kd_wz, fi_wz, fr_wz, ln_wz, ai_wz, al_wz, ar_wz, Option.bind_some, if_true, if_false, Nat.reduceAdd, Nat.reduceMul, reduceIte, and_self, true_and, and_true, z16, k7, f706, f704]
      · conv => lhs; unfold X9_text_L38
        simp only [aN, kA201, kA202, kA203, kA206, kA306, i1n0, i0n1, i0e0, i1e1, gI, gR, pI, pB, pR, xI, xL, yI, yL, vc, kd_sFi, fr_sFi, ln_sFi, ai_sFi, al_sFi, ar_sFi, cs_sFi, sz_sFi, sz_sAi, kd_sAi, fi_sAi, fr_sAi, ln_sAi, al_sAi, ar_sAi, cs_sAi, kd_wz, fi_wz, fr_wz, ln_wz, ai_wz, al_wz, ar_wz, Option.bind_some, if_true, if_false, Nat.reduceAdd, Nat.reduceMul, reduceIte, and_self, true_and, and_true, hkm, f8m, f7m, r4, k4, l4, cl, ib, v4, h40]
    · have h40 : (mv q hm 4 A = 0) = False := eq_false fun z => hk (t0.mp z)
      obtain ⟨hx1, hm1, a1, a2, a3, a4, a5⟩ := line_sim hS hT hM hTm hL
      have e7 : nI Ls.length + 1 = nI (Ls.length + 1) := nI_add _ 1
      have cX : X6_read_L34 (ad 7 0) (F + 1) (nI Ls.length) hx = X6_read_L34 (ad 7 0) F (nI (Ls.length + 1)) hx1 := by
        conv => lhs; unfold X6_read_L34
        simp only [aN, kA201, kA202, kA203, kA206, kA306, i1n0, i0n1, i0e0, i1e1, gI, gR, pI, pB, pR, xI, xL, yI, yL, vc, kd_sFi, fr_sFi, ln_sFi, ai_sFi, al_sFi, ar_sFi, cs_sFi, sz_sFi, sz_sAi, kd_sAi, fi_sAi, fr_sAi, ln_sAi, al_sAi, ar_sAi, cs_sAi, kd_wz, fi_wz, fr_wz, ln_wz, ai_wz, al_wz, ar_wz, Option.bind_some, if_true, if_false, Nat.reduceAdd, Nat.reduceMul, reduceIte, and_self, true_and, and_true, z16, k7, f706, f704, hk, a1, e7]
      have cM : X9_text_L38 am (F' + 1) hm = X9_text_L38 am F' hm1 := by
        conv => lhs; unfold X9_text_L38
        simp only [aN, kA201, kA202, kA203, kA206, kA306, i1n0, i0n1, i0e0, i1e1, gI, gR, pI, pB, pR, xI, xL, yI, yL, vc, kd_sFi, fr_sFi, ln_sFi, ai_sFi, al_sFi, ar_sFi, cs_sFi, sz_sFi, sz_sAi, kd_sAi, fi_sAi, fr_sAi, ln_sAi, al_sAi, ar_sAi, cs_sAi, kd_wz, fi_wz, fr_wz, ln_wz, ai_wz, al_wz, ar_wz, Option.bind_some, if_true, if_false, Nat.reduceAdd, Nat.reduceMul, reduceIte, and_self, true_and, and_true, hkm, f8m, f7m, r4, k4, l4, cl, ib, v4, h40, a2]
      have hM1 := SMA_same a4.1 hM
      rcases a5 with ⟨A', rr, es, b1, b2⟩ | ⟨f, b1, b2⟩
      · have hlen : (Ls ++ [(rr, es)]).length = Ls.length + 1 := by rw [List.length_append]; rfl
        obtain ⟨f, hx', hm', o1, o2, o3, o4, o5⟩ := ih (Ls ++ [(rr, es)]) A' hx1 hm1 a3.1 (hT.frl a3) hM1 (hTm.frl a4) b1 (by omega) F (by omega) F' (by omega)
        rw [hlen] at o1
        exact ⟨f, hx', hm', cX.trans o1, cM.trans o2, a3.tr o3, a4.tr o4, o5⟩
      · obtain ⟨F, rfl⟩ := nF1 (x := 0) (N := F) (by omega)
        obtain ⟨F', rfl⟩ := nF1 (x := 0) (N := F') (by omega)
        have k71 := (ktok a3.1).2.2.2.2.2.1
        have f7061 : fi hx1 706 (ad 7 0) = f := (f7 a3.1 (by decide)).trans b1.1
        have z : (f = 0) = False := eq_false b1.2.1
        have hkm1 : kd hm1 am = 11 := hM1.1
        have f81 : fi hm1 1008 am = f := b2
        refine ⟨f, hx1, hm1, ?_, ?_, a3, a4, b2, fun y => absurd y b1.2.1⟩
        · rw [cX]
          conv => lhs; unfold X6_read_L34
          by_cases hi : (16 : Int32) < nI (Ls.length + 1)
          · simp only [X6_read_b67, aN, kA201, kA202, kA203, kA206, kA306, i1n0, i0n1, i0e0, i1e1, gI, gR, pI, pB, pR, xI, xL, yI, yL, vc, kd_sFi, fr_sFi, ln_sFi, ai_sFi, al_sFi, ar_sFi, cs_sFi, sz_sFi, sz_sAi, kd_sAi, fi_sAi, fr_sAi, ln_sAi, al_sAi, ar_sAi, cs_sAi, kd_wz, fi_wz, fr_wz, ln_wz, ai_wz, al_wz, ar_wz, Option.bind_some, if_true, if_false, Nat.reduceAdd, Nat.reduceMul, reduceIte, and_self, true_and, and_true, hi, k71, f7061]
          · simp only [X6_read_b67, aN, kA201, kA202, kA203, kA206, kA306, i1n0, i0n1, i0e0, i1e1, gI, gR, pI, pB, pR, xI, xL, yI, yL, vc, kd_sFi, fr_sFi, ln_sFi, ai_sFi, al_sFi, ar_sFi, cs_sFi, sz_sFi, sz_sAi, kd_sAi, fi_sAi, fr_sAi, ln_sAi, al_sAi, ar_sAi, cs_sAi, kd_wz, fi_wz, fr_wz, ln_wz, ai_wz, al_wz, ar_wz, Option.bind_some, if_true, if_false, Nat.reduceAdd, Nat.reduceMul, reduceIte, and_self, true_and, and_true, hi, k71, f7061, z]
        · rw [cM]
          conv => lhs; unfold X9_text_L38
          simp only [aN, kA201, kA202, kA203, kA206, kA306, i1n0, i0n1, i0e0, i1e1, gI, gR, pI, pB, pR, xI, xL, yI, yL, vc, kd_sFi, fr_sFi, ln_sFi, ai_sFi, al_sFi, ar_sFi, cs_sFi, sz_sFi, sz_sAi, kd_sAi, fi_sAi, fr_sAi, ln_sAi, al_sAi, ar_sAi, cs_sAi, kd_wz, fi_wz, fr_wz, ln_wz, ai_wz, al_wz, ar_wz, Option.bind_some, if_true, if_false, Nat.reduceAdd, Nat.reduceMul, reduceIte, and_self, true_and, and_true, hkm1, f81, z]
def FZ (ax ao : Nat) (ad : Nat → Nat → Nat) (n e pO fO : Nat → Nat) (h h' : HS) : Prop := SXA ax ao ad n e pO fO h' ∧ SameS h h' ∧ (∀ g, (g ≠ 702 ∧ g ≠ 703 ∧ g ≠ 704 ∧ g ≠ 705 ∧ g ≠ 706 ∧ g ≠ 802) → cf ad n h' g = cf ad n h g) ∧ ∀ t, (t ≠ 17 ∧ t ≠ 18 ∧ t ≠ 19) → cv ad n h' t = cv ad n h t
def FY (am : Nat) (q : Nat → Nat) (h h' : HS) : Prop := (kd h' = kd h ∧ fr h' = fr h ∧ ln h' = ln h ∧ ar h' = ar h ∧ sz h' = sz h ∧ cs h' = cs h) ∧ (∀ k, (k ≠ 0 ∧ k ≠ 2 ∧ k ≠ 3 ∧ k ≠ 7 ∧ k ≠ 8 ∧ k ≠ 17 ∧ k ≠ 18) → mf am h' k = mf am h k) ∧ (∀ k, (k ≠ 4 ∧ k ≠ 5 ∧ k ≠ 12 ∧ k ≠ 13 ∧ k ≠ 14 ∧ k ≠ 15 ∧ k ≠ 16 ∧ k ≠ 19 ∧ k ≠ 20 ∧ k ≠ 21) → mv q h' k = mv q h k) ∧ (∀ i, i < 13200 → mv q h' 15 i = mv q h 15 i ∧ mv q h' 16 i = mv q h 16 i) ∧ (∀ i, i < 20 → mv q h' 12 i = mv q h 12 i) ∧ (∀ i, i < 320 → mv q h' 13 i = mv q h 13 i ∧ mv q h' 14 i = mv q h 14 i) ∧ (∀ k, k ≠ 6 → ml q h' k = ml q h k) ∧ mf am h' 2 = 0
theorem text_sim (hPQ : PQ ax am ao ad n e pO fO q tm tx w pn nw fs ls rs rl pr tl hx hm) (h20 : n 4 - 1 < 20) : ∃ f hx' hm', m_X6_read (ad 7 0) (some (ad 6 0)) hx = some (f, hx') ∧ m_X9_text am hm = X9_text_b64 am hm' ∧ FZ ax ao ad n e pO fO hx hx' ∧ FY am q hm hm' ∧ SMA q am hm' ∧ mf am hm' 8 = f ∧ (f = 0 → ∃ K T Ls A, LR am ad n q K T Ls A hx' hm' ∧ T ≤ 600) := by
  obtain ⟨hS, hM, hN, hF, hP, hC, hB, hTt, hX, hW⟩ := hPQ
  have hn := n_le hS
  have hkm : kd hm am = 11 := hM.1
  have hka := kax hS
  obtain ⟨n7, n8, n17, n18, n19, k7, k8, r700, -⟩ := ktok hS
  obtain ⟨t1, t2, t3, t4⟩ := hTt
  -- the signs as numbers
  have hsg : ∀ i, ∃ x : Nat, i < tl → mv q hm 1 i = nI x ∧ x ≤ 126 := fun i => by
    by_cases hi : i < tl
    · rcases (t4 i hi).2 with h | ⟨h1, h2⟩
      · exact ⟨10, fun _ => ⟨h, by omega⟩⟩
      · obtain ⟨j, hj, hje⟩ := nI_of (x := mv q hm 1 i) (fun z => by have := Int32.lt_of_lt_of_le z (Int32.le_trans (show (0 : Int32) ≤ 32 by decide) h1); exact absurd this (Int32.lt_irrefl))
        refine ⟨j, fun _ => ⟨hje, ?_⟩⟩
        rw [hje] at h2
        exact Nat.not_lt.mp fun z => absurd h2 (nI_ge (a := 126) z hj)
    · exact ⟨0, fun z => absurd z hi⟩
  obtain ⟨sg, hsg⟩ := Classical.axiomOfChoice hsg
  -- the class's tokens are cleared
  obtain ⟨hx1, hhx1⟩ : ∃ z, z = sFi hx 802 (ad 8 0) 0 := ⟨_, rfl⟩
  have hS1 : SXA ax ao ad n e pO fO hx1 := by rw [hhx1]; exact SXA_sFi (by decide) (by decide) hS
  have c1 : cf ad n hx1 = up2 (cf ad n hx) 802 0 0 := by rw [hhx1]; exact cf_sFi hS.2.1 (t := 8) (by decide) n8
  have v1 : cv ad n hx1 = cv ad n hx := by rw [hhx1]; rfl
  have sm1 : SameS hx hx1 := by rw [hhx1]; exact ⟨rfl, rfl, rfl, rfl, rfl, rfl, rfl⟩
  have fr1 : FrT ax ao ad n e pO fO hx hx1 := ⟨hS1, sm1, fun g hg => by rw [c1, up2_ne1' hg], fun t _ => by rw [v1]⟩
  have hTx1 : TpX ad n sg tl hx1 := ⟨t1, by rw [fr1.2.2.1 601 (by decide)]; exact t2, fun i hi => by rw [v1]; exact ⟨(t4 i hi).1.trans (hsg i hi).1, (hsg i hi).2⟩⟩
  -- the reference's tape is taken
  obtain ⟨hm1, hhm1⟩ : ∃ z, z = sFi (sFi (sFi hm 1000 am 0) 1003 am (nI tl)) 1002 am 0 := ⟨_, rfl⟩
  have hM1 : SMA q am hm1 := by rw [hhm1]; exact hM
  have ef : mf am hm1 = va_up (va_up (va_up (mf am hm) 0 0) 3 (nI tl)) 2 0 := by
    rw [hhm1, mf_sFi (k := 2) rfl, mf_sFi (k := 3) rfl, mf_sFi (k := 0) rfl]
  have emv : mv q hm1 = mv q hm := by rw [hhm1]; rfl
  have eml : ml q hm1 = ml q hm := by rw [hhm1]; rfl
  have hT91 : Tp9 am q sg tl hm1 := ⟨t1, by rw [ef, va_upN _ _ (by decide), va_up_same], fun i hi => by rw [emv]; exact hsg i hi⟩
  obtain ⟨T, hx2, hm2, a1, a2, a3, a4, a5, a6, a7, a8, a9, a10⟩ := scan_sim (sg := sg) (tl := tl) tl 0 0 0 hx1 hm1 (by omega) (Nat.zero_le _) (Nat.le_refl _) (Nat.le_refl _) hS1 hTx1 hM1 hT91 (by rw [c1, up2_same]; rfl) (fun i hi => absurd hi (by omega)) FU (by unfold FU; omega) FU (by unfold FU; omega)
  obtain ⟨K, hK⟩ : ∃ K, K = cv ad n hx2 17 0 := ⟨_, rfl⟩
  obtain ⟨P, hPp⟩ : ∃ P, P = cv ad n hx2 18 0 := ⟨_, rfl⟩
  have hTX2 : TX ad n K P T hx2 := ⟨by omega, a6, fun i _ => ⟨by rw [hK], by rw [hPp]⟩, by rw [hK]; exact a8⟩
  obtain ⟨⟨e1, e2, e3, e4, e5, e6⟩, e7, e8, e9⟩ := a5
  have hM2 : SMA q am hm2 := by unfold SMA; rw [e1, e2, e3]; exact hM1
  have hTM2 : TM q K P T hm2 := ⟨by omega, fun i hi => by rw [hK, hPp]; exact a7 i (by omega), by rw [e9 9 (by decide), eml]; exact hW⟩
  -- the reader's fields are set
  have n70 : 0 < n 7 := n7
  have st : ∀ (h : HS) (g : Nat) (x : Int32), (g = 702 ∨ g = 703 ∨ g = 704 ∨ g = 705 ∨ g = 706) → SXA ax ao ad n e pO fO h → FL ax ao ad n e pO fO h (sFi h g (ad 7 0) x) ∧ cf ad n (sFi h g (ad 7 0) x) = up2 (cf ad n h) g 0 x := fun h g x hg hS' => by
    have e1 : cf ad n (sFi h g (ad 7 0) x) = up2 (cf ad n h) g 0 x := cf_sFi hS'.2.1 (t := 7) (by omega) n70
    exact ⟨⟨SXA_sFi (by omega) (by omega) hS', ⟨rfl, rfl, rfl, rfl, rfl, rfl, rfl⟩, fun g' hg' => by rw [e1, up2_ne1' (by omega)], fun _ _ => rfl⟩, e1⟩
  obtain ⟨s1, s1c⟩ := st hx2 702 0 (by decide) a4.1
  obtain ⟨s2, s2c⟩ := st _ 705 0 (by decide) s1.1
  obtain ⟨s3, s3c⟩ := st _ 706 0 (by decide) s2.1
  obtain ⟨s4, s4c⟩ := st _ 703 (-1) (by decide) s3.1
  obtain ⟨hx3, hhx3⟩ : ∃ z, z = sFi (sFi (sFi (sFi hx2 702 (ad 7 0) 0) 705 (ad 7 0) 0) 706 (ad 7 0) 0) 703 (ad 7 0) (-1) := ⟨_, rfl⟩
  have fl3 : FL ax ao ad n e pO fO hx2 hx3 := by rw [hhx3]; exact ((s1.tr s2).tr s3).tr s4
  have c3 : cf ad n hx3 = up2 (up2 (up2 (up2 (cf ad n hx2) 702 0 0) 705 0 0) 706 0 0) 703 0 (-1) := by rw [hhx3, s4c, s3c, s2c, s1c]
  have g703 : cf ad n hx3 703 0 = -1 := by rw [c3, up2_same]
  have g706 : cf ad n hx3 706 0 = 0 := by rw [c3, up2_ne1 _ _ _ _ (by decide), up2_same]
  have g705 : cf ad n hx3 705 0 = 0 := by rw [c3, up2_ne1 _ _ _ _ (by decide), up2_ne1 _ _ _ _ (by decide), up2_same]
  have g702 : cf ad n hx3 702 0 = 0 := by rw [c3, up2_ne1 _ _ _ _ (by decide), up2_ne1 _ _ _ _ (by decide), up2_ne1 _ _ _ _ (by decide), up2_same]
  have hTX3 := hTX2.frl fl3
  obtain ⟨hx4, b1, b2, b3, b4⟩ := x_go fl3.1 hTX3 (B := 0) (by rw [g703]; decide) (Nat.zero_le _)
  rw [g706] at b3
  have hTX4 := hTX3.fr b2
  -- the reference's draft is emptied
  obtain ⟨w1, w2, w3⟩ := F9_w hM2 (k := 12) (j := 20) (Or.inl ⟨rfl, Nat.le_refl _⟩) 0
  obtain ⟨p1, p2, p3⟩ := FM_s (am := am) (q := q) (h := sAi hm2 (q 12) 20 0) (k := 17) (by decide) 0
  obtain ⟨hm3, hhm3⟩ : ∃ z, z = sFi (sAi hm2 (q 12) 20 0) 1017 am 0 := ⟨_, rfl⟩
  have hM3 : SMA q am hm3 := by rw [hhm3]; exact hM2
  have f93 : F9 am q hm2 hm3 := by rw [hhm3]; exact w1.tr p1.l
  have hLR : LR am ad n q K T [] 0 hx4 hm3 := by
    refine ⟨⟨b3, b4 [] ⟨g702, fun j hj => absurd hj (by simp)⟩, ?_⟩, ⟨?_, ?_, ⟨?_, fun j hj => absurd hj (by simp [flat])⟩, ?_⟩, ⟨Nat.zero_le _, Nat.le_refl _, fun z => absurd z (by simp), by simp⟩, fun p hp => absurd hp (by simp), fun k hk => absurd hk (by simp)⟩
    · rw [b2.2.2.1 705 (by decide)]; exact g705
    · rw [hhm3, p3 7 (by decide)]; exact a9
    · rw [hhm3, p3 8 (by decide)]; exact a10
    · rw [hhm3]; exact p2
    · rw [hhm3]
      show mv q (sAi hm2 (q 12) 20 0) 12 20 = 0
      rw [w2, va_up_same]
  obtain ⟨f, hx', hm', o1, o2, o3, o4, o5, o6⟩ := text_loop 17 [] 0 hx4 hm3 b2.1 hTX4 hM3 (hTM2.frl f93) hLR rfl FU (by unfold FU; omega) FU (by unfold FU; omega)
  have flz : FL ax ao ad n e pO fO hx2 hx' := (fl3.tr b2.l).tr o3
  have f94 : F9 am q hm2 hm' := f93.tr o4
  refine ⟨f, hx', hm', ?_, ?_, ⟨flz.1, (sm1.tr a4.2.1).tr flz.2.1, fun g hg => ?_, fun t ht => ?_⟩, ⟨⟨?_, ?_, ?_, ?_, ?_, ?_⟩, fun k hk => ?_, fun k hk => ?_, fun i hi => ?_, fun i hi => ?_, fun i hi => ?_, fun k hk => ?_, ?_⟩, SMA_same f94.1 hM2, o5, fun hz => ?_⟩
  · have k8' : kd hx (ad 8 0) = 9 := k8
    have a1' : X7_scan_L9 (ad 8 0) FU (some (ad 6 0)) 0 0 hx1 = some hx2 := a1
    rw [hhx1] at a1'
    have k72 : kd hx2 (ad 7 0) = 8 := (ktok a4.1).2.2.2.2.2.1
    have k73 : kd hx3 (ad 7 0) = 8 := (ktok fl3.1).2.2.2.2.2.1
    rw [hhx3] at b1 k73
    have o1' : X6_read_L34 (ad 7 0) FU 0 hx4 = some (f, hx') := o1
    simp only [m_X6_read, m_X7_scan, aN, kA201, kA202, kA203, kA206, kA306, i1n0, i0n1, i0e0, i1e1, gI, gR, pI, pB, pR, xI, xL, yI, yL, vc, kd_sFi, fr_sFi, ln_sFi, ai_sFi, al_sFi, ar_sFi, cs_sFi, sz_sFi, sz_sAi, kd_sAi, fi_sAi, fr_sAi, ln_sAi, al_sAi, ar_sAi, cs_sAi, kd_wz, fi_wz, fr_wz, ln_wz, ai_wz, al_wz, ar_wz, Option.bind_some, if_true, if_false, Nat.reduceAdd, Nat.reduceMul, reduceIte, and_self, true_and, and_true, k7, r700, k8', a1', k72, b1, o1']
  · have f2 : fi (sFi hm 1000 am 0) 1002 am = nI tl := by rw [fi_sFi, up2_ne1 _ _ _ _ (by decide)]; exact t3
    have f10 : fi (sFi hm 1000 am 0) 1010 am = nI (n 4 - 1) := by rw [fi_sFi, up2_ne1 _ _ _ _ (by decide)]; exact hN.2.2.2.2.2.2.2.1
    have z20 : (nI (n 4 - 1) = 20) = False := eq_false fun z => by have := (nI_eq (b := 20) (by omega) (by omega)).mp z; omega
    have a2' : X9_cutAll_L17 am FU 0 0 hm1 = some hm2 := a2
    rw [hhm1] at a2'
    have hkm2 : kd hm2 am = 11 := hM2.1
    have r12 : fr hm2 1012 am = some (q 12) := (hM2.2.1 (12, 201, 21) (by decide)).1
    have k12 : kd hm2 (q 12) = 201 := (hM2.2.1 (12, 201, 21) (by decide)).2.1
    have l12 : ln hm2 (q 12) = 21 := (hM2.2.1 (12, 201, 21) (by decide)).2.2
    have b20 : inB 20 21 = true := by decide
    have c20 : (20 : Int32).toNatClampNeg = 20 := by decide
    rw [← o2, hhm3]
    simp only [m_X9_text, m_X9_cutAll, aN, kA201, kA202, kA203, kA206, kA306, i1n0, i0n1, i0e0, i1e1, gI, gR, pI, pB, pR, xI, xL, yI, yL, vc, kd_sFi, fr_sFi, ln_sFi, ai_sFi, al_sFi, ar_sFi, cs_sFi, sz_sFi, sz_sAi, kd_sAi, fi_sAi, fr_sAi, ln_sAi, al_sAi, ar_sAi, cs_sAi, kd_wz, fi_wz, fr_wz, ln_wz, ai_wz, al_wz, ar_wz, Option.bind_some, if_true, if_false, Nat.reduceAdd, Nat.reduceMul, reduceIte, and_self, true_and, and_true, hkm, f10, z20, f2, a2', hkm2, r12, k12, l12, b20, c20, nar_i32]
  · rw [flz.2.2.1 g ⟨hg.1, hg.2.1, hg.2.2.1, hg.2.2.2.1, hg.2.2.2.2.1⟩, a4.2.2.1 g hg.2.2.2.2.2, fr1.2.2.1 g hg.2.2.2.2.2]
  · rw [flz.2.2.2 t ht.2.2, a4.2.2.2 t ⟨ht.1, ht.2.1⟩, v1]
  · rw [f94.1.1, e1, hhm1]; rfl
  · rw [f94.1.2.1, e2, hhm1]; rfl
  · rw [f94.1.2.2.1, e3, hhm1]; rfl
  · rw [f94.1.2.2.2.2.1, e4, hhm1]; rfl
  · rw [f94.1.2.2.2.2.2.1, e5, hhm1]; rfl
  · rw [f94.1.2.2.2.2.2.2, e6, hhm1]; rfl
  · rw [f94.2.1 k ⟨hk.2.2.2.1, hk.2.2.2.2.1, hk.2.2.2.2.2.1, hk.2.2.2.2.2.2⟩, e7 k ⟨hk.2.2.2.1, hk.2.2.2.2.1⟩, ef, va_upN _ _ hk.2.1, va_upN _ _ hk.2.2.1, va_upN _ _ hk.1]
  · rw [f94.2.2.1 k ⟨hk.2.2.1, hk.2.2.2.1, hk.2.2.2.2.1, hk.2.2.2.2.2.1, hk.2.2.2.2.2.2.1, hk.2.2.2.2.2.2.2⟩, e8 k ⟨hk.1, hk.2.1⟩, emv]
  · obtain ⟨y1, y2⟩ := f94.2.2.2.1 i hi
    exact ⟨by rw [y1, e8 15 (by decide), emv], by rw [y2, e8 16 (by decide), emv]⟩
  · rw [f94.2.2.2.2.1 i hi, e8 12 (by decide), emv]
  · obtain ⟨y1, y2⟩ := f94.2.2.2.2.2 i hi
    exact ⟨by rw [y1, e8 13 (by decide), emv], by rw [y2, e8 14 (by decide), emv]⟩
  · rw [congrFun (ml_same f94.1) k, e9 k hk, eml]
  · rw [f94.2.1 2 (by decide), e7 2 (by decide), ef, va_up_same]
  · obtain ⟨Ls', A', hl⟩ := o6 hz
    exact ⟨K, T, Ls', A', hl, by omega⟩
end TEXT
