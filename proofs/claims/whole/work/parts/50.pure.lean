section SEND
variable {ax ao am : Nat} {ad : Nat → Nat → Nat} {n e pO fO q tm : Nat → Nat} {tx : Nat → List (Int32 × List Int32)} {w : Nat} {pn : Nat → Nat} {nw : Nat → Nat → Nat} {fs : Nat → Nat} {ls : Nat → Option Nat} {rs rl pr : Nat → Nat} {tl : Nat} {hx hm : HS}
theorem up2_eq {f : Nat → Nat → Int32} {a b : Nat} {v : Int32} {x y : Nat} (h1 : x = a) (h2 : y = b) : up2 f a b v x y = v := by subst h1; subst h2; exact up2_same _ _ _ _
theorem up3_same {α : Type} (f : Nat → Nat → Nat → α) (a b c : Nat) (v : α) : up3 f a b c v a b c = v := by simp [up3]
theorem up3_ne3 {α : Type} (f : Nat → Nat → Nat → α) (a b c : Nat) (v : α) {x y z : Nat} (h : z ≠ c) : up3 f a b c v x y z = f x y z := by simp [up3, h]
theorem up3_ne2 {α : Type} (f : Nat → Nat → Nat → α) (a b c : Nat) (v : α) {x y z : Nat} (h : y ≠ b) : up3 f a b c v x y z = f x y z := by simp [up3, h]
theorem up3_ne1 {α : Type} (f : Nat → Nat → Nat → α) (a b c : Nat) (v : α) {x y z : Nat} (h : x ≠ a) : up3 f a b c v x y z = f x y z := by simp [up3, h]
theorem RnM_of (hS : SXA ax ao ad n e pO fO hx) (hw : w ≤ 200) (hF : RF n w pn nw (cf ad n hx 200) (cf ad n hx 201) (cf ad n hx 202) (cf ad n hx 204) (cf ad n hx 205) (cf ad n hx 206) (cf ad n hx 207) (cf ad n hx 208) (cv ad n hx 12) (mv q hm 26) (mv q hm 27) (mv q hm 28) (mv q hm 29) (mv q hm 30) (mv q hm 31) (mv q hm 32) (mv q hm 33)) (hC : RC n w pn nw pO fO fs ls rs rl pr (cf ad n hx 102) (cf ad n hx 103) (cf ad n hx 104) (cf ad n hx 105) (cf ad n hx 106) (cf ad n hx 107) (cf ad n hx 108) (cv ad n hx 11) (cv ad n hx 14) (mv q hm 40) (mv q hm 41) (mv q hm 42) (mv q hm 43) (mv q hm 44) (mv q hm 45) (mv q hm 46) (mv q hm 47) (mv q hm 48) (mv q hm 50)) {c : Nat} (hc : c < n 1) : RnM q hm c (fO c) (pn (fO c)) (fs c) (ls c) (nw (fO c)) := by
  have hn := n_le hS
  obtain ⟨⟨d1, d2, d3, d4, d5, d6, d7, d8, d9⟩, -⟩ := hC.1 c hc
  have hf := (crf hS hc).2.2.2.2.2
  obtain ⟨a1, a2, a3, a4, a5, a6, a7, a8, a9, a10, a11, a12, a13, a14, a15⟩ := hF.1 (fO c) hf
  exact ⟨by omega, by omega, by omega, d2, a10, fun k h1 h2 => ⟨(a13 k h1 h2).1, by have := (a13 k h1 h2).2.2; omega⟩, d4, d8, by omega, fun z hz => by have := d9 z hz; omega⟩
theorem op_send (a : Int32) : StI (PP ax am ao) (m_X8_send ax a) (m_X9_send am a) := by
  rintro hx hm ⟨ad, n, e, pO, fO, q, tm, tx, w, pn, nw, fs, ls, rs, rl, pr, tl, hS, hM, hN, hF, hP, hC, hB, hT, hX, hW⟩
  have hka := kax hS
  have hkm : kd hm am = 11 := hM.1
  have hn := n_le hS
  have hI := hS.2.1
  have hq : ∀ k k', q k = q k' → k = k' := hM.2.2
  have hw : w ≤ 200 := hN.1
  have f909 : fi hx 909 ax = nI w := by
    have h1 := hN.2.1
    rw [← cf_at (g := 909) (n := n) (t := 9) (by decide) (by rw [hS.1.2.2.2.2.2.1]; decide), hS.2.2.2.2.1.1] at h1
    exact h1
  have i24 : fi hm 1024 am = nI w := hN.2.2.1
  have h25 : mf am hm 25 = nI (n 2) := hN.2.2.2.1
  have h34 : mf am hm 34 = nI (n 3) := hN.2.2.2.2.1
  have h39 : mf am hm 39 = nI (n 1) := hN.2.2.2.2.2.1
  have r47 : fr hm 1047 am = some (q 47) := (hM.2.1 (47, 202, 12120) (by decide)).1
  have k47 : kd hm (q 47) = 202 := (hM.2.1 (47, 202, 12120) (by decide)).2.1
  have l47 : ln hm (q 47) = 12120 := (hM.2.1 (47, 202, 12120) (by decide)).2.2
  rcases idx a (n 1) (by omega) with ⟨c, hc, rfl⟩ | ho
  · have hRM := RnM_of hS hw hF hC hc
    obtain ⟨k1, k2, k3, k4, k5, -⟩ := kthere hS hc
    have e1 := e_isContract_in (hm := sFi (wz hm (sz hx)) 1000 am 0) hkm h39 (by omega) hc
    obtain ⟨d0, d1, ⟨g2, g3, g4, g5, g6, g7, g8, g9⟩, ⟨t1, t2, t3⟩, -⟩ := hC.1 c hc
    have hrl : rl c ≤ 200 := by
      by_cases h0 : rl c = 0
      · omega
      · have := g8 (by omega)
        have := hRM.2.2.1
        omega
    have f107 : fi hx 107 (ad 1 c) = nI (pr c) := by rw [cf_at (g := 107) (n := n) (t := 1) (by decide) hc]; exact g3
    have e0 : ¬ nI (pr c) < 0 := nI_pos (by omega)
    have hX8 : m_X8_send ax (nI c) hx = (X0_sendAgain_L9 (ad 1 c) FU (nI (pr c)) hx).bind fun q3 => some (q3.1, q3.2) := by
      simp only [m_X8_send, m_X0_sendAgain, hka, e_contractAt_in hS hc, aN, kA201, kA202, kA203, kA206, kA306, i1n0, i0n1, i0e0, i1e1, gI, gR, pI, pB, pR, xI, xL, yI, yL, vc, kd_sFi, fr_sFi, ln_sFi, ai_sFi, al_sFi, ar_sFi, cs_sFi, sz_sFi, sz_sAi, kd_sAi, fi_sAi, fr_sAi, ln_sAi, al_sAi, ar_sAi, cs_sAi, kd_wz, fi_wz, fr_wz, ln_wz, ai_wz, al_wz, ar_wz, Option.bind_some, if_true, if_false, Nat.reduceAdd, Nat.reduceMul, reduceIte, and_self, true_and, and_true, reduceCtorEq, k1, f107, e0]
    have hX9 : m_X9_send am (nI c) (wz hm (sz hx)) = (X9_missing_L2 am FU (nI c) (nI 1) (sFi (wz hm (sz hx)) 1000 am 0)).bind fun q4 => X9_send_b22 am (nI c) q4.1 q4.2 := by
      simp only [m_X9_send, m_X9_missing, aN, kA201, kA202, kA203, kA206, kA306, i1n0, i0n1, i0e0, i1e1, gI, gR, pI, pB, pR, xI, xL, yI, yL, vc, kd_sFi, fr_sFi, ln_sFi, ai_sFi, al_sFi, ar_sFi, cs_sFi, sz_sFi, sz_sAi, kd_sAi, fi_sAi, fr_sAi, ln_sAi, al_sAi, ar_sAi, cs_sAi, kd_wz, fi_wz, fr_wz, ln_wz, ai_wz, al_wz, ar_wz, Option.bind_some, if_true, if_false, Nat.reduceAdd, Nat.reduceMul, reduceIte, and_self, true_and, and_true, hkm, e1]
      rfl
    rcases e_send hS hc g2 hrl (rl c - pr c) (pr c) (by omega) FU (by unfold FU; omega) with ⟨i0, a1, a2, a3, a4, a5⟩ | ⟨a1, a2⟩
    · have hpos := g8 (by omega)
      have hkr : 1 ≤ rs c + i0 ∧ rs c + i0 ≤ pn (fO c) := by omega
      have hgood : rn (fs c) (ls c) (nw (fO c) (rs c + i0)) := (g9 _ hkr.1 hkr.2).mpr (by omega)
      have h47 : mv q hm 47 (202 * c + (rs c + i0)) = 0 := by rw [← (t1 i0 a2).1]; exact a3
      rcases e_missing9 (h := sFi (wz hm (sz hx)) 1000 am 0) hM hRM (pn (fO c)) 1 (by omega) (by omega) FU (by have := hRM.2.2.1; unfold FU; omega) with ⟨k0, b1, b2, b3, b4, b5, b6⟩ | ⟨b1, b2⟩
      · have hk0 : k0 = rs c + i0 := by
          have hin := (g9 k0 b1 b2).mp b3
          have h1 : ¬ rs c + i0 < k0 := fun z => b5 _ hkr.1 z ⟨hgood, h47⟩
          have h2 : ¬ k0 < rs c + i0 := fun z => by
            have h3 := (t1 (k0 - rs c) (by omega)).1
            have e5 : rs c + (k0 - rs c) = k0 := by omega
            rw [e5] at h3
            have h4 : cv ad n hx 11 c (k0 - rs c) = 0 := h3.trans b4
            by_cases h6 : k0 - rs c < pr c
            · rw [t2 _ h6] at h4; exact absurd h4 (by decide)
            · exact a4 _ (by omega) (by omega) h4
          omega
        subst hk0
        have e105 : cf ad n hx 105 c + nI i0 = nI (rs c + i0) := by rw [g6, if_neg (by omega), nI_add]
        have e6 : (202 : Int32) * nI c + nI (rs c + i0) = nI (202 * c + (rs c + i0)) := by rw [← nI_add (202 * c), ← nI_mul]; rfl
        have hpn := hRM.2.2.1
        have cl2 : (nI (202 * c + (rs c + i0))).toNatClampNeg = 202 * c + (rs c + i0) := nI_cl (N := 12120) (by omega) (by omega)
        have ib2 : inB (nI (202 * c + (rs c + i0))) 12120 = true := inB_nI (by omega) (by omega)
        have e7 : ¬ nI (rs c + i0) < 0 := nI_pos (by omega)
        refine ⟨nI (rs c + i0), sAi hx (ad 11 c) i0 1, sAi (sFi (wz hm (sz hx)) 1000 am 0) (q 47) (202 * c + (rs c + i0)) 1, ?_, ?_, rfl, ad, n, e, pO, fO, q, tm, tx, w, pn, nw, fs, ls, rs, rl, pr, tl, ?_⟩
        · rw [hX8, a5, e105]; rfl
        · show m_X9_send am (nI c) (wz hm (sz hx)) = _
          rw [hX9, b6]
          simp only [X9_send_b22, aN, kA201, kA202, kA203, kA206, kA306, i1n0, i0n1, i0e0, i1e1, gI, gR, pI, pB, pR, xI, xL, yI, yL, vc, kd_sFi, fr_sFi, ln_sFi, ai_sFi, al_sFi, ar_sFi, cs_sFi, sz_sFi, sz_sAi, kd_sAi, fi_sAi, fr_sAi, ln_sAi, al_sAi, ar_sAi, cs_sAi, kd_wz, fi_wz, fr_wz, ln_wz, ai_wz, al_wz, ar_wz, Option.bind_some, if_true, if_false, Nat.reduceAdd, Nat.reduceMul, reduceIte, and_self, true_and, and_true, hkm, r47, k47, l47, e7, e6, cl2, ib2, nar_z (Or.inr rfl)]
        · have ev : cv ad n (sAi hx (ad 11 c) i0 1) = up3 (cv ad n hx) 11 c i0 1 := cv_sAi hI k5
          have em : mv q (sAi (sFi (wz hm (sz hx)) 1000 am 0) (q 47) (202 * c + (rs c + i0)) 1) = up2 (mv q hm) 47 (202 * c + (rs c + i0)) 1 := mv_sAi hq
          unfold PQ
          rw [ev, em]
          refine ⟨SXA_sAi (by rw [k3]; decide) hS, hM, hN, hF, hP, ⟨fun c' hc' => ?_, fun c' z1 z2 => ?_⟩, hB, hT, hX, hW⟩
          · obtain ⟨x0, x1, ⟨y2, y3, y4, y5, y6, y7, y8, y9⟩, ⟨u1, u2, u3⟩, u4⟩ := hC.1 c' hc'
            refine ⟨x0, x1, ⟨y2, y3, y4, y5, y6, y7, y8, y9⟩, ⟨fun i hi => ?_, fun i hi => ?_, fun k h1 h2 => ?_⟩, u4⟩
            · have hrm := RnM_of hS hw hF hC hc'
              have hp' := y8 (by omega)
              by_cases hcc : c' = c
              · subst hcc
                by_cases hii : i = i0
                · subst hii
                  rw [up3_same, up2_same]; exact ⟨rfl, Or.inr rfl⟩
                · rw [up3_ne3 _ _ _ _ _ hii, up2_ne2 _ _ _ _ (by omega)]; exact u1 i hi
              · rw [up3_ne2 _ _ _ _ _ hcc, up2_ne2 _ _ _ _ (by have := hrm.2.2.1; omega)]; exact u1 i hi
            · by_cases hcc : c' = c
              · subst hcc
                by_cases hii : i = i0
                · subst hii; exact up3_same _ _ _ _ _
                · rw [up3_ne3 _ _ _ _ _ hii]; exact u2 i hi
              · rw [up3_ne2 _ _ _ _ _ hcc]; exact u2 i hi
            · have : 202 * c' + k ≠ 202 * c + (rs c + i0) := by
                intro z
                have hcc : c' = c := by omega
                subst hcc
                exact h2 (by omega)
              rw [up2_ne2 _ _ _ _ this]; exact u3 k h1 h2
          · obtain ⟨v1, v2, v3, v4, v5⟩ := hC.2 c' z1 z2
            refine ⟨v1, v2, v3, fun k hk => ?_, v5⟩
            rw [up2_ne2 _ _ _ _ (by omega)]; exact v4 k hk
      · exact absurd ⟨hgood, h47⟩ (b1 _ hkr.1 hkr.2)
    · rcases e_missing9 (h := sFi (wz hm (sz hx)) 1000 am 0) hM hRM (pn (fO c)) 1 (by omega) (by omega) FU (by have := hRM.2.2.1; unfold FU; omega) with ⟨k0, b1, b2, b3, b4, b5, b6⟩ | ⟨b1, b2⟩
      · exfalso
        have hin := (g9 k0 b1 b2).mp b3
        have h3 := (t1 (k0 - rs c) (by omega)).1
        have e5 : rs c + (k0 - rs c) = k0 := by omega
        rw [e5] at h3
        have h4 : cv ad n hx 11 c (k0 - rs c) = 0 := h3.trans b4
        by_cases h6 : k0 - rs c < pr c
        · rw [t2 _ h6] at h4; exact absurd h4 (by decide)
        · exact a1 _ (by omega) (by omega) h4
      · refine ⟨-1, hx, sFi (wz hm (sz hx)) 1000 am 0, ?_, ?_, rfl, ad, n, e, pO, fO, q, tm, tx, w, pn, nw, fs, ls, rs, rl, pr, tl, hS, hM, hN, hF, hP, hC, hB, hT, hX, hW⟩
        · rw [hX8, a2]; rfl
        · rw [hX9, b2]
          have e7 : (-1 : Int32) < 0 := by decide
          simp only [X9_send_b22, Option.bind_some, e7, if_true]
  · refine ⟨-1, hx, sFi (wz hm (sz hx)) 1000 am 0, ?_, ?_, rfl, ad, n, e, pO, fO, q, tm, tx, w, pn, nw, fs, ls, rs, rl, pr, tl, hS, hM, hN, hF, hP, hC, hB, hT, hX, hW⟩
    · simp only [m_X8_send, hka, e_contractAt_out hS ho, aN, kA201, kA202, kA203, kA206, kA306, i1n0, i0n1, i0e0, i1e1, gI, gR, pI, pB, pR, xI, xL, yI, yL, vc, kd_sFi, fr_sFi, ln_sFi, ai_sFi, al_sFi, ar_sFi, cs_sFi, sz_sFi, sz_sAi, kd_sAi, fi_sAi, fr_sAi, ln_sAi, al_sAi, ar_sAi, cs_sAi, kd_wz, fi_wz, fr_wz, ln_wz, ai_wz, al_wz, ar_wz, Option.bind_some, if_true, if_false, Nat.reduceAdd, Nat.reduceMul, reduceIte, and_self, true_and, and_true]
    · have := e_isContract_out (hm := sFi (wz hm (sz hx)) 1000 am 0) hkm h39 ho
      have e7 : ((-1 : Int32) < 0) = True := eq_true (by decide)
      simp only [m_X9_send, X9_send_b22, aN, kA201, kA202, kA203, kA206, kA306, i1n0, i0n1, i0e0, i1e1, gI, gR, pI, pB, pR, xI, xL, yI, yL, vc, kd_sFi, fr_sFi, ln_sFi, ai_sFi, al_sFi, ar_sFi, cs_sFi, sz_sFi, sz_sAi, kd_sAi, fi_sAi, fr_sAi, ln_sAi, al_sAi, ar_sAi, cs_sAi, kd_wz, fi_wz, fr_wz, ln_wz, ai_wz, al_wz, ar_wz, Option.bind_some, if_true, if_false, Nat.reduceAdd, Nat.reduceMul, reduceIte, and_self, true_and, and_true, hkm, this, e7]
end SEND
