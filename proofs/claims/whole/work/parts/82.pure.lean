/-! a month ends -/
section MON
variable {ax ao am : Nat} {ad : Nat → Nat → Nat} {n e pO fO q tm : Nat → Nat} {tx : Nat → List (Int32 × List Int32)} {w : Nat} {pn : Nat → Nat} {nw : Nat → Nat → Nat} {fs : Nat → Nat} {ls : Nat → Option Nat} {rs rl pr : Nat → Nat} {tl : Nat} {hx hm : HS}
theorem ar_sAr (h : HS) (a i : Nat) (x : Option Nat) : ar (sAr h a i x) = up2 (ar h) a i x := rfl
theorem SXA_22 {h : HS} (hS : SXA ax ao ad n e pO fO h) (m : Nat) (x : Option Nat) : SXA ax ao ad n e pO fO (sAr h (ad 22 0) m x) := by
  have k22 := (kmon hS).2.1
  obtain ⟨s1, s2, s3, s4, s5, ⟨l1, l2, l3, l4⟩, s7⟩ := hS
  have go : ∀ l c, LX ad n e (kd h) (fi h 2) (fr h 1) (ln h) (ar h) (sz h) (cs h 0) l c → LX ad n e (kd h) (fi h 2) (fr h 1) (ln h) (up2 (ar h) (ad 22 0) m x) (sz h) (cs h 0) l c := by
    rintro l c ⟨a1, a2, a3, a4, a5⟩
    refine ⟨a1, a2, fun j hj => ?_, a4, a5⟩
    rcases a5 with ⟨b1, -⟩ | ⟨b1, -⟩
    · omega
    · rw [up2_ne1 _ _ _ _ (fun z => by rw [z, k22] at b1; exact absurd b1 (by decide))]
      exact a3 j hj
  exact ⟨s1, s2, s3, s4, s5, ⟨go _ _ l1, go _ _ l2, go _ _ l3, l4⟩, s7⟩
theorem w_soldL {m : Nat} (hm5 : m < 51) (hn3 : n 3 ≤ 20) : ∀ (k p : Nat) (h : HS), SMA q am h → mf am h 34 = nI (n 3) → p + k = n 3 → ∀ F, k < F → ∃ h', X9_bills_L12 am F (nI m) (nI p) h = X9_bills_L45 am FU (nI m) 0 h' ∧ SameS h h' ∧ fi h' = fi h ∧ (∀ k, k ≠ 38 → mv q h' k = mv q h k) ∧ (∀ p', p ≤ p' → p' < n 3 → mv q h' 38 (51 * p' + m) = mv q h 37 p') ∧ ∀ x, (∀ p', p ≤ p' → p' < n 3 → x ≠ 51 * p' + m) → mv q h' 38 x = mv q h 38 x := by
  intro k
  induction k with
  | zero =>
    intro p h hM h34 hpk F hF
    obtain ⟨F, rfl⟩ := nF1 hF
    have hkm : kd h am = 11 := hM.1
    have f34 : fi h 1034 am = nI (n 3) := h34
    have e1 : nI (n 3) ≤ nI p := by rw [← hpk]; exact Int32.le_refl _
    refine ⟨h, ?_, SameS.rf h, rfl, fun _ _ => rfl, fun p' h1 h2 => by omega, fun _ _ => rfl⟩
    conv => lhs; unfold X9_bills_L12
    simp only [aN, kA201, kA202, kA203, kA206, kA306, i1n0, i0n1, i0e0, i1e1, gI, gR, pI, pB, pR, xI, xL, yI, yL, vc, kd_sFi, fr_sFi, ln_sFi, ai_sFi, al_sFi, ar_sFi, cs_sFi, sz_sFi, sz_sAi, kd_sAi, fi_sAi, fr_sAi, ln_sAi, al_sAi, ar_sAi, cs_sAi, kd_wz, fi_wz, fr_wz, ln_wz, ai_wz, al_wz, ar_wz, Option.bind_some, if_true, if_false, Nat.reduceAdd, Nat.reduceMul, reduceIte, and_self, true_and, and_true, hkm, f34, e1]
  | succ k ih =>
    intro p h hM h34 hpk F hF
    obtain ⟨F, rfl⟩ := nF1 hF
    have hkm : kd h am = 11 := hM.1
    have f34 : fi h 1034 am = nI (n 3) := h34
    have hp : p < n 3 := by omega
    have e1 : ¬ nI (n 3) ≤ nI p := nI_ge hp (by omega)
    have e7 : nI p + 1 = nI (p + 1) := nI_add p 1
    have r37 : fr h 1037 am = some (q 37) := (hM.2.1 (37, 201, 20) (by decide)).1
    have k37 : kd h (q 37) = 201 := (hM.2.1 (37, 201, 20) (by decide)).2.1
    have l37 : ln h (q 37) = 20 := (hM.2.1 (37, 201, 20) (by decide)).2.2
    have r38 : fr h 1038 am = some (q 38) := (hM.2.1 (38, 201, 1020) (by decide)).1
    have k38 : kd h (q 38) = 201 := (hM.2.1 (38, 201, 1020) (by decide)).2.1
    have l38 : ln h (q 38) = 1020 := (hM.2.1 (38, 201, 1020) (by decide)).2.2
    have clp : (nI p).toNatClampNeg = p := nI_cl hp (by omega)
    have ibp : inB (nI p) 20 = true := inB_nI (by omega) (by omega)
    have ep : (51 : Int32) * nI p + nI m = nI (51 * p + m) := by rw [show (51 : Int32) = nI 51 from rfl, nI_mul, nI_add]
    have cl2 : (nI (51 * p + m)).toNatClampNeg = 51 * p + m := nI_cl (N := 1020) (by omega) (by omega)
    have ib2 : inB (nI (51 * p + m)) 1020 = true := inB_nI (by omega) (by omega)
    have v37 : ai h (q 37) p = mv q h 37 p := rfl
    have em : mv q (sAi h (q 38) (51 * p + m) (mv q h 37 p)) = up2 (mv q h) 38 (51 * p + m) (mv q h 37 p) := mv_sAi hM.2.2
    obtain ⟨h', a1, a2, a3, a4, a5, a6⟩ := ih (p + 1) (sAi h (q 38) (51 * p + m) (mv q h 37 p)) hM h34 (by omega) F (by omega)
    rw [em] at a4 a5 a6
    refine ⟨h', ?_, SameS.tr ⟨rfl, rfl, rfl, rfl, rfl, rfl, rfl⟩ a2, a3, fun k hk => by rw [a4 k hk, up2_ne1' hk], fun p' h1 h2 => ?_, fun x hx => ?_⟩
    · rw [← a1]
      conv => lhs; unfold X9_bills_L12
      simp only [aN, kA201, kA202, kA203, kA206, kA306, i1n0, i0n1, i0e0, i1e1, gI, gR, pI, pB, pR, xI, xL, yI, yL, vc, kd_sFi, fr_sFi, ln_sFi, ai_sFi, al_sFi, ar_sFi, cs_sFi, sz_sFi, sz_sAi, kd_sAi, fi_sAi, fr_sAi, ln_sAi, al_sAi, ar_sAi, cs_sAi, kd_wz, fi_wz, fr_wz, ln_wz, ai_wz, al_wz, ar_wz, Option.bind_some, if_true, if_false, Nat.reduceAdd, Nat.reduceMul, reduceIte, and_self, true_and, and_true, hkm, f34, e1, r37, k37, l37, r38, k38, l38, clp, ibp, ep, cl2, ib2, v37, nar_i32, e7]
    · by_cases hpp : p' = p
      · subst hpp
        rw [a6 _ (fun p2 y1 y2 => by omega), up2_same]
      · rw [a5 p' (by omega) h2, up2_ne1' (by decide)]
    · rw [a6 x (fun p2 y1 y2 => hx p2 (by omega) y2), up2_ne2 _ _ _ _ (hx p (Nat.le_refl _) hp)]
theorem bi_month {m t : Nat} {T : List (Int32 × List Int32)} {hx0 hm0 : HS} (hF : BF am ad n pO fO q fs ls m t T hx0 hm0) (hsold : ∀ c, c < n 1 → cv ad n hx0 13 (pO c) m = mv q hm0 38 (51 * pO c + m)) (hold : ∀ c, c < n 1 → mv q hm0 49 (51 * c + m) = 0) : ∀ (k c : Nat) (hx hm : HS), c + k = n 1 → BI ax ao am ad n e pO fO q m (fun c' => c' < c) (fun c => bl q fO fs ls m T hm0 (mv q hm0 38 (51 * pO c + m)) c) hx0 hm0 hx hm → ∀ F, k < F → ∀ F', k < F' → ∃ hx' hm', X8_endMonth_L23 ax F (nI m) (nI c) hx = some hx' ∧ X9_bills_L45 am F' (nI m) (nI c) hm = some hm' ∧ BI ax ao am ad n e pO fO q m (fun _ => True) (fun c => bl q fO fs ls m T hm0 (mv q hm0 38 (51 * pO c + m)) c) hx0 hm0 hx' hm' := by
  intro k
  induction k with
  | zero =>
    intro c hx hm hck hB F hF1 F' hF2
    obtain ⟨F, rfl⟩ := nF1 hF1
    obtain ⟨F', rfl⟩ := nF1 hF2
    have hS := hB.1.1
    have hM := hB.2.1.1
    have hka := kax hS
    have hkm : kd hm am = 11 := hM.1
    obtain ⟨hL, hr, hk⟩ := lcs hS
    have hFn := hF.bi hB
    have h39 : fi hm 1039 am = nI (n 1) := hFn.1.2.2.1
    have e1 : nI (n 1) ≤ nI c := by rw [← hck]; exact Int32.le_refl _
    refine ⟨hx, hm, ?_, ?_, hB.cg (fun c' hc' => ⟨fun z => by omega, fun z => trivial⟩)⟩
    · conv => lhs; unfold X8_endMonth_L23
      simp only [aN, kA201, kA202, kA203, kA206, kA306, i1n0, i0n1, i0e0, i1e1, gI, gR, pI, pB, pR, xI, xL, yI, yL, vc, kd_sFi, fr_sFi, ln_sFi, ai_sFi, al_sFi, ar_sFi, cs_sFi, sz_sFi, sz_sAi, kd_sAi, fi_sAi, fr_sAi, ln_sAi, al_sAi, ar_sAi, cs_sAi, kd_wz, fi_wz, fr_wz, ln_wz, ai_wz, al_wz, ar_wz, Option.bind_some, if_true, if_false, Nat.reduceAdd, Nat.reduceMul, reduceIte, and_self, true_and, and_true, hka, hr, hk, Nat.zero_add, e_size hk hL, e1]
    · conv => lhs; unfold X9_bills_L45
      simp only [aN, kA201, kA202, kA203, kA206, kA306, i1n0, i0n1, i0e0, i1e1, gI, gR, pI, pB, pR, xI, xL, yI, yL, vc, kd_sFi, fr_sFi, ln_sFi, ai_sFi, al_sFi, ar_sFi, cs_sFi, sz_sFi, sz_sAi, kd_sAi, fi_sAi, fr_sAi, ln_sAi, al_sAi, ar_sAi, cs_sAi, kd_wz, fi_wz, fr_wz, ln_wz, ai_wz, al_wz, ar_wz, Option.bind_some, if_true, if_false, Nat.reduceAdd, Nat.reduceMul, reduceIte, and_self, true_and, and_true, hkm, h39, e1]
  | succ k ih =>
    intro c hx hm hck hB F hF1 F' hF2
    obtain ⟨F, rfl⟩ := nF1 hF1
    obtain ⟨F', rfl⟩ := nF1 hF2
    have hS := hB.1.1
    have hM := hB.2.1.1
    have hka := kax hS
    have hkm : kd hm am = 11 := hM.1
    obtain ⟨hL, hr, hk⟩ := lcs hS
    have hFn := hF.bi hB
    have hn60 := hFn.1.2.1
    have hm50 := hFn.1.1
    have h39 : fi hm 1039 am = nI (n 1) := hFn.1.2.2.1
    have hc : c < n 1 := by omega
    have e1 : ¬ nI (n 1) ≤ nI c := nI_ge hc (by omega)
    have kj : kd hx (ad 1 c) = 2 := k0 hS hc
    have e7 : nI c + 1 = nI (c + 1) := nI_add c 1
    have hcr := crf hS hc
    have kp : kd hx (ad 3 (pO c)) = 4 := (ksold hS hcr.2.2.2.2.1).1
    have es := e_soldIn hS hcr.2.2.2.2.1 (m := m) (by omega)
    have es' : cv ad n hx 13 (pO c) m = mv q hm0 38 (51 * pO c + m) := by rw [hB.1.2.2.2 13 (by decide)]; exact hsold c hc
    rw [es'] at es
    obtain ⟨hx1, x1, f1⟩ := bi_reckon hS hFn hc (mv q hm0 38 (51 * pO c + m))
    have hB2 := hB.fr f1
    obtain ⟨hm', y1, y2, y3, y4, y5, y6, y7⟩ := bi_bill hM hFn hc
    have g38 : mv q hm 38 (51 * pO c + m) = mv q hm0 38 (51 * pO c + m) := by rw [hB.2.1.2.2.2 38 (by decide)]
    have g49 : mv q hm 49 (51 * c + m) = 0 := by
      rw [hB.2.2.2.2.2 _ (fun c' hc' hd z => by omega), hold c hc]
    rw [g38, g49, bl_bi hB, Int32.sub_zero] at y1 y6 y7
    rw [g38, bl_bi hB] at y5
    rw [bl_bi hB] at x1
    obtain ⟨hx3, w1, w2, w3, w4, w5⟩ := e_addBill f1.1 hc (bl q fO fs ls m T hm0 (mv q hm0 38 (51 * pO c + m)) c)
    have hB3 := hB2.add (by omega) hc (hFn.2.2.2 c hc).2.2.2.2.2.1 rfl w2 w3 w4 w5 y2 y3 y4 y5 y6 y7
    obtain ⟨hx', hm'', o1, o2, o3⟩ := ih (c + 1) hx3 hm' (by omega) (hB3.cg (fun c' hc' => ⟨fun z => by
        by_cases hcc : c' = c
        · exact Or.inr hcc
        · exact Or.inl (by omega), fun z => by
        rcases z with z | z
        · omega
        · omega⟩)) F (by omega) F' (by omega)
    refine ⟨hx', hm'', ?_, ?_, o3⟩
    · rw [← o1]
      have d1 := f1.2.1.1
      conv => lhs; unfold X8_endMonth_L23
      simp only [aN, kA201, kA202, kA203, kA206, kA306, i1n0, i0n1, i0e0, i1e1, gI, gR, pI, pB, pR, xI, xL, yI, yL, vc, kd_sFi, fr_sFi, ln_sFi, ai_sFi, al_sFi, ar_sFi, cs_sFi, sz_sFi, sz_sAi, kd_sAi, fi_sAi, fr_sAi, ln_sAi, al_sAi, ar_sAi, cs_sAi, kd_wz, fi_wz, fr_wz, ln_wz, ai_wz, al_wz, ar_wz, Option.bind_some, if_true, if_false, Nat.reduceAdd, Nat.reduceMul, reduceIte, and_self, true_and, and_true, hka, hr, hk, Nat.zero_add, e_size hk hL, e1, e_get hk hL (by omega) hc, cst, isO, kj, beq_self_eq_true, or_true, hcr.2.2.1, kp, es, x1, d1, w1, e7]
    · rw [← o2]
      conv => lhs; unfold X9_bills_L45
      simp only [aN, kA201, kA202, kA203, kA206, kA306, i1n0, i0n1, i0e0, i1e1, gI, gR, pI, pB, pR, xI, xL, yI, yL, vc, kd_sFi, fr_sFi, ln_sFi, ai_sFi, al_sFi, ar_sFi, cs_sFi, sz_sFi, sz_sAi, kd_sAi, fi_sAi, fr_sAi, ln_sAi, al_sAi, ar_sAi, cs_sAi, kd_wz, fi_wz, fr_wz, ln_wz, ai_wz, al_wz, ar_wz, Option.bind_some, if_true, if_false, Nat.reduceAdd, Nat.reduceMul, reduceIte, and_self, true_and, and_true, hkm, h39, e1, y1, e7]
theorem e_month {m : Nat} {T : List (Int32 × List Int32)} (hS : SXA ax ao ad n e pO fO hx) (hM : SMA q am hm) (hm5 : m < 50) (h39 : mf am hm 39 = nI (n 1)) (h34 : mf am hm 34 = nI (n 3)) (h11 : mf am hm 11 = nI (n 4 - 1) - 1) (hT : TxX ad n hx (n 4 - 1) T) (hT9 : Tx9 q hm (n 4 - 1) T)
    (hcc : ∀ c, c < n 1 → (cf ad n hx 102 c = nI (fs c) ∧ cf ad n hx 103 c = lsI (ls c) ∧ mv q hm 42 c = nI (fs c) ∧ mv q hm 43 c = lsI (ls c) ∧ fs c ≤ 1000 ∧ ∀ z, ls c = some z → z ≤ 1000) ∧ mv q hm 40 c = nI (pO c) ∧ mv q hm 41 c = nI (fO c) ∧ cv ad n hx 14 c m = mv q hm 48 (51 * c + m))
    (h201 : ∀ f, f < n 2 → cf ad n hx 201 f = mv q hm 26 f) (h13 : ∀ p, p < n 3 → cv ad n hx 13 p m = mv q hm 37 p) (h49 : ∀ c, c < n 1 → mv q hm 49 (51 * c + m) = 0) (h108 : ∀ c, c < n 1 → cf ad n hx 108 c = mv q hm 50 c) (h208 : ∀ f, f < n 2 → cf ad n hx 208 f = mv q hm 33 f) :
    ∃ hm1 hx' hm', m_X8_endMonth ax (nI m) hx = some hx' ∧ m_X9_bills am (nI m) hm = some hm' ∧ (SameS hm hm1 ∧ fi hm1 = fi hm ∧ (∀ k, (k ≠ 38 ∧ k ≠ 51) → mv q hm1 k = mv q hm k) ∧ mv q hm1 51 = va_up (mv q hm 51) m (nI (n 4 - 1) - 1) ∧ (∀ p, p < n 3 → mv q hm1 38 (51 * p + m) = mv q hm 37 p) ∧ ∀ x, (∀ p, p < n 3 → x ≠ 51 * p + m) → mv q hm1 38 x = mv q hm 38 x) ∧ BI ax ao am ad n e pO fO q m (fun _ => True) (fun c => bl q fO fs ls m T hm1 (mv q hm1 38 (51 * pO c + m)) c) (sAr hx (ad 22 0) m (some (ad 4 (n 4 - 1)))) hm1 hx' hm' := by
  have hka := kax hS
  have hn := n_le hS
  have hkm : kd hm am = 11 := hM.1
  obtain ⟨r906, k22, l22, r907⟩ := kmon hS
  have k4 : kd hx (ad 4 (n 4 - 1)) = 5 := (ktext hS hT.1).1
  have e0 : ¬ nI m < 0 := nI_pos (by omega)
  have e1 : ¬ (49 : Int32) < nI m := fun z => absurd ((nI_ltI (a := 49) (by omega) (by omega)).mp z) (by omega)
  have cl : (nI m).toNatClampNeg = m := nI_cl hm5 (by omega)
  have ib : inB (nI m) 50 = true := inB_nI hm5 (by omega)
  have ib51 : inB (nI m) 51 = true := inB_nI (by omega) (by omega)
  have r51 : fr hm 1051 am = some (q 51) := (hM.2.1 (51, 201, 51) (by decide)).1
  have k51 : kd hm (q 51) = 201 := (hM.2.1 (51, 201, 51) (by decide)).2.1
  have l51 : ln hm (q 51) = 51 := (hM.2.1 (51, 201, 51) (by decide)).2.2
  have f11 : fi hm 1011 am = nI (n 4 - 1) - 1 := h11
  have em : mv q (sAi hm (q 51) m (nI (n 4 - 1) - 1)) = up2 (mv q hm) 51 m (nI (n 4 - 1) - 1) := mv_sAi hM.2.2
  obtain ⟨hm1, a1, a2, a3, a4, a5, a6⟩ := w_soldL (m := m) (by omega) hn.2.1 (n 3) 0 (sAi hm (q 51) m (nI (n 4 - 1) - 1)) hM h34 (Nat.zero_add _) FU (by unfold FU; omega)
  rw [em] at a4 a5 a6
  have hM1 : SMA q am hm1 := SMA_same a2 hM
  have mo : ∀ k, (k ≠ 38 ∧ k ≠ 51) → mv q hm1 k = mv q hm k := fun k hk => by rw [a4 k hk.1, up2_ne1' hk.2]
  have m51 : mv q hm1 51 = va_up (mv q hm 51) m (nI (n 4 - 1) - 1) := by rw [a4 51 (by decide), up2_va]
  have m38 : ∀ p, p < n 3 → mv q hm1 38 (51 * p + m) = mv q hm 37 p := fun p hp => by rw [a5 p (Nat.zero_le _) hp, up2_ne1' (by decide)]
  have hBF : BF am ad n pO fO q fs ls m (n 4 - 1) T (sAr hx (ad 22 0) m (some (ad 4 (n 4 - 1)))) hm1 := by
    refine ⟨⟨hm5, hn.2.2.1, by unfold mf; rw [a3]; exact h39, ?_, by rw [m51, va_up_same]⟩, hT.fr rfl rfl, hT9.fr (fun k hk => mo k (by omega)), fun c hc => ?_⟩
    · rw [ar_sAr]; exact up2_same _ _ _ _
    · obtain ⟨b1, b2, b3, b4⟩ := hcc c hc
      obtain ⟨-, -, -, -, z5, z6⟩ := crf hS hc
      rw [mo 42 (by decide), mo 43 (by decide), mo 40 (by decide), mo 41 (by decide), mo 26 (by decide), mo 48 (by decide)]
      exact ⟨b1, b2, b3, by omega, by omega, z6, h201 _ z6, b4⟩
  have hbi0 : BI ax ao am ad n e pO fO q m (fun c' => c' < 0) (fun c => bl q fO fs ls m T hm1 (mv q hm1 38 (51 * pO c + m)) c) (sAr hx (ad 22 0) m (some (ad 4 (n 4 - 1)))) hm1 (sAr hx (ad 22 0) m (some (ad 4 (n 4 - 1)))) hm1 := by
    refine ⟨⟨SXA_22 hS _ _, SameS.rf _, fun _ _ => rfl, fun _ _ => rfl⟩, ⟨hM1, SameS.rf _, rfl, fun _ _ => rfl⟩, ⟨fun c hc => ?_, fun f hf => ?_⟩, ⟨fun _ _ => rfl, fun _ _ => rfl⟩, fun c' hc' hd => absurd hd (by omega), fun _ _ => rfl⟩
    · rw [mo 50 (by decide)]; exact h108 c hc
    · rw [mo 33 (by decide)]; exact h208 f hf
  obtain ⟨hx', hm', o1, o2, o3⟩ := bi_month hBF (fun c hc => by
      obtain ⟨-, -, -, -, z5, z6⟩ := crf hS hc
      rw [m38 _ z5]; exact h13 _ z5) (fun c hc => by rw [mo 49 (by decide)]; exact h49 c hc) (n 1) 0 _ _ (Nat.zero_add _) hbi0 FU (by unfold FU; omega) FU (by unfold FU; omega)
  have o1' : X8_endMonth_L23 ax FU (nI m) 0 (sAr hx (ad 22 0) m (some (ad 4 (n 4 - 1)))) = some hx' := o1
  have o2' : X9_bills_L45 am FU (nI m) 0 hm1 = some hm' := o2
  have a1' : X9_bills_L12 am FU (nI m) 0 (sAi hm (q 51) m (nI (n 4 - 1) - 1)) = X9_bills_L45 am FU (nI m) 0 hm1 := a1
  refine ⟨hm1, hx', hm', ?_, ?_, ⟨SameS.tr ⟨rfl, rfl, rfl, rfl, rfl, rfl, rfl⟩ a2, a3, mo, m51, m38, fun x hx => ?_⟩, o3⟩
  · simp only [m_X8_endMonth, yR, aN, kA201, kA202, kA203, kA206, kA306, i1n0, i0n1, i0e0, i1e1, gI, gR, pI, pB, pR, xI, xL, yI, yL, vc, kd_sFi, fr_sFi, ln_sFi, ai_sFi, al_sFi, ar_sFi, cs_sFi, sz_sFi, sz_sAi, kd_sAi, fi_sAi, fr_sAi, ln_sAi, al_sAi, ar_sAi, cs_sAi, kd_wz, fi_wz, fr_wz, ln_wz, ai_wz, al_wz, ar_wz, Option.bind_some, if_true, if_false, Nat.reduceAdd, Nat.reduceMul, reduceIte, and_self, true_and, and_true, hka, e_within, e0, e1, r906, r907, k22, l22, k4, cl, ib, o1']
  · simp only [m_X9_bills, aN, kA201, kA202, kA203, kA206, kA306, i1n0, i0n1, i0e0, i1e1, gI, gR, pI, pB, pR, xI, xL, yI, yL, vc, kd_sFi, fr_sFi, ln_sFi, ai_sFi, al_sFi, ar_sFi, cs_sFi, sz_sFi, sz_sAi, kd_sAi, fi_sAi, fr_sAi, ln_sAi, al_sAi, ar_sAi, cs_sAi, kd_wz, fi_wz, fr_wz, ln_wz, ai_wz, al_wz, ar_wz, Option.bind_some, if_true, if_false, Nat.reduceAdd, Nat.reduceMul, reduceIte, and_self, true_and, and_true, hkm, r51, k51, l51, f11, cl, ib51, nar_i32, a1', o2']
  · rw [a6 x (fun p _ hp => hx p hp), up2_ne1' (by decide)]
end MON
