section SIGN2
variable {ax ao am : Nat} {ad : Nat → Nat → Nat} {n e pO fO q tm : Nat → Nat} {tx : Nat → List (Int32 × List Int32)} {w : Nat} {pn : Nat → Nat} {nw : Nat → Nat → Nat} {fs : Nat → Nat} {ls : Nat → Option Nat} {rs rl pr : Nat → Nat} {tl : Nat} {hx hm : HS}
def tgC (S : Nat) : Nat → Option Nat := fun t => match t with
  | 1 => some S
  | 11 => some (S + 1)
  | 14 => some (S + 2)
  | _ => none
theorem tgC_some {S t a : Nat} (h : tgC S t = some a) : (t = 1 ∧ a = S) ∨ (t = 11 ∧ a = S + 1) ∨ (t = 14 ∧ a = S + 2) := by
  unfold tgC at h
  split at h
  · exact Or.inl ⟨rfl, (Option.some.inj h).symm⟩
  · exact Or.inr (Or.inl ⟨rfl, (Option.some.inj h).symm⟩)
  · exact Or.inr (Or.inr ⟨rfl, (Option.some.inj h).symm⟩)
  · cases h
theorem e_signNew (hS : SXA ax ao ad n e pO fO hx) (hN : n 1 < 60) (hw : w ≤ 200) (h909 : fi hx 909 ax = nI w) {p f : Nat} (hp : p < n 3) (hf : f < n 2) (hrun : m_X8_hasRunning ax (some (ad 3 p)) (some (ad 2 f)) hx = some (0, hx)) (hbar : m_X8_isBarred ax (some (ad 3 p)) (some (ad 2 f)) hx = some (0, hx)) (hst : fi hx 204 (ad 2 f) = 0) : ∃ h', m_X8_sign ax (nI p) (nI f) hx = some (nI (100 + n 1), h') ∧ EXT hx h' (ad 0 2) (e 2) (n 1) (sz hx) ∧ AddOk (hC1 hx (some (ad 3 p)) (some (ad 2 f)) (nI (w + 1))) h' (ad 0 2) (e 2) (n 1) (sz hx) := by
  have hka := kax hS
  have hn := n_le hS
  obtain ⟨hL, hr, hk⟩ := lcs hS
  have zax := ax_lt hS
  have n1 := nSX hS
  have zL : ad 0 2 < sz hx := (hS.2.2.1 0 2 (by omega)).2
  obtain ⟨g1, g2, g3, g4, g5⟩ := e_initC2 (hx := hx) (some (ad 3 p)) (some (ad 2 f)) (nI (w + 1))
  have hnew := e_initC1 (hx := hx) (some (ad 3 p)) (some (ad 2 f)) (nI (w + 1))
  have hex := hnew.2.2
  have kS : kd (hC1 hx (some (ad 3 p)) (some (ad 2 f)) (nI (w + 1))) (sz hx) = 2 := by
    rw [g1, va_upN _ _ (by omega), va_upN _ _ (by omega)]; exact hC0_kd
  obtain ⟨l1, l2, l3, l4, l5⟩ := hL
  obtain ⟨h', q1, q2⟩ := e_add (h := hC1 hx (some (ad 3 p)) (some (ad 2 f)) (nI (w + 1))) (L := ad 0 2) (el := e 2) (N := n 1) (x := sz hx) (by rw [(hex _ zL).1]; exact hk) (by rw [(hex _ zL).2.2.2.2.2.2 1]; exact l1) (by rw [(hex _ zL).2.2.2.2.2.1 2]; exact l2) (by omega) (by
      rw [hnew.2.1, (hex _ l4).1, (hex _ l4).2.1]
      rcases l5 with ⟨z1, z2⟩ | z
      · obtain ⟨c1, c2, c3, -⟩ := hS.2.2.2.2.2.2
        exact Or.inl ⟨z1, z2, by rw [(hex _ c3).1]; exact c1, by rw [(hex _ c3).2.1]; exact c2⟩
      · exact Or.inr z) (by rw [kS]; rfl) (by rw [g4]; omega) (by rw [g4]; omega) (by rw [g4]; omega) (fun j hj => ⟨ad 1 j, by rw [(hex _ l4).2.2.2.2.1]; exact l3 j hj, by rw [(hex _ (hS.2.2.1 1 j hj).2).1, k0 hS hj]; rfl, by rw [g4]; have := (hS.2.2.1 1 j hj).2; omega⟩)
  refine ⟨h', ?_, EXT.of hnew q2 l4, q2⟩
  have e9 : nI (n 1) < 60 := nI_lt (b := 60) hN (by omega)
  have kf : kd hx (ad 2 f) = 3 := k0 hS hf
  have fO1 : fi (nO hx 1) 909 ax = nI w := by
    show (if ax = sz hx then 0 else fi hx 909 ax) = _
    rw [if_neg (by omega)]; exact h909
  have kO : kd (nO hx 1) ax = 10 := by
    show va_up (kd hx) (sz hx) 2 ax = 10
    rw [va_upN _ _ (by omega)]; exact hka
  have kFL : kd (hC1 hx (some (ad 3 p)) (some (ad 2 f)) (nI (w + 1))) (ad 0 2) = 1 := by rw [(hex _ zL).1]; exact hk
  have e6 : nI w + 1 = nI (w + 1) := nI_add w 1
  have e4 : (100 : Int32) + nI (n 1) = nI (100 + n 1) := nI_add 100 (n 1)
  simp only [m_X8_sign, aN, kA201, kA202, kA203, kA206, kA306, i1n0, i0n1, i0e0, i1e1, gI, gR, pI, pB, pR, xI, xL, yI, yL, vc, kd_sFi, fr_sFi, ln_sFi, ai_sFi, al_sFi, ar_sFi, cs_sFi, sz_sFi, sz_sAi, kd_sAi, fi_sAi, fr_sAi, ln_sAi, al_sAi, ar_sAi, cs_sAi, kd_wz, fi_wz, fr_wz, ln_wz, ai_wz, al_wz, ar_wz, Option.bind_some, if_true, if_false, Nat.reduceAdd, Nat.reduceMul, reduceIte, and_self, true_and, and_true, hka, e_paperAt_in hS hp, e_featureAt_in hS hf, reduceCtorEq, hr, hk, Nat.zero_add, e_size hk ⟨l1, l2, l3, l4, l5⟩, e9, hrun, hbar, kf, hst, kO, fO1, e6, e_initC5, kFL, q1, e4]
theorem op_sign (a b : Int32) : StI (PP ax am ao) (m_X8_sign ax a b) (m_X9_sign am a b) := by
  rintro hx hm ⟨ad, n, e, pO, fO, q, tm, tx, w, pn, nw, fs, ls, rs, rl, pr, tl, hS, hM, hN, hF, hP, hC, hB, hT, hX, hW⟩
  have hka := kax hS
  have hkm : kd hm am = 11 := hM.1
  have hn := n_le hS
  have hI := hS.2.1
  have hq : ∀ k k', q k = q k' → k = k' := hM.2.2
  have hw : w ≤ 200 := hN.1
  have f909 : fi hx 909 ax = nI w := by
    have h1 := hN.2.1
    rw [← cf_at (g := 909) (n := n) (t := 9) (by decide) (by rw [hS.1.2.2.2.2.2.1]; decide), hS.2.2.2.2.1.1] at h1
    exact h1
  have i24 : fi hm 1024 am = nI w := hN.2.2.1
  have h25 : mf am hm 25 = nI (n 2) := hN.2.2.2.1
  have h34 : mf am hm 34 = nI (n 3) := hN.2.2.2.2.1
  have h39 : mf am hm 39 = nI (n 1) := hN.2.2.2.2.2.1
  have f1 : ∀ r, m_X8_sign ax a b hx = some (r, hx) → ¬ r ≤ 0 → m_X9_why am a b (sFi (wz hm (sz hx)) 1000 am 0) = some (r, sFi (wz hm (sz hx)) 1000 am 0) → ∃ r hx' hm', m_X8_sign ax a b hx = some (r, hx') ∧ m_X9_sign am a b (wz hm (sz hx')) = some (r, hm') ∧ sz hm' = sz hx' ∧ PP ax am ao hx' hm' := fun r h1 h2 h3 => ⟨r, hx, _, h1, e_sign9_bad (h := wz hm (sz hx)) hM h2 h3, rfl, ad, n, e, pO, fO, q, tm, tx, w, pn, nw, fs, ls, rs, rl, pr, tl, hS, hM, hN, hF, hP, hC, hB, hT, hX, hW⟩
  have hN9 := hN
  obtain ⟨hL, hr, hk⟩ := lcs hS
  obtain ⟨hR1, hR2⟩ := RC_run hw hC
  rcases idx a (n 3) (by omega) with ⟨p, hp, rfl⟩ | ho
  · have ep : ∀ k, m_X9_isPaper am (nI p) (sFi (wz hm k) 1000 am 0) = some (1, sFi (wz hm k) 1000 am 0) := fun k => e_isPaper_in (hm := sFi (wz hm k) 1000 am 0) hkm h34 (by omega) hp
    rcases idx b (n 2) (by omega) with ⟨f, hf, rfl⟩ | hob
    · have ef : ∀ k, m_X9_isFeature am (nI f) (sFi (wz hm k) 1000 am 0) = some (1, sFi (wz hm k) 1000 am 0) := fun k => e_isFeature_in (hm := sFi (wz hm k) 1000 am 0) hkm h25 (by omega) hf
      by_cases h60 : n 1 = 60
      · refine f1 1 ?_ (by decide) ?_
        · have e9 : ¬ nI (n 1) < 60 := by rw [h60]; decide
          simp only [m_X8_sign, aN, kA201, kA202, kA203, kA206, kA306, i1n0, i0n1, i0e0, i1e1, gI, gR, pI, pB, pR, xI, xL, yI, yL, vc, kd_sFi, fr_sFi, ln_sFi, ai_sFi, al_sFi, ar_sFi, cs_sFi, sz_sFi, sz_sAi, kd_sAi, fi_sAi, fr_sAi, ln_sAi, al_sAi, ar_sAi, cs_sAi, kd_wz, fi_wz, fr_wz, ln_wz, ai_wz, al_wz, ar_wz, Option.bind_some, if_true, if_false, Nat.reduceAdd, Nat.reduceMul, reduceIte, and_self, true_and, and_true, hka, e_paperAt_in hS hp, e_featureAt_in hS hf, reduceCtorEq, hr, hk, Nat.zero_add, e_size hk hL, e9]
        · have e9 : nI (n 1) = 60 := by rw [h60]; rfl
          have i39' : fi (sFi (wz hm (sz hx)) 1000 am 0) 1039 am = nI (n 1) := h39
          simp only [m_X9_why, aN, kA201, kA202, kA203, kA206, kA306, i1n0, i0n1, i0e0, i1e1, gI, gR, pI, pB, pR, xI, xL, yI, yL, vc, kd_sFi, fr_sFi, ln_sFi, ai_sFi, al_sFi, ar_sFi, cs_sFi, sz_sFi, sz_sAi, kd_sAi, fi_sAi, fr_sAi, ln_sAi, al_sAi, ar_sAi, cs_sAi, kd_wz, fi_wz, fr_wz, ln_wz, ai_wz, al_wz, ar_wz, Option.bind_some, if_true, if_false, Nat.reduceAdd, Nat.reduceMul, reduceIte, and_self, true_and, and_true, hkm, ep, ef, i39', e9]
      · have hN : n 1 < 60 := by omega
        have e60 : ¬ nI (n 1) = 60 := fun z => h60 ((nI_eq (a := n 1) (b := 60) (by omega) (by omega)).mp z)
        have e9 : nI (n 1) < 60 := nI_lt (b := 60) hN (by omega)
        have hrun := e_hasRun hS hR1 hw f909 hp hf (n 1) 0 (by omega) FU (by unfold FU; omega)
        have hbar := e_barred hS hR1 hw f909 hp hf (n 1) 0 (by omega) FU (by unfold FU; omega)
        have hY : WyC q hm n pO fO fs ls := fun c hc => ⟨(hC.1 c hc).1.1, (hC.1 c hc).1.2.1, by have := (crf hS hc).2.2.2.2.1; omega, by have := (crf hS hc).2.2.2.2.2; omega⟩
        have hwy : ∀ k, m_X9_why am (nI p) (nI f) (sFi (wz hm k) 1000 am 0) = X9_why_L35 am 1 (nI p) (nI f) (nI (gp (0 = 1 ∨ ∃ c', 0 ≤ c' ∧ c' < n 1 ∧ (pO c' = p ∧ fO c' = f ∧ rn (fs c') (ls c') (w + 1))))) (nI (gp (0 = 1 ∨ ∃ c', 0 ≤ c' ∧ c' < n 1 ∧ (pO c' ≠ p ∧ fO c' = f ∧ rn (fs c') (ls c') (w + 1) ∧ nrr (mv q hm 27 f) (mv q hm 35 (pO c')) (mv q hm 36 (pO c')) (mv q hm 35 p) (mv q hm 36 p))))) (nI (n 1)) (sFi (wz hm k) 1000 am 0) := by
          intro k
          have i39' : fi (sFi (wz hm k) 1000 am 0) 1039 am = nI (n 1) := h39
          refine Eq.trans ?_ (e_why (h := sFi (wz hm k) 1000 am 0) hM hR2 hY (by omega) hw i24 h39 (p := p) (f := f) (by omega) (by omega) (n 1) 0 0 0 (by omega) (Or.inl rfl) (Or.inl rfl) FU (by unfold FU; omega))
          simp only [m_X9_why, aN, kA201, kA202, kA203, kA206, kA306, i1n0, i0n1, i0e0, i1e1, gI, gR, pI, pB, pR, xI, xL, yI, yL, vc, kd_sFi, fr_sFi, ln_sFi, ai_sFi, al_sFi, ar_sFi, cs_sFi, sz_sFi, sz_sAi, kd_sAi, fi_sAi, fr_sAi, ln_sAi, al_sAi, ar_sAi, cs_sAi, kd_wz, fi_wz, fr_wz, ln_wz, ai_wz, al_wz, ar_wz, Option.bind_some, if_true, if_false, Nat.reduceAdd, Nat.reduceMul, reduceIte, and_self, true_and, and_true, hkm, ep, ef, i39', e60]
          rfl
        have g1 : gp (0 = 1 ∨ ∃ c', 0 ≤ c' ∧ c' < n 1 ∧ (pO c' = p ∧ fO c' = f ∧ rn (fs c') (ls c') (w + 1))) = gp (∃ c', 0 ≤ c' ∧ c' < n 1 ∧ (pO c' = p ∧ fO c' = f ∧ rn (fs c') (ls c') (w + 1))) := gp_congr ⟨fun z => by rcases z with z | z; cases z; exact z, Or.inr⟩
        have g2 : gp (0 = 1 ∨ ∃ c', 0 ≤ c' ∧ c' < n 1 ∧ (pO c' ≠ p ∧ fO c' = f ∧ rn (fs c') (ls c') (w + 1) ∧ nrr (mv q hm 27 f) (mv q hm 35 (pO c')) (mv q hm 36 (pO c')) (mv q hm 35 p) (mv q hm 36 p))) = gp (∃ c', 0 ≤ c' ∧ c' < n 1 ∧ (pO c' ≠ p ∧ fO c' = f ∧ rn (fs c') (ls c') (w + 1) ∧ nrr (cf ad n hx 202 f) (cf ad n hx 301 (pO c')) (cf ad n hx 302 (pO c')) (cf ad n hx 301 p) (cf ad n hx 302 p))) := by
          have e202 := (hF.1 f hf).2.2.1
          have ex := (hP p hp).2.1
          have ey := (hP p hp).2.2.1
          refine gp_congr ⟨fun z => ?_, fun z => ?_⟩
          · rcases z with z | ⟨c', z1, z2, z3, z4, z5, z6⟩
            · cases z
            · have hpc := (crf hS z2).2.2.2.2.1
              exact ⟨c', z1, z2, z3, z4, z5, by rw [e202, ex, ey, (hP _ hpc).2.1, (hP _ hpc).2.2.1]; exact z6⟩
          · obtain ⟨c', z1, z2, z3, z4, z5, z6⟩ := z
            have hpc := (crf hS z2).2.2.2.2.1
            refine Or.inr ⟨c', z1, z2, z3, z4, z5, ?_⟩
            rw [e202, ex, ey, (hP _ hpc).2.1, (hP _ hpc).2.2.1] at z6
            exact z6
        rw [g1, g2] at hwy
        have hrun' : m_X8_hasRunning ax (some (ad 3 p)) (some (ad 2 f)) hx = some (nI (gp (∃ c', 0 ≤ c' ∧ c' < n 1 ∧ (pO c' = p ∧ fO c' = f ∧ rn (fs c') (ls c') (w + 1)))), hx) := hrun
        have hbar' : m_X8_isBarred ax (some (ad 3 p)) (some (ad 2 f)) hx = _ := hbar
        have n10 : (nI 1 = 0) = False := eq_false (by decide)
        have n00 : (nI 0 = 0) = True := eq_true rfl
        have fin : ∀ k, fi (sFi (wz hm k) 1000 am 0) 1039 am = nI (n 1) := fun k => h39
        rcases gp_or (∃ c', 0 ≤ c' ∧ c' < n 1 ∧ (pO c' = p ∧ fO c' = f ∧ rn (fs c') (ls c') (w + 1))) with ⟨o1, o2⟩ | ⟨o1, o2⟩
        · rw [o1] at hwy hrun'
          rcases gp_or (∃ c', 0 ≤ c' ∧ c' < n 1 ∧ (pO c' ≠ p ∧ fO c' = f ∧ rn (fs c') (ls c') (w + 1) ∧ nrr (cf ad n hx 202 f) (cf ad n hx 301 (pO c')) (cf ad n hx 302 (pO c')) (cf ad n hx 301 p) (cf ad n hx 302 p))) with ⟨b1, b2⟩ | ⟨b1, b2⟩
          · rw [b1] at hwy hbar'
            have r29 : fr hm 1029 am = some (q 29) := (hM.2.1 (29, 202, 10) (by decide)).1
            have k29 : kd hm (q 29) = 202 := (hM.2.1 (29, 202, 10) (by decide)).2.1
            have l29 : ln hm (q 29) = 10 := (hM.2.1 (29, 202, 10) (by decide)).2.2
            have kf : kd hx (ad 2 f) = 3 := k0 hS hf
            have f204 : fi hx 204 (ad 2 f) = ai hm (q 29) f := by
              rw [cf_at (g := 204) (n := n) (t := 2) (by decide) hf]; exact (hF.1 f hf).2.2.2.2.2.1
            have clf : (nI f).toNatClampNeg = f := nI_cl hf (by omega)
            have ibf : inB (nI f) 10 = true := inB_nI (by omega) (by omega)
            by_cases hst : ai hm (q 29) f = 0
            · rw [hst] at f204
              obtain ⟨h', q1, hE, hA⟩ := e_signNew hS hN hw f909 hp hf hrun' hbar' f204
              obtain ⟨g1, g2, g3, g4, g5⟩ := e_initC2 (hx := hx) (some (ad 3 p)) (some (ad 2 f)) (nI (w + 1))
              obtain ⟨i9, i10, i0, i1⟩ := e_initC3 (hx := hx) (some (ad 3 p)) (some (ad 2 f)) (nI (w + 1))
              obtain ⟨j2, j3, j4, j5, j6, j7, j8⟩ := e_initC4 (hx := hx) (some (ad 3 p)) (some (ad 2 f)) (nI (w + 1))
              have hns := nSX hS
              have zL : ad 0 2 < sz hx := (hS.2.2.1 0 2 (by omega)).2
              obtain ⟨H1, hH1⟩ : ∃ H, H = hC1 hx (some (ad 3 p)) (some (ad 2 f)) (nI (w + 1)) := ⟨_, rfl⟩
              rw [← hH1] at hA g1 g2 g3 g4 g5 i9 i10 i0 i1 j2 j3 j4 j5 j6 j7 j8
              have kS : kd H1 (sz hx) = 2 := by rw [g1, va_upN _ _ (by omega), va_upN _ _ (by omega)]; exact hC0_kd
              have kS1 : kd H1 (sz hx + 1) = 202 := by rw [g1, va_upN _ _ (by omega), va_up_same]
              have kS2 : kd H1 (sz hx + 2) = 201 := by rw [g1, va_up_same]
              have lS1 : ln H1 (sz hx + 1) = 200 := by rw [g2, va_upN _ _ (by omega), va_up_same]
              have lS2 : ln H1 (sz hx + 2) = 50 := by rw [g2, va_up_same]
              have aS1 : ai H1 (sz hx + 1) = fun _ => 0 := by rw [g3, va_upN _ _ (by omega), va_up_same]
              have aS2 : ai H1 (sz hx + 2) = fun _ => 0 := by rw [g3, va_up_same]
              have ez : sz hx < sz H1 := by rw [g4]; omega
              have ez1 : sz hx + 1 < sz H1 := by rw [g4]; omega
              have ez2 : sz hx + 2 < sz H1 := by rw [g4]; omega
              have hzz : sz H1 ≤ sz h' := by rcases hA.1 with z | z <;> omega
              have fN : ∀ g, fi h' g (sz hx) = fi H1 g (sz hx) := fun g => hA.2.2.2.1 g (sz hx) (by omega)
              have rN : ∀ g, fr h' g (sz hx) = fr H1 g (sz hx) := fun g => hA.2.2.2.2.2.1 g (sz hx) (by omega)
              have t1 : tgC (sz hx) 1 = some (sz hx) := rfl
              have t11 : tgC (sz hx) 11 = some (sz hx + 1) := rfl
              have t14 : tgC (sz hx) 14 = some (sz hx + 2) := rfl
              have pN : va_up pO (n 1) p (n 1) = p := va_up_same _ _ _
              have fNN : va_up fO (n 1) f (n 1) = f := va_up_same _ _ _
              obtain ⟨e', hS'⟩ := SXA_ext (tg := tgC (sz hx)) (pO' := va_up pO (n 1) p) (fO' := va_up fO (n 1) f) (l := 2) (c := 1) hS hE (Or.inr (Or.inr ⟨rfl, rfl⟩)) t1 (fun t z hz => by
                  rcases tgC_some hz with ⟨rfl, rfl⟩ | ⟨rfl, rfl⟩ | ⟨rfl, rfl⟩
                  · exact ⟨Nat.le_refl _, by omega, by rw [(hA.2.2.1 _ ez).1]; exact kS, fun h => by omega⟩
                  · exact ⟨by omega, by omega, by rw [(hA.2.2.1 _ ez1).1]; exact kS1, fun _ _ => by rw [(hA.2.2.1 _ ez1).2.1]; exact lS1⟩
                  · exact ⟨by omega, by omega, by rw [(hA.2.2.1 _ ez2).1]; exact kS2, fun _ _ => by rw [(hA.2.2.1 _ ez2).2.1]; exact lS2⟩)
                (fun t t' z h1 h2 => by
                  rcases tgC_some h1 with ⟨rfl, rfl⟩ | ⟨rfl, rfl⟩ | ⟨rfl, rfl⟩ <;> rcases tgC_some h2 with ⟨rfl, h⟩ | ⟨rfl, h⟩ | ⟨rfl, h⟩ <;> first | rfl | omega)
                (fun t ht => by
                  cases htt : tgC (sz hx) t with
                  | none => rfl
                  | some z => rcases tgC_some htt with ⟨rfl, -⟩ | ⟨rfl, -⟩ | ⟨rfl, -⟩ <;> omega)
                (by
                  obtain ⟨m1, m2, m3, m4, m5, m6, m7, m8, m9, m10, m11, m12, m13, m14, m15, m16, m17, m18, m19, m20, m21, m22, m23, m24, m25, m26⟩ := hS.1
                  refine ⟨m1, m2, m3, m4, m5, m6, ?_, m8, m9, ?_, m11, m12, m13, m14, m15, m16, m17, m18, m19, m20, m21, m22, ?_, m24, m25, fun t ht => ?_⟩
                  · show n 11 + 1 = n 1 + 1
                    omega
                  · show n 14 + 1 = n 1 + 1
                    omega
                  · show n 1 + 1 ≤ 60
                    omega
                  · have : tgC (sz hx) t = none := by
                      cases htt : tgC (sz hx) t with
                      | none => rfl
                      | some z => rcases tgC_some htt with ⟨rfl, -⟩ | ⟨rfl, -⟩ | ⟨rfl, -⟩ <;> omega
                    rw [nX_none this]; exact m26 t ht)
                (SXr_ext hS hE (fun t ht => by
                    rcases ht with rfl | rfl | rfl | rfl | rfl | rfl | rfl | rfl | rfl | rfl | rfl | rfl | rfl | rfl | rfl | rfl <;> rfl)
                  (fun i hi hi2 => absurd hi hi2) (fun i hi hi2 => absurd hi hi2) ⟨Nat.le_refl _, Nat.le_refl _⟩
                  (fun i hi hi2 => by
                    have : i = n 1 := by
                      have h9 : nX (tgC (sz hx)) n 1 = n 1 + 1 := rfl
                      omega
                    subst this
                    have h11 : adX (tgC (sz hx)) n ad 11 (n 1) = sz hx + 1 := by rw [← hns.2.2.2.2.2.2.1]; exact adX_new t11
                    have h14 : adX (tgC (sz hx)) n ad 14 (n 1) = sz hx + 2 := by rw [← hns.2.2.2.2.2.2.2.2.2.1]; exact adX_new t14
                    rw [adX_new t1, h11, h14, pN, fNN, rN, rN, rN, rN]
                    exact ⟨i9, i10, i0, i1, hp, hf⟩)
                  (fun i hi => ⟨va_upN _ _ (by omega), va_upN _ _ (by omega)⟩))
              have hwy0 : m_X9_why am (nI p) (nI f) (sFi (wz hm (sz h')) 1000 am 0) = some (0, sFi (wz hm (sz h')) 1000 am 0) := by
                rw [hwy]
                simp only [X9_why_L35, aN, kA201, kA202, kA203, kA206, kA306, i1n0, i0n1, i0e0, i1e1, gI, gR, pI, pB, pR, xI, xL, yI, yL, vc, kd_sFi, fr_sFi, ln_sFi, ai_sFi, al_sFi, ar_sFi, cs_sFi, sz_sFi, sz_sAi, kd_sAi, fi_sAi, fr_sAi, ln_sAi, al_sAi, ar_sAi, cs_sAi, kd_wz, fi_wz, fr_wz, ln_wz, ai_wz, al_wz, ar_wz, Option.bind_some, if_true, if_false, Nat.reduceAdd, Nat.reduceMul, reduceIte, and_self, true_and, and_true, hkm, fin, Int32.le_refl, n00, r29, k29, l29, clf, ibf, hst]
              obtain ⟨hm', q2, hs2, em, ei⟩ := e_sign9 (h := wz hm (sz h')) hM h39 i24 hN hwy0
              refine ⟨nI (100 + n 1), h', hm', q1, q2, hs2.2.2.2.2.2.1, adX (tgC (sz hx)) n ad, nX (tgC (sz hx)) n, e', va_up pO (n 1) p, va_up fO (n 1) f, q, tm, tx, w, pn, nw, va_up fs (n 1) (w + 1), va_up ls (n 1) none, va_up rs (n 1) 0, va_up rl (n 1) 0, va_up pr (n 1) 0, tl, ?_⟩
              have em' : mv q hm' = up2 (up2 (up2 (up2 (up2 (mv q hm) 40 (n 1) (nI p)) 41 (n 1) (nI f)) 42 (n 1) (nI (w + 1))) 43 (n 1) (-1)) 44 (n 1) (-1) := em
              have ei' : mf am hm' = va_up (va_up (mf am hm) 0 0) 39 (nI (n 1 + 1)) := ei
              have e40 : mv q hm' 40 = va_up (mv q hm 40) (n 1) (nI p) := by rw [em']; funext i; simp [up2, va_up]
              have e41 : mv q hm' 41 = va_up (mv q hm 41) (n 1) (nI f) := by rw [em']; funext i; simp [up2, va_up]
              have e42 : mv q hm' 42 = va_up (mv q hm 42) (n 1) (nI (w + 1)) := by rw [em']; funext i; simp [up2, va_up]
              have e43 : mv q hm' 43 = va_up (mv q hm 43) (n 1) (-1) := by rw [em']; funext i; simp [up2, va_up]
              have e44 : mv q hm' 44 = va_up (mv q hm 44) (n 1) (-1) := by rw [em']; funext i; simp [up2, va_up]
              have mo : ∀ k, (k ≠ 40 ∧ k ≠ 41 ∧ k ≠ 42 ∧ k ≠ 43 ∧ k ≠ 44) → mv q hm' k = mv q hm k := fun k hk => by rw [em']; funext i; simp [up2, hk.1, hk.2.1, hk.2.2.1, hk.2.2.2.1, hk.2.2.2.2]
              have cN : ∀ g, (g / 100 ≠ 1 ∧ g / 100 ≠ 11 ∧ g / 100 ≠ 14 ∧ g ≠ 0 ∧ g ≠ 2) → cf (adX (tgC (sz hx)) n ad) (nX (tgC (sz hx)) n) h' g = cf ad n hx g := fun g ⟨h1, h2, h3, h4, h5⟩ => cf_ext hS hE rfl (by
                cases htt : tgC (sz hx) (g / 100) with
                | none => rfl
                | some z => rcases tgC_some htt with ⟨h, -⟩ | ⟨h, -⟩ | ⟨h, -⟩ <;> omega) h4 h5
              have vN : ∀ t, (t ≠ 1 ∧ t ≠ 11 ∧ t ≠ 14) → cv (adX (tgC (sz hx)) n ad) (nX (tgC (sz hx)) n) h' t = cv ad n hx t := fun t ⟨h1, h2, h3⟩ => cv_ext hS hE (by
                cases htt : tgC (sz hx) t with
                | none => rfl
                | some z => rcases tgC_some htt with ⟨h, -⟩ | ⟨h, -⟩ | ⟨h, -⟩ <;> omega)
              have cF : ∀ g, (g / 100 = 1 ∧ g ≠ 2 ∧ g ≠ 0) → cf (adX (tgC (sz hx)) n ad) (nX (tgC (sz hx)) n) h' g = va_up (cf ad n hx g) (n 1) (fi H1 g (sz hx)) := fun g ⟨h1, h2, h3⟩ => by
                rw [cf_extN hS hE h1 t1 h3 h2, fN g]
              have v11 : cv (adX (tgC (sz hx)) n ad) (nX (tgC (sz hx)) n) h' 11 = va_up (cv ad n hx 11) (n 1) (fun _ => 0) := by
                rw [cv_extN hS hE t11, (hA.2.2.1 _ ez1).2.2.1, aS1, hns.2.2.2.2.2.2.1]
              have v14 : cv (adX (tgC (sz hx)) n ad) (nX (tgC (sz hx)) n) h' 14 = va_up (cv ad n hx 14) (n 1) (fun _ => 0) := by
                rw [cv_extN hS hE t14, (hA.2.2.1 _ ez2).2.2.1, aS2, hns.2.2.2.2.2.2.2.2.2.1]
              have z22 : ad 22 0 < sz hx := (hS.2.2.1 22 0 (by omega)).2
              have k22 : kd hx (ad 22 0) = 205 := k0 hS (t := 22) (i := 0) (by omega)
              have e22 : ar h' (adX (tgC (sz hx)) n ad 22 0) = ar hx (ad 22 0) := by
                have h9 : adX (tgC (sz hx)) n ad 22 0 = ad 22 0 := rfl
                rw [h9]
                refine hE.2.2.2.2.2.2.1 _ z22 (fun z => ?_)
                rw [z] at k22
                rcases (lcs hS).1.2.2.2.2 with y | y
                · rw [y.2, hS.2.2.2.2.2.2.1] at k22; cases k22
                · rw [y.1] at k22; cases k22
              have l15 : ∀ t, t < n 4 → ln h' (adX (tgC (sz hx)) n ad 15 t) = ln hx (ad 15 t) := fun t ht => by
                have h9 : adX (tgC (sz hx)) n ad 15 t = ad 15 t := rfl
                rw [h9, (hE.2.2.1 _ (hS.2.2.1 15 t (by omega)).2).2.1]
              unfold PQ
              rw [ei', e22]
              simp only [cN 908 (by decide), cN 909 (by decide), cN 200 (by decide), cN 201 (by decide), cN 202 (by decide), cN 204 (by decide), cN 205 (by decide), cN 206 (by decide), cN 207 (by decide), cN 208 (by decide), cN 300 (by decide), cN 301 (by decide), cN 302 (by decide), cN 601 (by decide), cN 401 (by decide), vN 12 (by decide), vN 13 (by decide), vN 16 (by decide), vN 15 (by decide), mo 26 (by decide), mo 27 (by decide), mo 28 (by decide), mo 29 (by decide), mo 30 (by decide), mo 31 (by decide), mo 32 (by decide), mo 33 (by decide), mo 35 (by decide), mo 36 (by decide), mo 37 (by decide), mo 38 (by decide), mo 45 (by decide), mo 46 (by decide), mo 47 (by decide), mo 48 (by decide), mo 49 (by decide), mo 50 (by decide), mo 51 (by decide), mo 1 (by decide), mo 12 (by decide), mo 13 (by decide), mo 14 (by decide), mo 15 (by decide), mo 16 (by decide), e40, e41, e42, e43, e44, cF 102 (by decide), cF 103 (by decide), cF 104 (by decide), cF 105 (by decide), cF 106 (by decide), cF 107 (by decide), cF 108 (by decide), v11, v14, j2, j3, j4, j5, j6, j7, j8]
              have hM' : SMA q am hm' := SMA_same hs2 hM
              have hW' : ml q hm' 9 = ml q hm 9 := congrFun (ml_same hs2) 9
              rw [hW']
              obtain ⟨u1, u2, u3, u4, u5⟩ := hC.2 (n 1) (Nat.le_refl _) hN
              refine ⟨hS', hM', ⟨hN9.1, hN9.2.1, hN9.2.2.1, hN9.2.2.2.1, hN9.2.2.2.2.1, rfl, hN9.2.2.2.2.2.2⟩, hF, hP, ⟨fun c hc => ?_, fun c h1 h2 => ?_⟩, ⟨fun m hmw => ?_, fun m c h1 h2 h3 => ?_⟩, hT, ⟨hX.1, fun t ht => ?_⟩, hW⟩
              · have hc' : c < n 1 + 1 := hc
                by_cases hin : c < n 1
                · have hne : c ≠ n 1 := by omega
                  have := hC.1 c hin
                  simp only [va_upN _ _ hne]
                  exact this
                · have hie : c = n 1 := by omega
                  subst hie
                  simp only [va_up_same]
                  refine ⟨⟨trivial, trivial, trivial, trivial, by omega, Nat.le_refl _, rfl, rfl, fun z hz => by cases hz⟩, ⟨⟨0, by omega, rfl⟩, ?_⟩, ⟨rfl, rfl, u1, Nat.le_refl _, by rw [if_pos trivial], by rw [if_pos trivial], fun h => by omega, fun k k1 k2 => ?_⟩, ⟨fun i hi => by omega, fun i hi => by omega, fun k hk _ => u4 k hk⟩, fun m hm50 => (u5 m (by omega)).symm, u3.symm⟩
                  · rw [u2, if_neg]
                    intro z
                    have := (nI_eq (a := 0) (b := w + 1) (by omega) (by omega)).mp z
                    omega
                  · have hu := ((hF.1 f hf).2.2.2.2.2.2.2.2.2.2.2.2.1 k k1 k2).2.2
                    constructor
                    · intro z
                      have := z.1
                      omega
                    · intro z
                      omega
              · have h1' : n 1 + 1 ≤ c := h1
                exact hC.2 c (by omega) h2
              · obtain ⟨b1, b2, b3, b4⟩ := hB.1 m hmw
                refine ⟨b1, b2, b3, fun c hc => ?_⟩
                have hc' : c < n 1 + 1 := hc
                by_cases hin : c < n 1
                · have hne : c ≠ n 1 := by omega
                  have := b4 c hin
                  simp only [va_upN _ _ hne]
                  exact this
                · have hie : c = n 1 := by omega
                  subst hie
                  simp only [va_up_same]
                  have hw0 : wkN (w + 1) none m = 0 := by
                    unfold wkN
                    rw [wk1_lt (by omega), wk1_lt (by omega), wk1_lt (by omega), wk1_lt (by omega)]
                  rw [hw0, hB.2 m (n 1) (by omega) hN (Or.inr (Nat.le_refl _))]
                  unfold bil
                  rw [if_pos rfl]
              · refine hB.2 m c h1 h2 ?_
                rcases h3 with h3 | h3
                · exact Or.inl h3
                · have h3' : n 1 + 1 ≤ c := h3
                  exact Or.inr (by omega)
              · obtain ⟨⟨x1, x2, x3, x4, x5⟩, x6⟩ := hX.2 t ht
                exact ⟨⟨x1, x2, x3, (l15 t ht).trans x4, x5⟩, x6⟩
            · refine f1 4 ?_ (by decide) ?_
              · simp only [m_X8_sign, aN, kA201, kA202, kA203, kA206, kA306, i1n0, i0n1, i0e0, i1e1, gI, gR, pI, pB, pR, xI, xL, yI, yL, vc, kd_sFi, fr_sFi, ln_sFi, ai_sFi, al_sFi, ar_sFi, cs_sFi, sz_sFi, sz_sAi, kd_sAi, fi_sAi, fr_sAi, ln_sAi, al_sAi, ar_sAi, cs_sAi, kd_wz, fi_wz, fr_wz, ln_wz, ai_wz, al_wz, ar_wz, Option.bind_some, if_true, if_false, Nat.reduceAdd, Nat.reduceMul, reduceIte, and_self, true_and, and_true, hka, e_paperAt_in hS hp, e_featureAt_in hS hf, reduceCtorEq, hr, hk, Nat.zero_add, e_size hk hL, e9, hrun', hbar', n00, kf, f204, hst]
              · rw [hwy]
                simp only [X9_why_L35, aN, kA201, kA202, kA203, kA206, kA306, i1n0, i0n1, i0e0, i1e1, gI, gR, pI, pB, pR, xI, xL, yI, yL, vc, kd_sFi, fr_sFi, ln_sFi, ai_sFi, al_sFi, ar_sFi, cs_sFi, sz_sFi, sz_sAi, kd_sAi, fi_sAi, fr_sAi, ln_sAi, al_sAi, ar_sAi, cs_sAi, kd_wz, fi_wz, fr_wz, ln_wz, ai_wz, al_wz, ar_wz, Option.bind_some, if_true, if_false, Nat.reduceAdd, Nat.reduceMul, reduceIte, and_self, true_and, and_true, hkm, fin, Int32.le_refl, n00, r29, k29, l29, clf, ibf, hst]
          · rw [b1] at hwy hbar'
            refine f1 3 ?_ (by decide) ?_
            · simp only [m_X8_sign, aN, kA201, kA202, kA203, kA206, kA306, i1n0, i0n1, i0e0, i1e1, gI, gR, pI, pB, pR, xI, xL, yI, yL, vc, kd_sFi, fr_sFi, ln_sFi, ai_sFi, al_sFi, ar_sFi, cs_sFi, sz_sFi, sz_sAi, kd_sAi, fi_sAi, fr_sAi, ln_sAi, al_sAi, ar_sAi, cs_sAi, kd_wz, fi_wz, fr_wz, ln_wz, ai_wz, al_wz, ar_wz, Option.bind_some, if_true, if_false, Nat.reduceAdd, Nat.reduceMul, reduceIte, and_self, true_and, and_true, hka, e_paperAt_in hS hp, e_featureAt_in hS hf, reduceCtorEq, hr, hk, Nat.zero_add, e_size hk hL, e9, hrun', hbar', n00, n10]
            · rw [hwy]
              simp only [X9_why_L35, aN, kA201, kA202, kA203, kA206, kA306, i1n0, i0n1, i0e0, i1e1, gI, gR, pI, pB, pR, xI, xL, yI, yL, vc, kd_sFi, fr_sFi, ln_sFi, ai_sFi, al_sFi, ar_sFi, cs_sFi, sz_sFi, sz_sAi, kd_sAi, fi_sAi, fr_sAi, ln_sAi, al_sAi, ar_sAi, cs_sAi, kd_wz, fi_wz, fr_wz, ln_wz, ai_wz, al_wz, ar_wz, Option.bind_some, if_true, if_false, Nat.reduceAdd, Nat.reduceMul, reduceIte, and_self, true_and, and_true, hkm, fin, Int32.le_refl, n00, n10]
        · rw [o1] at hwy hrun'
          refine f1 2 ?_ (by decide) ?_
          · simp only [m_X8_sign, aN, kA201, kA202, kA203, kA206, kA306, i1n0, i0n1, i0e0, i1e1, gI, gR, pI, pB, pR, xI, xL, yI, yL, vc, kd_sFi, fr_sFi, ln_sFi, ai_sFi, al_sFi, ar_sFi, cs_sFi, sz_sFi, sz_sAi, kd_sAi, fi_sAi, fr_sAi, ln_sAi, al_sAi, ar_sAi, cs_sAi, kd_wz, fi_wz, fr_wz, ln_wz, ai_wz, al_wz, ar_wz, Option.bind_some, if_true, if_false, Nat.reduceAdd, Nat.reduceMul, reduceIte, and_self, true_and, and_true, hka, e_paperAt_in hS hp, e_featureAt_in hS hf, reduceCtorEq, hr, hk, Nat.zero_add, e_size hk hL, e9, hrun', n10]
          · rw [hwy]
            simp only [X9_why_L35, aN, kA201, kA202, kA203, kA206, kA306, i1n0, i0n1, i0e0, i1e1, gI, gR, pI, pB, pR, xI, xL, yI, yL, vc, kd_sFi, fr_sFi, ln_sFi, ai_sFi, al_sFi, ar_sFi, cs_sFi, sz_sFi, sz_sAi, kd_sAi, fi_sAi, fr_sAi, ln_sAi, al_sAi, ar_sAi, cs_sAi, kd_wz, fi_wz, fr_wz, ln_wz, ai_wz, al_wz, ar_wz, Option.bind_some, if_true, if_false, Nat.reduceAdd, Nat.reduceMul, reduceIte, and_self, true_and, and_true, hkm, fin, Int32.le_refl, n10]
    · refine f1 1 ?_ (by decide) ?_
      · simp only [m_X8_sign, aN, kA201, kA202, kA203, kA206, kA306, i1n0, i0n1, i0e0, i1e1, gI, gR, pI, pB, pR, xI, xL, yI, yL, vc, kd_sFi, fr_sFi, ln_sFi, ai_sFi, al_sFi, ar_sFi, cs_sFi, sz_sFi, sz_sAi, kd_sAi, fi_sAi, fr_sAi, ln_sAi, al_sAi, ar_sAi, cs_sAi, kd_wz, fi_wz, fr_wz, ln_wz, ai_wz, al_wz, ar_wz, Option.bind_some, if_true, if_false, Nat.reduceAdd, Nat.reduceMul, reduceIte, and_self, true_and, and_true, hka, e_paperAt_in hS hp, e_featureAt_out hS hob, reduceCtorEq]
      · have := e_isFeature_out (hm := sFi (wz hm (sz hx)) 1000 am 0) hkm h25 hob
        simp only [m_X9_why, aN, kA201, kA202, kA203, kA206, kA306, i1n0, i0n1, i0e0, i1e1, gI, gR, pI, pB, pR, xI, xL, yI, yL, vc, kd_sFi, fr_sFi, ln_sFi, ai_sFi, al_sFi, ar_sFi, cs_sFi, sz_sFi, sz_sAi, kd_sAi, fi_sAi, fr_sAi, ln_sAi, al_sAi, ar_sAi, cs_sAi, kd_wz, fi_wz, fr_wz, ln_wz, ai_wz, al_wz, ar_wz, Option.bind_some, if_true, if_false, Nat.reduceAdd, Nat.reduceMul, reduceIte, and_self, true_and, and_true, hkm, ep, this]
  · refine f1 1 ?_ (by decide) ?_
    · rcases idx b (n 2) (by omega) with ⟨f, hf, rfl⟩ | hob
      · simp only [m_X8_sign, aN, kA201, kA202, kA203, kA206, kA306, i1n0, i0n1, i0e0, i1e1, gI, gR, pI, pB, pR, xI, xL, yI, yL, vc, kd_sFi, fr_sFi, ln_sFi, ai_sFi, al_sFi, ar_sFi, cs_sFi, sz_sFi, sz_sAi, kd_sAi, fi_sAi, fr_sAi, ln_sAi, al_sAi, ar_sAi, cs_sAi, kd_wz, fi_wz, fr_wz, ln_wz, ai_wz, al_wz, ar_wz, Option.bind_some, if_true, if_false, Nat.reduceAdd, Nat.reduceMul, reduceIte, and_self, true_and, and_true, hka, e_paperAt_out hS ho, e_featureAt_in hS hf]
      · simp only [m_X8_sign, aN, kA201, kA202, kA203, kA206, kA306, i1n0, i0n1, i0e0, i1e1, gI, gR, pI, pB, pR, xI, xL, yI, yL, vc, kd_sFi, fr_sFi, ln_sFi, ai_sFi, al_sFi, ar_sFi, cs_sFi, sz_sFi, sz_sAi, kd_sAi, fi_sAi, fr_sAi, ln_sAi, al_sAi, ar_sAi, cs_sAi, kd_wz, fi_wz, fr_wz, ln_wz, ai_wz, al_wz, ar_wz, Option.bind_some, if_true, if_false, Nat.reduceAdd, Nat.reduceMul, reduceIte, and_self, true_and, and_true, hka, e_paperAt_out hS ho, e_featureAt_out hS hob]
    · have := e_isPaper_out (hm := sFi (wz hm (sz hx)) 1000 am 0) hkm h34 ho
      simp only [m_X9_why, aN, kA201, kA202, kA203, kA206, kA306, i1n0, i0n1, i0e0, i1e1, gI, gR, pI, pB, pR, xI, xL, yI, yL, vc, kd_sFi, fr_sFi, ln_sFi, ai_sFi, al_sFi, ar_sFi, cs_sFi, sz_sFi, sz_sAi, kd_sAi, fi_sAi, fr_sAi, ln_sAi, al_sAi, ar_sAi, cs_sAi, kd_wz, fi_wz, fr_wz, ln_wz, ai_wz, al_wz, ar_wz, Option.bind_some, if_true, if_false, Nat.reduceAdd, Nat.reduceMul, reduceIte, and_self, true_and, and_true, hkm, this]
end SIGN2
