section WEEK2
variable {ax ao am : Nat} {ad : Nat → Nat → Nat} {n e pO fO q tm : Nat → Nat} {tx : Nat → List (Int32 × List Int32)} {w : Nat} {pn : Nat → Nat} {nw : Nat → Nat → Nat} {fs : Nat → Nat} {ls : Nat → Option Nat} {rs rl pr : Nat → Nat} {tl : Nat} {hx hm : HS}
theorem e_week (hPQ : PQ ax am ao ad n e pO fO q tm tx w pn nw fs ls rs rl pr tl hx hm) (hw : w + 1 ≤ 200) : ∃ hx' hm', m_X8_passWeek ax hx = some hx' ∧ m_X9_week am hm = some hm' ∧ sz hx' = sz hx ∧ sz hm' = sz hm ∧ ∃ (tm' : Nat → Nat) (pn' : Nat → Nat) (nw' : Nat → Nat → Nat) (rs' rl' pr' : Nat → Nat), PQ ax am ao ad n e pO fO q tm' tx (w + 1) pn' nw' fs ls rs' rl' pr' tl hx' hm' := by
  obtain ⟨hS, hM, hN, hF, hP, hC, hB, hT, hX, hWw⟩ := id hPQ
  have hka := kax hS
  have hkm : kd hm am = 11 := hM.1
  have hn := n_le hS
  have n9 : 0 < n 9 := by rw [hS.1.2.2.2.2.2.1]; decide
  have e9 : ad 9 0 = ax := hS.2.2.2.2.1.1
  have f909 : fi hx 909 ax = nI w := f909_of hS hN.2.1
  have i24 : fi hm 1024 am = nI w := hN.2.2.1
  have ew : nI w + 1 = nI (w + 1) := nI_add w 1
  have hS1 : SXA ax ao ad n e pO fO (sFi hx 909 ax (nI (w + 1))) := SXA_sFi (by decide) (by decide) hS
  have c1 : cf ad n (sFi hx 909 ax (nI (w + 1))) = up2 (cf ad n hx) 909 0 (nI (w + 1)) := by
    have := cf_sFi (h := hx) (g := 909) (x := nI (w + 1)) hS.2.1 (t := 9) (by decide) n9
    rw [e9] at this; exact this
  have c1o : ∀ g, g ≠ 909 → cf ad n (sFi hx 909 ax (nI (w + 1))) g = cf ad n hx g := fun g hg => by rw [c1, up2_ne1' hg]
  have f1 : mf am (sFi hm 1024 am (nI (w + 1))) = va_up (mf am hm) 24 (nI (w + 1)) := mf_sFi rfl
  obtain ⟨hx2, a1, a2, a3, a4, a5, a6, a7⟩ := x_feat (u := w + 1) (n 2) 0 (sFi hx 909 ax (nI (w + 1))) hS1 (by rw [fi_sFi]; exact up2_same _ _ _ _) (fun j hj => by
    rw [c1o 204 (by decide), (hF.1 j hj).2.2.2.2.2.1]; exact (hF.1 j hj).2.2.2.2.2.2.1) (Nat.zero_add _) FU (by unfold FU; omega)
  obtain ⟨hm2, b1, b2, b3, b4, b5, b6, b7, b8⟩ := w_feat (u := w + 1) (pn0 := pn) (n := n) hn.1 (n 2) 0 (sFi hm 1024 am (nI (w + 1))) hM (by rw [f1, va_up_same]) (by rw [f1, va_upN _ _ (by decide)]; exact hN.2.2.2.1) (fun j _ hj => by
    obtain ⟨y1, y2, y3, y4, y5, y6, y7, y8, y9, y10, y11, -⟩ := hF.1 j hj
    exact ⟨y10, by omega⟩) (Nat.zero_add _) FU (by unfold FU; omega)
  rw [mv_sFi] at b4 b5 b6 b7 b8
  obtain ⟨gF, hgF⟩ : ∃ gF : Nat → Nat, gF = fun f => gp (frI (mv q hm 29 f) (mv q hm 30 f) (w + 1)) := ⟨_, rfl⟩
  have gFe : ∀ f, gF f = gp (frI (mv q hm 29 f) (mv q hm 30 f) (w + 1)) := fun f => by rw [hgF]
  obtain ⟨pn', hpn'⟩ : ∃ pn' : Nat → Nat, pn' = fun f => pn f + gF f := ⟨_, rfl⟩
  have pne : ∀ f, pn' f = pn f + gF f := fun f => by rw [hpn']
  obtain ⟨nw', hnw'⟩ : ∃ nw' : Nat → Nat → Nat, nw' = fun f k => if k = pn f + 1 then w + 1 else nw f k := ⟨_, rfl⟩
  have nwe : ∀ f k, nw' f k = if k = pn f + 1 then w + 1 else nw f k := fun f k => by rw [hnw']
  have hFT : FT n w pn nw pn' nw' gF (cf ad n hx2 206) (cf ad n hx2 207) (mv q hm2 31) (mv q hm2 32) := by
    intro f hf
    obtain ⟨y1, y2, y3, y4, y5, y6, y7, y8, y9, y10, y11, y12, y13, y14, y15⟩ := hF.1 f hf
    obtain ⟨d1, d2⟩ := a7 f (Nat.zero_le _) hf
    rw [c1o 204 (by decide), c1o 205 (by decide), y6, y8, ← gFe] at d1 d2
    rw [c1o 206 (by decide), y9, y10, nI_add, ← pne] at d1
    have d3 := b6 f (Nat.zero_le _) hf
    rw [← gFe, ← pne] at d3
    refine ⟨⟨d1, d3, d2⟩, ⟨pne f, by rw [gFe]; exact gp_le1 _, y11⟩, fun k k1 k2 => ?_, fun k hk => ?_, fun _ => ?_, fun k k1 k2 => (y13 k k1 k2).2.2, y14⟩
    · rw [nwe]
      by_cases hk : k = pn f + 1
      · rw [if_pos hk, hk]
        refine b7 f (Nat.zero_le _) hf ?_
        have := pne f
        have hg1 : gF f = 1 := by have := gp_le1 (frI (mv q hm 29 f) (mv q hm 30 f) (w + 1)); rw [← gFe] at this; omega
        rw [gFe] at hg1
        exact gp_1.mp hg1
      · rw [if_neg hk]
        have := pne f
        have hgl := gp_le1 (frI (mv q hm 29 f) (mv q hm 30 f) (w + 1))
        rw [← gFe] at hgl
        rw [b8 _ (fun j' _ h2 h3 => ?_)]
        · exact (y13 k k1 (by omega)).1
        · have := (hF.1 j' h2).2.2.2.2.2.2.2.2.2.2.1
          intro z
          have hjf : j' = f := by omega
          subst hjf
          omega
    · rw [nwe, if_neg (by omega)]
    · rw [nwe, if_pos rfl]
  have fx : ∀ g, (g ≠ 206 ∧ g ≠ 207 ∧ g ≠ 909) → cf ad n hx2 g = cf ad n hx g := fun g hg => by rw [a5 g ⟨hg.1, hg.2.1⟩, c1o g hg.2.2]
  have f9 : cf ad n hx2 909 0 = nI (w + 1) := by rw [a5 909 (by decide), c1, up2_same]
  have fv : cv ad n hx2 = cv ad n hx := a4
  have gi : ∀ k, k ≠ 24 → mf am hm2 k = mf am hm k := fun k hk => by
    have : mf am hm2 k = mf am (sFi hm 1024 am (nI (w + 1))) k := by unfold mf; rw [b3]
    rw [this, f1, va_upN _ _ hk]
  have g24 : mf am hm2 24 = nI (w + 1) := by
    have : mf am hm2 24 = mf am (sFi hm 1024 am (nI (w + 1))) 24 := by unfold mf; rw [b3]
    rw [this, f1, va_up_same]
  have hM2 : SMA q am hm2 := SMA_same b2 hM
  have hWC0 : WC ax ao am ad n e pO fO q w pn nw pn' nw' fs ls 0 hx2 hm2 rs rl pr hx2 hm2 := by
    refine ⟨⟨a2, SameS.rf _, fun _ _ => rfl, fun _ _ => rfl⟩, ⟨hM2, SameS.rf _, rfl, fun _ _ => rfl⟩, fun c' h1 _ => absurd h1 (by omega), fun c' _ hc' => ?_, fun c' h1 h2 => ?_, fun _ _ _ _ => rfl⟩
    · have := RC_l hC hc'
      unfold LNc
      rw [fx 102 (by decide), fx 103 (by decide), fx 104 (by decide), fx 105 (by decide), fx 106 (by decide), fx 107 (by decide), fx 108 (by decide), fv, b4 40 (by decide), b4 41 (by decide), b4 42 (by decide), b4 43 (by decide), b4 44 (by decide), b4 45 (by decide), b4 46 (by decide), b4 47 (by decide), b4 48 (by decide), b4 50 (by decide)]
      exact this
    · obtain ⟨y1, y2, y3, y4, y5⟩ := hC.2 c' h1 h2
      rw [b4 45 (by decide), b4 46 (by decide), b4 47 (by decide), b4 48 (by decide)]
      exact ⟨y1, y2, y4, y5⟩
  obtain ⟨hx3, hm3, rs', rl', pr', o1, o2, o3⟩ := wc_loop hw hn.2.2.1 hn.1 f9 g24 (by rw [gi 39 (by decide)]; exact hN.2.2.2.2.2.1) hFT (n 1) 0 hx2 hm2 rs rl pr (Nat.zero_add _) hWC0 FU (by unfold FU; omega) FU (by unfold FU; omega)
  have pX : m_X8_passWeek ax hx = (if (w + 1) % 4 = 0 then m_X8_endMonth ax (nI ((w + 1) / 4 - 1)) hx3 else some hx3) := by
    rw [← o1]
    have a1' : X8_passWeek_L12 ax FU 0 (sFi hx 909 ax (nI (w + 1))) = X8_passWeek_L49 ax FU (nI 0) hx2 := a1
    simp only [m_X8_passWeek, aN, kA201, kA202, kA203, kA206, kA306, i1n0, i0n1, i0e0, i1e1, gI, gR, pI, pB, pR, xI, xL, yI, yL, vc, kd_sFi, fr_sFi, ln_sFi, ai_sFi, al_sFi, ar_sFi, cs_sFi, sz_sFi, sz_sAi, kd_sAi, fi_sAi, fr_sAi, ln_sAi, al_sAi, ar_sAi, cs_sAi, kd_wz, fi_wz, fr_wz, ln_wz, ai_wz, al_wz, ar_wz, Option.bind_some, if_true, if_false, Nat.reduceAdd, Nat.reduceMul, reduceIte, and_self, true_and, and_true, hka, f909, ew, a1']
  have pM : m_X9_week am hm = (if (w + 1) % 4 = 0 then m_X9_bills am (nI ((w + 1) / 4 - 1)) hm3 else some hm3) := by
    rw [← o2]
    have b1' : X9_week_L12 am FU 0 (sFi hm 1024 am (nI (w + 1))) = X9_week_L81 am FU (nI 0) hm2 := b1
    simp only [m_X9_week, aN, kA201, kA202, kA203, kA206, kA306, i1n0, i0n1, i0e0, i1e1, gI, gR, pI, pB, pR, xI, xL, yI, yL, vc, kd_sFi, fr_sFi, ln_sFi, ai_sFi, al_sFi, ar_sFi, cs_sFi, sz_sFi, sz_sAi, kd_sAi, fi_sAi, fr_sAi, ln_sAi, al_sAi, ar_sAi, cs_sAi, kd_wz, fi_wz, fr_wz, ln_wz, ai_wz, al_wz, ar_wz, Option.bind_some, if_true, if_false, Nat.reduceAdd, Nat.reduceMul, reduceIte, and_self, true_and, and_true, hkm, i24, ew, b1']
  obtain ⟨⟨p1, p2, p3, p4⟩, ⟨q1, q2, q3, q4⟩, l1, -, l3, l4⟩ := id o3
  have sX3 : SameS hx hx3 := (SameS.tr ⟨rfl, rfl, rfl, rfl, rfl, rfl, rfl⟩ a3).tr p2
  have sM3 : SameS hm hm3 := (SameS.tr ⟨rfl, rfl, rfl, rfl, rfl, rfl, rfl⟩ b2).tr q2
  have mo3 : ∀ k, (k ≠ 44 ∧ k ≠ 45 ∧ k ≠ 46 ∧ k ≠ 47 ∧ k ≠ 48 ∧ k ≠ 31 ∧ k ≠ 32) → mv q hm3 k = mv q hm k := fun k hk => by
    rw [q4 k ⟨hk.1, hk.2.1, hk.2.2.1, hk.2.2.2.1, hk.2.2.2.2.1⟩, b4 k hk.2.2.2.2.2]
  have m48 : ∀ c' m, m < 51 → m ≠ w / 4 → mv q hm3 48 (51 * c' + m) = mv q hm 48 (51 * c' + m) := fun c' m h1 h2 => by
    rw [l4 c' m h1 h2, b4 48 (by decide)]
  have c108 : ∀ c, c < n 1 → cf ad n hx3 108 c = mv q hm3 50 c := fun c hc => by
    rw [p3 108 (by decide), fx 108 (by decide), mo3 50 (by decide)]; exact (hC.1 c hc).2.2.2.2.2
  have c208 : ∀ f, f < n 2 → cf ad n hx3 208 f = mv q hm3 33 f := fun f hf => by
    rw [p3 208 (by decide), fx 208 (by decide), mo3 33 (by decide)]; exact (hF.1 f hf).2.2.2.2.2.2.2.2.2.2.2.1
  by_cases h4 : (w + 1) % 4 = 0
  · rw [if_pos h4] at pX pM
    obtain ⟨m, hm4⟩ : ∃ m, m = (w + 1) / 4 - 1 := ⟨_, rfl⟩
    rw [← hm4] at pX pM
    have hmw : m = w / 4 := by omega
    have hm50 : m < 50 := by omega
    have ht : n 4 - 1 < n 4 := by omega
    have hcl : ∀ c, c < n 1 → (cf ad n hx3 102 c = nI (fs c) ∧ cf ad n hx3 103 c = lsI (ls c) ∧ mv q hm3 42 c = nI (fs c) ∧ mv q hm3 43 c = lsI (ls c) ∧ fs c ≤ 1000 ∧ ∀ z, ls c = some z → z ≤ 1000) ∧ mv q hm3 40 c = nI (pO c) ∧ mv q hm3 41 c = nI (fO c) ∧ cv ad n hx3 14 c m = mv q hm3 48 (51 * c + m) := fun c hc => by
      obtain ⟨⟨s1, s2, s3, s4, s5, s6, s7, s8, s9⟩, -, -, he, -⟩ := l1 c hc hc
      exact ⟨⟨s3, s7, s4, s8, by omega, fun z hz => by have := (s9 z hz).1; omega⟩, s1, s2, he m hm50⟩
    have hif : ∀ k, k ≠ 24 → mf am hm3 k = mf am hm k := fun k hk => by
      have : mf am hm3 k = mf am hm2 k := by unfold mf; rw [q3]
      rw [this, gi k hk]
    obtain ⟨hm4', hx', hm', u1, u2, ⟨v1, v2, v3, v4, v5, v6⟩, hBI⟩ := e_month (T := tx (n 4 - 1)) (m := m) p1 q1 hm50 (by rw [hif 39 (by decide)]; exact hN.2.2.2.2.2.1) (by rw [hif 34 (by decide)]; exact hN.2.2.2.2.1) (by rw [hif 11 (by decide)]; exact hN.2.2.2.2.2.2.2.2) ((RX_TxX hX ht).fr sX3.2.2.1 (by rw [p4 15 (by decide), fv])) ((RX_Tx9 hX ht hn.2.2.2.1).fr (fun k hk => mo3 k (by omega))) hcl (fun f hf => by
      rw [p3 201 (by decide), fx 201 (by decide), mo3 26 (by decide)]; exact (hF.1 f hf).2.1) (fun p hp => by
      have := (hP p hp).2.2.2 m (by omega)
      rw [if_neg (by omega)] at this
      rw [p4 13 (by decide), fv, mo3 37 (by decide)]; exact this) (fun c hc => by
      rw [mo3 49 (by decide)]; exact hB.2 m c (by omega) (by omega) (Or.inl (by omega))) c108 c208
    obtain ⟨⟨x1, x2, x3, x4⟩, ⟨x5, x6, x7, x8⟩, ⟨x9, x10⟩, ⟨x11, x12⟩, x13, x14⟩ := hBI
    refine ⟨hx', hm', pX.trans u1, pM.trans u2, ?_, ?_, va_up tm m (n 4 - 1), pn', nw', rs', rl', pr', week_fin hPQ hw hFT fx f9 fv b4 (fun j hj => b5 j (by omega)) gi g24 (by rw [x6.2.2.2.1, v1.2.2.2.1, sM3.2.2.2.1]) (x2.2.2.1.trans sX3.2.2.1) o3 x1 x5 x3 x4 (fun k hk => by rw [x8 k ⟨hk.1, hk.2.1, hk.2.2.1, hk.2.2.2.2.1, hk.2.2.2.2.2.1⟩, v3 k ⟨hk.2.2.2.1, hk.2.2.2.2.2.2⟩]) (x7.trans v2) x9 x10 (fun c hc => by rw [x11 c hc, v3 50 (by decide)]) (fun f hf => by rw [x12 f hf, v3 33 (by decide)]) (fun i hi m' hm5 => ?_) ⟨fun m' hm5 => ?_, fun m' c h1 h2 h3 => ?_⟩⟩
    · exact x2.2.2.2.2.2.1.trans sX3.2.2.2.2.2.1
    · exact x6.2.2.2.2.2.1.trans (v1.2.2.2.2.2.1.trans sM3.2.2.2.2.2.1)
    · have hp := (hP i hi).2.2.2 m' hm5
      rw [x8 38 (by decide), hp]
      by_cases hmm : m' = m
      · subst hmm
        rw [if_neg (by omega), if_pos (by omega), v5 i hi, mo3 37 (by decide)]
      · rw [v6 _ (fun p hp z => hmm (by omega)), mo3 38 (by decide)]
        by_cases hlt : m' < w / 4
        · rw [if_pos hlt, if_pos (by omega)]
        · rw [if_neg hlt, if_neg (by omega)]
    · have har : ar hx' (ad 22 0) = va_up (ar hx (ad 22 0)) m (some (ad 4 (n 4 - 1))) := by
        rw [x2.2.2.2.2.1, ar_sAr, sX3.2.2.2.2.1]
        funext i; simp [up2, va_up]
      rw [har, x8 51 (by decide), v4, x8 38 (by decide), x8 48 (by decide), v3 48 (by decide)]
      by_cases hmm : m' = m
      · subst hmm
        rw [va_up_same, va_up_same, va_up_same]
        refine ⟨ht, rfl, rfl, fun c hc => ?_⟩
        rw [x13 c hc trivial]
        unfold bl
        rw [v3 26 (by decide), v3 48 (by decide), mo3 26 (by decide)]
      · rw [va_upN _ _ hmm, va_upN _ _ hmm, va_upN _ _ hmm, mo3 51 (by decide)]
        have hlt : m' < w / 4 := by omega
        obtain ⟨y1, y2, y3, y4⟩ := hB.1 m' hlt
        refine ⟨y1, y2, y3, fun c hc => ?_⟩
        obtain ⟨-, -, -, -, z5, z6⟩ := crf hS hc
        rw [x14 _ (fun c' hc' _ z => hmm (by omega)), v3 49 (by decide), mo3 49 (by decide), y4 c hc, v6 _ (fun p hp z => hmm (by omega)), mo3 38 (by decide), m48 c m' (by omega) (by omega)]
    · rw [x14 _ (fun c' hc' _ z => by omega), v3 49 (by decide), mo3 49 (by decide)]
      exact hB.2 m' c h1 h2 (by omega)
  · rw [if_neg h4] at pX pM
    have hdiv : (w + 1) / 4 = w / 4 := by omega
    refine ⟨hx3, hm3, pX, pM, sX3.2.2.2.2.2.1, sM3.2.2.2.2.2.1, tm, pn', nw', rs', rl', pr', week_fin hPQ hw hFT fx f9 fv b4 (fun j hj => b5 j (by omega)) gi g24 sM3.2.2.2.1 sX3.2.2.1 o3 p1 q1 (fun _ _ => rfl) (fun _ _ => rfl) (fun _ _ => rfl) rfl c108 c208 (fun _ _ => rfl) (fun _ _ => rfl) (fun i hi m' hm5 => ?_) ?_⟩
    · rw [hdiv, mo3 38 (by decide)]; exact (hP i hi).2.2.2 m' hm5
    · unfold RB
      rw [hdiv, sX3.2.2.2.2.1, mo3 51 (by decide), mo3 49 (by decide), mo3 38 (by decide)]
      refine ⟨fun m' hm5 => ?_, hB.2⟩
      obtain ⟨y1, y2, y3, y4⟩ := hB.1 m' hm5
      exact ⟨y1, y2, y3, fun c hc => by rw [m48 c m' (by omega) (by omega)]; exact y4 c hc⟩
theorem e_weeksL : ∀ (k j : Nat) (w : Nat) (tm pn : Nat → Nat) (nw : Nat → Nat → Nat) (rs rl pr : Nat → Nat) (hx hm : HS) (N : Nat), PQ ax am ao ad n e pO fO q tm tx w pn nw fs ls rs rl pr tl hx hm → w + k ≤ 200 → j + k = N → N ≤ 30 → ∀ F, k < F → ∀ F', k < F' → ∃ hx' hm', X8_weeks_L26 ax F (nI N) (nI j) hx = some (nI (w + k), hx') ∧ X9_weeks_L31 am F' (nI N) (nI j) hm = some (nI (w + k), hm') ∧ sz hx' = sz hx ∧ sz hm' = sz hm ∧ ∃ (tm' : Nat → Nat) (pn' : Nat → Nat) (nw' : Nat → Nat → Nat) (rs' rl' pr' : Nat → Nat), PQ ax am ao ad n e pO fO q tm' tx (w + k) pn' nw' fs ls rs' rl' pr' tl hx' hm' := by
  intro k
  induction k with
  | zero =>
    intro j w tm pn nw rs rl pr hx hm N hP hw hj hN F hF F' hF'
    obtain ⟨F, rfl⟩ := nF1 hF
    obtain ⟨F', rfl⟩ := nF1 hF'
    have hS := hP.1
    have hM := hP.2.1
    have hka := kax hS
    have hkm : kd hm am = 11 := hM.1
    have f909 : fi hx 909 ax = nI w := f909_of hS hP.2.2.1.2.1
    have i24 : fi hm 1024 am = nI w := hP.2.2.1.2.2.1
    have e1 : nI N ≤ nI j := nI_le (by omega) (by omega)
    refine ⟨hx, hm, ?_, ?_, rfl, rfl, tm, pn, nw, rs, rl, pr, hP⟩
    · conv => lhs; unfold X8_weeks_L26
      simp only [aN, kA201, kA202, kA203, kA206, kA306, i1n0, i0n1, i0e0, i1e1, gI, gR, pI, pB, pR, xI, xL, yI, yL, vc, kd_sFi, fr_sFi, ln_sFi, ai_sFi, al_sFi, ar_sFi, cs_sFi, sz_sFi, sz_sAi, kd_sAi, fi_sAi, fr_sAi, ln_sAi, al_sAi, ar_sAi, cs_sAi, kd_wz, fi_wz, fr_wz, ln_wz, ai_wz, al_wz, ar_wz, Option.bind_some, if_true, if_false, Nat.reduceAdd, Nat.reduceMul, reduceIte, and_self, true_and, and_true, hka, f909, e1, Nat.add_zero]
    · conv => lhs; unfold X9_weeks_L31
      simp only [aN, kA201, kA202, kA203, kA206, kA306, i1n0, i0n1, i0e0, i1e1, gI, gR, pI, pB, pR, xI, xL, yI, yL, vc, kd_sFi, fr_sFi, ln_sFi, ai_sFi, al_sFi, ar_sFi, cs_sFi, sz_sFi, sz_sAi, kd_sAi, fi_sAi, fr_sAi, ln_sAi, al_sAi, ar_sAi, cs_sAi, kd_wz, fi_wz, fr_wz, ln_wz, ai_wz, al_wz, ar_wz, Option.bind_some, if_true, if_false, Nat.reduceAdd, Nat.reduceMul, reduceIte, and_self, true_and, and_true, hkm, i24, e1, Nat.add_zero]
  | succ k ih =>
    intro j w tm pn nw rs rl pr hx hm N hP hw hj hN F hF F' hF'
    obtain ⟨F, rfl⟩ := nF1 hF
    obtain ⟨F', rfl⟩ := nF1 hF'
    have hka := kax hP.1
    have hkm : kd hm am = 11 := hP.2.1.1
    have e1 : ¬ nI N ≤ nI j := nI_ge (by omega) (by omega)
    have e7 : nI j + 1 = nI (j + 1) := nI_add j 1
    obtain ⟨hx1, hm1, a1, a2, a3, a4, tm', pn', nw', rs', rl', pr', hP'⟩ := e_week hP (by omega)
    obtain ⟨hx2, hm2, b1, b2, b3, b4, b5⟩ := ih (j + 1) (w + 1) tm' pn' nw' rs' rl' pr' hx1 hm1 N hP' (by omega) (by omega) hN F (by omega) F' (by omega)
    rw [show w + 1 + k = w + (k + 1) by omega] at b1 b2 b5
    refine ⟨hx2, hm2, ?_, ?_, b3.trans a3, b4.trans a4, b5⟩
    · rw [← b1]
      conv => lhs; unfold X8_weeks_L26
      simp only [aN, kA201, kA202, kA203, kA206, kA306, i1n0, i0n1, i0e0, i1e1, gI, gR, pI, pB, pR, xI, xL, yI, yL, vc, kd_sFi, fr_sFi, ln_sFi, ai_sFi, al_sFi, ar_sFi, cs_sFi, sz_sFi, sz_sAi, kd_sAi, fi_sAi, fr_sAi, ln_sAi, al_sAi, ar_sAi, cs_sAi, kd_wz, fi_wz, fr_wz, ln_wz, ai_wz, al_wz, ar_wz, Option.bind_some, if_true, if_false, Nat.reduceAdd, Nat.reduceMul, reduceIte, and_self, true_and, and_true, hka, e1, a1, e7]
    · rw [← b2]
      conv => lhs; unfold X9_weeks_L31
      simp only [aN, kA201, kA202, kA203, kA206, kA306, i1n0, i0n1, i0e0, i1e1, gI, gR, pI, pB, pR, xI, xL, yI, yL, vc, kd_sFi, fr_sFi, ln_sFi, ai_sFi, al_sFi, ar_sFi, cs_sFi, sz_sFi, sz_sAi, kd_sAi, fi_sAi, fr_sAi, ln_sAi, al_sAi, ar_sAi, cs_sAi, kd_wz, fi_wz, fr_wz, ln_wz, ai_wz, al_wz, ar_wz, Option.bind_some, if_true, if_false, Nat.reduceAdd, Nat.reduceMul, reduceIte, and_self, true_and, and_true, hkm, e1, a2, e7]
theorem op_weeks (a : Int32) : StI (PP ax am ao) (m_X8_weeks ax a) (m_X9_weeks am a) := by
  rintro hx hm ⟨ad, n, e, pO, fO, q, tm, tx, w, pn, nw, fs, ls, rs, rl, pr, tl, hS, hM, hN, hF, hP, hC, hB, hT, hX, hW⟩
  have hka := kax hS
  have hkm : kd hm am = 11 := hM.1
  have hn := n_le hS
  have hI := hS.2.1
  have hq : ∀ k k', q k = q k' → k = k' := hM.2.2
  have hw : w ≤ 200 := hN.1
  have f909 : fi hx 909 ax = nI w := by
    have h1 := hN.2.1
    rw [← cf_at (g := 909) (n := n) (t := 9) (by decide) (by rw [hS.1.2.2.2.2.2.1]; decide), hS.2.2.2.2.1.1] at h1
    exact h1
  have i24 : fi hm 1024 am = nI w := hN.2.2.1
  have h25 : mf am hm 25 = nI (n 2) := hN.2.2.2.1
  have h34 : mf am hm 34 = nI (n 3) := hN.2.2.2.2.1
  have h39 : mf am hm 39 = nI (n 1) := hN.2.2.2.2.2.1
  have bad : (m_X8_weeks ax a hx = some (-1, hx)) → (m_X9_weeks am a (wz hm (sz hx)) = some (-1, sFi (wz hm (sz hx)) 1000 am 0)) → ∃ r hx' hm', m_X8_weeks ax a hx = some (r, hx') ∧ m_X9_weeks am a (wz hm (sz hx')) = some (r, hm') ∧ sz hm' = sz hx' ∧ PP ax am ao hx' hm' := fun h1 h2 => ⟨-1, hx, _, h1, h2, rfl, ad, n, e, pO, fO, q, tm, tx, w, pn, nw, fs, ls, rs, rl, pr, tl, hS, hM, hN, hF, hP, hC, hB, hT, hX, hW⟩
  have f24 : fi (sFi (wz hm (sz hx)) 1000 am 0) 1024 am = nI w := by rw [fi_sFi, up2_ne1 _ _ _ _ (by decide)]; exact i24
  by_cases hr : Wi a 0 30
  · obtain ⟨k, rfl, hk⟩ := nI_val (b := 30) hr (by omega)
    have e1 : nI w + nI k = nI (w + k) := nI_add w k
    have r1 := hr.1
    have r2 := hr.2
    by_cases hw2 : w + k ≤ 200
    · have e2 : nI (w + k) ≤ 200 := nI_le (b := 200) hw2 (by omega)
      have hPQ : PQ ax am ao ad n e pO fO q tm tx w pn nw fs ls rs rl pr tl hx (sFi (wz hm (sz hx)) 1000 am 0) := ⟨hS, hM, hN, hF, hP, hC, hB, hT, hX, hW⟩
      obtain ⟨hx', hm', a1, a2, a3, a4, tm', pn', nw', rs', rl', pr', hP'⟩ := e_weeksL k 0 w tm pn nw rs rl pr hx _ k hPQ hw2 (Nat.zero_add _) (by omega) FU (by unfold FU; omega) FU (by unfold FU; omega)
      have a1' : X8_weeks_L26 ax FU (nI k) 0 hx = some (nI (w + k), hx') := a1
      have a2' : X9_weeks_L31 am FU (nI k) 0 (sFi (wz hm (sz hx)) 1000 am 0) = some (nI (w + k), hm') := a2
      refine ⟨nI (w + k), hx', hm', ?_, ?_, ?_, ad, n, e, pO, fO, q, tm', tx, w + k, pn', nw', fs, ls, rs', rl', pr', tl, hP'⟩
      · simp only [m_X8_weeks, aN, kA201, kA202, kA203, kA206, kA306, i1n0, i0n1, i0e0, i1e1, gI, gR, pI, pB, pR, xI, xL, yI, yL, vc, kd_sFi, fr_sFi, ln_sFi, ai_sFi, al_sFi, ar_sFi, cs_sFi, sz_sFi, sz_sAi, kd_sAi, fi_sAi, fr_sAi, ln_sAi, al_sAi, ar_sAi, cs_sAi, kd_wz, fi_wz, fr_wz, ln_wz, ai_wz, al_wz, ar_wz, Option.bind_some, if_true, if_false, Nat.reduceAdd, Nat.reduceMul, reduceIte, and_self, true_and, and_true, hka, e_within, wi_pos hr, f909, e1, e2, a1']
      · rw [a3]
        simp only [m_X9_weeks, aN, kA201, kA202, kA203, kA206, kA306, i1n0, i0n1, i0e0, i1e1, gI, gR, pI, pB, pR, xI, xL, yI, yL, vc, kd_sFi, fr_sFi, ln_sFi, ai_sFi, al_sFi, ar_sFi, cs_sFi, sz_sFi, sz_sAi, kd_sAi, fi_sAi, fr_sAi, ln_sAi, al_sAi, ar_sAi, cs_sAi, kd_wz, fi_wz, fr_wz, ln_wz, ai_wz, al_wz, ar_wz, Option.bind_some, if_true, if_false, Nat.reduceAdd, Nat.reduceMul, reduceIte, and_self, true_and, and_true, hkm, r1, r2, f24, e1, e2, a2']
      · rw [a4, a3]; rfl
    · have e2 : ¬ nI (w + k) ≤ 200 := nI_ge (a := 200) (by omega) (by omega)
      refine bad ?_ ?_
      · simp only [m_X8_weeks, aN, kA201, kA202, kA203, kA206, kA306, i1n0, i0n1, i0e0, i1e1, gI, gR, pI, pB, pR, xI, xL, yI, yL, vc, kd_sFi, fr_sFi, ln_sFi, ai_sFi, al_sFi, ar_sFi, cs_sFi, sz_sFi, sz_sAi, kd_sAi, fi_sAi, fr_sAi, ln_sAi, al_sAi, ar_sAi, cs_sAi, kd_wz, fi_wz, fr_wz, ln_wz, ai_wz, al_wz, ar_wz, Option.bind_some, if_true, if_false, Nat.reduceAdd, Nat.reduceMul, reduceIte, and_self, true_and, and_true, hka, e_within, wi_pos hr, f909, e1, e2]
      · simp only [m_X9_weeks, aN, kA201, kA202, kA203, kA206, kA306, i1n0, i0n1, i0e0, i1e1, gI, gR, pI, pB, pR, xI, xL, yI, yL, vc, kd_sFi, fr_sFi, ln_sFi, ai_sFi, al_sFi, ar_sFi, cs_sFi, sz_sFi, sz_sAi, kd_sAi, fi_sAi, fr_sAi, ln_sAi, al_sAi, ar_sAi, cs_sAi, kd_wz, fi_wz, fr_wz, ln_wz, ai_wz, al_wz, ar_wz, Option.bind_some, if_true, if_false, Nat.reduceAdd, Nat.reduceMul, reduceIte, and_self, true_and, and_true, hkm, r1, r2, f24, e1, e2]
  · refine bad ?_ ?_
    · simp only [m_X8_weeks, aN, kA201, kA202, kA203, kA206, kA306, i1n0, i0n1, i0e0, i1e1, gI, gR, pI, pB, pR, xI, xL, yI, yL, vc, kd_sFi, fr_sFi, ln_sFi, ai_sFi, al_sFi, ar_sFi, cs_sFi, sz_sFi, sz_sAi, kd_sAi, fi_sAi, fr_sAi, ln_sAi, al_sAi, ar_sAi, cs_sAi, kd_wz, fi_wz, fr_wz, ln_wz, ai_wz, al_wz, ar_wz, Option.bind_some, if_true, if_false, Nat.reduceAdd, Nat.reduceMul, reduceIte, and_self, true_and, and_true, e_within, wi_neg hr]
    · by_cases h0 : a < 0
      · simp only [m_X9_weeks, aN, kA201, kA202, kA203, kA206, kA306, i1n0, i0n1, i0e0, i1e1, gI, gR, pI, pB, pR, xI, xL, yI, yL, vc, kd_sFi, fr_sFi, ln_sFi, ai_sFi, al_sFi, ar_sFi, cs_sFi, sz_sFi, sz_sAi, kd_sAi, fi_sAi, fr_sAi, ln_sAi, al_sAi, ar_sAi, cs_sAi, kd_wz, fi_wz, fr_wz, ln_wz, ai_wz, al_wz, ar_wz, Option.bind_some, if_true, if_false, Nat.reduceAdd, Nat.reduceMul, reduceIte, and_self, true_and, and_true, hkm, h0]
      · have h1 : 30 < a := Classical.byContradiction fun z => hr ⟨h0, z⟩
        simp only [m_X9_weeks, aN, kA201, kA202, kA203, kA206, kA306, i1n0, i0n1, i0e0, i1e1, gI, gR, pI, pB, pR, xI, xL, yI, yL, vc, kd_sFi, fr_sFi, ln_sFi, ai_sFi, al_sFi, ar_sFi, cs_sFi, sz_sFi, sz_sAi, kd_sAi, fi_sAi, fr_sAi, ln_sAi, al_sAi, ar_sAi, cs_sAi, kd_wz, fi_wz, fr_wz, ln_wz, ai_wz, al_wz, ar_wz, Option.bind_some, if_true, if_false, Nat.reduceAdd, Nat.reduceMul, reduceIte, and_self, true_and, and_true, hkm, h0, h1]
end WEEK2
