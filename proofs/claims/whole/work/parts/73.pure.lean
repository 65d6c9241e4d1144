/-! bills are added on both sides -/
section BADD
variable {ax ao am : Nat} {ad : Nat → Nat → Nat} {n e pO fO q tm : Nat → Nat} {tx : Nat → List (Int32 × List Int32)} {w : Nat} {pn : Nat → Nat} {nw : Nat → Nat → Nat} {fs : Nat → Nat} {ls : Nat → Option Nat} {rs rl pr : Nat → Nat} {tl : Nat} {hx hm : HS}
theorem e_addBill {h : HS} (hS : SXA ax ao ad n e pO fO h) {c : Nat} (hc : c < n 1) (x : Int32) : ∃ h', m_X0_addBill (ad 1 c) x h = some h' ∧ SXA ax ao ad n e pO fO h' ∧ SameS h h' ∧ cf ad n h' = up2 (up2 (cf ad n h) 108 c (cf ad n h 108 c + x)) 208 (fO c) (cf ad n h 208 (fO c) + x) ∧ cv ad n h' = cv ad n h := by
  obtain ⟨z1, z2, z3, z4, z5, z6⟩ := crf hS hc
  have k1 : kd h (ad 1 c) = 2 := k0 hS hc
  have kf : kd h (ad 2 (fO c)) = 3 := k0 hS z6
  have f108 : fi h 108 (ad 1 c) = cf ad n h 108 c := cf_at (g := 108) (n := n) (t := 1) (by decide) hc
  have f208 : fi h 208 (ad 2 (fO c)) = cf ad n h 208 (fO c) := cf_at (g := 208) (n := n) (t := 2) (by decide) z6
  have n1 : ((208 : Nat) = 108) = False := eq_false (by decide)
  have hS1 : SXA ax ao ad n e pO fO (sFi h 108 (ad 1 c) (cf ad n h 108 c + x)) := SXA_sFi (by decide) (by decide) hS
  refine ⟨sFi (sFi h 108 (ad 1 c) (cf ad n h 108 c + x)) 208 (ad 2 (fO c)) (cf ad n h 208 (fO c) + x), ?_, SXA_sFi (by decide) (by decide) hS1, ⟨rfl, rfl, rfl, rfl, rfl, rfl, rfl⟩, ?_, rfl⟩
  · simp only [m_X0_addBill, aN, kA201, kA202, kA203, kA206, kA306, i1n0, i0n1, i0e0, i1e1, gI, gR, pI, pB, pR, xI, xL, yI, yL, vc, kd_sFi, fr_sFi, ln_sFi, ai_sFi, al_sFi, ar_sFi, cs_sFi, sz_sFi, sz_sAi, kd_sAi, fi_sAi, fr_sAi, ln_sAi, al_sAi, ar_sAi, cs_sAi, kd_wz, fi_wz, fr_wz, ln_wz, ai_wz, al_wz, ar_wz, Option.bind_some, if_true, if_false, Nat.reduceAdd, Nat.reduceMul, reduceIte, and_self, true_and, and_true, k1, kf, f108, z4, fi_sFi, up2, n1, false_and, f208]
  · rw [cf_sFi hS.2.1 (t := 2) (by decide) z6, cf_sFi hS.2.1 (t := 1) (by decide) hc]
def BI (ax ao am : Nat) (ad : Nat → Nat → Nat) (n e pO fO q : Nat → Nat) (m : Nat) (dn : Nat → Prop) (vl : Nat → Int32) (hx0 hm0 hx hm : HS) : Prop :=
  (SXA ax ao ad n e pO fO hx ∧ SameS hx0 hx ∧ (∀ g, (g ≠ 502 ∧ g ≠ 108 ∧ g ≠ 208) → cf ad n hx g = cf ad n hx0 g) ∧ ∀ t, (t ≠ 20 ∧ t ≠ 21) → cv ad n hx t = cv ad n hx0 t) ∧
  (SMA q am hm ∧ SameS hm0 hm ∧ fi hm = fi hm0 ∧ ∀ k, (k ≠ 22 ∧ k ≠ 23 ∧ k ≠ 33 ∧ k ≠ 49 ∧ k ≠ 50) → mv q hm k = mv q hm0 k) ∧
  ((∀ c, c < n 1 → cf ad n hx 108 c = mv q hm 50 c) ∧ ∀ f, f < n 2 → cf ad n hx 208 f = mv q hm 33 f) ∧
  ((∀ c, n 1 ≤ c → mv q hm 50 c = mv q hm0 50 c) ∧ ∀ f, n 2 ≤ f → mv q hm 33 f = mv q hm0 33 f) ∧
  ((∀ c, c < n 1 → dn c → mv q hm 49 (51 * c + m) = vl c) ∧ ∀ i, (∀ c, c < n 1 → dn c → i ≠ 51 * c + m) → mv q hm 49 i = mv q hm0 49 i)
theorem BI.cg {m : Nat} {dn dn' : Nat → Prop} {vl : Nat → Int32} {hx0 hm0 : HS} (h : BI ax ao am ad n e pO fO q m dn vl hx0 hm0 hx hm) (hd : ∀ c, c < n 1 → (dn' c ↔ dn c)) : BI ax ao am ad n e pO fO q m dn' vl hx0 hm0 hx hm := by
  obtain ⟨h1, h2, h3, h4, h5, h6⟩ := h
  exact ⟨h1, h2, h3, h4, fun c hc hd' => h5 c hc ((hd c hc).mp hd'), fun i hi => h6 i (fun c hc hd' => hi c hc ((hd c hc).mpr hd'))⟩
theorem BI.fr {m : Nat} {dn : Nat → Prop} {vl : Nat → Int32} {hx0 hm0 hx' : HS} (h : BI ax ao am ad n e pO fO q m dn vl hx0 hm0 hx hm) (hf : FrR ax ao ad n e pO fO hx hx') : BI ax ao am ad n e pO fO q m dn vl hx0 hm0 hx' hm := by
  obtain ⟨⟨a1, a2, a3, a4⟩, h2, h3, h4⟩ := h
  refine ⟨⟨hf.1, a2.tr hf.2.1, fun g hg => (hf.2.2.1 g hg.1).trans (a3 g hg), fun t ht => (hf.2.2.2 t ht).trans (a4 t ht)⟩, h2, ⟨fun c hc => ?_, fun f hf' => ?_⟩, h4⟩
  · rw [hf.2.2.1 108 (by decide)]; exact h3.1 c hc
  · rw [hf.2.2.1 208 (by decide)]; exact h3.2 f hf'
theorem BI.add {m : Nat} (hm51 : m < 51) {dn : Nat → Prop} {vl : Nat → Int32} {hx0 hm0 hx' hm' : HS} (h : BI ax ao am ad n e pO fO q m dn vl hx0 hm0 hx hm) {c : Nat} (hc : c < n 1) (hfc : fO c < n 2) {x B : Int32} (hv : vl c = B) (a1 : SXA ax ao ad n e pO fO hx') (a2 : SameS hx hx') (a3 : cf ad n hx' = up2 (up2 (cf ad n hx) 108 c (cf ad n hx 108 c + x)) 208 (fO c) (cf ad n hx 208 (fO c) + x)) (a4 : cv ad n hx' = cv ad n hx)
    (b1 : SameS hm hm') (b2 : fi hm' = fi hm) (b3 : ∀ k, (k ≠ 22 ∧ k ≠ 23 ∧ k ≠ 33 ∧ k ≠ 49 ∧ k ≠ 50) → mv q hm' k = mv q hm k) (b4 : mv q hm' 49 = va_up (mv q hm 49) (51 * c + m) B) (b5 : mv q hm' 50 = va_up (mv q hm 50) c (mv q hm 50 c + x)) (b6 : mv q hm' 33 = va_up (mv q hm 33) (fO c) (mv q hm 33 (fO c) + x)) : BI ax ao am ad n e pO fO q m (fun c' => dn c' ∨ c' = c) vl hx0 hm0 hx' hm' := by
  obtain ⟨⟨c1, c2, c3, c4⟩, ⟨d1, d2, d3, d4⟩, ⟨e1, e2⟩, ⟨f1, f2⟩, g1, g2⟩ := h
  refine ⟨⟨a1, c2.tr a2, fun g hg => ?_, fun t ht => by rw [a4]; exact c4 t ht⟩, ⟨SMA_same b1 d1, d2.tr b1, b2.trans d3, fun k hk => (b3 k hk).trans (d4 k hk)⟩, ⟨fun c' hc' => ?_, fun f hf => ?_⟩, ⟨fun c' hc' => ?_, fun f hf => ?_⟩, fun c' hc' hd => ?_, fun i hi => ?_⟩
  · rw [a3, ← c3 g hg]; funext i
    rw [up2_ne1 _ _ _ _ hg.2.2, up2_ne1 _ _ _ _ hg.2.1]
  · rw [a3, up2_ne1' (by decide), up2_va, b5]
    by_cases hcc : c' = c
    · subst hcc; rw [va_up_same, va_up_same, e1 c' hc']
    · rw [va_upN _ _ hcc, va_upN _ _ hcc]; exact e1 c' hc'
  · rw [a3, up2_va, up2_ne1' (by decide), b6]
    by_cases hcc : f = fO c
    · subst hcc; rw [va_up_same, va_up_same, e2 _ hf]
    · rw [va_upN _ _ hcc, va_upN _ _ hcc]; exact e2 f hf
  · rw [b5, va_upN _ _ (by omega)]; exact f1 c' hc'
  · rw [b6, va_upN _ _ (by omega)]; exact f2 f hf
  · rw [b4]
    by_cases hcc : c' = c
    · subst hcc; rw [va_up_same]; exact hv.symm
    · rw [va_upN _ _ (by omega)]
      rcases hd with hd | hd
      · exact g1 c' hc' hd
      · exact absurd hd hcc
  · rw [b4, va_upN _ _ (hi c hc (Or.inr rfl))]
    exact g2 i (fun c' hc' hd => hi c' hc' (Or.inl hd))
/-- what bills of a month rest on -/
def BF (am : Nat) (ad : Nat → Nat → Nat) (n pO fO q : Nat → Nat) (fs : Nat → Nat) (ls : Nat → Option Nat) (m t : Nat) (T : List (Int32 × List Int32)) (hx hm : HS) : Prop :=
  (m < 50 ∧ n 1 ≤ 60 ∧ mf am hm 39 = nI (n 1) ∧ ar hx (ad 22 0) m = some (ad 4 t) ∧ mv q hm 51 m = nI t - 1) ∧ TxX ad n hx t T ∧ Tx9 q hm t T ∧
  ∀ c, c < n 1 → (cf ad n hx 102 c = nI (fs c) ∧ cf ad n hx 103 c = lsI (ls c) ∧ mv q hm 42 c = nI (fs c) ∧ mv q hm 43 c = lsI (ls c) ∧ fs c ≤ 1000 ∧ ∀ z, ls c = some z → z ≤ 1000) ∧ mv q hm 40 c = nI (pO c) ∧ mv q hm 41 c = nI (fO c) ∧ pO c < 20 ∧ fO c < 10 ∧ fO c < n 2 ∧ cf ad n hx 201 (fO c) = mv q hm 26 (fO c) ∧ cv ad n hx 14 c m = mv q hm 48 (51 * c + m)
theorem BF.bi {m t : Nat} {T : List (Int32 × List Int32)} {dn : Nat → Prop} {vl : Nat → Int32} {hx0 hm0 : HS} (h : BF am ad n pO fO q fs ls m t T hx0 hm0) (hB : BI ax ao am ad n e pO fO q m dn vl hx0 hm0 hx hm) : BF am ad n pO fO q fs ls m t T hx hm := by
  obtain ⟨⟨a1, a2, a3, a4, a5⟩, hT, hT9, hc⟩ := h
  obtain ⟨⟨c1, c2, c3, c4⟩, ⟨d1, d2, d3, d4⟩, -⟩ := hB
  refine ⟨⟨a1, a2, by unfold mf at a3 ⊢; rw [d3]; exact a3, by rw [c2.2.2.2.2.1]; exact a4, by rw [d4 51 (by decide)]; exact a5⟩, hT.fr c2.2.2.1 (c4 15 (by decide)), hT9.fr (fun k hk => d4 k (by omega)), ?_⟩
  rw [c3 102 (by decide), c3 103 (by decide), c3 201 (by decide), c4 14 (by decide), d4 42 (by decide), d4 43 (by decide), d4 40 (by decide), d4 41 (by decide), d4 26 (by decide), d4 48 (by decide)]
  exact hc
/-- a contract's bill of the month, by a circulation -/
noncomputable def bl (q fO fs : Nat → Nat) (ls : Nat → Option Nat) (m : Nat) (T : List (Int32 × List Int32)) (hm : HS) (s : Int32) (c : Nat) : Int32 := bil T (mv q hm 26 (fO c)) s (mv q hm 48 (51 * c + m)) m (wkN (fs c) (ls c) m)
theorem bl_bi {m : Nat} {T : List (Int32 × List Int32)} {dn : Nat → Prop} {vl : Nat → Int32} {hx0 hm0 : HS} (hB : BI ax ao am ad n e pO fO q m dn vl hx0 hm0 hx hm) (s : Int32) (c : Nat) : bl q fO fs ls m T hm s c = bl q fO fs ls m T hm0 s c := by
  obtain ⟨-, ⟨d1, d2, d3, d4⟩, -⟩ := hB
  unfold bl
  rw [d4 26 (by decide), d4 48 (by decide)]
theorem bi_reckon {m t : Nat} {T : List (Int32 × List Int32)} (hS : SXA ax ao ad n e pO fO hx) (h : BF am ad n pO fO q fs ls m t T hx hm) {c : Nat} (hc : c < n 1) (s : Int32) : ∃ h', m_X8_reckon ax (some (ad 1 c)) (nI m) s hx = some (bl q fO fs ls m T hm s c, h') ∧ FrR ax ao ad n e pO fO hx h' := by
  obtain ⟨⟨a1, a2, a3, a4, a5⟩, hT, hT9, hcc⟩ := h
  obtain ⟨⟨b1, b2, b3, b4, b5, b6⟩, b7, b8, b9, b10, b11, b12, b13⟩ := hcc c hc
  obtain ⟨h', x1, x2⟩ := e_reckon hS hc a1 b1 b2 b5 b6 a4 hT s
  rw [b12, b13] at x1
  exact ⟨h', x1, x2⟩
theorem bi_bill {m t : Nat} {T : List (Int32 × List Int32)} (hM : SMA q am hm) (h : BF am ad n pO fO q fs ls m t T hx hm) {c : Nat} (hc : c < n 1) : ∃ h', m_X9_bill am (nI c) (nI m) hm = some (bl q fO fs ls m T hm (mv q hm 38 (51 * pO c + m)) c - mv q hm 49 (51 * c + m), h') ∧ SameS hm h' ∧ fi h' = fi hm ∧ (∀ k, (k ≠ 22 ∧ k ≠ 23 ∧ k ≠ 33 ∧ k ≠ 49 ∧ k ≠ 50) → mv q h' k = mv q hm k) ∧ mv q h' 49 = va_up (mv q hm 49) (51 * c + m) (bl q fO fs ls m T hm (mv q hm 38 (51 * pO c + m)) c) ∧ mv q h' 50 = va_up (mv q hm 50) c (mv q hm 50 c + (bl q fO fs ls m T hm (mv q hm 38 (51 * pO c + m)) c - mv q hm 49 (51 * c + m))) ∧ mv q h' 33 = va_up (mv q hm 33) (fO c) (mv q hm 33 (fO c) + (bl q fO fs ls m T hm (mv q hm 38 (51 * pO c + m)) c - mv q hm 49 (51 * c + m))) := by
  obtain ⟨⟨a1, a2, a3, a4, a5⟩, hT, hT9, hcc⟩ := h
  obtain ⟨⟨b1, b2, b3, b4, b5, b6⟩, b7, b8, b9, b10, b11, b12, b13⟩ := hcc c hc
  obtain ⟨h1, x1, x2⟩ := e_billOf hM (by omega) (by omega) b9 b10 b7 b8 b3 b4 b5 b6 a5 hT9
  exact e_bill9 hM (by omega) (by omega) b10 x1 x2 b8
theorem bi_right {p m t : Nat} {T : List (Int32 × List Int32)} {nv bf : Int32} {hx0 hm0 : HS} (hp : p < n 3) (hF : BF am ad n pO fO q fs ls m t T hx0 hm0) (h38 : mv q hm0 38 (51 * p + m) = nv) (hold : ∀ c, c < n 1 → pO c = p → mv q hm0 49 (51 * c + m) = bl q fO fs ls m T hm0 bf c) : ∀ (k c : Nat) (sum : Int32) (hx hm : HS), c + k = n 1 → BI ax ao am ad n e pO fO q m (fun c' => c' < c ∧ pO c' = p) (bl q fO fs ls m T hm0 nv) hx0 hm0 hx hm → ∀ F, k < F → ∀ F', k < F' → ∃ sum' hx' hm', X8_right_L60 ax F (nI m) nv (some (ad 3 p)) bf sum (nI c) hx = some (some sum', hx') ∧ X9_right_L69 am F' (nI p) (nI m) sum (nI c) hm = some (sum', hm') ∧ BI ax ao am ad n e pO fO q m (fun c' => pO c' = p) (bl q fO fs ls m T hm0 nv) hx0 hm0 hx' hm' := by
  intro k
  induction k with
  | zero =>
    intro c sum hx hm hck hB F hF1 F' hF2
    obtain ⟨F, rfl⟩ := nF1 hF1
    obtain ⟨F', rfl⟩ := nF1 hF2
    have hS := hB.1.1
    have hM := hB.2.1.1
    have hka := kax hS
    have hkm : kd hm am = 11 := hM.1
    obtain ⟨hL, hr, hk⟩ := lcs hS
    have hFn := hF.bi hB
    have h39 : fi hm 1039 am = nI (n 1) := hFn.1.2.2.1
    have e1 : nI (n 1) ≤ nI c := by rw [← hck]; exact Int32.le_refl _
    refine ⟨sum, hx, hm, ?_, ?_, hB.cg (fun c' hc' => ⟨fun z => ⟨by omega, z⟩, fun z => z.2⟩)⟩
    · conv => lhs; unfold X8_right_L60
      simp only [aN, kA201, kA202, kA203, kA206, kA306, i1n0, i0n1, i0e0, i1e1, gI, gR, pI, pB, pR, xI, xL, yI, yL, vc, kd_sFi, fr_sFi, ln_sFi, ai_sFi, al_sFi, ar_sFi, cs_sFi, sz_sFi, sz_sAi, kd_sAi, fi_sAi, fr_sAi, ln_sAi, al_sAi, ar_sAi, cs_sAi, kd_wz, fi_wz, fr_wz, ln_wz, ai_wz, al_wz, ar_wz, Option.bind_some, if_true, if_false, Nat.reduceAdd, Nat.reduceMul, reduceIte, and_self, true_and, and_true, hka, hr, hk, Nat.zero_add, e_size hk hL, e1]
    · conv => lhs; unfold X9_right_L69
      simp only [aN, kA201, kA202, kA203, kA206, kA306, i1n0, i0n1, i0e0, i1e1, gI, gR, pI, pB, pR, xI, xL, yI, yL, vc, kd_sFi, fr_sFi, ln_sFi, ai_sFi, al_sFi, ar_sFi, cs_sFi, sz_sFi, sz_sAi, kd_sAi, fi_sAi, fr_sAi, ln_sAi, al_sAi, ar_sAi, cs_sAi, kd_wz, fi_wz, fr_wz, ln_wz, ai_wz, al_wz, ar_wz, Option.bind_some, if_true, if_false, Nat.reduceAdd, Nat.reduceMul, reduceIte, and_self, true_and, and_true, hkm, h39, e1]
  | succ k ih =>
    intro c sum hx hm hck hB F hF1 F' hF2
    obtain ⟨F, rfl⟩ := nF1 hF1
    obtain ⟨F', rfl⟩ := nF1 hF2
    have hS := hB.1.1
    have hM := hB.2.1.1
    have hka := kax hS
    have hkm : kd hm am = 11 := hM.1
    obtain ⟨hL, hr, hk⟩ := lcs hS
    have hFn := hF.bi hB
    have hn60 := hFn.1.2.1
    have h39 : fi hm 1039 am = nI (n 1) := hFn.1.2.2.1
    have hc : c < n 1 := by omega
    have e1 : ¬ nI (n 1) ≤ nI c := nI_ge hc (by omega)
    have kj : kd hx (ad 1 c) = 2 := k0 hS hc
    have e7 : nI c + 1 = nI (c + 1) := nI_add c 1
    have hcr := crf hS hc
    have r40 : fr hm 1040 am = some (q 40) := (hM.2.1 (40, 201, 60) (by decide)).1
    have k40 : kd hm (q 40) = 201 := (hM.2.1 (40, 201, 60) (by decide)).2.1
    have l40 : ln hm (q 40) = 60 := (hM.2.1 (40, 201, 60) (by decide)).2.2
    have clc : (nI c).toNatClampNeg = c := nI_cl hc (by omega)
    have ibc : inB (nI c) 60 = true := inB_nI (by omega) (by omega)
    have v40 : ai hm (q 40) c = nI (pO c) := (hFn.2.2.2 c hc).2.1
    have hpl : pO c < 20 := (hFn.2.2.2 c hc).2.2.2.1
    have hn3 := (n_le hS).2.1
    by_cases hpp : pO c = p
    · obtain ⟨hx1, x1, f1⟩ := bi_reckon hS hFn hc nv
      obtain ⟨hx2, x2, f2⟩ := bi_reckon f1.1 (hF.bi (hB.fr f1)) hc bf
      have hB2 := (hB.fr f1).fr f2
      obtain ⟨hm', y1, y2, y3, y4, y5, y6, y7⟩ := bi_bill hM hFn hc
      have g38 : mv q hm 38 (51 * pO c + m) = nv := by rw [hpp, hB.2.1.2.2.2 38 (by decide)]; exact h38
      have g49 : mv q hm 49 (51 * c + m) = bl q fO fs ls m T hm bf c := by
        rw [bl_bi hB, hB.2.2.2.2.2 _ (fun c' hc' hd z => ?_), hold c hc hpp]
        have : c' = c := by omega
        omega
      rw [g38, g49, bl_bi hB, bl_bi hB] at y1 y6 y7
      rw [g38, bl_bi hB] at y5
      rw [bl_bi hB] at x1 x2
      obtain ⟨hx3, w1, w2, w3, w4, w5⟩ := e_addBill f2.1 hc (bl q fO fs ls m T hm0 nv c - bl q fO fs ls m T hm0 bf c)
      have hB3 := hB2.add (by have := hF.1.1; omega) hc (hFn.2.2.2 c hc).2.2.2.2.2.1 rfl w2 w3 w4 w5 y2 y3 y4 y5 y6 y7
      obtain ⟨s', hx', hm'', o1, o2, o3⟩ := ih (c + 1) (sum + (bl q fO fs ls m T hm0 nv c - bl q fO fs ls m T hm0 bf c)) hx3 hm' (by omega) (hB3.cg (fun c' hc' => ⟨fun z => by
          by_cases hcc : c' = c
          · exact Or.inr hcc
          · exact Or.inl ⟨by omega, z.2⟩, fun z => by
          rcases z with z | z
          · exact ⟨by omega, z.2⟩
          · exact ⟨by omega, by rw [z]; exact hpp⟩⟩)) F (by omega) F' (by omega)
      refine ⟨s', hx', hm'', ?_, ?_, o3⟩
      · rw [← o1]
        have d1 := f1.2.1.1
        have d2 := (f1.tr f2).2.1.1
        conv => lhs; unfold X8_right_L60
        simp only [X8_right_b130, aN, kA201, kA202, kA203, kA206, kA306, i1n0, i0n1, i0e0, i1e1, gI, gR, pI, pB, pR, xI, xL, yI, yL, vc, kd_sFi, fr_sFi, ln_sFi, ai_sFi, al_sFi, ar_sFi, cs_sFi, sz_sFi, sz_sAi, kd_sAi, fi_sAi, fr_sAi, ln_sAi, al_sAi, ar_sAi, cs_sAi, kd_wz, fi_wz, fr_wz, ln_wz, ai_wz, al_wz, ar_wz, Option.bind_some, if_true, if_false, Nat.reduceAdd, Nat.reduceMul, reduceIte, and_self, true_and, and_true, hka, hr, hk, Nat.zero_add, e_size hk hL, e1, e_get hk hL (by omega) hc, cst, isO, kj, beq_self_eq_true, or_true, hcr.2.2.1, hpp, x1, x2, d1, d2, w1, e7]
      · rw [← o2]
        conv => lhs; unfold X9_right_L69
        simp only [X9_right_b102, aN, kA201, kA202, kA203, kA206, kA306, i1n0, i0n1, i0e0, i1e1, gI, gR, pI, pB, pR, xI, xL, yI, yL, vc, kd_sFi, fr_sFi, ln_sFi, ai_sFi, al_sFi, ar_sFi, cs_sFi, sz_sFi, sz_sAi, kd_sAi, fi_sAi, fr_sAi, ln_sAi, al_sAi, ar_sAi, cs_sAi, kd_wz, fi_wz, fr_wz, ln_wz, ai_wz, al_wz, ar_wz, Option.bind_some, if_true, if_false, Nat.reduceAdd, Nat.reduceMul, reduceIte, and_self, true_and, and_true, hkm, h39, e1, r40, k40, l40, clc, ibc, v40, hpp, y1, e7]
    · have hne : ¬ some (ad 3 (pO c)) = some (ad 3 p) := fun z => hpp (hS.2.1 3 _ 3 _ hcr.2.2.2.2.1 hp (Option.some.inj z)).2
      have hne2 : ¬ nI (pO c) = nI p := fun z => hpp ((nI_eq (by omega) (by omega)).mp z)
      obtain ⟨s', hx', hm'', o1, o2, o3⟩ := ih (c + 1) sum hx hm (by omega) (hB.cg (fun c' hc' => ⟨fun z => ⟨by
          by_cases hcc : c' = c
          · subst hcc; exact absurd z.2 hpp
          · omega, z.2⟩, fun z => ⟨by omega, z.2⟩⟩)) F (by omega) F' (by omega)
      have e5 : sum + 0 = sum := Int32.add_zero _
      refine ⟨s', hx', hm'', ?_, ?_, o3⟩
      · rw [← o1]
        conv => lhs; unfold X8_right_L60
        simp only [X8_right_b130, aN, kA201, kA202, kA203, kA206, kA306, i1n0, i0n1, i0e0, i1e1, gI, gR, pI, pB, pR, xI, xL, yI, yL, vc, kd_sFi, fr_sFi, ln_sFi, ai_sFi, al_sFi, ar_sFi, cs_sFi, sz_sFi, sz_sAi, kd_sAi, fi_sAi, fr_sAi, ln_sAi, al_sAi, ar_sAi, cs_sAi, kd_wz, fi_wz, fr_wz, ln_wz, ai_wz, al_wz, ar_wz, Option.bind_some, if_true, if_false, Nat.reduceAdd, Nat.reduceMul, reduceIte, and_self, true_and, and_true, hka, hr, hk, Nat.zero_add, e_size hk hL, e1, e_get hk hL (by omega) hc, cst, isO, kj, beq_self_eq_true, or_true, hcr.2.2.1, hne, e7]
      · rw [← o2]
        conv => lhs; unfold X9_right_L69
        simp only [X9_right_b102, aN, kA201, kA202, kA203, kA206, kA306, i1n0, i0n1, i0e0, i1e1, gI, gR, pI, pB, pR, xI, xL, yI, yL, vc, kd_sFi, fr_sFi, ln_sFi, ai_sFi, al_sFi, ar_sFi, cs_sFi, sz_sFi, sz_sAi, kd_sAi, fi_sAi, fr_sAi, ln_sAi, al_sAi, ar_sAi, cs_sAi, kd_wz, fi_wz, fr_wz, ln_wz, ai_wz, al_wz, ar_wz, Option.bind_some, if_true, if_false, Nat.reduceAdd, Nat.reduceMul, reduceIte, and_self, true_and, and_true, hkm, h39, e1, r40, k40, l40, clc, ibc, v40, hne2, e5, e7]
end BADD
