/-! weeks of a month, a bill -/
section BILL
variable {ax ao am : Nat} {ad : Nat → Nat → Nat} {n e pO fO q tm : Nat → Nat} {tx : Nat → List (Int32 × List Int32)} {w : Nat} {pn : Nat → Nat} {nw : Nat → Nat → Nat} {fs : Nat → Nat} {ls : Nat → Option Nat} {rs rl pr : Nat → Nat} {tl : Nat} {hx hm : HS}
theorem wkx_step {h : HS} (hS : SXA ax ao ad n e pO fO h) {c m j acc F : Nat} (hc : c < n 1) (hm5 : m < 60) (hj1 : 1 ≤ j) (hj : j ≤ 4) {G : Nat} {L : Option Nat} (h102 : cf ad n h 102 c = nI G) (h103 : cf ad n h 103 c = lsI L) (b1 : G ≤ 1000) (b2 : ∀ z, L = some z → z ≤ 1000) : X0_weeksRunIn_L4 (ad 1 c) (F + 1) (nI m) (nI acc) (nI j) h = X0_weeksRunIn_L4 (ad 1 c) F (nI m) (nI (acc + wk1 G L (4 * m + j))) (nI (j + 1)) h := by
  obtain ⟨k1, -⟩ := kthere hS hc
  have e0 : ¬ (4 : Int32) < nI j := fun z => absurd ((nI_ltI (a := 4) (by omega) (by omega)).mp z) (by omega)
  have e1 : nI m * 4 + nI j = nI (4 * m + j) := by rw [show (4 : Int32) = nI 4 from rfl, nI_mul, nI_add, Nat.mul_comm]
  have e2 := e_runs hS hc (u := 4 * m + j) (by omega) h102 h103 b1 b2
  have e3 : nI j + 1 = nI (j + 1) := nI_add j 1
  have e4 : nI acc + 1 = nI (acc + 1) := nI_add acc 1
  conv => lhs; unfold X0_weeksRunIn_L4
  rcases wk1_or G (4 * m + j) L with z | z
  · have z' : nI (wk1 G L (4 * m + j)) = 0 := by rw [z]; rfl
    rw [z, Nat.add_zero]
    simp only [X0_weeksRunIn_b24, aN, kA201, kA202, kA203, kA206, kA306, i1n0, i0n1, i0e0, i1e1, gI, gR, pI, pB, pR, xI, xL, yI, yL, vc, kd_sFi, fr_sFi, ln_sFi, ai_sFi, al_sFi, ar_sFi, cs_sFi, sz_sFi, sz_sAi, kd_sAi, fi_sAi, fr_sAi, ln_sAi, al_sAi, ar_sAi, cs_sAi, kd_wz, fi_wz, fr_wz, ln_wz, ai_wz, al_wz, ar_wz, Option.bind_some, if_true, if_false, Nat.reduceAdd, Nat.reduceMul, reduceIte, and_self, true_and, and_true, k1, e0, e1, e2, z', e3]
  · have z' : nI (wk1 G L (4 * m + j)) = 1 := by rw [z]; rfl
    rw [z]
    simp only [X0_weeksRunIn_b24, aN, kA201, kA202, kA203, kA206, kA306, i1n0, i0n1, i0e0, i1e1, gI, gR, pI, pB, pR, xI, xL, yI, yL, vc, kd_sFi, fr_sFi, ln_sFi, ai_sFi, al_sFi, ar_sFi, cs_sFi, sz_sFi, sz_sAi, kd_sAi, fi_sAi, fr_sAi, ln_sAi, al_sAi, ar_sAi, cs_sAi, kd_wz, fi_wz, fr_wz, ln_wz, ai_wz, al_wz, ar_wz, Option.bind_some, if_true, if_false, Nat.reduceAdd, Nat.reduceMul, reduceIte, and_self, true_and, and_true, k1, e0, e1, e2, z', e3, e4]
theorem e_wkx {h : HS} (hS : SXA ax ao ad n e pO fO h) {c m : Nat} (hc : c < n 1) (hm5 : m < 60) {G : Nat} {L : Option Nat} (h102 : cf ad n h 102 c = nI G) (h103 : cf ad n h 103 c = lsI L) (b1 : G ≤ 1000) (b2 : ∀ z, L = some z → z ≤ 1000) : m_X0_weeksRunIn (ad 1 c) (nI m) h = some (nI (wkN G L m), h) := by
  have hfu : FU = 995 + 1 + 1 + 1 + 1 + 1 := rfl
  have st := fun (j acc F : Nat) (h1 : 1 ≤ j) (h2 : j ≤ 4) => wkx_step (j := j) (acc := acc) (F := F) hS hc hm5 h1 h2 h102 h103 b1 b2
  unfold m_X0_weeksRunIn
  rw [hfu]
  show X0_weeksRunIn_L4 (ad 1 c) (995 + 1 + 1 + 1 + 1 + 1) (nI m) (nI 0) (nI 1) h = _
  rw [st 1 _ _ (by omega) (by omega), st 2 _ _ (by omega) (by omega), st 3 _ _ (by omega) (by omega), st 4 _ _ (by omega) (by omega)]
  have e5 : (4 : Int32) < nI (4 + 1) := by decide
  conv => lhs; unfold X0_weeksRunIn_L4
  simp only [e5, if_true, Nat.zero_add]
  rfl
theorem wk9_step {h : HS} (hM : SMA q am h) {c m j acc F : Nat} (hc : c < 60) (hm5 : m < 60) (hj1 : 1 ≤ j) (hj : j ≤ 4) {G : Nat} {L : Option Nat} (h102 : mv q h 42 c = nI G) (h103 : mv q h 43 c = lsI L) (b1 : G ≤ 1000) (b2 : ∀ z, L = some z → z ≤ 1000) : X9_weeksIn_L9 am (F + 1) (nI c) (nI m) (nI acc) (nI (4 * m + j)) h = X9_weeksIn_L9 am F (nI c) (nI m) (nI (acc + wk1 G L (4 * m + j))) (nI (4 * m + (j + 1))) h := by
  have hkm : kd h am = 11 := hM.1
  have e1 : (4 : Int32) * nI m + 4 = nI (4 * m + 4) := by rw [show (4 : Int32) = nI 4 from rfl, nI_mul, nI_add]
  have e0 : ¬ nI (4 * m + 4) < nI (4 * m + j) := fun z => absurd ((nI_ltI (by omega) (by omega)).mp z) (by omega)
  have e2 := e_runs9 hM hc (u := 4 * m + j) (by omega) h102 h103 b1 b2
  have e3 : nI (4 * m + j) + 1 = nI (4 * m + (j + 1)) := nI_add _ 1
  have e4 : nI acc + 1 = nI (acc + 1) := nI_add acc 1
  have e5 : nI acc + 0 = nI acc := Int32.add_zero _
  conv => lhs; unfold X9_weeksIn_L9
  rcases wk1_or G (4 * m + j) L with z | z
  · have z' : nI (wk1 G L (4 * m + j)) = 0 := by rw [z]; rfl
    rw [z, Nat.add_zero]
    simp only [X9_weeksIn_b35, aN, kA201, kA202, kA203, kA206, kA306, i1n0, i0n1, i0e0, i1e1, gI, gR, pI, pB, pR, xI, xL, yI, yL, vc, kd_sFi, fr_sFi, ln_sFi, ai_sFi, al_sFi, ar_sFi, cs_sFi, sz_sFi, sz_sAi, kd_sAi, fi_sAi, fr_sAi, ln_sAi, al_sAi, ar_sAi, cs_sAi, kd_wz, fi_wz, fr_wz, ln_wz, ai_wz, al_wz, ar_wz, Option.bind_some, if_true, if_false, Nat.reduceAdd, Nat.reduceMul, reduceIte, and_self, true_and, and_true, hkm, e0, e1, e2, z', e3, e5]
  · have z' : nI (wk1 G L (4 * m + j)) = 1 := by rw [z]; rfl
    rw [z]
    simp only [X9_weeksIn_b35, aN, kA201, kA202, kA203, kA206, kA306, i1n0, i0n1, i0e0, i1e1, gI, gR, pI, pB, pR, xI, xL, yI, yL, vc, kd_sFi, fr_sFi, ln_sFi, ai_sFi, al_sFi, ar_sFi, cs_sFi, sz_sFi, sz_sAi, kd_sAi, fi_sAi, fr_sAi, ln_sAi, al_sAi, ar_sAi, cs_sAi, kd_wz, fi_wz, fr_wz, ln_wz, ai_wz, al_wz, ar_wz, Option.bind_some, if_true, if_false, Nat.reduceAdd, Nat.reduceMul, reduceIte, and_self, true_and, and_true, hkm, e0, e1, e2, z', e3, e4]
theorem e_wk9 {h : HS} (hM : SMA q am h) {c m : Nat} (hc : c < 60) (hm5 : m < 60) {G : Nat} {L : Option Nat} (h102 : mv q h 42 c = nI G) (h103 : mv q h 43 c = lsI L) (b1 : G ≤ 1000) (b2 : ∀ z, L = some z → z ≤ 1000) : m_X9_weeksIn am (nI c) (nI m) h = some (nI (wkN G L m), h) := by
  have hfu : FU = 995 + 1 + 1 + 1 + 1 + 1 := rfl
  have st := fun (j acc F : Nat) (h1 : 1 ≤ j) (h2 : j ≤ 4) => wk9_step (j := j) (acc := acc) (F := F) hM hc hm5 h1 h2 h102 h103 b1 b2
  have e1 : (4 : Int32) * nI m + 1 = nI (4 * m + 1) := by rw [show (4 : Int32) = nI 4 from rfl, nI_mul]; exact nI_add _ 1
  unfold m_X9_weeksIn
  rw [hfu, e1]
  show X9_weeksIn_L9 am (995 + 1 + 1 + 1 + 1 + 1) (nI c) (nI m) (nI 0) (nI (4 * m + 1)) h = _
  rw [st 1 _ _ (by omega) (by omega), st 2 _ _ (by omega) (by omega), st 3 _ _ (by omega) (by omega), st 4 _ _ (by omega) (by omega)]
  have e4 : (4 : Int32) * nI m + 4 = nI (4 * m + 4) := by rw [show (4 : Int32) = nI 4 from rfl, nI_mul, nI_add]
  have e5 : nI (4 * m + 4) < nI (4 * m + (4 + 1)) := nI_lt (by omega) (by omega)
  conv => lhs; unfold X9_weeksIn_L9
  simp only [e4, e5, if_true, Nat.zero_add]
  rfl
theorem e_tell {h : HS} (hS : SXA ax ao ad n e pO fO h) {k : Nat} (hk : k < 5) (v : Int32) : m_X4_tell (ad 5 0) (nI (10000 + k)) v h = some (sAi h (ad 20 0) k v) := by
  obtain ⟨n5, n20, n21, k5, r500, r501, k20, l20, k21, l21, -⟩ := kreck hS
  have e0 : ¬ nI (10000 + k) < 10000 := fun z => absurd ((nI_ltI (b := 10000) (by omega) (by omega)).mp z) (by omega)
  have e1 : (10000 : Int32) + nI 5 - 1 = nI 10004 := by decide
  have e2 : ¬ nI 10004 < nI (10000 + k) := fun z => absurd ((nI_ltI (by omega) (by omega)).mp z) (by omega)
  have e3 : nI (10000 + k) - 10000 = nI k := by
    rw [show (10000 : Int32) = nI 10000 from rfl, nI_sub (by omega), Nat.add_sub_cancel_left]
  have cl : (nI k).toNatClampNeg = k := nI_cl hk (by omega)
  have ib : inB (nI k) 5 = true := inB_nI hk (by omega)
  simp only [m_X4_tell, aN, kA201, kA202, kA203, kA206, kA306, i1n0, i0n1, i0e0, i1e1, gI, gR, pI, pB, pR, xI, xL, yI, yL, vc, kd_sFi, fr_sFi, ln_sFi, ai_sFi, al_sFi, ar_sFi, cs_sFi, sz_sFi, sz_sAi, kd_sAi, fi_sAi, fr_sAi, ln_sAi, al_sAi, ar_sAi, cs_sAi, kd_wz, fi_wz, fr_wz, ln_wz, ai_wz, al_wz, ar_wz, Option.bind_some, if_true, if_false, Nat.reduceAdd, Nat.reduceMul, reduceIte, and_self, true_and, and_true, k5, r500, k20, l20, e_within, e0, e1, e2, e3, cl, ib, nar_i32]
theorem e_printedIn {h : HS} (hS : SXA ax ao ad n e pO fO h) {c m : Nat} (hc : c < n 1) (hm5 : m < 50) : m_X0_printedIn (ad 1 c) (nI m) h = some (cv ad n h 14 c m, h) := by
  obtain ⟨k1, k2, k3, k4, k5, k6, k7, k8, k9⟩ := kthere hS hc
  have e0 : ¬ nI m < 0 := nI_pos (by omega)
  have e1 : ¬ nI 50 - 1 < nI m := by
    rw [nI_m1 _ _ (by omega) e0]
    exact nI_ge hm5 (by omega)
  have cl : (nI m).toNatClampNeg = m := nI_cl hm5 (by omega)
  have ib : inB (nI m) 50 = true := inB_nI hm5 (by omega)
  simp only [m_X0_printedIn, aN, kA201, kA202, kA203, kA206, kA306, i1n0, i0n1, i0e0, i1e1, gI, gR, pI, pB, pR, xI, xL, yI, yL, vc, kd_sFi, fr_sFi, ln_sFi, ai_sFi, al_sFi, ar_sFi, cs_sFi, sz_sFi, sz_sAi, kd_sAi, fi_sAi, fr_sAi, ln_sAi, al_sAi, ar_sAi, cs_sAi, kd_wz, fi_wz, fr_wz, ln_wz, ai_wz, al_wz, ar_wz, Option.bind_some, if_true, if_false, Nat.reduceAdd, Nat.reduceMul, reduceIte, and_self, true_and, and_true, k1, k6, k7, k8, e_within, e0, e1, cl, ib, cv_at (n := n) k9]
/-- a text as the class has it -/
def TxX (ad : Nat → Nat → Nat) (n : Nat → Nat) (h : HS) (t : Nat) (T : List (Int32 × List Int32)) : Prop := t < n 4 ∧ (flat T).length < 600 ∧ ln h (ad 15 t) = (flat T).length ∧ (∀ j, j < (flat T).length → cv ad n h 15 t j = (flat T).getD j 0) ∧ ∀ p ∈ T, okE p.2 0 ∧ 0 ≤ p.1 ∧ p.1 ≤ 999
theorem TxX.fr {h h' : HS} {t : Nat} {T : List (Int32 × List Int32)} (hT : TxX ad n h t T) (h1 : ln h' = ln h) (h2 : cv ad n h' 15 = cv ad n h 15) : TxX ad n h' t T := ⟨hT.1, hT.2.1, by rw [h1]; exact hT.2.2.1, by rw [h2]; exact hT.2.2.2.1, hT.2.2.2.2⟩
theorem kmon {h : HS} (hS : SXA ax ao ad n e pO fO h) : fr h 906 ax = some (ad 22 0) ∧ kd h (ad 22 0) = 205 ∧ ln h (ad 22 0) = 50 ∧ fr h 907 ax = some (ad 4 (n 4 - 1)) := by
  obtain ⟨a0, a5, a6, a7, a8, a9, a11, a12, a13, a14, a15, a16, a17, a18, a19, a20, a21, a22, a23, a10, -⟩ := hS.1
  obtain ⟨r1, r2, r900, r901, r902, r903, r904, r905, r906, r907, -⟩ := hS.2.2.2.2.1
  have h22 : 0 < n 22 := by omega
  exact ⟨r906, k0 hS h22, hS.2.2.2.1 22 0 h22 (by decide) (by decide), r907⟩
theorem x_tell {h : HS} (hS : SXA ax ao ad n e pO fO h) {k : Nat} (hk : k < 5) (z : Int32) (hz : z = nI (10000 + k)) (v : Int32) : ∃ h', m_X4_tell (ad 5 0) z v h = some h' ∧ FrR ax ao ad n e pO fO h h' ∧ cv ad n h' 20 0 = va_up (cv ad n h 20 0) k v := by
  obtain ⟨f1, f2, f3⟩ := FrR_20 hS k v
  exact ⟨_, by rw [hz]; exact e_tell hS hk v, f1, f2⟩
theorem fac_at (f : Nat → Int32) (a s m o u : Int32) (k : Nat) (hk : k < 5) : va_up (va_up (va_up (va_up (va_up f 0 a) 1 (s / 1000)) 2 m) 3 o) 4 u k = fac a s m o u k := by
  match k, hk with
  | 0, _ => simp [va_up, fac]
  | 1, _ => simp [va_up, fac]
  | 2, _ => simp [va_up, fac]
  | 3, _ => simp [va_up, fac]
  | 4, _ => simp [va_up, fac]
theorem x_rateBy {h : HS} (hS : SXA ax ao ad n e pO fO h) {t : Nat} {T : List (Int32 × List Int32)} (hT : TxX ad n h t T) {fc : Nat → Int32} (hk : ∀ k, k < 5 → cv ad n h 20 0 k = fc k) : ∃ h', m_X4_rateBy (ad 5 0) (some (ad 4 t)) h = some (rateOf fc T, h') ∧ FrR ax ao ad n e pO fO h h' := by
  obtain ⟨n5, n20, n21, k5, -⟩ := kreck hS
  obtain ⟨f6, f6a⟩ := FrR_502 hS 0
  have hT6 := hT.fr f6.2.1.2.2.1 (f6.2.2.2 15 (by decide))
  obtain ⟨h', x1, x2⟩ := x_rate T 0 _ f6.1 hT6.1 hT6.2.2.1 (Nat.le_of_lt hT6.2.1) hT6.2.2.2.2 ⟨f6a, trivial, hk⟩ (fun j hj => by rw [Nat.zero_add]; exact hT6.2.2.2.1 j hj) (Nat.zero_add _) (999 - (flat T).length)
  have hfu : 999 - (flat T).length + 1 + (flat T).length = FU := by unfold FU; have := hT.2.1; omega
  rw [hfu] at x1
  refine ⟨h', ?_, f6.tr x2⟩
  have e0 : nI 0 = 0 := rfl
  rw [e0] at x1
  simp only [m_X4_rateBy, aN, kA201, kA202, kA203, kA206, kA306, i1n0, i0n1, i0e0, i1e1, gI, gR, pI, pB, pR, xI, xL, yI, yL, vc, kd_sFi, fr_sFi, ln_sFi, ai_sFi, al_sFi, ar_sFi, cs_sFi, sz_sFi, sz_sAi, kd_sAi, fi_sAi, fr_sAi, ln_sAi, al_sAi, ar_sAi, cs_sAi, kd_wz, fi_wz, fr_wz, ln_wz, ai_wz, al_wz, ar_wz, Option.bind_some, if_true, if_false, Nat.reduceAdd, Nat.reduceMul, reduceIte, and_self, true_and, and_true, k5, x1]
theorem e_reckon {h : HS} (hS : SXA ax ao ad n e pO fO h) {c m t : Nat} (hc : c < n 1) (hm5 : m < 50) {G : Nat} {L : Option Nat} (h102 : cf ad n h 102 c = nI G) (h103 : cf ad n h 103 c = lsI L) (b1 : G ≤ 1000) (b2 : ∀ z, L = some z → z ≤ 1000) (har : ar h (ad 22 0) m = some (ad 4 t)) {T : List (Int32 × List Int32)} (hT : TxX ad n h t T) (s : Int32) : ∃ h', m_X8_reckon ax (some (ad 1 c)) (nI m) s h = some (bil T (cf ad n h 201 (fO c)) s (cv ad n h 14 c m) m (wkN G L m), h') ∧ FrR ax ao ad n e pO fO h h' := by
  obtain ⟨k1, -⟩ := kthere hS hc
  have hka := kax hS
  obtain ⟨z1, z2, z3, z4, z5, z6⟩ := crf hS hc
  obtain ⟨n5, n20, n21, k5, r500, r501, k20, l20, k21, l21, r905⟩ := kreck hS
  obtain ⟨r906, k22, l22, -⟩ := kmon hS
  have kf : kd h (ad 2 (fO c)) = 3 := k0 hS z6
  have e0 : ¬ nI m < 0 := nI_pos (by omega)
  have e1 : ¬ (49 : Int32) < nI m := fun z => absurd ((nI_ltI (a := 49) (by omega) (by omega)).mp z) (by omega)
  have cl : (nI m).toNatClampNeg = m := nI_cl hm5 (by omega)
  have ib : inB (nI m) 50 = true := inB_nI hm5 (by omega)
  have ew := e_wkx hS hc (m := m) (by omega) h102 h103 b1 b2
  have ep := e_printedIn hS hc hm5
  have f201 : fi h 201 (ad 2 (fO c)) = cf ad n h 201 (fO c) := cf_at (g := 201) (n := n) (t := 2) (by decide) z6
  have wle : wkN G L m ≤ 4 := by
    unfold wkN
    rcases wk1_or G (4 * m + 1) L with x | x <;> rcases wk1_or G (4 * m + 2) L with y | y <;> rcases wk1_or G (4 * m + 3) L with u | u <;> rcases wk1_or G (4 * m + 4) L with v | v <;> rw [x, y, u, v] <;> decide
  by_cases hu : wkN G L m = 0
  · refine ⟨h, ?_, FrR.rf hS⟩
    have eb : bil T (cf ad n h 201 (fO c)) s (cv ad n h 14 c m) m (wkN G L m) = 0 := by unfold bil; rw [if_pos hu]
    rw [eb]
    have eu : nI (wkN G L m) = 0 := by rw [hu]; rfl
    simp only [m_X8_reckon, X8_reckon_b20, xR, aN, kA201, kA202, kA203, kA206, kA306, i1n0, i0n1, i0e0, i1e1, gI, gR, pI, pB, pR, xI, xL, yI, yL, vc, kd_sFi, fr_sFi, ln_sFi, ai_sFi, al_sFi, ar_sFi, cs_sFi, sz_sFi, sz_sAi, kd_sAi, fi_sAi, fr_sAi, ln_sAi, al_sAi, ar_sAi, cs_sAi, kd_wz, fi_wz, fr_wz, ln_wz, ai_wz, al_wz, ar_wz, Option.bind_some, if_true, if_false, Nat.reduceAdd, Nat.reduceMul, reduceIte, and_self, true_and, and_true, hka, e_within, e0, e1, r906, k22, l22, cl, ib, har, k1, ew, eu, reduceCtorEq]
  · have eu : (nI (wkN G L m) = 0) = False := eq_false fun z => hu ((nI_eq (b := 0) (by omega) (by omega)).mp z)
    obtain ⟨h1, t0, f1, f1a⟩ := x_tell hS (k := 0) (by decide) 10000 rfl (cf ad n h 201 (fO c))
    obtain ⟨h2, t1, f2, f2a⟩ := x_tell f1.1 (k := 1) (by decide) 10001 rfl (s / 1000)
    obtain ⟨h3, t2, f3, f3a⟩ := x_tell f2.1 (k := 2) (by decide) 10002 rfl (cv ad n h 14 c m)
    obtain ⟨h4, t3, f4, f4a⟩ := x_tell f3.1 (k := 3) (by decide) 10003 rfl (nI m)
    obtain ⟨h5, t4, f5, f5a⟩ := x_tell f4.1 (k := 4) (by decide) 10004 rfl (nI (wkN G L m))
    have F2 := f1.tr f2
    have F3 := F2.tr f3
    have F4 := F3.tr f4
    have F5 := F4.tr f5
    obtain ⟨h', x1, x2⟩ := x_rateBy F5.1 (hT.fr F5.2.1.2.2.1 (F5.2.2.2 15 (by decide))) (fc := fac (cf ad n h 201 (fO c)) s (cv ad n h 14 c m) (nI m) (nI (wkN G L m))) (fun k hk => by
      rw [f5a, f4a, f3a, f2a, f1a]
      exact fac_at _ _ _ _ _ _ k hk)
    refine ⟨h', ?_, F5.tr x2⟩
    have eb : bil T (cf ad n h 201 (fO c)) s (cv ad n h 14 c m) m (wkN G L m) = (((rateOf (fac (cf ad n h 201 (fO c)) s (cv ad n h 14 c m) (nI m) (nI (wkN G L m))) T).toInt64 * (cv ad n h 14 c m).toInt64 * s.toInt64) / 1000).toInt32 := by unfold bil; rw [if_neg hu]
    rw [eb]
    have g1 := f1.2.1.2.1
    have g2 := F2.2.1.2.1
    have g3 := F3.2.1.2.1
    have g4 := F4.2.1.2.1
    have g5 := F5.2.1.2.1
    have d1 := f1.2.1.1
    have d2 := F2.2.1.1
    have d3 := F3.2.1.1
    have d4 := F4.2.1.1
    have d5 := F5.2.1.1
    simp only [m_X8_reckon, X8_reckon_b20, xR, aN, kA201, kA202, kA203, kA206, kA306, i1n0, i0n1, i0e0, i1e1, gI, gR, pI, pB, pR, xI, xL, yI, yL, vc, kd_sFi, fr_sFi, ln_sFi, ai_sFi, al_sFi, ar_sFi, cs_sFi, sz_sFi, sz_sAi, kd_sAi, fi_sAi, fr_sAi, ln_sAi, al_sAi, ar_sAi, cs_sAi, kd_wz, fi_wz, fr_wz, ln_wz, ai_wz, al_wz, ar_wz, Option.bind_some, if_true, if_false, Nat.reduceAdd, Nat.reduceMul, reduceIte, and_self, true_and, and_true, hka, e_within, e0, e1, r906, k22, l22, cl, ib, har, k1, ew, eu, ep, reduceCtorEq, g1, g2, g3, g4, g5, d1, d2, d3, d4, d5, r905, k5, z4, kf, f201, t0, t1, t2, t3, t4, x1]
end BILL
