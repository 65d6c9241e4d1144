/-! a text is cut into tokens -/
section SCAN
variable {ax ao am : Nat} {ad : Nat → Nat → Nat} {n e pO fO q tm : Nat → Nat} {tx : Nat → List (Int32 × List Int32)} {w : Nat} {pn : Nat → Nat} {nw : Nat → Nat → Nat} {fs : Nat → Nat} {ls : Nat → Option Nat} {rs rl pr : Nat → Nat} {tl : Nat} {hx hm : HS}
abbrev isD (x : Nat) : Prop := 48 ≤ x ∧ x ≤ 57
abbrev isL (x : Nat) : Prop := 97 ≤ x ∧ x ≤ 122
theorem nI_bt {x a b : Nat} (hx : x < 1000) (ha : a < 1000) (hb : b < 1000) : (if nI x < nI a then (0 : Int32) else if nI b < nI x then 0 else 1) = if a ≤ x ∧ x ≤ b then 1 else 0 := by
  by_cases h1 : nI x < nI a
  · rw [if_pos h1, if_neg (fun z => by have := (nI_ltI (by omega) (by omega)).mp h1; omega)]
  · rw [if_neg h1]
    have h1' : ¬ x < a := fun z => h1 (nI_lt z (by omega))
    by_cases h2 : nI b < nI x
    · rw [if_pos h2, if_neg (fun z => by have := (nI_ltI (by omega) (by omega)).mp h2; omega)]
    · have h2' : ¬ b < x := fun z => h2 (nI_lt z (by omega))
      rw [if_neg h2, if_pos (by omega)]
theorem e_isD {x : Nat} (hx : x < 1000) (h : HS) : m_X7_isDigit (nI x) h = some (if 48 ≤ x ∧ x ≤ 57 then 1 else 0, h) := by
  have e1 := nI_bt (x := x) (a := 48) (b := 57) hx (by omega) (by omega)
  have e2 : (if nI x < 48 then (0 : Int32) else if 57 < nI x then 0 else 1) = if 48 ≤ x ∧ x ≤ 57 then 1 else 0 := e1
  simp only [m_X7_isDigit, e_within, e2, Option.bind_some]
  by_cases hc : 48 ≤ x ∧ x ≤ 57
  · simp only [hc, if_true, or_true]
    rfl
  · simp only [hc, if_false, true_or, if_true]
theorem e_isL {x : Nat} (hx : x < 1000) (h : HS) : m_X7_isLetter (nI x) h = some (if 97 ≤ x ∧ x ≤ 122 then 1 else 0, h) := by
  have e1 := nI_bt (x := x) (a := 97) (b := 122) hx (by omega) (by omega)
  have e2 : (if nI x < 97 then (0 : Int32) else if 122 < nI x then 0 else 1) = if 97 ≤ x ∧ x ≤ 122 then 1 else 0 := e1
  simp only [m_X7_isLetter, e_within, e2, Option.bind_some]
  by_cases hc : 97 ≤ x ∧ x ≤ 122
  · simp only [hc, if_true, or_true]
    rfl
  · simp only [hc, if_false, true_or, if_true]
theorem e_isD9 {x : Nat} (hx : x < 1000) (h : HS) : m_X9_isDigit (nI x) h = some (if 48 ≤ x ∧ x ≤ 57 then 1 else 0, h) := by
  have e2 : (if nI x < 48 then (0 : Int32) else if 57 < nI x then 0 else 1) = if 48 ≤ x ∧ x ≤ 57 then 1 else 0 := nI_bt (x := x) (a := 48) (b := 57) hx (by omega) (by omega)
  rw [← e2]
  unfold m_X9_isDigit
  split
  · rfl
  · split <;> rfl
theorem e_isL9 {x : Nat} (hx : x < 1000) (h : HS) : m_X9_isLetter (nI x) h = some (if 97 ≤ x ∧ x ≤ 122 then 1 else 0, h) := by
  have e2 : (if nI x < 97 then (0 : Int32) else if 122 < nI x then 0 else 1) = if 97 ≤ x ∧ x ≤ 122 then 1 else 0 := nI_bt (x := x) (a := 97) (b := 122) hx (by omega) (by omega)
  rw [← e2]
  unfold m_X9_isLetter
  split
  · rfl
  · split <;> rfl
/-- the tape as both read it -/
def TpX (ad : Nat → Nat → Nat) (n : Nat → Nat) (sg : Nat → Nat) (tl : Nat) (h : HS) : Prop := tl ≤ 600 ∧ cf ad n h 601 0 = nI tl ∧ ∀ i, i < tl → cv ad n h 16 0 i = nI (sg i) ∧ sg i ≤ 126
theorem e_signAt {h : HS} (hS : SXA ax ao ad n e pO fO h) {sg : Nat → Nat} {i : Nat} (hT : TpX ad n sg tl h) (hi : i < tl) : m_X5_signAt (ad 6 0) (nI i) h = some (nI (sg i), h) := by
  obtain ⟨t1, t2, t3⟩ := hT
  obtain ⟨n6, n16, k6, r600, k16, l16, -⟩ := ktape hS
  have f601 : fi h 601 (ad 6 0) = nI tl := by rw [cf_at (g := 601) (n := n) (t := 6) (by decide) n6]; exact t2
  have e0 : ¬ nI i < 0 := nI_pos (by omega)
  have e1 : ¬ nI tl ≤ nI i := nI_ge hi (by omega)
  have e2 : ¬ nI 600 ≤ nI i := nI_ge (by omega) (by omega)
  have cl : (nI i).toNatClampNeg = i := nI_cl (N := 600) (by omega) (by omega)
  have ib : inB (nI i) 600 = true := inB_nI (by omega) (by omega)
  have v : ai h (ad 16 0) i = nI (sg i) := by rw [cv_at (n := n) n16]; exact (t3 i hi).1
  simp only [m_X5_signAt, aN, kA201, kA202, kA203, kA206, kA306, i1n0, i0n1, i0e0, i1e1, gI, gR, pI, pB, pR, xI, xL, yI, yL, vc, kd_sFi, fr_sFi, ln_sFi, ai_sFi, al_sFi, ar_sFi, cs_sFi, sz_sFi, sz_sAi, kd_sAi, fi_sAi, fr_sAi, ln_sAi, al_sAi, ar_sAi, cs_sAi, kd_wz, fi_wz, fr_wz, ln_wz, ai_wz, al_wz, ar_wz, Option.bind_some, if_true, if_false, Nat.reduceAdd, Nat.reduceMul, reduceIte, and_self, true_and, and_true, k6, r600, k16, l16, f601, e0, e1, e2, cl, ib, v]
def FrT (ax ao : Nat) (ad : Nat → Nat → Nat) (n e pO fO : Nat → Nat) (h h' : HS) : Prop := SXA ax ao ad n e pO fO h' ∧ SameS h h' ∧ (∀ g, g ≠ 802 → cf ad n h' g = cf ad n h g) ∧ ∀ t, (t ≠ 17 ∧ t ≠ 18) → cv ad n h' t = cv ad n h t
theorem FrT.rf {h : HS} (hS : SXA ax ao ad n e pO fO h) : FrT ax ao ad n e pO fO h h := ⟨hS, SameS.rf h, fun _ _ => rfl, fun _ _ => rfl⟩
theorem FrT.tr {a b c : HS} (h1 : FrT ax ao ad n e pO fO a b) (h2 : FrT ax ao ad n e pO fO b c) : FrT ax ao ad n e pO fO a c := ⟨h2.1, h1.2.1.tr h2.2.1, fun g hg => (h2.2.2.1 g hg).trans (h1.2.2.1 g hg), fun t ht => (h2.2.2.2 t ht).trans (h1.2.2.2 t ht)⟩
theorem TpX.fr {h h' : HS} {sg : Nat → Nat} (hT : TpX ad n sg tl h) (hf : FrT ax ao ad n e pO fO h h') : TpX ad n sg tl h' := ⟨hT.1, by rw [hf.2.2.1 601 (by decide)]; exact hT.2.1, by rw [hf.2.2.2 16 (by decide)]; exact hT.2.2⟩
theorem ktok {h : HS} (hS : SXA ax ao ad n e pO fO h) : 0 < n 7 ∧ 0 < n 8 ∧ 0 < n 17 ∧ 0 < n 18 ∧ 0 < n 19 ∧ kd h (ad 7 0) = 8 ∧ kd h (ad 8 0) = 9 ∧ fr h 700 (ad 7 0) = some (ad 8 0) ∧ fr h 701 (ad 7 0) = some (ad 19 0) ∧ fr h 800 (ad 8 0) = some (ad 17 0) ∧ fr h 801 (ad 8 0) = some (ad 18 0) ∧ kd h (ad 17 0) = 201 ∧ ln h (ad 17 0) = 601 ∧ kd h (ad 18 0) = 201 ∧ ln h (ad 18 0) = 601 ∧ kd h (ad 19 0) = 201 ∧ ln h (ad 19 0) = 600 ∧ fr h 904 ax = some (ad 7 0) := by
  obtain ⟨a0, a5, a6, a7, a8, a9, a11, a12, a13, a14, a15, a16, a17, a18, a19, -⟩ := hS.1
  obtain ⟨r1, r2, r900, r901, r902, r903, r904, r905, r906, r907, r600, r700, r701, r800, r801, -⟩ := hS.2.2.2.2.1
  have h7 : 0 < n 7 := by omega
  have h8 : 0 < n 8 := by omega
  have h17 : 0 < n 17 := by omega
  have h18 : 0 < n 18 := by omega
  have h19 : 0 < n 19 := by omega
  exact ⟨h7, h8, h17, h18, h19, k0 hS h7, k0 hS h8, r700, r701, r800, r801, k0 hS h17, hS.2.2.2.1 17 0 h17 (by decide) (by decide), k0 hS h18, hS.2.2.2.1 18 0 h18 (by decide) (by decide), k0 hS h19, hS.2.2.2.1 19 0 h19 (by decide) (by decide), r904⟩
theorem e_addT {h : HS} (hS : SXA ax ao ad n e pO fO h) {T : Nat} (hT : cf ad n h 802 0 = nI T) (hT6 : T < 601) (k p : Int32) : ∃ h', m_X7_add (ad 8 0) k p h = some h' ∧ FrT ax ao ad n e pO fO h h' ∧ cf ad n h' 802 0 = nI (T + 1) ∧ cv ad n h' 17 0 = va_up (cv ad n h 17 0) T k ∧ cv ad n h' 18 0 = va_up (cv ad n h 18 0) T p := by
  obtain ⟨n7, n8, n17, n18, n19, k7, k8, r700, r701, r800, r801, k17, l17, k18, l18, k19, l19, -⟩ := ktok hS
  have f802 : fi h 802 (ad 8 0) = nI T := by rw [cf_at (g := 802) (n := n) (t := 8) (by decide) n8]; exact hT
  have e1 : ¬ nI 601 ≤ nI T := nI_ge hT6 (by omega)
  have cl : (nI T).toNatClampNeg = T := nI_cl hT6 (by omega)
  have ib : inB (nI T) 601 = true := inB_nI hT6 (by omega)
  have e2 : nI T + 1 = nI (T + 1) := nI_add T 1
  have hS1 : SXA ax ao ad n e pO fO (sAi h (ad 17 0) T k) := SXA_sAi (by rw [k17]; decide) hS
  have hS2 : SXA ax ao ad n e pO fO (sAi (sAi h (ad 17 0) T k) (ad 18 0) T p) := SXA_sAi (by show kd h (ad 18 0) ≠ 303; rw [k18]; decide) hS1
  have c1 : cf ad n (sFi (sAi (sAi h (ad 17 0) T k) (ad 18 0) T p) 802 (ad 8 0) (nI (T + 1))) = up2 (cf ad n h) 802 0 (nI (T + 1)) := cf_sFi hS.2.1 (t := 8) (by decide) n8
  have v1 : cv ad n (sFi (sAi (sAi h (ad 17 0) T k) (ad 18 0) T p) 802 (ad 8 0) (nI (T + 1))) = up3 (up3 (cv ad n h) 17 0 T k) 18 0 T p := by
    show cv ad n (sAi (sAi h (ad 17 0) T k) (ad 18 0) T p) = _
    rw [cv_sAi hS.2.1 n18, cv_sAi hS.2.1 n17]
  refine ⟨sFi (sAi (sAi h (ad 17 0) T k) (ad 18 0) T p) 802 (ad 8 0) (nI (T + 1)), ?_, ⟨SXA_sFi (by decide) (by decide) hS2, ⟨rfl, rfl, rfl, rfl, rfl, rfl, rfl⟩, fun g hg => by rw [c1, up2_ne1' hg], fun t ht => ?_⟩, by rw [c1, up2_same], ?_, ?_⟩
  · simp only [m_X7_add, aN, kA201, kA202, kA203, kA206, kA306, i1n0, i0n1, i0e0, i1e1, gI, gR, pI, pB, pR, xI, xL, yI, yL, vc, kd_sFi, fr_sFi, ln_sFi, ai_sFi, al_sFi, ar_sFi, cs_sFi, sz_sFi, sz_sAi, kd_sAi, fi_sAi, fr_sAi, ln_sAi, al_sAi, ar_sAi, cs_sAi, kd_wz, fi_wz, fr_wz, ln_wz, ai_wz, al_wz, ar_wz, Option.bind_some, if_true, if_false, Nat.reduceAdd, Nat.reduceMul, reduceIte, and_self, true_and, and_true, k8, r800, r801, k17, l17, k18, l18, f802, e1, cl, ib, nar_i32, e2]
  · rw [v1]; funext i j
    rw [up3_ne1 _ _ _ _ _ ht.2, up3_ne1 _ _ _ _ _ ht.1]
  · rw [v1]; funext j
    rw [up3_ne1 _ _ _ _ _ (by decide)]
    simp [up3, va_up]
  · rw [v1]; funext j
    simp [up3, va_up]
/-- a run of signs of a sort ends -/
theorem run_end (P : Nat → Prop) : ∀ (r e tl : Nat), e + r = tl → ∃ E, e ≤ E ∧ E ≤ tl ∧ (∀ j, e ≤ j → j < E → P j) ∧ (E = tl ∨ ¬ P E) := by
  intro r
  induction r with
  | zero => intro e tl h; exact ⟨e, Nat.le_refl _, by omega, fun j _ _ => by omega, Or.inl (by omega)⟩
  | succ r ih =>
    intro e tl h
    by_cases hP : P e
    · obtain ⟨E, a1, a2, a3, a4⟩ := ih (e + 1) tl (by omega)
      refine ⟨E, by omega, a2, fun j h1 h2 => ?_, a4⟩
      by_cases hj : j = e
      · subst hj; exact hP
      · exact a3 j (by omega) h2
    · exact ⟨e, Nat.le_refl _, by omega, fun j _ _ => by omega, Or.inr hP⟩
def nvl (sg : Nat → Nat) (st : Nat) : Nat → Nat
  | 0 => 0
  | k + 1 => nvl sg st k * 10 + (sg (st + k) - 48)
def hvl (sg : Nat → Nat) (st : Nat) : Nat → Nat
  | 0 => 0
  | k + 1 => 37 * hvl sg st k + (sg (st + k) - 96)
theorem x_num {sg : Nat → Nat} {st E : Nat} {h : HS} (hS : SXA ax ao ad n e pO fO h) (hT : TpX ad n sg tl h) (hE : E ≤ tl) (hd : ∀ j, st ≤ j → j < E → isD (sg j)) (hx : E = tl ∨ ¬ isD (sg E)) : ∀ (k e0 : Nat), e0 + k = E → st ≤ e0 → ∀ F, k < F → X7_addNumber_L5 (ad 8 0) F (some (ad 6 0)) (nI st) (nI e0) (nI (nvl sg st (min 4 (e0 - st)))) h = X7_addNumber_b53 (ad 8 0) (nI st) (nI E) (nI (nvl sg st (min 4 (E - st)))) h := by
  have ht6 := hT.1
  obtain ⟨n6, n16, k6, r600, k16, l16, -⟩ := ktape hS
  have f601 : fi h 601 (ad 6 0) = nI tl := by rw [cf_at (g := 601) (n := n) (t := 6) (by decide) n6]; exact hT.2.1
  intro k
  induction k with
  | zero =>
    intro e0 hk hst F hF
    obtain ⟨F, rfl⟩ := nF1 hF
    have he : e0 = E := by omega
    subst he
    conv => lhs; unfold X7_addNumber_L5
    by_cases hl : e0 = tl
    · have e1 : nI tl ≤ nI e0 := nI_le (by omega) (by omega)
      simp only [aN, kA201, kA202, kA203, kA206, kA306, i1n0, i0n1, i0e0, i1e1, gI, gR, pI, pB, pR, xI, xL, yI, yL, vc, kd_sFi, fr_sFi, ln_sFi, ai_sFi, al_sFi, ar_sFi, cs_sFi, sz_sFi, sz_sAi, kd_sAi, fi_sAi, fr_sAi, ln_sAi, al_sAi, ar_sAi, cs_sAi, kd_wz, fi_wz, fr_wz, ln_wz, ai_wz, al_wz, ar_wz, Option.bind_some, if_true, if_false, Nat.reduceAdd, Nat.reduceMul, reduceIte, and_self, true_and, and_true, k6, f601, e1]
    · have e1 : ¬ nI tl ≤ nI e0 := nI_ge (by omega) (by omega)
      have hs := e_signAt hS hT (i := e0) (by omega)
      have h126 := (hT.2.2 e0 (by omega)).2
      have hnd := hx.resolve_left hl
      have ed := e_isD (x := sg e0) (by omega) h
      rw [if_neg hnd] at ed
      simp only [aN, kA201, kA202, kA203, kA206, kA306, i1n0, i0n1, i0e0, i1e1, gI, gR, pI, pB, pR, xI, xL, yI, yL, vc, kd_sFi, fr_sFi, ln_sFi, ai_sFi, al_sFi, ar_sFi, cs_sFi, sz_sFi, sz_sAi, kd_sAi, fi_sAi, fr_sAi, ln_sAi, al_sAi, ar_sAi, cs_sAi, kd_wz, fi_wz, fr_wz, ln_wz, ai_wz, al_wz, ar_wz, Option.bind_some, if_true, if_false, Nat.reduceAdd, Nat.reduceMul, reduceIte, and_self, true_and, and_true, k6, f601, e1, hs, ed]
  | succ k ih =>
    intro e0 hk hst F hF
    obtain ⟨F, rfl⟩ := nF1 hF
    have e1 : ¬ nI tl ≤ nI e0 := nI_ge (by omega) (by omega)
    have hs := e_signAt hS hT (i := e0) (by omega)
    have h126 := (hT.2.2 e0 (by omega)).2
    have hd0 := hd e0 hst (by omega)
    have ed := e_isD (x := sg e0) (by omega) h
    rw [if_pos hd0] at ed
    have es : nI e0 - nI st = nI (e0 - st) := nI_sub hst
    have e7 : nI e0 + 1 = nI (e0 + 1) := nI_add e0 1
    rw [← ih (e0 + 1) (by omega) (by omega) F (by omega)]
    conv => lhs; unfold X7_addNumber_L5
    by_cases h4 : 4 ≤ e0 - st
    · have e4 : (4 : Int32) ≤ nI (e0 - st) := nI_le (a := 4) h4 (by omega)
      rw [show min 4 (e0 - st) = 4 by omega, show min 4 (e0 + 1 - st) = 4 by omega]
      simp only [X7_addNumber_b47, aN, kA201, kA202, kA203, kA206, kA306, i1n0, i0n1, i0e0, i1e1, gI, gR, pI, pB, pR, xI, xL, yI, yL, vc, kd_sFi, fr_sFi, ln_sFi, ai_sFi, al_sFi, ar_sFi, cs_sFi, sz_sFi, sz_sAi, kd_sAi, fi_sAi, fr_sAi, ln_sAi, al_sAi, ar_sAi, cs_sAi, kd_wz, fi_wz, fr_wz, ln_wz, ai_wz, al_wz, ar_wz, Option.bind_some, if_true, if_false, Nat.reduceAdd, Nat.reduceMul, reduceIte, and_self, true_and, and_true, k6, f601, e1, hs, ed, es, e4, e7]
    · have e4 : ¬ (4 : Int32) ≤ nI (e0 - st) := nI_ge (b := 4) (by omega) (by omega)
      rw [show min 4 (e0 - st) = e0 - st by omega, show min 4 (e0 + 1 - st) = (e0 - st) + 1 by omega]
      have ev : nI (nvl sg st (e0 - st)) * 10 + nI (sg e0) - 48 = nI (nvl sg st (e0 - st + 1)) := by
        have : nvl sg st (e0 - st + 1) = nvl sg st (e0 - st) * 10 + (sg e0 - 48) := by
          show nvl sg st (e0 - st) * 10 + (sg (st + (e0 - st)) - 48) = _
          rw [show st + (e0 - st) = e0 by omega]
        rw [this, show (10 : Int32) = nI 10 from rfl, show (48 : Int32) = nI 48 from rfl, nI_mul, nI_add, nI_sub (by have := hd0.1; omega)]
        congr 1
        have := hd0.1
        omega
      simp only [X7_addNumber_b47, aN, kA201, kA202, kA203, kA206, kA306, i1n0, i0n1, i0e0, i1e1, gI, gR, pI, pB, pR, xI, xL, yI, yL, vc, kd_sFi, fr_sFi, ln_sFi, ai_sFi, al_sFi, ar_sFi, cs_sFi, sz_sFi, sz_sAi, kd_sAi, fi_sAi, fr_sAi, ln_sAi, al_sAi, ar_sAi, cs_sAi, kd_wz, fi_wz, fr_wz, ln_wz, ai_wz, al_wz, ar_wz, Option.bind_some, if_true, if_false, Nat.reduceAdd, Nat.reduceMul, reduceIte, and_self, true_and, and_true, k6, f601, e1, hs, ed, es, e4, e7, ev]
theorem x_word {sg : Nat → Nat} {st E : Nat} {h : HS} (hS : SXA ax ao ad n e pO fO h) (hT : TpX ad n sg tl h) (hE : E ≤ tl) (hd : ∀ j, st ≤ j → j < E → isL (sg j)) (hx : E = tl ∨ ¬ isL (sg E)) : ∀ (k e0 : Nat), e0 + k = E → st ≤ e0 → ∀ F, k < F → X7_addWord_L2 (ad 8 0) F (some (ad 6 0)) (nI st) (nI e0) h = X7_addWord_b27 (ad 8 0) (some (ad 6 0)) (nI st) (nI E) h := by
  have ht6 := hT.1
  obtain ⟨n6, n16, k6, r600, k16, l16, -⟩ := ktape hS
  have f601 : fi h 601 (ad 6 0) = nI tl := by rw [cf_at (g := 601) (n := n) (t := 6) (by decide) n6]; exact hT.2.1
  intro k
  induction k with
  | zero =>
    intro e0 hk hst F hF
    obtain ⟨F, rfl⟩ := nF1 hF
    have he : e0 = E := by omega
    subst he
    conv => lhs; unfold X7_addWord_L2
    by_cases hl : e0 = tl
    · have e1 : nI tl ≤ nI e0 := nI_le (by omega) (by omega)
      simp only [aN, kA201, kA202, kA203, kA206, kA306, i1n0, i0n1, i0e0, i1e1, gI, gR, pI, pB, pR, xI, xL, yI, yL, vc, kd_sFi, fr_sFi, ln_sFi, ai_sFi, al_sFi, ar_sFi, cs_sFi, sz_sFi, sz_sAi, kd_sAi, fi_sAi, fr_sAi, ln_sAi, al_sAi, ar_sAi, cs_sAi, kd_wz, fi_wz, fr_wz, ln_wz, ai_wz, al_wz, ar_wz, Option.bind_some, if_true, if_false, Nat.reduceAdd, Nat.reduceMul, reduceIte, and_self, true_and, and_true, k6, f601, e1]
    · have e1 : ¬ nI tl ≤ nI e0 := nI_ge (by omega) (by omega)
      have hs := e_signAt hS hT (i := e0) (by omega)
      have h126 := (hT.2.2 e0 (by omega)).2
      have hnd := hx.resolve_left hl
      have ed := e_isL (x := sg e0) (by omega) h
      rw [if_neg hnd] at ed
      simp only [aN, kA201, kA202, kA203, kA206, kA306, i1n0, i0n1, i0e0, i1e1, gI, gR, pI, pB, pR, xI, xL, yI, yL, vc, kd_sFi, fr_sFi, ln_sFi, ai_sFi, al_sFi, ar_sFi, cs_sFi, sz_sFi, sz_sAi, kd_sAi, fi_sAi, fr_sAi, ln_sAi, al_sAi, ar_sAi, cs_sAi, kd_wz, fi_wz, fr_wz, ln_wz, ai_wz, al_wz, ar_wz, Option.bind_some, if_true, if_false, Nat.reduceAdd, Nat.reduceMul, reduceIte, and_self, true_and, and_true, k6, f601, e1, hs, ed]
  | succ k ih =>
    intro e0 hk hst F hF
    obtain ⟨F, rfl⟩ := nF1 hF
    have e1 : ¬ nI tl ≤ nI e0 := nI_ge (by omega) (by omega)
    have hs := e_signAt hS hT (i := e0) (by omega)
    have h126 := (hT.2.2 e0 (by omega)).2
    have hd0 := hd e0 hst (by omega)
    have ed := e_isL (x := sg e0) (by omega) h
    rw [if_pos hd0] at ed
    have e7 : nI e0 + 1 = nI (e0 + 1) := nI_add e0 1
    rw [← ih (e0 + 1) (by omega) (by omega) F (by omega)]
    conv => lhs; unfold X7_addWord_L2
    simp only [aN, kA201, kA202, kA203, kA206, kA306, i1n0, i0n1, i0e0, i1e1, gI, gR, pI, pB, pR, xI, xL, yI, yL, vc, kd_sFi, fr_sFi, ln_sFi, ai_sFi, al_sFi, ar_sFi, cs_sFi, sz_sFi, sz_sAi, kd_sAi, fi_sAi, fr_sAi, ln_sAi, al_sAi, ar_sAi, cs_sAi, kd_wz, fi_wz, fr_wz, ln_wz, ai_wz, al_wz, ar_wz, Option.bind_some, if_true, if_false, Nat.reduceAdd, Nat.reduceMul, reduceIte, and_self, true_and, and_true, k6, f601, e1, hs, ed, e7]
end SCAN
