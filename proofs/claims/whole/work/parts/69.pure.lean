section EVAL2
variable {ax ao am : Nat} {ad : Nat → Nat → Nat} {n e pO fO q tm : Nat → Nat} {tx : Nat → List (Int32 × List Int32)} {w : Nat} {pn : Nat → Nat} {nw : Nat → Nat → Nat} {fs : Nat → Nat} {ls : Nat → Option Nat} {rs rl pr : Nat → Nat} {tl : Nat} {hx hm : HS}
theorem gD_l {l r : List Int32} {j : Nat} (h : j < l.length) : (l ++ r).getD j 0 = l.getD j 0 := by
  rw [List.getD_eq_getElem?_getD, List.getD_eq_getElem?_getD, List.getElem?_append_left h]
theorem gD_r {l r : List Int32} (j : Nat) : (l ++ r).getD (l.length + j) 0 = r.getD j 0 := by
  rw [List.getD_eq_getElem?_getD, List.getD_eq_getElem?_getD, List.getElem?_append_right (Nat.le_add_right _ _), Nat.add_sub_cancel_left]
theorem ktext {h : HS} (hS : SXA ax ao ad n e pO fO h) {t : Nat} (ht : t < n 4) : kd h (ad 4 t) = 5 ∧ fr h 400 (ad 4 t) = some (ad 15 t) ∧ kd h (ad 15 t) = 201 ∧ t < n 15 := by
  obtain ⟨a0, a5, a6, a7, a8, a9, a11, a12, a13, a14, a15, -⟩ := hS.1
  obtain ⟨r1, r2, r900, r901, r902, r903, r904, r905, r906, r907, r600, r700, r701, r800, r801, r500, r501, g2, g3, g1, g4⟩ := hS.2.2.2.2.1
  have h15 : t < n 15 := by omega
  exact ⟨k0 hS ht, g4 t ht, k0 hS h15, h15⟩
theorem x_step {h h1 : HS} (hS : SXA ax ao ad n e pO fO h) {t i L m : Nat} (ht : t < n 4) (hL : ln h (ad 15 t) = L) (hL6 : L ≤ 600) (hi : i < L) {s : Int32} (hs : cv ad n h 15 t i = s) (h2 : s < 20000) (q1 : m_X4_take (ad 5 0) s h = some h1) : X4_rateBy_L7 (ad 5 0) (m + 1) (some (ad 4 t)) (nI i) h = X4_rateBy_L7 (ad 5 0) m (some (ad 4 t)) (nI (i + 1)) h1 := by
  obtain ⟨k4, r4, k15, n15⟩ := ktext hS ht
  obtain ⟨n5, n20, n21, k5, -⟩ := kreck hS
  have e1 : ¬ nI L ≤ nI i := nI_ge hi (by omega)
  have cl : (nI i).toNatClampNeg = i := nI_cl hi (by omega)
  have ib : inB (nI i) L = true := inB_nI hi (by omega)
  have v : ai h (ad 15 t) i = s := by rw [cv_at (n := n) n15]; exact hs
  have e2 : ¬ (20000 : Int32) ≤ s := Int32.not_le.mpr h2
  have e7 : nI i + 1 = nI (i + 1) := nI_add i 1
  conv => lhs; unfold X4_rateBy_L7
  simp only [X4_rateBy_b51, aN, kA201, kA202, kA203, kA206, kA306, i1n0, i0n1, i0e0, i1e1, gI, gR, pI, pB, pR, xI, xL, yI, yL, vc, kd_sFi, fr_sFi, ln_sFi, ai_sFi, al_sFi, ar_sFi, cs_sFi, sz_sFi, sz_sAi, kd_sAi, fi_sAi, fr_sAi, ln_sAi, al_sAi, ar_sAi, cs_sAi, kd_wz, fi_wz, fr_wz, ln_wz, ai_wz, al_wz, ar_wz, Option.bind_some, if_true, if_false, Nat.reduceAdd, Nat.reduceMul, reduceIte, and_self, true_and, and_true, k4, r4, k15, hL, k5, e1, cl, ib, v, e2, q1, e7]
theorem x_eval {fc : Nat → Int32} {t L : Nat} : ∀ (es st : List Int32) (i : Nat) (h : HS), SXA ax ao ad n e pO fO h → t < n 4 → ln h (ad 15 t) = L → L ≤ 600 → okE es st.length → st.length ≤ 32 → StX ad n h fc st → (∀ j, j < es.length → cv ad n h 15 t (i + j) = es.getD j 0) → i + es.length ≤ L → ∀ F, ∃ h', X4_rateBy_L7 (ad 5 0) (F + es.length) (some (ad 4 t)) (nI i) h = X4_rateBy_L7 (ad 5 0) F (some (ad 4 t)) (nI (i + es.length)) h' ∧ FrR ax ao ad n e pO fO h h' ∧ StX ad n h' fc (ev fc es st) := by
  intro es
  induction es with
  | nil => intro st i h hS ht hL hL6 hok h32 hst hc hi F; exact ⟨h, rfl, FrR.rf hS, hst⟩
  | cons s r ih =>
    intro st i h hS ht hL hL6 hok h32 hst hc hi F
    have hi' : i + (r.length + 1) ≤ L := hi
    obtain ⟨h0, hlt, h2⟩ := hok
    have hc0 : cv ad n h 15 t i = s := hc 0 (Nat.succ_pos _)
    have eF : F + (s :: r).length = (F + r.length) + 1 := rfl
    have eI : i + (s :: r).length = (i + 1) + r.length := by show i + (r.length + 1) = _; omega
    have go : ∀ (h1 : HS) (st' : List Int32), m_X4_take (ad 5 0) s h = some h1 → FrR ax ao ad n e pO fO h h1 → StX ad n h1 fc st' → okE r st'.length → st'.length ≤ 32 → ev fc (s :: r) st = ev fc r st' → ∃ h', X4_rateBy_L7 (ad 5 0) (F + (s :: r).length) (some (ad 4 t)) (nI i) h = X4_rateBy_L7 (ad 5 0) F (some (ad 4 t)) (nI (i + (s :: r).length)) h' ∧ FrR ax ao ad n e pO fO h h' ∧ StX ad n h' fc (ev fc (s :: r) st) := by
      intro h1 st' q1 q2 q3 q4 q5 q6
      have c15 : cv ad n h1 15 = cv ad n h 15 := q2.2.2.2 15 (by decide)
      obtain ⟨h', a1, a2, a3⟩ := ih st' (i + 1) h1 q2.1 ht (by rw [q2.2.1.2.2.1]; exact hL) hL6 q4 q5 q3 (fun j hj => by
        rw [c15]
        have := hc (j + 1) (Nat.succ_lt_succ hj)
        rw [show i + 1 + j = i + (j + 1) by omega]
        exact this) (by omega) F
      refine ⟨h', ?_, q2.tr a2, by rw [q6]; exact a3⟩
      rw [eF, eI, x_step hS ht hL hL6 (by omega) hc0 hlt q1, a1]
    rcases h2 with ⟨a1, a2, a3⟩ | ⟨a1, a2, a3, a4⟩
    · obtain ⟨h1, q1, q2, q3⟩ := x_takeV hS hst h0 a1 a2
      refine go h1 _ q1 q2 q3 a3 (by simp; omega) ?_
      show ev fc (s :: r) st = _
      by_cases hs : s < 10000
      · rw [if_pos hs]; conv => lhs; unfold ev
        rw [if_pos hs]
      · rw [if_neg hs]; conv => lhs; unfold ev
        rw [if_neg hs, if_pos a1]
    · have b1 : ¬ s < 10000 := fun z => a1 (Int32.lt_trans z (by decide))
      have b2 : ¬ s < 10005 := fun z => a1 (Int32.lt_trans z (by decide))
      match st, a3, a4, h32, hst with
      | b :: a :: st2, _, a4, h32, hst =>
        have h32' : st2.length + 1 + 1 ≤ 32 := h32
        obtain ⟨h1, q1, q2, q3⟩ := x_takeO hS hst a1 (by omega)
        refine go h1 _ q1 q2 q3 a4 (by show st2.length + 1 ≤ 32; omega) ?_
        conv => lhs; unfold ev
        rw [if_neg b1, if_neg b2]
theorem x_rate {fc : Nat → Int32} {t L : Nat} : ∀ (ls : List (Int32 × List Int32)) (i : Nat) (h : HS), SXA ax ao ad n e pO fO h → t < n 4 → ln h (ad 15 t) = L → L ≤ 600 → (∀ p ∈ ls, okE p.2 0 ∧ 0 ≤ p.1 ∧ p.1 ≤ 999) → StX ad n h fc [] → (∀ j, j < (flat ls).length → cv ad n h 15 t (i + j) = (flat ls).getD j 0) → i + (flat ls).length = L → ∀ F, ∃ h', X4_rateBy_L7 (ad 5 0) (F + 1 + (flat ls).length) (some (ad 4 t)) (nI i) h = some (rateOf fc ls, h') ∧ FrR ax ao ad n e pO fO h h' := by
  intro ls
  induction ls with
  | nil =>
    intro i h hS ht hL hL6 hp hst hc hi F
    refine ⟨h, ?_, FrR.rf hS⟩
    obtain ⟨k4, r4, k15, n15⟩ := ktext hS ht
    have hi' : i = L := hi
    have e1 : nI L ≤ nI i := nI_le (by omega) (by omega)
    show X4_rateBy_L7 (ad 5 0) (F + 1) (some (ad 4 t)) (nI i) h = some (0, h)
    conv => lhs; unfold X4_rateBy_L7
    simp only [aN, kA201, kA202, kA203, kA206, kA306, i1n0, i0n1, i0e0, i1e1, gI, gR, pI, pB, pR, xI, xL, yI, yL, vc, kd_sFi, fr_sFi, ln_sFi, ai_sFi, al_sFi, ar_sFi, cs_sFi, sz_sFi, sz_sAi, kd_sAi, fi_sAi, fr_sAi, ln_sAi, al_sAi, ar_sAi, cs_sAi, kd_wz, fi_wz, fr_wz, ln_wz, ai_wz, al_wz, ar_wz, Option.bind_some, if_true, if_false, Nat.reduceAdd, Nat.reduceMul, reduceIte, and_self, true_and, and_true, k4, r4, k15, hL, e1]
  | cons p ls ih =>
    intro i h hS ht hL hL6 hp hst hc hi F
    obtain ⟨r, es⟩ := p
    obtain ⟨o1, o2, o3⟩ := hp (r, es) (List.mem_cons_self ..)
    have fl : flat ((r, es) :: ls) = es ++ (20000 + r) :: flat ls := rfl
    have flen : (flat ((r, es) :: ls)).length = es.length + ((flat ls).length + 1) := by rw [fl, List.length_append]; rfl
    rw [flen] at hi hc ⊢
    have hr0 : ¬ r < 0 := Int32.not_lt.mpr o2
    obtain ⟨rr, hrr, rfl⟩ := nI_of hr0
    have hr9 : rr ≤ 999 := Nat.not_lt.mp fun z => absurd o3 (nI_ge (a := 999) z hrr)
    have eR : (20000 : Int32) + nI rr = nI (20000 + rr) := nI_add 20000 rr
    have g1 : ∀ j, j < es.length → (flat ((nI rr, es) :: ls)).getD j 0 = es.getD j 0 := fun j hj => by
      rw [fl, gD_l hj]
    have g2 : (flat ((nI rr, es) :: ls)).getD es.length 0 = 20000 + nI rr := by
      rw [fl]; exact gD_r (l := es) (r := (20000 + nI rr) :: flat ls) 0
    have g3 : ∀ j, (flat ((nI rr, es) :: ls)).getD (es.length + 1 + j) 0 = (flat ls).getD j 0 := fun j => by
      rw [fl, show es.length + 1 + j = es.length + (j + 1) by omega, gD_r]; rfl
    obtain ⟨h1, a1, a2, a3⟩ := x_eval es [] i h hS ht hL hL6 o1 (by simp) hst (fun j hj => by rw [hc j (by omega), g1 j hj]) (by omega) (F + 1 + (flat ls).length + 1)
    have hlen := ev_len (fc := fc) es [] o1
    obtain ⟨v, hv⟩ : ∃ v, ev fc es [] = [v] := by
      match hq : ev fc es [], hlen with
      | [v], _ => exact ⟨v, rfl⟩
    rw [hv] at a3
    obtain ⟨h2, b1, b2, b3⟩ := x_pop a2.1 a3 (by simp)
    have hL1 : ln h1 (ad 15 t) = L := by rw [a2.2.1.2.2.1]; exact hL
    obtain ⟨k4, r4, k15, n15⟩ := ktext a2.1 ht
    obtain ⟨n5, n20, n21, k5, -⟩ := kreck a2.1
    have e1 : ¬ nI L ≤ nI (i + es.length) := nI_ge (by omega) (by omega)
    have cl : (nI (i + es.length)).toNatClampNeg = i + es.length := nI_cl (N := L) (by omega) (by omega)
    have ib : inB (nI (i + es.length)) L = true := inB_nI (by omega) (by omega)
    have vv : ai h1 (ad 15 t) (i + es.length) = nI (20000 + rr) := by
      rw [cv_at (n := n) n15, a2.2.2.2 15 (by decide), hc es.length (by omega), g2, eR]
    have e2 : (20000 : Int32) ≤ nI (20000 + rr) := nI_le (a := 20000) (by omega) (by omega)
    have e3 : nI (20000 + rr) - 20000 = nI rr := by
      rw [show (20000 : Int32) = nI 20000 from rfl, nI_sub (by omega), Nat.add_sub_cancel_left]
    have e7 : nI (i + es.length) + 1 = nI (i + es.length + 1) := nI_add _ 1
    have eF : F + 1 + (es.length + ((flat ls).length + 1)) = (F + 1 + (flat ls).length + 1) + es.length := by omega
    rw [eF, a1]
    have hro : rateOf fc ((nI rr, es) :: ls) = if v ≠ 0 then nI rr else rateOf fc ls := by
      show (if (ev fc es []).headD 0 ≠ 0 then nI rr else rateOf fc ls) = _
      rw [hv]; rfl
    by_cases hz : v = 0
    · subst hz
      rw [hro, if_neg (fun z => z rfl)]
      have c15 : cv ad n h2 15 = cv ad n h 15 := ((a2.tr b2).2.2.2 15 (by decide))
      obtain ⟨h3, d1, d2⟩ := ih (i + es.length + 1) h2 b2.1 ht (by rw [(a2.tr b2).2.1.2.2.1]; exact hL) hL6 (fun p hp' => hp p (List.mem_cons_of_mem _ hp')) b3 (fun j hj => by
        rw [c15, show i + es.length + 1 + j = i + (es.length + 1 + j) by omega, hc _ (by omega), g3]) (by omega) F
      refine ⟨h3, ?_, (a2.tr b2).tr d2⟩
      rw [← d1]
      conv => lhs; unfold X4_rateBy_L7
      simp only [X4_rateBy_b51, aN, kA201, kA202, kA203, kA206, kA306, i1n0, i0n1, i0e0, i1e1, gI, gR, pI, pB, pR, xI, xL, yI, yL, vc, kd_sFi, fr_sFi, ln_sFi, ai_sFi, al_sFi, ar_sFi, cs_sFi, sz_sFi, sz_sAi, kd_sAi, fi_sAi, fr_sAi, ln_sAi, al_sAi, ar_sAi, cs_sAi, kd_wz, fi_wz, fr_wz, ln_wz, ai_wz, al_wz, ar_wz, Option.bind_some, if_true, if_false, Nat.reduceAdd, Nat.reduceMul, reduceIte, and_self, true_and, and_true, k4, r4, k15, hL1, k5, e1, cl, ib, vv, e2, b1, e7]
    · rw [hro, if_pos hz]
      refine ⟨h2, ?_, a2.tr b2⟩
      conv => lhs; unfold X4_rateBy_L7
      simp only [aN, kA201, kA202, kA203, kA206, kA306, i1n0, i0n1, i0e0, i1e1, gI, gR, pI, pB, pR, xI, xL, yI, yL, vc, kd_sFi, fr_sFi, ln_sFi, ai_sFi, al_sFi, ar_sFi, cs_sFi, sz_sFi, sz_sAi, kd_sAi, fi_sAi, fr_sAi, ln_sAi, al_sAi, ar_sAi, cs_sAi, kd_wz, fi_wz, fr_wz, ln_wz, ai_wz, al_wz, ar_wz, Option.bind_some, if_true, if_false, Nat.reduceAdd, Nat.reduceMul, reduceIte, and_self, true_and, and_true, k4, r4, k15, hL1, k5, e1, cl, ib, vv, e2, b1, hz, e3]
end EVAL2
