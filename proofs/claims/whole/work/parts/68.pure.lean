/-! a line's worth -/
section EVAL
variable {ax ao am : Nat} {ad : Nat → Nat → Nat} {n e pO fO q tm : Nat → Nat} {tx : Nat → List (Int32 × List Int32)} {w : Nat} {pn : Nat → Nat} {nw : Nat → Nat → Nat} {fs : Nat → Nat} {ls : Nat → Option Nat} {rs rl pr : Nat → Nat} {tl : Nat} {hx hm : HS}
def StkA (v : Nat → Int32) : List Int32 → Prop
  | [] => True
  | x :: r => v r.length = x ∧ StkA v r
theorem StkA_up {v : Nat → Int32} {k : Nat} {x : Int32} : ∀ {r : List Int32}, r.length ≤ k → StkA v r → StkA (va_up v k x) r
  | [], _, _ => trivial
  | y :: r, hk, h => by
    have hk' : r.length + 1 ≤ k := by simpa using hk
    exact ⟨by rw [va_upN _ _ (by omega)]; exact h.1, StkA_up (by omega) h.2⟩
theorem ev_len {fc : Nat → Int32} : ∀ (es st : List Int32), okE es st.length → (ev fc es st).length = 1
  | [], st, h => h
  | s :: r, st, h => by
    obtain ⟨h0, h1, h2⟩ := h
    unfold ev
    rcases h2 with ⟨a1, a2, a3⟩ | ⟨a1, a2, a3, a4⟩
    · by_cases hs : s < 10000
      · rw [if_pos hs]; exact ev_len r _ a3
      · rw [if_neg hs, if_pos a1]; exact ev_len r _ a3
    · have b1 : ¬ s < 10000 := fun z => a1 (Int32.lt_trans z (by decide))
      have b2 : ¬ s < 10005 := fun z => a1 (Int32.lt_trans z (by decide))
      rw [if_neg b1, if_neg b2]
      match st, a3, a4 with
      | b :: a :: q, _, a4 => exact ev_len r _ a4
theorem nI_dec (k : Nat) : nI (k + 1) + (-1) = nI k := by
  have h1 : nI (k + 1) = nI k + 1 := (nI_add k 1).symm
  have h2 : (1 : Int32) + (-1) = 0 := by decide
  rw [h1, Int32.add_assoc, h2, Int32.add_zero]
theorem kreck {h : HS} (hS : SXA ax ao ad n e pO fO h) : 0 < n 5 ∧ 0 < n 20 ∧ 0 < n 21 ∧ kd h (ad 5 0) = 6 ∧ fr h 500 (ad 5 0) = some (ad 20 0) ∧ fr h 501 (ad 5 0) = some (ad 21 0) ∧ kd h (ad 20 0) = 201 ∧ ln h (ad 20 0) = 5 ∧ kd h (ad 21 0) = 201 ∧ ln h (ad 21 0) = 32 ∧ fr h 905 ax = some (ad 5 0) := by
  obtain ⟨a0, a5, a6, a7, a8, a9, a11, a12, a13, a14, a15, a16, a17, a18, a19, a20, a21, a22, a23, a10, -⟩ := hS.1
  obtain ⟨r1, r2, r900, r901, r902, r903, r904, r905, r906, r907, r600, r700, r701, r800, r801, r500, r501, -⟩ := hS.2.2.2.2.1
  have h5 : 0 < n 5 := by omega
  have h20 : 0 < n 20 := by omega
  have h21 : 0 < n 21 := by omega
  exact ⟨h5, h20, h21, k0 hS h5, r500, r501, k0 hS h20, hS.2.2.2.1 20 0 h20 (by decide) (by decide), k0 hS h21, hS.2.2.2.1 21 0 h21 (by decide) (by decide), r905⟩
theorem e_push {h : HS} (hS : SXA ax ao ad n e pO fO h) {H : Nat} (hH : cf ad n h 502 0 = nI H) (h32 : H < 32) (x : Int32) : m_X4_push (ad 5 0) x h = some (sFi (sAi h (ad 21 0) H x) 502 (ad 5 0) (nI (H + 1))) := by
  obtain ⟨n5, n20, n21, k5, r500, r501, k20, l20, k21, l21, -⟩ := kreck hS
  have f502 : fi h 502 (ad 5 0) = nI H := by rw [cf_at (g := 502) (n := n) (t := 5) (by decide) n5]; exact hH
  have e0 : ¬ nI H < 0 := nI_pos (by omega)
  have e1 : ¬ nI 32 ≤ nI H := nI_ge h32 (by omega)
  have cl : (nI H).toNatClampNeg = H := nI_cl h32 (by omega)
  have ib : inB (nI H) 32 = true := inB_nI h32 (by omega)
  have e2 : nI H + 1 = nI (H + 1) := nI_add H 1
  simp only [m_X4_push, aN, kA201, kA202, kA203, kA206, kA306, i1n0, i0n1, i0e0, i1e1, gI, gR, pI, pB, pR, xI, xL, yI, yL, vc, kd_sFi, fr_sFi, ln_sFi, ai_sFi, al_sFi, ar_sFi, cs_sFi, sz_sFi, sz_sAi, kd_sAi, fi_sAi, fr_sAi, ln_sAi, al_sAi, ar_sAi, cs_sAi, kd_wz, fi_wz, fr_wz, ln_wz, ai_wz, al_wz, ar_wz, Option.bind_some, if_true, if_false, Nat.reduceAdd, Nat.reduceMul, reduceIte, and_self, true_and, and_true, k5, r501, k21, l21, f502, e0, e1, cl, ib, nar_i32, e2]
theorem e_pop {h : HS} (hS : SXA ax ao ad n e pO fO h) {H : Nat} (hH : cf ad n h 502 0 = nI (H + 1)) (h32 : H < 32) : m_X4_pop (ad 5 0) h = some (cv ad n h 21 0 H, sFi h 502 (ad 5 0) (nI H)) := by
  obtain ⟨n5, n20, n21, k5, r500, r501, k20, l20, k21, l21, -⟩ := kreck hS
  have f502 : fi h 502 (ad 5 0) = nI (H + 1) := by rw [cf_at (g := 502) (n := n) (t := 5) (by decide) n5]; exact hH
  have e0 : ¬ nI (H + 1) ≤ 0 := nI_ge (a := 0) (by omega) (by omega)
  have e1 : nI (H + 1) ≤ nI 32 := nI_le (by omega) (by omega)
  have e2 : nI (H + 1) - 1 = nI H := nI_sub (a := H + 1) (b := 1) (by omega)
  have cl : (nI H).toNatClampNeg = H := nI_cl h32 (by omega)
  have ib : inB (nI H) 32 = true := inB_nI h32 (by omega)
  simp only [m_X4_pop, aN, kA201, kA202, kA203, kA206, kA306, i1n0, i0n1, i0e0, i1e1, gI, gR, pI, pB, pR, xI, xL, yI, yL, vc, kd_sFi, fr_sFi, ln_sFi, ai_sFi, al_sFi, ar_sFi, cs_sFi, sz_sFi, sz_sAi, kd_sAi, fi_sAi, fr_sAi, ln_sAi, al_sAi, ar_sAi, cs_sAi, kd_wz, fi_wz, fr_wz, ln_wz, ai_wz, al_wz, ar_wz, Option.bind_some, if_true, if_false, Nat.reduceAdd, Nat.reduceMul, reduceIte, and_self, true_and, and_true, k5, r501, k21, l21, f502, e0, e1, e2, fi_sFi, up2_same, cl, ib, cv_at (n := n) n21]
def FrR (ax ao : Nat) (ad : Nat → Nat → Nat) (n e pO fO : Nat → Nat) (h h' : HS) : Prop := SXA ax ao ad n e pO fO h' ∧ SameS h h' ∧ (∀ g, g ≠ 502 → cf ad n h' g = cf ad n h g) ∧ ∀ t, (t ≠ 20 ∧ t ≠ 21) → cv ad n h' t = cv ad n h t
theorem FrR.rf {h : HS} (hS : SXA ax ao ad n e pO fO h) : FrR ax ao ad n e pO fO h h := ⟨hS, SameS.rf h, fun _ _ => rfl, fun _ _ => rfl⟩
theorem FrR.tr {a b c : HS} (h1 : FrR ax ao ad n e pO fO a b) (h2 : FrR ax ao ad n e pO fO b c) : FrR ax ao ad n e pO fO a c := ⟨h2.1, h1.2.1.tr h2.2.1, fun g hg => (h2.2.2.1 g hg).trans (h1.2.2.1 g hg), fun t ht => (h2.2.2.2 t ht).trans (h1.2.2.2 t ht)⟩
theorem FrR_502 {h : HS} (hS : SXA ax ao ad n e pO fO h) (x : Int32) : FrR ax ao ad n e pO fO h (sFi h 502 (ad 5 0) x) ∧ cf ad n (sFi h 502 (ad 5 0) x) 502 0 = x := by
  have e1 : cf ad n (sFi h 502 (ad 5 0) x) = up2 (cf ad n h) 502 0 x := cf_sFi hS.2.1 (t := 5) rfl (kreck hS).1
  refine ⟨⟨SXA_sFi (by decide) (by decide) hS, ⟨rfl, rfl, rfl, rfl, rfl, rfl, rfl⟩, fun g hg => ?_, fun _ _ => rfl⟩, ?_⟩
  · rw [e1]; funext i; exact up2_ne1 _ _ _ _ hg
  · rw [e1, up2_same]
theorem FrR_20 {h : HS} (hS : SXA ax ao ad n e pO fO h) (j : Nat) (x : Int32) : FrR ax ao ad n e pO fO h (sAi h (ad 20 0) j x) ∧ cv ad n (sAi h (ad 20 0) j x) 20 0 = va_up (cv ad n h 20 0) j x ∧ cv ad n (sAi h (ad 20 0) j x) 21 = cv ad n h 21 := by
  obtain ⟨n5, n20, n21, k5, r500, r501, k20, l20, k21, l21, -⟩ := kreck hS
  have e1 : cv ad n (sAi h (ad 20 0) j x) = up3 (cv ad n h) 20 0 j x := cv_sAi hS.2.1 n20
  refine ⟨⟨SXA_sAi (by rw [k20]; decide) hS, ⟨rfl, rfl, rfl, rfl, rfl, rfl, rfl⟩, fun _ _ => rfl, fun t ht => ?_⟩, ?_, ?_⟩
  · rw [e1]; funext i j'; exact up3_ne1 _ _ _ _ _ ht.1
  · rw [e1]; funext j'; simp [up3, va_up]
  · rw [e1]; funext i j'; exact up3_ne1 _ _ _ _ _ (by decide)
theorem FrR_21 {h : HS} (hS : SXA ax ao ad n e pO fO h) (j : Nat) (x : Int32) : FrR ax ao ad n e pO fO h (sAi h (ad 21 0) j x) ∧ cv ad n (sAi h (ad 21 0) j x) 21 0 = va_up (cv ad n h 21 0) j x ∧ cv ad n (sAi h (ad 21 0) j x) 20 = cv ad n h 20 := by
  obtain ⟨n5, n20, n21, k5, r500, r501, k20, l20, k21, l21, -⟩ := kreck hS
  have e1 : cv ad n (sAi h (ad 21 0) j x) = up3 (cv ad n h) 21 0 j x := cv_sAi hS.2.1 n21
  refine ⟨⟨SXA_sAi (by rw [k21]; decide) hS, ⟨rfl, rfl, rfl, rfl, rfl, rfl, rfl⟩, fun _ _ => rfl, fun t ht => ?_⟩, ?_, ?_⟩
  · rw [e1]; funext i j'; exact up3_ne1 _ _ _ _ _ ht.2
  · rw [e1]; funext j'; simp [up3, va_up]
  · rw [e1]; funext i j'; exact up3_ne1 _ _ _ _ _ (by decide)
/-- the reckoner: what is known, what waits -/
def StX (ad : Nat → Nat → Nat) (n : Nat → Nat) (h : HS) (fc : Nat → Int32) (st : List Int32) : Prop := cf ad n h 502 0 = nI st.length ∧ StkA (cv ad n h 21 0) st ∧ ∀ k, k < 5 → cv ad n h 20 0 k = fc k
theorem x_push {h : HS} (hS : SXA ax ao ad n e pO fO h) {fc : Nat → Int32} {st : List Int32} (hT : StX ad n h fc st) (h32 : st.length < 32) (x : Int32) : ∃ h', m_X4_push (ad 5 0) x h = some h' ∧ FrR ax ao ad n e pO fO h h' ∧ StX ad n h' fc (x :: st) := by
  obtain ⟨t1, t2, t3⟩ := hT
  obtain ⟨f1, f2, f3⟩ := FrR_21 hS st.length x
  obtain ⟨g1, g2⟩ := FrR_502 f1.1 (nI (st.length + 1))
  refine ⟨_, e_push hS t1 h32 x, f1.tr g1, g2, ⟨?_, ?_⟩, fun k hk => ?_⟩
  · show cv ad n (sAi h (ad 21 0) st.length x) 21 0 st.length = x
    rw [f2, va_up_same]
  · show StkA (cv ad n (sAi h (ad 21 0) st.length x) 21 0) st
    rw [f2]; exact StkA_up (Nat.le_refl _) t2
  · show cv ad n (sAi h (ad 21 0) st.length x) 20 0 k = fc k
    rw [f3]; exact t3 k hk
theorem x_pop {h : HS} (hS : SXA ax ao ad n e pO fO h) {fc : Nat → Int32} {x : Int32} {st : List Int32} (hT : StX ad n h fc (x :: st)) (h32 : st.length < 32) : ∃ h', m_X4_pop (ad 5 0) h = some (x, h') ∧ FrR ax ao ad n e pO fO h h' ∧ StX ad n h' fc st := by
  obtain ⟨t1, ⟨t2, t2'⟩, t3⟩ := hT
  obtain ⟨g1, g2⟩ := FrR_502 hS (nI st.length)
  have := e_pop hS (H := st.length) t1 h32
  rw [t2] at this
  exact ⟨_, this, g1, g2, t2', t3⟩
theorem e_join (s a b : Int32) (h : HS) : m_X4_join s a b h = some (jn s a b, h) := by
  unfold m_X4_join jn
  by_cases h1 : s = 10010
  · rw [if_pos h1, if_pos h1]
  rw [if_neg h1, if_neg h1]
  by_cases h2 : s = 10011
  · rw [if_pos h2, if_pos h2]
  rw [if_neg h2, if_neg h2]
  by_cases h3 : s = 10012
  · rw [if_pos h3, if_pos h3]
    by_cases hc : b ≤ a
    · rw [if_pos hc, if_neg (Int32.not_lt.mpr hc)]
    · rw [if_neg hc, if_pos (Int32.not_le.mp hc)]
  rw [if_neg h3, if_neg h3]
  by_cases h4 : s = 10013
  · rw [if_pos h4, if_pos h4]
    by_cases hc : a = b
    · rw [if_pos hc, if_pos hc]
    · rw [if_neg hc, if_neg hc]
  rw [if_neg h4, if_neg h4]
  by_cases h5 : a = 0
  · rw [if_pos h5, if_neg (fun z => z.1 h5)]
  rw [if_neg h5]
  by_cases h6 : b = 0
  · rw [if_pos h6, if_neg (fun z => z.2 h6)]
  rw [if_neg h6, if_pos ⟨h5, h6⟩]
theorem x_takeV {h : HS} (hS : SXA ax ao ad n e pO fO h) {fc : Nat → Int32} {st : List Int32} (hT : StX ad n h fc st) {s : Int32} (h0 : ¬ s < 0) (h1 : s < 10005) (h32 : st.length < 32) : ∃ h', m_X4_take (ad 5 0) s h = some h' ∧ FrR ax ao ad n e pO fO h h' ∧ StX ad n h' fc ((if s < 10000 then s else fc (s.toNatClampNeg - 10000)) :: st) := by
  obtain ⟨n5, n20, n21, k5, r500, r501, k20, l20, k21, l21, -⟩ := kreck hS
  by_cases hs : s < 10000
  · rw [if_pos hs]
    obtain ⟨h', q1, q2, q3⟩ := x_push hS hT h32 s
    refine ⟨h', ?_, q2, q3⟩
    have e1 : ¬ (10000 : Int32) ≤ s := Int32.not_le.mpr hs
    simp only [m_X4_take, aN, kA201, kA202, kA203, kA206, kA306, i1n0, i0n1, i0e0, i1e1, gI, gR, pI, pB, pR, xI, xL, yI, yL, vc, kd_sFi, fr_sFi, ln_sFi, ai_sFi, al_sFi, ar_sFi, cs_sFi, sz_sFi, sz_sAi, kd_sAi, fi_sAi, fr_sAi, ln_sAi, al_sAi, ar_sAi, cs_sAi, kd_wz, fi_wz, fr_wz, ln_wz, ai_wz, al_wz, ar_wz, Option.bind_some, if_true, if_false, Nat.reduceAdd, Nat.reduceMul, reduceIte, and_self, true_and, and_true, k5, e1, q1]
  · rw [if_neg hs]
    obtain ⟨j, hj, rfl⟩ := nI_of h0
    have j1 : j < 10005 := (nI_ltI (b := 10005) hj (by omega)).mp h1
    have j2 : 10000 ≤ j := Nat.not_lt.mp fun z => hs ((nI_ltI (b := 10000) hj (by omega)).mpr z)
    have c0 : (nI j).toNatClampNeg = j := nI_clamp hj
    rw [c0]
    obtain ⟨h', q1, q2, q3⟩ := x_push hS hT h32 (fc (j - 10000))
    refine ⟨h', ?_, q2, q3⟩
    have e1 : (10000 : Int32) ≤ nI j := Int32.not_lt.mp hs
    have e2 : ¬ (10000 : Int32) + nI 5 ≤ nI j := nI_ge (a := j) (b := 10005) j1 (by omega)
    have e3 : nI j - 10000 = nI (j - 10000) := nI_sub (b := 10000) j2
    have cl : (nI (j - 10000)).toNatClampNeg = j - 10000 := nI_cl (N := 5) (by omega) (by omega)
    have ib : inB (nI (j - 10000)) 5 = true := inB_nI (by omega) (by omega)
    have v20 : ai h (ad 20 0) (j - 10000) = fc (j - 10000) := by rw [cv_at (n := n) n20]; exact hT.2.2 _ (by omega)
    simp only [m_X4_take, aN, kA201, kA202, kA203, kA206, kA306, i1n0, i0n1, i0e0, i1e1, gI, gR, pI, pB, pR, xI, xL, yI, yL, vc, kd_sFi, fr_sFi, ln_sFi, ai_sFi, al_sFi, ar_sFi, cs_sFi, sz_sFi, sz_sAi, kd_sAi, fi_sAi, fr_sAi, ln_sAi, al_sAi, ar_sAi, cs_sAi, kd_wz, fi_wz, fr_wz, ln_wz, ai_wz, al_wz, ar_wz, Option.bind_some, if_true, if_false, Nat.reduceAdd, Nat.reduceMul, reduceIte, and_self, true_and, and_true, k5, r500, k20, l20, e1, e2, e3, cl, ib, v20, q1]
theorem x_takeO {h : HS} (hS : SXA ax ao ad n e pO fO h) {fc : Nat → Int32} {a b : Int32} {st : List Int32} (hT : StX ad n h fc (b :: a :: st)) {s : Int32} (h1 : ¬ s < 10010) (h32 : st.length + 2 ≤ 32) : ∃ h', m_X4_take (ad 5 0) s h = some h' ∧ FrR ax ao ad n e pO fO h h' ∧ StX ad n h' fc (jn s a b :: st) := by
  obtain ⟨n5, n20, n21, k5, r500, r501, k20, l20, k21, l21, -⟩ := kreck hS
  obtain ⟨h2, p1, p2, p3⟩ := x_pop hS hT (by simp; omega)
  obtain ⟨h3, o1, o2, o3⟩ := x_pop p2.1 p3 (by omega)
  obtain ⟨h4, q1, q2, q3⟩ := x_push o2.1 o3 (by omega) (jn s a b)
  refine ⟨h4, ?_, (p2.tr o2).tr q2, q3⟩
  have e1 : (10000 : Int32) ≤ s := Int32.not_lt.mp fun z => h1 (Int32.lt_trans z (by decide))
  have e2 : (10000 : Int32) + nI 5 ≤ s := Int32.not_lt.mp fun z => h1 (Int32.lt_trans z (by decide))
  have k52 : kd h2 (ad 5 0) = 6 := by rw [p2.2.1.1]; exact k5
  have k53 : kd h3 (ad 5 0) = 6 := by rw [(p2.tr o2).2.1.1]; exact k5
  simp only [m_X4_take, aN, kA201, kA202, kA203, kA206, kA306, i1n0, i0n1, i0e0, i1e1, gI, gR, pI, pB, pR, xI, xL, yI, yL, vc, kd_sFi, fr_sFi, ln_sFi, ai_sFi, al_sFi, ar_sFi, cs_sFi, sz_sFi, sz_sAi, kd_sAi, fi_sAi, fr_sAi, ln_sAi, al_sAi, ar_sAi, cs_sAi, kd_wz, fi_wz, fr_wz, ln_wz, ai_wz, al_wz, ar_wz, Option.bind_some, if_true, if_false, Nat.reduceAdd, Nat.reduceMul, reduceIte, and_self, true_and, and_true, k5, k52, k53, r500, k20, l20, e1, e2, p1, o1, e_join, q1]
end EVAL
