/-! look -/
noncomputable def gp (p : Prop) : Nat := by
  classical
  exact if p then 1 else 0
theorem gp_pos {p : Prop} (h : p) : gp p = 1 := by unfold gp; exact if_pos h
theorem gp_neg {p : Prop} (h : ¬ p) : gp p = 0 := by unfold gp; exact if_neg h
theorem sumF_add (f : Nat → Nat) : ∀ (b a c : Nat), sumF f a (b + c) = sumF f a b + sumF f (a + b) c
  | 0, a, c => by simp [sumF]
  | b + 1, a, c => by
    have h1 := sumF_add f b (a + 1) c
    have e1 : b + 1 + c = (b + c) + 1 := by omega
    have e2 : a + (b + 1) = a + 1 + b := by omega
    rw [e1, e2]
    show f a + sumF f (a + 1) (b + c) = f a + sumF f (a + 1) b + _
    rw [h1]
    omega
theorem sumF_zero {f : Nat → Nat} : ∀ (k a : Nat), (∀ i, a ≤ i → i < a + k → f i = 0) → sumF f a k = 0
  | 0, _, _ => rfl
  | k + 1, a, h => by
    show f a + sumF f (a + 1) k = 0
    rw [h a (Nat.le_refl _) (by omega), sumF_zero k (a + 1) (fun i h1 h2 => h i (by omega) (by omega))]
theorem sumF_one {f : Nat → Nat} : ∀ (k a : Nat), (∀ i, a ≤ i → i < a + k → f i = 1) → sumF f a k = k
  | 0, _, _ => rfl
  | k + 1, a, h => by
    show f a + sumF f (a + 1) k = k + 1
    rw [h a (Nat.le_refl _) (by omega), sumF_one k (a + 1) (fun i h1 h2 => h i (by omega) (by omega))]
    omega
theorem sumF_eq {f g : Nat → Nat} : ∀ (k a b : Nat), (∀ i, i < k → f (a + i) = g (b + i)) → sumF f a k = sumF g b k
  | 0, _, _, _ => rfl
  | k + 1, a, b, h => by
    show f a + sumF f (a + 1) k = g b + sumF g (b + 1) k
    rw [show f a = g b from h 0 (by omega), sumF_eq k (a + 1) (b + 1) (fun i hi => by
      have := h (i + 1) (by omega)
      rw [show a + 1 + i = a + (i + 1) by omega, show b + 1 + i = b + (i + 1) by omega]
      exact this)]
section LOOK
variable {ax ao am : Nat} {ad : Nat → Nat → Nat} {n e pO fO q tm : Nat → Nat} {tx : Nat → List (Int32 × List Int32)} {w : Nat} {pn : Nat → Nat} {nw : Nat → Nat → Nat} {fs : Nat → Nat} {ls : Nat → Option Nat} {rs rl pr : Nat → Nat} {tl : Nat} {hx hm : HS}
theorem kout {h : HS} (hS : SXA ax ao ad n e pO fO h) : kd h ao = 204 ∧ ln h ao = 1 := by
  have h9 := nSX hS
  have n23 : 0 < n 23 := by rw [h9.2.2.2.2.2.2.2.2.2.2.2.2.2.2.2.2.2.2]; decide
  have h1 := k0 hS n23
  have h2 := hS.2.2.2.1 23 0 n23 (by decide) (by decide)
  rw [hS.2.2.2.2.1.2.1] at h1 h2
  exact ⟨h1, h2⟩
theorem e_gap9 {h : HS} (hM : SMA q am h) {c f N fsc : Nat} {lsc : Option Nat} {nwf : Nat → Nat} (hR : RnM q h c f N fsc lsc nwf) (mi : Int32) : ∀ (m k acc : Nat), k + m = N + 1 → 1 ≤ k → ∀ F, m < F → X9_gap_L5 am F (nI c) mi (nI acc) (nI k) h = some (nI (acc + sumF (fun k => gp (rn fsc lsc (nwf k) ∧ ¬ nI k < mv q h 44 c ∧ (mi = 0 ∨ mv q h 47 (202 * c + k) = 0))) k m), h) := by
  have hkm : kd h am = 11 := hM.1
  have r31 : fr h 1031 am = some (q 31) := (hM.2.1 (31, 201, 10) (by decide)).1
  have k31 : kd h (q 31) = 201 := (hM.2.1 (31, 201, 10) (by decide)).2.1
  have l31 : ln h (q 31) = 10 := (hM.2.1 (31, 201, 10) (by decide)).2.2
  have r41 : fr h 1041 am = some (q 41) := (hM.2.1 (41, 201, 60) (by decide)).1
  have k41 : kd h (q 41) = 201 := (hM.2.1 (41, 201, 60) (by decide)).2.1
  have l41 : ln h (q 41) = 60 := (hM.2.1 (41, 201, 60) (by decide)).2.2
  have r44 : fr h 1044 am = some (q 44) := (hM.2.1 (44, 201, 60) (by decide)).1
  have k44 : kd h (q 44) = 201 := (hM.2.1 (44, 201, 60) (by decide)).2.1
  have l44 : ln h (q 44) = 60 := (hM.2.1 (44, 201, 60) (by decide)).2.2
  have r47 : fr h 1047 am = some (q 47) := (hM.2.1 (47, 202, 12120) (by decide)).1
  have k47 : kd h (q 47) = 202 := (hM.2.1 (47, 202, 12120) (by decide)).2.1
  have l47 : ln h (q 47) = 12120 := (hM.2.1 (47, 202, 12120) (by decide)).2.2
  obtain ⟨r1, r2, r3, r4, r5, r6, r7, r8, r9, r10⟩ := id hR
  have cl : (nI c).toNatClampNeg = c := nI_cl r1 (by omega)
  have ib : inB (nI c) 60 = true := inB_nI r1 (by omega)
  have clf : (nI f).toNatClampNeg = f := nI_cl r2 (by omega)
  have ibf : inB (nI f) 10 = true := inB_nI r2 (by omega)
  have m41 : ai h (q 41) c = nI f := r4
  have m31 : ai h (q 31) f = nI N := r5
  have m44 : ai h (q 44) c = mv q h 44 c := rfl
  intro m
  induction m with
  | zero =>
    intro k acc hk h1 F hF
    obtain ⟨F, rfl⟩ := nF1 hF
    have e1 : nI N < nI k := nI_lt (by omega) (by omega)
    simp only [X9_gap_L5, aN, kA201, kA202, kA203, kA206, kA306, i1n0, i0n1, i0e0, i1e1, gI, gR, pI, pB, pR, xI, xL, yI, yL, vc, kd_sFi, fr_sFi, ln_sFi, ai_sFi, al_sFi, ar_sFi, cs_sFi, sz_sFi, sz_sAi, kd_sAi, fi_sAi, fr_sAi, ln_sAi, al_sAi, ar_sAi, cs_sAi, kd_wz, fi_wz, fr_wz, ln_wz, ai_wz, al_wz, ar_wz, Option.bind_some, if_true, if_false, Nat.reduceAdd, Nat.reduceMul, reduceIte, and_self, true_and, and_true, hkm, r31, k31, l31, r41, k41, l41, cl, ib, clf, ibf, m41, m31, e1, sumF, Nat.add_zero]
  | succ m ih =>
    intro k acc hk h1 F hF
    obtain ⟨F, rfl⟩ := nF1 hF
    have e1 : ¬ nI N < nI k := nI_nlt (by omega) (by omega)
    have e2 := e_ofRun hM hR h1 (show k ≤ N by omega)
    have e7 : nI k + 1 = nI (k + 1) := nI_add k 1
    have e8 : nI acc + 1 = nI (acc + 1) := nI_add acc 1
    have e80 : nI acc + 0 = nI acc := nI_add acc 0
    have e6 : (202 : Int32) * nI c + nI k = nI (202 * c + k) := by rw [← nI_add, ← nI_mul]; rfl
    have cl2 : (nI (202 * c + k)).toNatClampNeg = 202 * c + k := nI_cl (N := 12120) (by omega) (by omega)
    have ib2 : inB (nI (202 * c + k)) 12120 = true := inB_nI (by omega) (by omega)
    have m47 : ai h (q 47) (202 * c + k) = mv q h 47 (202 * c + k) := rfl
    have es : sumF (fun k => gp (rn fsc lsc (nwf k) ∧ ¬ nI k < mv q h 44 c ∧ (mi = 0 ∨ mv q h 47 (202 * c + k) = 0))) k (m + 1) = gp (rn fsc lsc (nwf k) ∧ ¬ nI k < mv q h 44 c ∧ (mi = 0 ∨ mv q h 47 (202 * c + k) = 0)) + sumF (fun k => gp (rn fsc lsc (nwf k) ∧ ¬ nI k < mv q h 44 c ∧ (mi = 0 ∨ mv q h 47 (202 * c + k) = 0))) (k + 1) m := rfl
    have no : X9_gap_L5 am F (nI c) mi (nI acc) (nI (k + 1)) h = some (nI (acc + sumF (fun k => gp (rn fsc lsc (nwf k) ∧ ¬ nI k < mv q h 44 c ∧ (mi = 0 ∨ mv q h 47 (202 * c + k) = 0))) (k + 1) m), h) := ih (k + 1) acc (by omega) (by omega) F (by omega)
    have yes : X9_gap_L5 am F (nI c) mi (nI (acc + 1)) (nI (k + 1)) h = some (nI (acc + 1 + sumF (fun k => gp (rn fsc lsc (nwf k) ∧ ¬ nI k < mv q h 44 c ∧ (mi = 0 ∨ mv q h 47 (202 * c + k) = 0))) (k + 1) m), h) := ih (k + 1) (acc + 1) (by omega) (by omega) F (by omega)
    rcases wk1_or fsc (nwf k) lsc with z | z
    · have hz : ¬ rn fsc lsc (nwf k) := fun y => by rw [wk1_iff.mpr y] at z; cases z
      rw [es, gp_neg (fun y => hz y.1), Nat.zero_add, ← no]
      rw [z] at e2
      conv => lhs; unfold X9_gap_L5
      simp only [X9_gap_b46, X9_gap_b47, X9_gap_b79, X9_gap_b80, aN, kA201, kA202, kA203, kA206, kA306, i1n0, i0n1, i0e0, i1e1, gI, gR, pI, pB, pR, xI, xL, yI, yL, vc, kd_sFi, fr_sFi, ln_sFi, ai_sFi, al_sFi, ar_sFi, cs_sFi, sz_sFi, sz_sAi, kd_sAi, fi_sAi, fr_sAi, ln_sAi, al_sAi, ar_sAi, cs_sAi, kd_wz, fi_wz, fr_wz, ln_wz, ai_wz, al_wz, ar_wz, Option.bind_some, if_true, if_false, Nat.reduceAdd, Nat.reduceMul, reduceIte, and_self, true_and, and_true, hkm, r31, k31, l31, r41, k41, l41, cl, ib, clf, ibf, m41, m31, e1, e2, show (nI 0 = 0) = True from eq_true rfl, e7, e80]
    · have hz : rn fsc lsc (nwf k) := wk1_iff.mp z
      rw [z] at e2
      by_cases hnx : nI k < mv q h 44 c
      · rw [es, gp_neg (fun y => y.2.1 hnx), Nat.zero_add, ← no]
        conv => lhs; unfold X9_gap_L5
        simp only [X9_gap_b46, X9_gap_b47, X9_gap_b79, X9_gap_b80, aN, kA201, kA202, kA203, kA206, kA306, i1n0, i0n1, i0e0, i1e1, gI, gR, pI, pB, pR, xI, xL, yI, yL, vc, kd_sFi, fr_sFi, ln_sFi, ai_sFi, al_sFi, ar_sFi, cs_sFi, sz_sFi, sz_sAi, kd_sAi, fi_sAi, fr_sAi, ln_sAi, al_sAi, ar_sAi, cs_sAi, kd_wz, fi_wz, fr_wz, ln_wz, ai_wz, al_wz, ar_wz, Option.bind_some, if_true, if_false, Nat.reduceAdd, Nat.reduceMul, reduceIte, and_self, true_and, and_true, hkm, r31, k31, l31, r41, k41, l41, r44, k44, l44, cl, ib, clf, ibf, m41, m31, m44, e1, e2, show (nI 1 = 0) = False from eq_false (by decide), hnx, e7, e80]
      · by_cases hmi : mi = 0
        · rw [es, gp_pos ⟨hz, hnx, Or.inl hmi⟩, ← Nat.add_assoc, ← yes]
          conv => lhs; unfold X9_gap_L5
          simp only [X9_gap_b47, X9_gap_b75, X9_gap_b80, aN, kA201, kA202, kA203, kA206, kA306, i1n0, i0n1, i0e0, i1e1, gI, gR, pI, pB, pR, xI, xL, yI, yL, vc, kd_sFi, fr_sFi, ln_sFi, ai_sFi, al_sFi, ar_sFi, cs_sFi, sz_sFi, sz_sAi, kd_sAi, fi_sAi, fr_sAi, ln_sAi, al_sAi, ar_sAi, cs_sAi, kd_wz, fi_wz, fr_wz, ln_wz, ai_wz, al_wz, ar_wz, Option.bind_some, if_true, if_false, Nat.reduceAdd, Nat.reduceMul, reduceIte, and_self, true_and, and_true, hkm, r31, k31, l31, r41, k41, l41, r44, k44, l44, cl, ib, clf, ibf, m41, m31, m44, e1, e2, show (nI 1 = 0) = False from eq_false (by decide), hnx, hmi, e7, e8]
        · by_cases h47 : mv q h 47 (202 * c + k) = 0
          · rw [es, gp_pos ⟨hz, hnx, Or.inr h47⟩, ← Nat.add_assoc, ← yes]
            conv => lhs; unfold X9_gap_L5
            simp only [X9_gap_b47, X9_gap_b75, X9_gap_b80, aN, kA201, kA202, kA203, kA206, kA306, i1n0, i0n1, i0e0, i1e1, gI, gR, pI, pB, pR, xI, xL, yI, yL, vc, kd_sFi, fr_sFi, ln_sFi, ai_sFi, al_sFi, ar_sFi, cs_sFi, sz_sFi, sz_sAi, kd_sAi, fi_sAi, fr_sAi, ln_sAi, al_sAi, ar_sAi, cs_sAi, kd_wz, fi_wz, fr_wz, ln_wz, ai_wz, al_wz, ar_wz, Option.bind_some, if_true, if_false, Nat.reduceAdd, Nat.reduceMul, reduceIte, and_self, true_and, and_true, hkm, r31, k31, l31, r41, k41, l41, r44, k44, l44, r47, k47, l47, cl, ib, clf, ibf, m41, m31, m44, e1, e2, show (nI 1 = 0) = False from eq_false (by decide), hnx, hmi, e6, cl2, ib2, m47, h47, e7, e8]
          · rw [es, gp_neg (fun y => by rcases y.2.2 with y | y; exact hmi y; exact h47 y), Nat.zero_add, ← no]
            conv => lhs; unfold X9_gap_L5
            simp only [X9_gap_b47, X9_gap_b79, X9_gap_b80, aN, kA201, kA202, kA203, kA206, kA306, i1n0, i0n1, i0e0, i1e1, gI, gR, pI, pB, pR, xI, xL, yI, yL, vc, kd_sFi, fr_sFi, ln_sFi, ai_sFi, al_sFi, ar_sFi, cs_sFi, sz_sFi, sz_sAi, kd_sAi, fi_sAi, fr_sAi, ln_sAi, al_sAi, ar_sAi, cs_sAi, kd_wz, fi_wz, fr_wz, ln_wz, ai_wz, al_wz, ar_wz, Option.bind_some, if_true, if_false, Nat.reduceAdd, Nat.reduceMul, reduceIte, and_self, true_and, and_true, hkm, r31, k31, l31, r41, k41, l41, r44, k44, l44, r47, k47, l47, cl, ib, clf, ibf, m41, m31, m44, e1, e2, show (nI 1 = 0) = False from eq_false (by decide), hnx, hmi, e6, cl2, ib2, m47, h47, e7, e80]
/-- the reference's count over all panels is that over the run's open end -/
theorem gap_sum {c N R P S fsc : Nat} {lsc : Option Nat} {nwf : Nat → Nat} {has : Nat → Int32} {nx : Int32} {mi : Int32} (hN : N ≤ 200) (hPR : P ≤ R) (h8 : 0 < R → 1 ≤ S ∧ S + R ≤ N + 1) (h9 : ∀ k, 1 ≤ k → k ≤ N → (rn fsc lsc (nwf k) ↔ S ≤ k ∧ k < S + R)) (hnx : nx = if R = 0 then -1 else nI (S + P)) : sumF (fun k => gp (rn fsc lsc (nwf k) ∧ ¬ nI k < nx ∧ (mi = 0 ∨ has (202 * c + k) = 0))) 1 N = sumF (fun i => gp (mi = 0 ∨ has (202 * c + (S + i)) = 0)) P (R - P) := by
  by_cases hR : R = 0
  · have h1 : R - P = 0 := by omega
    rw [h1, sumF_zero]
    · rfl
    · intro i h1 h2
      refine gp_neg (fun y => ?_)
      have := (h9 i h1 (by omega)).mp y.1
      omega
  · have h10 := h8 (by omega)
    rw [if_neg hR] at hnx
    have e1 : N = (S + P - 1) + ((R - P) + (N + 1 - (S + R))) := by omega
    rw [e1, sumF_add, sumF_add, sumF_zero (S + P - 1), sumF_zero (N + 1 - (S + R))]
    · rw [Nat.zero_add, Nat.add_zero]
      refine sumF_eq _ _ _ (fun i hi => ?_)
      have e2 : 1 + (S + P - 1) + i = S + (P + i) := by omega
      rw [e2]
      have h11 : rn fsc lsc (nwf (S + (P + i))) := (h9 _ (by omega) (by omega)).mpr (by omega)
      have h12 : ¬ nI (S + (P + i)) < nx := by rw [hnx]; exact nI_nlt (by omega) (by omega)
      by_cases h13 : mi = 0 ∨ has (202 * c + (S + (P + i))) = 0
      · rw [gp_pos ⟨h11, h12, h13⟩, gp_pos h13]
      · rw [gp_neg (fun y => h13 y.2.2), gp_neg h13]
    · intro i h1 h2
      refine gp_neg (fun y => ?_)
      have := (h9 i (by omega) (by omega)).mp y.1
      omega
    · intro i h1 h2
      refine gp_neg (fun y => ?_)
      have h3 := (h9 i (by omega) (by omega)).mp y.1
      refine y.2.1 ?_
      rw [hnx]
      exact nI_lt (by omega) (by omega)
end LOOK
