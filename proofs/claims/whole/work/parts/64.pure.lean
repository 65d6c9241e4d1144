/-! shares -/
section SHARE
variable {ax ao am : Nat} {ad : Nat → Nat → Nat} {n e pO fO q tm : Nat → Nat} {tx : Nat → List (Int32 × List Int32)} {w : Nat} {pn : Nat → Nat} {nw : Nat → Nat → Nat} {fs : Nat → Nat} {ls : Nat → Option Nat} {rs rl pr : Nat → Nat} {tl : Nat} {hx hm : HS}
theorem lgc {a b : Nat} (ha : a < 2 ^ 63) (hb : b < 2 ^ 63) : lg_cmp (lN a) (lN b) = if b < a then 1 else if a = b then 0 else -1 := by
  unfold lg_cmp
  have h1 : (lN a > lN b) = (b < a) := propext (pk_lLT hb ha)
  have h2 : (lN a = lN b) = (a = b) := propext (pk_lEQ ha hb)
  simp only [h1, h2]
theorem lgc_pos {a b : Nat} (ha : a < 2 ^ 63) (hb : b < 2 ^ 63) : (0 < lg_cmp (lN a) (lN b)) ↔ b < a := by
  rw [lgc ha hb]
  by_cases h : b < a
  · rw [if_pos h]; exact ⟨fun _ => h, fun _ => by decide⟩
  · rw [if_neg h]
    by_cases h2 : a = b
    · rw [if_pos h2]; exact ⟨fun z => absurd z (by decide), fun z => absurd z h⟩
    · rw [if_neg h2]; exact ⟨fun z => absurd z (by decide), fun z => absurd z h⟩
theorem lgc_zero {a b : Nat} (ha : a < 2 ^ 63) (hb : b < 2 ^ 63) : (lg_cmp (lN a) (lN b) = 0) ↔ a = b := by
  rw [lgc ha hb]
  by_cases h : b < a
  · rw [if_pos h]; exact ⟨fun z => absurd z (by decide), fun z => by omega⟩
  · rw [if_neg h]
    by_cases h2 : a = b
    · rw [if_pos h2]; exact ⟨fun _ => h2, fun _ => rfl⟩
    · rw [if_neg h2]; exact ⟨fun z => absurd z (by decide), fun z => absurd z h2⟩
theorem lgc_nn {a b : Nat} (ha : a < 2 ^ 63) (hb : b < 2 ^ 63) : (0 ≤ lg_cmp (lN a) (lN b)) ↔ b ≤ a := by
  rw [lgc ha hb]
  by_cases h : b < a
  · rw [if_pos h]; exact ⟨fun _ => by omega, fun _ => by decide⟩
  · rw [if_neg h]
    by_cases h2 : a = b
    · rw [if_pos h2]; exact ⟨fun _ => by omega, fun _ => by decide⟩
    · rw [if_neg h2]; exact ⟨fun z => absurd z (by decide), fun z => by omega⟩
/-- what a feature's coins need -/
def ShF (ad : Nat → Nat → Nat) (n : Nat → Nat) (h : HS) (f I : Nat) (s : Nat → Nat) : Prop := f < n 2 ∧ cf ad n h 208 f = nI I ∧ I < 2 ^ 31 ∧ (∀ j, j < 3 → cv ad n h 12 f j = nI (s j)) ∧ (∀ j, j < 3 → s j ≤ 100) ∧ 1 ≤ s 0 + s 1 + s 2
theorem kshr {h : HS} (hS : SXA ax ao ad n e pO fO h) {p : Nat} (hp : p < n 2) : kd h (ad 2 p) = 3 ∧ fr h 203 (ad 2 p) = some (ad 12 p) ∧ kd h (ad 12 p) = 201 ∧ ln h (ad 12 p) = 3 ∧ p < n 12 := by
  have hp2 : p < n 12 := by rw [(nSX hS).2.2.2.2.2.2.2.1]; exact hp
  exact ⟨k0 hS hp, frf hS hp, k0 hS hp2, hS.2.2.2.1 12 p hp2 (by decide) (by decide), hp2⟩
theorem e_allShares {h : HS} (hS : SXA ax ao ad n e pO fO h) {f I : Nat} {s : Nat → Nat} (hF : ShF ad n h f I s) : m_X1_allShares (ad 2 f) h = some (lN (s 0 + s 1 + s 2), h) := by
  obtain ⟨h1, h2, h3, h4, h5, h6⟩ := hF
  obtain ⟨k1, k2, k3, k4, k5⟩ := kshr hS h1
  have b0 := h5 0 (by decide)
  have b1 := h5 1 (by decide)
  have b2 := h5 2 (by decide)
  have v0 : ai h (ad 12 f) 0 = nI (s 0) := by rw [cv_at (n := n) k5]; exact h4 0 (by decide)
  have v1 : ai h (ad 12 f) 1 = nI (s 1) := by rw [cv_at (n := n) k5]; exact h4 1 (by decide)
  have v2 : ai h (ad 12 f) 2 = nI (s 2) := by rw [cv_at (n := n) k5]; exact h4 2 (by decide)
  have i0 : inB (0 : Int32) 3 = true := by decide
  have i1 : inB (1 : Int32) 3 = true := by decide
  have i2 : inB (2 : Int32) 3 = true := by decide
  have c0 : (0 : Int32).toNatClampNeg = 0 := by decide
  have c1 : (1 : Int32).toNatClampNeg = 1 := by decide
  have c2 : (2 : Int32).toNatClampNeg = 2 := by decide
  have l0 : ¬ nI 3 ≤ (0 : Int32) := by decide
  have l1 : ¬ nI 3 ≤ (1 : Int32) := by decide
  have l2 : ¬ nI 3 ≤ (2 : Int32) := by decide
  have l3 : nI 3 ≤ (3 : Int32) := by decide
  have a1 : (0 : Int32) + 1 = 1 := by decide
  have a2 : (1 : Int32) + 1 = 2 := by decide
  have a3 : (2 : Int32) + 1 = 3 := by decide
  have t0 : (nI (s 0)).toInt64 = lN (s 0) := nI_l (by omega)
  have t1 : (nI (s 1)).toInt64 = lN (s 1) := nI_l (by omega)
  have t2 : (nI (s 2)).toInt64 = lN (s 2) := nI_l (by omega)
  have z0 : (0 : Int64) + lN (s 0) = lN (s 0) := by
    have := lN_add 0 (s 0)
    rw [Nat.zero_add] at this; exact this
  unfold m_X1_allShares FU
  rw [X1_allShares_L4]
  simp only [aN, kA201, kA202, kA203, kA206, kA306, i1n0, i0n1, i0e0, i1e1, gI, gR, pI, pB, pR, xI, xL, yI, yL, vc, kd_sFi, fr_sFi, ln_sFi, ai_sFi, al_sFi, ar_sFi, cs_sFi, sz_sFi, sz_sAi, kd_sAi, fi_sAi, fr_sAi, ln_sAi, al_sAi, ar_sAi, cs_sAi, kd_wz, fi_wz, fr_wz, ln_wz, ai_wz, al_wz, ar_wz, Option.bind_some, if_true, if_false, Nat.reduceAdd, Nat.reduceMul, reduceIte, and_self, true_and, and_true, k1, k2, k3, k4, l0, i0, c0, v0, a1, t0, z0]
  rw [X1_allShares_L4]
  simp only [aN, kA201, kA202, kA203, kA206, kA306, i1n0, i0n1, i0e0, i1e1, gI, gR, pI, pB, pR, xI, xL, yI, yL, vc, kd_sFi, fr_sFi, ln_sFi, ai_sFi, al_sFi, ar_sFi, cs_sFi, sz_sFi, sz_sAi, kd_sAi, fi_sAi, fr_sAi, ln_sAi, al_sAi, ar_sAi, cs_sAi, kd_wz, fi_wz, fr_wz, ln_wz, ai_wz, al_wz, ar_wz, Option.bind_some, if_true, if_false, Nat.reduceAdd, Nat.reduceMul, reduceIte, and_self, true_and, and_true, k1, k2, k3, k4, l1, i1, c1, v1, a2, t1, lN_add]
  rw [X1_allShares_L4]
  simp only [aN, kA201, kA202, kA203, kA206, kA306, i1n0, i0n1, i0e0, i1e1, gI, gR, pI, pB, pR, xI, xL, yI, yL, vc, kd_sFi, fr_sFi, ln_sFi, ai_sFi, al_sFi, ar_sFi, cs_sFi, sz_sFi, sz_sAi, kd_sAi, fi_sAi, fr_sAi, ln_sAi, al_sAi, ar_sAi, cs_sAi, kd_wz, fi_wz, fr_wz, ln_wz, ai_wz, al_wz, ar_wz, Option.bind_some, if_true, if_false, Nat.reduceAdd, Nat.reduceMul, reduceIte, and_self, true_and, and_true, k1, k2, k3, k4, l2, i2, c2, v2, a3, t2, lN_add]
  rw [X1_allShares_L4]
  simp only [aN, kA201, kA202, kA203, kA206, kA306, i1n0, i0n1, i0e0, i1e1, gI, gR, pI, pB, pR, xI, xL, yI, yL, vc, kd_sFi, fr_sFi, ln_sFi, ai_sFi, al_sFi, ar_sFi, cs_sFi, sz_sFi, sz_sAi, kd_sAi, fi_sAi, fr_sAi, ln_sAi, al_sAi, ar_sAi, cs_sAi, kd_wz, fi_wz, fr_wz, ln_wz, ai_wz, al_wz, ar_wz, Option.bind_some, if_true, if_false, Nat.reduceAdd, Nat.reduceMul, reduceIte, and_self, true_and, and_true, k1, k2, k3, k4, l3]
theorem e_shareOf {h : HS} (hS : SXA ax ao ad n e pO fO h) {f I j : Nat} {s : Nat → Nat} (hF : ShF ad n h f I s) (hj : j < 3) : m_X1_shareOf (ad 2 f) (nI j) h = some (nI (s j), h) := by
  obtain ⟨h1, h2, h3, h4, h5, h6⟩ := hF
  obtain ⟨k1, k2, k3, k4, k5⟩ := kshr hS h1
  have v0 : ai h (ad 12 f) j = nI (s j) := by rw [cv_at (n := n) k5]; exact h4 j hj
  have e0 : ¬ nI j < 0 := nI_pos (by omega)
  have e1 : ¬ nI 3 - 1 < nI j := by
    rw [nI_m1 _ _ (by omega) e0]
    exact nI_ge hj (by omega)
  have cl : (nI j).toNatClampNeg = j := nI_cl hj (by omega)
  have ib : inB (nI j) 3 = true := inB_nI hj (by omega)
  simp only [m_X1_shareOf, aN, kA201, kA202, kA203, kA206, kA306, i1n0, i0n1, i0e0, i1e1, gI, gR, pI, pB, pR, xI, xL, yI, yL, vc, kd_sFi, fr_sFi, ln_sFi, ai_sFi, al_sFi, ar_sFi, cs_sFi, sz_sFi, sz_sAi, kd_sAi, fi_sAi, fr_sAi, ln_sAi, al_sAi, ar_sAi, cs_sAi, kd_wz, fi_wz, fr_wz, ln_wz, ai_wz, al_wz, ar_wz, Option.bind_some, if_true, if_false, Nat.reduceAdd, Nat.reduceMul, reduceIte, and_self, true_and, and_true, k1, k2, k3, k4, e_within, e0, e1, cl, ib, v0]
theorem e_cut {h : HS} (hS : SXA ax ao ad n e pO fO h) {f I j : Nat} {s : Nat → Nat} (hF : ShF ad n h f I s) (hj : j < 3) : m_X1_cutOf (ad 2 f) (nI j) h = some (lN (I * s j / (s 0 + s 1 + s 2)), h) ∧ m_X1_restOf (ad 2 f) (nI j) h = some (lN (I * s j % (s 0 + s 1 + s 2)), h) := by
  have ha := e_allShares hS hF
  have hs := e_shareOf hS hF hj
  obtain ⟨h1, h2, h3, h4, h5, h6⟩ := hF
  obtain ⟨k1, -⟩ := kshr hS h1
  have b0 := h5 0 (by decide)
  have b1 := h5 1 (by decide)
  have b2 := h5 2 (by decide)
  have bj := h5 j hj
  have f208 : fi h 208 (ad 2 f) = nI I := by rw [cf_at (g := 208) (n := n) (t := 2) (by decide) h1]; exact h2
  have hp : 0 < lg_cmp (lN (s 0 + s 1 + s 2)) 0 := (lgc_pos (b := 0) (by omega) (by omega)).mpr (by omega)
  have hne : ¬ lN (s 0 + s 1 + s 2) = 0 := fun z => by have := (pk_lEQ (b := 0) (by omega) (by omega)).mp z; omega
  have tI : (nI I).toInt64 = lN I := nI_l h3
  have tj : (nI (s j)).toInt64 = lN (s j) := nI_l (by omega)
  have hbig : I * s j < 2 ^ 63 := by
    have : I * s j ≤ 2 ^ 31 * 100 := Nat.mul_le_mul (by omega) bj
    omega
  constructor
  · simp only [m_X1_cutOf, aN, kA201, kA202, kA203, kA206, kA306, i1n0, i0n1, i0e0, i1e1, gI, gR, pI, pB, pR, xI, xL, yI, yL, vc, kd_sFi, fr_sFi, ln_sFi, ai_sFi, al_sFi, ar_sFi, cs_sFi, sz_sFi, sz_sAi, kd_sAi, fi_sAi, fr_sAi, ln_sAi, al_sAi, ar_sAi, cs_sAi, kd_wz, fi_wz, fr_wz, ln_wz, ai_wz, al_wz, ar_wz, Option.bind_some, if_true, if_false, Nat.reduceAdd, Nat.reduceMul, reduceIte, and_self, true_and, and_true, k1, ha, hp, f208, hs, hne, tI, tj, lN_mul, pk_lDiv hbig (show 0 < s 0 + s 1 + s 2 by omega) (by omega)]
  · simp only [m_X1_restOf, lrem, aN, kA201, kA202, kA203, kA206, kA306, i1n0, i0n1, i0e0, i1e1, gI, gR, pI, pB, pR, xI, xL, yI, yL, vc, kd_sFi, fr_sFi, ln_sFi, ai_sFi, al_sFi, ar_sFi, cs_sFi, sz_sFi, sz_sAi, kd_sAi, fi_sAi, fr_sAi, ln_sAi, al_sAi, ar_sAi, cs_sAi, kd_wz, fi_wz, fr_wz, ln_wz, ai_wz, al_wz, ar_wz, Option.bind_some, if_true, if_false, Nat.reduceAdd, Nat.reduceMul, reduceIte, and_self, true_and, and_true, k1, ha, hp, f208, hs, hne, tI, tj, lN_mul, pk_lRem hbig (show 0 < s 0 + s 1 + s 2 by omega) (by omega)]
end SHARE
