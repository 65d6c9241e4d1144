section SHARE2
variable {ax ao am : Nat} {ad : Nat → Nat → Nat} {n e pO fO q tm : Nat → Nat} {tx : Nat → List (Int32 × List Int32)} {w : Nat} {pn : Nat → Nat} {nw : Nat → Nat → Nat} {fs : Nat → Nat} {ls : Nat → Option Nat} {rs rl pr : Nat → Nat} {tl : Nat} {hx hm : HS}
def plc1 (r : Nat → Nat) (a i : Nat) : Nat := if r a < r i ∨ (r i = r a ∧ i < a) then 1 else 0
def plc (r : Nat → Nat) (a : Nat) : Nat := plc1 r a 0 + plc1 r a 1 + plc1 r a 2
theorem e_place1 {h : HS} (hS : SXA ax ao ad n e pO fO h) {f I a i acc F : Nat} {s : Nat → Nat} (hF : ShF ad n h f I s) (ha : a < 3) (hi : i < 3) : X1_placeByRest_L12 (ad 2 f) (F + 1) (nI a) (lN (I * s a % (s 0 + s 1 + s 2))) (nI acc) (nI i) h = X1_placeByRest_L12 (ad 2 f) F (nI a) (lN (I * s a % (s 0 + s 1 + s 2))) (nI (acc + plc1 (fun k => I * s k % (s 0 + s 1 + s 2)) a i)) (nI (i + 1)) h := by
  have hc := (e_cut hS hF hi).2
  obtain ⟨h1, h2, h3, h4, h5, h6⟩ := hF
  obtain ⟨k1, -⟩ := kshr hS h1
  have b0 := h5 0 (by decide)
  have b1 := h5 1 (by decide)
  have b2 := h5 2 (by decide)
  have hSp : 0 < s 0 + s 1 + s 2 := by omega
  have ra := Nat.mod_lt (I * s a) hSp
  have ri := Nat.mod_lt (I * s i) hSp
  have l0 : ¬ (3 : Int32) ≤ nI i := nI_ge (b := 3) hi (by omega)
  have e7 : nI i + 1 = nI (i + 1) := nI_add i 1
  have e8 : nI acc + 1 = nI (acc + 1) := nI_add acc 1
  have zz : ((0 : Int32) < 0) = False := eq_false (by decide)
  conv => lhs; unfold X1_placeByRest_L12
  by_cases g1 : I * s a % (s 0 + s 1 + s 2) < I * s i % (s 0 + s 1 + s 2)
  · have q1 : plc1 (fun k => I * s k % (s 0 + s 1 + s 2)) a i = 1 := if_pos (Or.inl g1)
    rw [q1]
    have g2 := (lgc_pos (a := I * s i % (s 0 + s 1 + s 2)) (b := I * s a % (s 0 + s 1 + s 2)) (by omega) (by omega)).mpr g1
    simp only [X1_placeByRest_b46, X1_placeByRest_b49, aN, kA201, kA202, kA203, kA206, kA306, i1n0, i0n1, i0e0, i1e1, gI, gR, pI, pB, pR, xI, xL, yI, yL, vc, kd_sFi, fr_sFi, ln_sFi, ai_sFi, al_sFi, ar_sFi, cs_sFi, sz_sFi, sz_sAi, kd_sAi, fi_sAi, fr_sAi, ln_sAi, al_sAi, ar_sAi, cs_sAi, kd_wz, fi_wz, fr_wz, ln_wz, ai_wz, al_wz, ar_wz, Option.bind_some, if_true, if_false, Nat.reduceAdd, Nat.reduceMul, reduceIte, and_self, true_and, and_true, l0, k1, hc, g2, e7, e8]
  · have g2 : ¬ 0 < lg_cmp (lN (I * s i % (s 0 + s 1 + s 2))) (lN (I * s a % (s 0 + s 1 + s 2))) := fun z => g1 ((lgc_pos (by omega) (by omega)).mp z)
    by_cases g3 : I * s i % (s 0 + s 1 + s 2) = I * s a % (s 0 + s 1 + s 2)
    · have g4 := (lgc_zero (a := I * s i % (s 0 + s 1 + s 2)) (b := I * s a % (s 0 + s 1 + s 2)) (by omega) (by omega)).mpr g3
      by_cases g5 : i < a
      · have q1 : plc1 (fun k => I * s k % (s 0 + s 1 + s 2)) a i = 1 := if_pos (Or.inr ⟨g3, g5⟩)
        have g6 : ¬ nI a ≤ nI i := nI_ge g5 (by omega)
        rw [q1]
        simp only [X1_placeByRest_b46, X1_placeByRest_b49, aN, kA201, kA202, kA203, kA206, kA306, i1n0, i0n1, i0e0, i1e1, gI, gR, pI, pB, pR, xI, xL, yI, yL, vc, kd_sFi, fr_sFi, ln_sFi, ai_sFi, al_sFi, ar_sFi, cs_sFi, sz_sFi, sz_sAi, kd_sAi, fi_sAi, fr_sAi, ln_sAi, al_sAi, ar_sAi, cs_sAi, kd_wz, fi_wz, fr_wz, ln_wz, ai_wz, al_wz, ar_wz, Option.bind_some, if_true, if_false, Nat.reduceAdd, Nat.reduceMul, reduceIte, and_self, true_and, and_true, l0, k1, hc, g2, g4, g6, zz, e7, e8]
      · have q1 : plc1 (fun k => I * s k % (s 0 + s 1 + s 2)) a i = 0 := if_neg (fun z => by rcases z with z | z; exact g1 z; exact g5 z.2)
        have g6 : nI a ≤ nI i := nI_le (by omega) (by omega)
        rw [q1, Nat.add_zero]
        simp only [X1_placeByRest_b46, X1_placeByRest_b49, aN, kA201, kA202, kA203, kA206, kA306, i1n0, i0n1, i0e0, i1e1, gI, gR, pI, pB, pR, xI, xL, yI, yL, vc, kd_sFi, fr_sFi, ln_sFi, ai_sFi, al_sFi, ar_sFi, cs_sFi, sz_sFi, sz_sAi, kd_sAi, fi_sAi, fr_sAi, ln_sAi, al_sAi, ar_sAi, cs_sAi, kd_wz, fi_wz, fr_wz, ln_wz, ai_wz, al_wz, ar_wz, Option.bind_some, if_true, if_false, Nat.reduceAdd, Nat.reduceMul, reduceIte, and_self, true_and, and_true, l0, k1, hc, g2, g4, g6, zz, e7]
    · have g4 : ¬ lg_cmp (lN (I * s i % (s 0 + s 1 + s 2))) (lN (I * s a % (s 0 + s 1 + s 2))) = 0 := fun z => g3 ((lgc_zero (by omega) (by omega)).mp z)
      have q1 : plc1 (fun k => I * s k % (s 0 + s 1 + s 2)) a i = 0 := if_neg (fun z => by rcases z with z | z; exact g1 z; exact g3 z.1)
      rw [q1, Nat.add_zero]
      simp only [X1_placeByRest_b46, X1_placeByRest_b49, aN, kA201, kA202, kA203, kA206, kA306, i1n0, i0n1, i0e0, i1e1, gI, gR, pI, pB, pR, xI, xL, yI, yL, vc, kd_sFi, fr_sFi, ln_sFi, ai_sFi, al_sFi, ar_sFi, cs_sFi, sz_sFi, sz_sAi, kd_sAi, fi_sAi, fr_sAi, ln_sAi, al_sAi, ar_sAi, cs_sAi, kd_wz, fi_wz, fr_wz, ln_wz, ai_wz, al_wz, ar_wz, Option.bind_some, if_true, if_false, Nat.reduceAdd, Nat.reduceMul, reduceIte, and_self, true_and, and_true, l0, k1, hc, g2, g4, e7]
theorem e_place {h : HS} (hS : SXA ax ao ad n e pO fO h) {f I a : Nat} {s : Nat → Nat} (hF : ShF ad n h f I s) (ha : a < 3) : m_X1_placeByRest (ad 2 f) (nI a) h = some (nI (plc (fun k => I * s k % (s 0 + s 1 + s 2)) a), h) := by
  have hc := (e_cut hS hF ha).2
  obtain ⟨k1, -⟩ := kshr hS hF.1
  have l3 : (3 : Int32) ≤ nI 3 := by decide
  have hfu : FU = 996 + 1 + 1 + 1 + 1 := rfl
  have h0 : X1_placeByRest_L12 (ad 2 f) (996 + 1 + 1 + 1 + 1) (nI a) (lN (I * s a % (s 0 + s 1 + s 2))) (nI 0) (nI 0) h = some (nI (plc (fun k => I * s k % (s 0 + s 1 + s 2)) a), h) := by
    rw [e_place1 hS hF ha (by decide), e_place1 hS hF ha (by decide), e_place1 hS hF ha (by decide), X1_placeByRest_L12]
    simp only [l3, if_true, plc, Nat.zero_add]
  simp only [m_X1_placeByRest, aN, kA201, kA202, kA203, kA206, kA306, i1n0, i0n1, i0e0, i1e1, gI, gR, pI, pB, pR, xI, xL, yI, yL, vc, kd_sFi, fr_sFi, ln_sFi, ai_sFi, al_sFi, ar_sFi, cs_sFi, sz_sFi, sz_sAi, kd_sAi, fi_sAi, fr_sAi, ln_sAi, al_sAi, ar_sAi, cs_sAi, kd_wz, fi_wz, fr_wz, ln_wz, ai_wz, al_wz, ar_wz, Option.bind_some, if_true, if_false, Nat.reduceAdd, Nat.reduceMul, reduceIte, and_self, true_and, and_true, k1, hc]
  rw [hfu]
  exact h0
/-- the parts, and what is left -/
theorem left_aux {S I x y z p q r A B C : Nat} (hp : 0 < S) (h1 : S * x + p = A) (h2 : S * y + q = B) (h3 : S * z + r = C) (m1 : p < S) (m2 : q < S) (m3 : r < S) (hs : S * I = A + B + C) : x + y + z ≤ I ∧ I - (x + y + z) < 3 := by
  have hd : S * (x + y + z) = S * x + S * y + S * z := by rw [Nat.mul_add, Nat.mul_add]
  have hle : x + y + z ≤ I := Nat.le_of_mul_le_mul_left (show S * (x + y + z) ≤ S * I by omega) hp
  exact ⟨hle, Nat.lt_of_mul_lt_mul_left (show S * (I - (x + y + z)) < S * 3 by rw [Nat.mul_sub]; omega)⟩
theorem left_facts {I S a b c : Nat} (hS : S = a + b + c) (hp : 0 < S) : I * a / S + I * b / S + I * c / S ≤ I ∧ I - (I * a / S + I * b / S + I * c / S) < 3 :=
  left_aux hp (Nat.div_add_mod (I * a) S) (Nat.div_add_mod (I * b) S) (Nat.div_add_mod (I * c) S) (Nat.mod_lt _ hp) (Nat.mod_lt _ hp) (Nat.mod_lt _ hp) (by rw [hS, Nat.mul_comm, Nat.mul_add, Nat.mul_add])
theorem left_sub {I x y z : Nat} (h : x + y + z ≤ I) : lN I - lN x = lN (I - x) ∧ lN (I - x) - lN y = lN (I - x - y) ∧ lN (I - x - y) - lN z = lN (I - (x + y + z)) := by
  refine ⟨lN_sub (by omega), lN_sub (by omega), ?_⟩
  rw [lN_sub (by omega)]
  congr 1
  omega
theorem plc_le (r : Nat → Nat) (a : Nat) : plc r a ≤ 3 := by
  have h : ∀ i, plc1 r a i ≤ 1 := fun i => by
    unfold plc1
    split <;> omega
  have h0 := h 0
  have h1 := h 1
  have h2 := h 2
  unfold plc
  omega
theorem coin_cmp {p l : Nat} (hp : p ≤ 3) (hl : l < 3) : (¬ 0 ≤ lg_cmp (lN p) (lN l)) ↔ p < l := by
  rw [lgc_nn (by omega) (by omega)]
  omega
theorem e_coinsL {h : HS} {f a l : Nat} {c0 c1 c2 ca I P : Nat} (k1 : kd h (ad 2 f) = 3) (hc0 : m_X1_cutOf (ad 2 f) (nI 0) h = some (lN c0, h)) (hc1 : m_X1_cutOf (ad 2 f) (nI 1) h = some (lN c1, h)) (hc2 : m_X1_cutOf (ad 2 f) (nI 2) h = some (lN c2, h)) (hca : m_X1_cutOf (ad 2 f) (nI a) h = some (lN ca, h)) (hpl : m_X1_placeByRest (ad 2 f) (nI a) h = some (nI P, h)) (hP : P ≤ 3) (hle : c0 + c1 + c2 ≤ I) (hl : l = I - (c0 + c1 + c2)) (hl3 : l < 3) (F : Nat) : X1_coinsOf_L18 (ad 2 f) (F + 1 + 1 + 1 + 1) (nI a) (lN I) (nI 0) h = some (nI (ca + (if P < l then 1 else 0)), h) := by
  have l0 : ¬ (3 : Int32) ≤ nI 0 := by decide
  have l1 : ¬ (3 : Int32) ≤ nI 1 := by decide
  have l2 : ¬ (3 : Int32) ≤ nI 2 := by decide
  have l3 : (3 : Int32) ≤ nI 3 := by decide
  have a1 : nI 0 + 1 = nI 1 := nI_add 0 1
  have a2 : nI 1 + 1 = nI 2 := nI_add 1 1
  have a3 : nI 2 + 1 = nI 3 := nI_add 2 1
  obtain ⟨s1, s2, s3⟩ := left_sub hle
  rw [← hl] at s3
  have tp : (nI P).toInt64 = lN P := nI_l (by omega)
  rw [X1_coinsOf_L18]
  simp only [aN, kA201, kA202, kA203, kA206, kA306, i1n0, i0n1, i0e0, i1e1, gI, gR, pI, pB, pR, xI, xL, yI, yL, vc, kd_sFi, fr_sFi, ln_sFi, ai_sFi, al_sFi, ar_sFi, cs_sFi, sz_sFi, sz_sAi, kd_sAi, fi_sAi, fr_sAi, ln_sAi, al_sAi, ar_sAi, cs_sAi, kd_wz, fi_wz, fr_wz, ln_wz, ai_wz, al_wz, ar_wz, Option.bind_some, if_true, if_false, Nat.reduceAdd, Nat.reduceMul, reduceIte, and_self, true_and, and_true, l0, k1, hc0, s1, a1]
  rw [X1_coinsOf_L18]
  simp only [aN, kA201, kA202, kA203, kA206, kA306, i1n0, i0n1, i0e0, i1e1, gI, gR, pI, pB, pR, xI, xL, yI, yL, vc, kd_sFi, fr_sFi, ln_sFi, ai_sFi, al_sFi, ar_sFi, cs_sFi, sz_sFi, sz_sAi, kd_sAi, fi_sAi, fr_sAi, ln_sAi, al_sAi, ar_sAi, cs_sAi, kd_wz, fi_wz, fr_wz, ln_wz, ai_wz, al_wz, ar_wz, Option.bind_some, if_true, if_false, Nat.reduceAdd, Nat.reduceMul, reduceIte, and_self, true_and, and_true, l1, k1, hc1, s2, a2]
  rw [X1_coinsOf_L18]
  simp only [aN, kA201, kA202, kA203, kA206, kA306, i1n0, i0n1, i0e0, i1e1, gI, gR, pI, pB, pR, xI, xL, yI, yL, vc, kd_sFi, fr_sFi, ln_sFi, ai_sFi, al_sFi, ar_sFi, cs_sFi, sz_sFi, sz_sAi, kd_sAi, fi_sAi, fr_sAi, ln_sAi, al_sAi, ar_sAi, cs_sAi, kd_wz, fi_wz, fr_wz, ln_wz, ai_wz, al_wz, ar_wz, Option.bind_some, if_true, if_false, Nat.reduceAdd, Nat.reduceMul, reduceIte, and_self, true_and, and_true, l2, k1, hc2, s3, a3]
  rw [X1_coinsOf_L18]
  by_cases hlt : P < l
  · have g : ¬ 0 ≤ lg_cmp (lN P) (lN l) := (coin_cmp hP hl3).mpr hlt
    rw [if_pos hlt]
    simp only [aN, kA201, kA202, kA203, kA206, kA306, i1n0, i0n1, i0e0, i1e1, gI, gR, pI, pB, pR, xI, xL, yI, yL, vc, kd_sFi, fr_sFi, ln_sFi, ai_sFi, al_sFi, ar_sFi, cs_sFi, sz_sFi, sz_sAi, kd_sAi, fi_sAi, fr_sAi, ln_sAi, al_sAi, ar_sAi, cs_sAi, kd_wz, fi_wz, fr_wz, ln_wz, ai_wz, al_wz, ar_wz, Option.bind_some, if_true, if_false, Nat.reduceAdd, Nat.reduceMul, reduceIte, and_self, true_and, and_true, l3, k1, hca, hpl, tp, g]
    have : (lN ca + (1 : Int32).toInt64) = lN (ca + 1) := lN_add ca 1
    rw [this, lN_i]
  · have g : 0 ≤ lg_cmp (lN P) (lN l) := Classical.not_not.mp (fun z => hlt ((coin_cmp hP hl3).mp z))
    rw [if_neg hlt]
    simp only [aN, kA201, kA202, kA203, kA206, kA306, i1n0, i0n1, i0e0, i1e1, gI, gR, pI, pB, pR, xI, xL, yI, yL, vc, kd_sFi, fr_sFi, ln_sFi, ai_sFi, al_sFi, ar_sFi, cs_sFi, sz_sFi, sz_sAi, kd_sAi, fi_sAi, fr_sAi, ln_sAi, al_sAi, ar_sAi, cs_sAi, kd_wz, fi_wz, fr_wz, ln_wz, ai_wz, al_wz, ar_wz, Option.bind_some, if_true, if_false, Nat.reduceAdd, Nat.reduceMul, reduceIte, and_self, true_and, and_true, l3, k1, hca, hpl, tp, g]
    have : (lN ca + (0 : Int32).toInt64) = lN (ca + 0) := lN_add ca 0
    rw [this, lN_i]
theorem e_coins {h : HS} (hS : SXA ax ao ad n e pO fO h) {f I a : Nat} {s : Nat → Nat} (hF : ShF ad n h f I s) (hI : 0 < I) (ha : a < 3) : m_X1_coinsOf (ad 2 f) (nI a) h = some (nI (I * s a / (s 0 + s 1 + s 2) + (if plc (fun k => I * s k % (s 0 + s 1 + s 2)) a < I - (I * s 0 / (s 0 + s 1 + s 2) + I * s 1 / (s 0 + s 1 + s 2) + I * s 2 / (s 0 + s 1 + s 2)) then 1 else 0)), h) := by
  have hc0 := (e_cut hS hF (j := 0) (by decide)).1
  have hc1 := (e_cut hS hF (j := 1) (by decide)).1
  have hc2 := (e_cut hS hF (j := 2) (by decide)).1
  have hca := (e_cut hS hF ha).1
  have hpl := e_place hS hF ha
  obtain ⟨h1, h2, h3, h4, h5, h6⟩ := hF
  obtain ⟨k1, -⟩ := kshr hS h1
  have lf := left_facts (I := I) (S := s 0 + s 1 + s 2) rfl (by omega)
  have f208 : fi h 208 (ad 2 f) = nI I := by rw [cf_at (g := 208) (n := n) (t := 2) (by decide) h1]; exact h2
  have hpos : (0 : Int32) < nI I := nI_lt (a := 0) hI h3
  have tI : (nI I).toInt64 = lN I := nI_l h3
  have hL := e_coinsL k1 hc0 hc1 hc2 hca hpl (plc_le _ _) lf.1 rfl lf.2 996
  have hfu : FU = 996 + 1 + 1 + 1 + 1 := rfl
  have z0 : (0 : Int32) = nI 0 := rfl
  simp only [m_X1_coinsOf, aN, kA201, kA202, kA203, kA206, kA306, i1n0, i0n1, i0e0, i1e1, gI, gR, pI, pB, pR, xI, xL, yI, yL, vc, kd_sFi, fr_sFi, ln_sFi, ai_sFi, al_sFi, ar_sFi, cs_sFi, sz_sFi, sz_sAi, kd_sAi, fi_sAi, fr_sAi, ln_sAi, al_sAi, ar_sAi, cs_sAi, kd_wz, fi_wz, fr_wz, ln_wz, ai_wz, al_wz, ar_wz, Option.bind_some, if_true, if_false, Nat.reduceAdd, Nat.reduceMul, reduceIte, and_self, true_and, and_true, k1, f208, hpos, tI]
  rw [hfu]
  exact hL
end SHARE2
