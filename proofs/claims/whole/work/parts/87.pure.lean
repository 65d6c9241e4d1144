section SPELL
variable {ax ao am : Nat} {ad : Nat → Nat → Nat} {n e pO fO q tm : Nat → Nat} {tx : Nat → List (Int32 × List Int32)} {w : Nat} {pn : Nat → Nat} {nw : Nat → Nat → Nat} {fs : Nat → Nat} {ls : Nat → Option Nat} {rs rl pr : Nat → Nat} {tl : Nat} {hx hm : HS}
theorem ctx {h : HS} (hS : SXA ax ao ad n e pO fO h) {i : Nat} (hi : i < 8) : kd h (cs h (1 + i)) = 350 ∧ fi h 35001 (cs h (1 + i)) = 0 ∧ ∃ v, fr h 35000 (cs h (1 + i)) = some v ∧ kd h v = 303 ∧ ln h v = lenS.getD i 0 ∧ ∀ j, j < lenS.getD i 0 → ai h v j = nI (wb i j) := by
  obtain ⟨c1, c2, c3, c4⟩ := hS.2.2.2.2.2.2
  obtain ⟨d1, d2, d3, v, d4, d5, d6, d7, d8⟩ := c4 i hi
  refine ⟨d2, d3, v, d4, d6, d7, fun j hj => ?_⟩
  have := d8 j hj
  unfold cA at this
  rw [if_pos d6] at this
  rw [this, wb_byt i hi j hj]
theorem e_len {h : HS} (hS : SXA ax ao ad n e pO fO h) {i : Nat} (hi : i < 8) : m_J0_length_8abf5 (cs h (1 + i)) h = some (nI (lenS.getD i 0), h) := by
  obtain ⟨k1, f1, v, r1, k2, l2, -⟩ := ctx hS hi
  have z : (i2b 0 = 0) = True := eq_true (by decide)
  have s0 : ∀ x : Int32, x >>> ((0 : Int32) &&& 31) = x := fun x => by
    have : (0 : Int32) &&& 31 = 0 := by decide
    rw [this]; exact Int32.shiftRight_zero
  have k303 : kA 303 = true := rfl
  simp only [m_J0_length_8abf5, m_J0_coder_7d493, aN, kA201, kA202, kA203, kA206, kA306, i1n0, i0n1, i0e0, i1e1, gI, gR, pI, pB, pR, xI, xL, yI, yL, vc, kd_sFi, fr_sFi, ln_sFi, ai_sFi, al_sFi, ar_sFi, cs_sFi, sz_sFi, sz_sAi, kd_sAi, fi_sAi, fr_sAi, ln_sAi, al_sAi, ar_sAi, cs_sAi, kd_wz, fi_wz, fr_wz, ln_wz, ai_wz, al_wz, ar_wz, Option.bind_some, if_true, if_false, Nat.reduceAdd, Nat.reduceMul, reduceIte, and_self, true_and, and_true, k1, f1, r1, k2, l2, k303, z, s0]
theorem wb_chr : ∀ i, i < 8 → ∀ j, j < lenS.getD i 0 → i2c (nI (wb i j) &&& 255) = nI (wb i j) ∧ i2c (nI (wb i j)) = nI (wb i j) := by decide
theorem e_chr {h : HS} (hS : SXA ax ao ad n e pO fO h) {i j : Nat} (hi : i < 8) (hj : j < lenS.getD i 0) : m_J0_charAt_5068e (cs h (1 + i)) (nI j) h = some (nI (wb i j), h) := by
  obtain ⟨k1, f1, v, r1, k2, l2, v2⟩ := ctx hS hi
  have h9 := wb_len i hi
  have e0 : ¬ nI j < 0 := nI_pos (by omega)
  have e1 : nI j < nI (lenS.getD i 0) := nI_lt hj (by omega)
  have cl : (nI j).toNatClampNeg = j := nI_cl hj (by omega)
  have ib : inB (nI j) (lenS.getD i 0) = true := inB_nI hj (by omega)
  obtain ⟨c1, c2⟩ := wb_chr i hi j hj
  have k303 : kA 303 = true := rfl
  simp only [m_J0_charAt_5068e, m_J0_isLatin1_aae02, m_J1_charAt_3b067, m_J0_checkIndex_df160, m_J3_checkIndex_8e157, aN, kA201, kA202, kA203, kA206, kA306, i1n0, i0n1, i0e0, i1e1, gI, gR, pI, pB, pR, xI, xL, yI, yL, vc, kd_sFi, fr_sFi, ln_sFi, ai_sFi, al_sFi, ar_sFi, cs_sFi, sz_sFi, sz_sAi, kd_sAi, fi_sAi, fr_sAi, ln_sAi, al_sAi, ar_sAi, cs_sAi, kd_wz, fi_wz, fr_wz, ln_wz, ai_wz, al_wz, ar_wz, Option.bind_some, if_true, if_false, Nat.reduceAdd, Nat.reduceMul, reduceIte, and_self, true_and, and_true, k1, f1, r1, k2, l2, k303, e0, e1, cl, ib, v2 j hj, c1, c2]
theorem e_splL {h : HS} (hS : SXA ax ao ad n e pO fO h) {sg : Nat → Nat} (hT : TpX ad n sg tl h) {st i : Nat} (hi : i < 8) (hE : st + lenS.getD i 0 ≤ tl) : ∀ (k j : Nat), j + k = lenS.getD i 0 → ∀ F, k < F → X7_spells_L15 F (some (ad 6 0)) (nI st) (some (cs h (1 + i))) (nI j) h = some (nI (gp (∀ j', j ≤ j' → j' < lenS.getD i 0 → sg (st + j') = wb i j')), h) := by
  obtain ⟨k1, -⟩ := ctx hS hi
  obtain ⟨n6, n16, k6, -⟩ := ktape hS
  have h9 := wb_len i hi
  have ht6 := hT.1
  intro k
  induction k with
  | zero =>
    intro j hj F hF
    obtain ⟨F, rfl⟩ := nF1 hF
    have e1 : nI (lenS.getD i 0) ≤ nI j := nI_le (by omega) (by omega)
    rw [gp_pos (fun j' a b => by omega)]
    conv => lhs; unfold X7_spells_L15
    simp only [aN, kA201, kA202, kA203, kA206, kA306, i1n0, i0n1, i0e0, i1e1, gI, gR, pI, pB, pR, xI, xL, yI, yL, vc, kd_sFi, fr_sFi, ln_sFi, ai_sFi, al_sFi, ar_sFi, cs_sFi, sz_sFi, sz_sAi, kd_sAi, fi_sAi, fr_sAi, ln_sAi, al_sAi, ar_sAi, cs_sAi, kd_wz, fi_wz, fr_wz, ln_wz, ai_wz, al_wz, ar_wz, Option.bind_some, if_true, if_false, Nat.reduceAdd, Nat.reduceMul, reduceIte, and_self, true_and, and_true, k1, e_len hS hi, e1]
    rfl
  | succ k ih =>
    intro j hj F hF
    obtain ⟨F, rfl⟩ := nF1 hF
    have e1 : ¬ nI (lenS.getD i 0) ≤ nI j := nI_ge (by omega) (by omega)
    have e2 : nI st + nI j = nI (st + j) := nI_add st j
    have hs := e_signAt hS hT (i := st + j) (by omega)
    have h126 := (hT.2.2 (st + j) (by omega)).2
    have hc := e_chr hS hi (j := j) (by omega)
    have hr := wb_rng i hi j (by omega)
    have e7 : nI j + 1 = nI (j + 1) := nI_add j 1
    by_cases hq : sg (st + j) = wb i j
    · rw [gp_congr (q := ∀ j', j + 1 ≤ j' → j' < lenS.getD i 0 → sg (st + j') = wb i j') ⟨fun z j' a b => z j' (by omega) b, fun z j' a b => by
        by_cases hjj : j' = j
        · subst hjj; exact hq
        · exact z j' (by omega) b⟩, ← ih (j + 1) (by omega) F (by omega)]
      conv => lhs; unfold X7_spells_L15
      simp only [aN, kA201, kA202, kA203, kA206, kA306, i1n0, i0n1, i0e0, i1e1, gI, gR, pI, pB, pR, xI, xL, yI, yL, vc, kd_sFi, fr_sFi, ln_sFi, ai_sFi, al_sFi, ar_sFi, cs_sFi, sz_sFi, sz_sAi, kd_sAi, fi_sAi, fr_sAi, ln_sAi, al_sAi, ar_sAi, cs_sAi, kd_wz, fi_wz, fr_wz, ln_wz, ai_wz, al_wz, ar_wz, Option.bind_some, if_true, if_false, Nat.reduceAdd, Nat.reduceMul, reduceIte, and_self, true_and, and_true, k1, k6, e_len hS hi, e1, e2, hs, hc, hq, e7]
    · rw [gp_neg (fun z => hq (z j (Nat.le_refl _) (by omega)))]
      have hne : (nI (sg (st + j)) = nI (wb i j)) = False := eq_false fun z => hq ((nI_eq (by omega) (by omega)).mp z)
      conv => lhs; unfold X7_spells_L15
      simp only [aN, kA201, kA202, kA203, kA206, kA306, i1n0, i0n1, i0e0, i1e1, gI, gR, pI, pB, pR, xI, xL, yI, yL, vc, kd_sFi, fr_sFi, ln_sFi, ai_sFi, al_sFi, ar_sFi, cs_sFi, sz_sFi, sz_sAi, kd_sAi, fi_sAi, fr_sAi, ln_sAi, al_sAi, ar_sAi, cs_sAi, kd_wz, fi_wz, fr_wz, ln_wz, ai_wz, al_wz, ar_wz, Option.bind_some, if_true, if_false, Nat.reduceAdd, Nat.reduceMul, reduceIte, and_self, true_and, and_true, k1, k6, e_len hS hi, e1, e2, hs, hc, hne]
      rfl
theorem e_spells {h : HS} (hS : SXA ax ao ad n e pO fO h) {sg : Nat → Nat} (hT : TpX ad n sg tl h) {st E i : Nat} (hi : i < 8) (hst : st ≤ E) (hE : E ≤ tl) : m_X7_spells (some (ad 6 0)) (nI st) (nI E) (some (cs h (1 + i))) h = some (nI (gp (spl sg st E i)), h) := by
  obtain ⟨k1, -⟩ := ctx hS hi
  have h9 := wb_len i hi
  have ht6 := hT.1
  have es : nI E - nI st = nI (E - st) := nI_sub hst
  by_cases hl : E - st = lenS.getD i 0
  · have := e_splL hS hT hi (st := st) (by omega) (lenS.getD i 0) 0 (Nat.zero_add _) FU (by unfold FU; omega)
    have this' : X7_spells_L15 FU (some (ad 6 0)) (nI st) (some (cs h (1 + i))) 0 h = _ := this
    rw [gp_congr (q := ∀ j', 0 ≤ j' → j' < lenS.getD i 0 → sg (st + j') = wb i j') ⟨fun z j' _ b => z.2 j' b, fun z => ⟨hl, fun j b => z j (Nat.zero_le _) b⟩⟩, ← this']
    simp only [m_X7_spells, aN, kA201, kA202, kA203, kA206, kA306, i1n0, i0n1, i0e0, i1e1, gI, gR, pI, pB, pR, xI, xL, yI, yL, vc, kd_sFi, fr_sFi, ln_sFi, ai_sFi, al_sFi, ar_sFi, cs_sFi, sz_sFi, sz_sAi, kd_sAi, fi_sAi, fr_sAi, ln_sAi, al_sAi, ar_sAi, cs_sAi, kd_wz, fi_wz, fr_wz, ln_wz, ai_wz, al_wz, ar_wz, Option.bind_some, if_true, if_false, Nat.reduceAdd, Nat.reduceMul, reduceIte, and_self, true_and, and_true, k1, e_len hS hi, es, hl]
  · rw [gp_neg (fun z => hl z.1)]
    have hne : (nI (E - st) = nI (lenS.getD i 0)) = False := eq_false fun z => hl ((nI_eq (by omega) (by omega)).mp z)
    simp only [m_X7_spells, aN, kA201, kA202, kA203, kA206, kA306, i1n0, i0n1, i0e0, i1e1, gI, gR, pI, pB, pR, xI, xL, yI, yL, vc, kd_sFi, fr_sFi, ln_sFi, ai_sFi, al_sFi, ar_sFi, cs_sFi, sz_sFi, sz_sAi, kd_sAi, fi_sAi, fr_sAi, ln_sAi, al_sAi, ar_sAi, cs_sAi, kd_wz, fi_wz, fr_wz, ln_wz, ai_wz, al_wz, ar_wz, Option.bind_some, if_true, if_false, Nat.reduceAdd, Nat.reduceMul, reduceIte, and_self, true_and, and_true, k1, e_len hS hi, es, hne]
    rfl
def wdK : List Int32 := [10020, 10021, 10014, 10000, 10001, 10002, 10003, 10004]
theorem e_wordKind {h : HS} (hS : SXA ax ao ad n e pO fO h) {sg : Nat → Nat} (hT : TpX ad n sg tl h) {st E : Nat} (hst : st ≤ E) (hE : E ≤ tl) (hd : ∀ j, st ≤ j → j < E → isL (sg j)) : ∃ K, m_X7_wordKind (some (ad 6 0)) (nI st) (nI E) h = some (K, h) ∧ (∀ i, i < 8 → (hvl sg st (E - st) = HW.getD i 0 ↔ K = wdK.getD i 0)) ∧ (K = 10026 ∨ ∃ i, i < 8 ∧ K = wdK.getD i 0) := by
  have s := fun i (hi : i < 8) => e_spells hS hT hi hst hE
  have sp := fun i (hi : i < 8) => spl_iff hi hd (E := E)
  have yes : ∀ i, i < 8 → spl sg st E i → m_X7_spells (some (ad 6 0)) (nI st) (nI E) (some (cs h (1 + i))) h = some (1, h) := fun i hi hz => by rw [s i hi, gp_pos hz]; rfl
  have no : ∀ i, i < 8 → ¬ spl sg st E i → m_X7_spells (some (ad 6 0)) (nI st) (nI E) (some (cs h (1 + i))) h = some (0, h) := fun i hi hz => by rw [s i hi, gp_neg hz]; rfl
  have wd : ∀ i, i < 8 → ∀ j, j < 8 → wdK.getD i 0 = wdK.getD j 0 → i = j := by decide
  have wz : ∀ i, i < 8 → ¬ wdK.getD i 0 = 10026 := by decide
  have fin : ∀ i0, i0 < 8 → spl sg st E i0 → ∀ K, K = wdK.getD i0 0 → m_X7_wordKind (some (ad 6 0)) (nI st) (nI E) h = some (K, h) → ∃ K, m_X7_wordKind (some (ad 6 0)) (nI st) (nI E) h = some (K, h) ∧ (∀ i, i < 8 → (hvl sg st (E - st) = HW.getD i 0 ↔ K = wdK.getD i 0)) ∧ (K = 10026 ∨ ∃ i, i < 8 ∧ K = wdK.getD i 0) := by
    intro i0 hi0 hs K hK hw
    refine ⟨K, hw, fun i hi => ?_, Or.inr ⟨i0, hi0, hK⟩⟩
    have h1 := (sp i0 hi0).mp hs
    constructor
    · intro z
      rw [hK, HW_inj i hi i0 hi0 (z.symm.trans h1)]
    · intro z
      rw [wd i hi i0 hi0 (z.symm.trans hK)]; exact h1
  by_cases c0 : spl sg st E 0
  · refine fin 0 (by decide) c0 10020 rfl ?_
    simp only [m_X7_wordKind, yes 0 (by decide) c0, aN, kA201, kA202, kA203, kA206, kA306, i1n0, i0n1, i0e0, i1e1, gI, gR, pI, pB, pR, xI, xL, yI, yL, vc, kd_sFi, fr_sFi, ln_sFi, ai_sFi, al_sFi, ar_sFi, cs_sFi, sz_sFi, sz_sAi, kd_sAi, fi_sAi, fr_sAi, ln_sAi, al_sAi, ar_sAi, cs_sAi, kd_wz, fi_wz, fr_wz, ln_wz, ai_wz, al_wz, ar_wz, Option.bind_some, if_true, if_false, Nat.reduceAdd, Nat.reduceMul, reduceIte, and_self, true_and, and_true]
  have n0 := no 0 (by decide) c0
  by_cases c1 : spl sg st E 1
  · refine fin 1 (by decide) c1 10021 rfl ?_
    simp only [m_X7_wordKind, n0, yes 1 (by decide) c1, aN, kA201, kA202, kA203, kA206, kA306, i1n0, i0n1, i0e0, i1e1, gI, gR, pI, pB, pR, xI, xL, yI, yL, vc, kd_sFi, fr_sFi, ln_sFi, ai_sFi, al_sFi, ar_sFi, cs_sFi, sz_sFi, sz_sAi, kd_sAi, fi_sAi, fr_sAi, ln_sAi, al_sAi, ar_sAi, cs_sAi, kd_wz, fi_wz, fr_wz, ln_wz, ai_wz, al_wz, ar_wz, Option.bind_some, if_true, if_false, Nat.reduceAdd, Nat.reduceMul, reduceIte, and_self, true_and, and_true]
  have n1 := no 1 (by decide) c1
  by_cases c2 : spl sg st E 2
  · refine fin 2 (by decide) c2 10014 rfl ?_
    simp only [m_X7_wordKind, n0, n1, yes 2 (by decide) c2, aN, kA201, kA202, kA203, kA206, kA306, i1n0, i0n1, i0e0, i1e1, gI, gR, pI, pB, pR, xI, xL, yI, yL, vc, kd_sFi, fr_sFi, ln_sFi, ai_sFi, al_sFi, ar_sFi, cs_sFi, sz_sFi, sz_sAi, kd_sAi, fi_sAi, fr_sAi, ln_sAi, al_sAi, ar_sAi, cs_sAi, kd_wz, fi_wz, fr_wz, ln_wz, ai_wz, al_wz, ar_wz, Option.bind_some, if_true, if_false, Nat.reduceAdd, Nat.reduceMul, reduceIte, and_self, true_and, and_true]
  have n2 := no 2 (by decide) c2
  by_cases c3 : spl sg st E 3
  · refine fin 3 (by decide) c3 10000 rfl ?_
    simp only [m_X7_wordKind, n0, n1, n2, yes 3 (by decide) c3, aN, kA201, kA202, kA203, kA206, kA306, i1n0, i0n1, i0e0, i1e1, gI, gR, pI, pB, pR, xI, xL, yI, yL, vc, kd_sFi, fr_sFi, ln_sFi, ai_sFi, al_sFi, ar_sFi, cs_sFi, sz_sFi, sz_sAi, kd_sAi, fi_sAi, fr_sAi, ln_sAi, al_sAi, ar_sAi, cs_sAi, kd_wz, fi_wz, fr_wz, ln_wz, ai_wz, al_wz, ar_wz, Option.bind_some, if_true, if_false, Nat.reduceAdd, Nat.reduceMul, reduceIte, and_self, true_and, and_true]
  have n3 := no 3 (by decide) c3
  by_cases c4 : spl sg st E 4
  · refine fin 4 (by decide) c4 10001 rfl ?_
    simp only [m_X7_wordKind, n0, n1, n2, n3, yes 4 (by decide) c4, aN, kA201, kA202, kA203, kA206, kA306, i1n0, i0n1, i0e0, i1e1, gI, gR, pI, pB, pR, xI, xL, yI, yL, vc, kd_sFi, fr_sFi, ln_sFi, ai_sFi, al_sFi, ar_sFi, cs_sFi, sz_sFi, sz_sAi, kd_sAi, fi_sAi, fr_sAi, ln_sAi, al_sAi, ar_sAi, cs_sAi, kd_wz, fi_wz, fr_wz, ln_wz, ai_wz, al_wz, ar_wz, Option.bind_some, if_true, if_false, Nat.reduceAdd, Nat.reduceMul, reduceIte, and_self, true_and, and_true]
  have n4 := no 4 (by decide) c4
  by_cases c5 : spl sg st E 5
  · refine fin 5 (by decide) c5 10002 rfl ?_
    simp only [m_X7_wordKind, n0, n1, n2, n3, n4, yes 5 (by decide) c5, aN, kA201, kA202, kA203, kA206, kA306, i1n0, i0n1, i0e0, i1e1, gI, gR, pI, pB, pR, xI, xL, yI, yL, vc, kd_sFi, fr_sFi, ln_sFi, ai_sFi, al_sFi, ar_sFi, cs_sFi, sz_sFi, sz_sAi, kd_sAi, fi_sAi, fr_sAi, ln_sAi, al_sAi, ar_sAi, cs_sAi, kd_wz, fi_wz, fr_wz, ln_wz, ai_wz, al_wz, ar_wz, Option.bind_some, if_true, if_false, Nat.reduceAdd, Nat.reduceMul, reduceIte, and_self, true_and, and_true]
  have n5 := no 5 (by decide) c5
  by_cases c6 : spl sg st E 6
  · refine fin 6 (by decide) c6 10003 rfl ?_
    simp only [m_X7_wordKind, n0, n1, n2, n3, n4, n5, yes 6 (by decide) c6, aN, kA201, kA202, kA203, kA206, kA306, i1n0, i0n1, i0e0, i1e1, gI, gR, pI, pB, pR, xI, xL, yI, yL, vc, kd_sFi, fr_sFi, ln_sFi, ai_sFi, al_sFi, ar_sFi, cs_sFi, sz_sFi, sz_sAi, kd_sAi, fi_sAi, fr_sAi, ln_sAi, al_sAi, ar_sAi, cs_sAi, kd_wz, fi_wz, fr_wz, ln_wz, ai_wz, al_wz, ar_wz, Option.bind_some, if_true, if_false, Nat.reduceAdd, Nat.reduceMul, reduceIte, and_self, true_and, and_true]
  have n6 := no 6 (by decide) c6
  by_cases c7 : spl sg st E 7
  · refine fin 7 (by decide) c7 10004 rfl ?_
    simp only [m_X7_wordKind, n0, n1, n2, n3, n4, n5, n6, yes 7 (by decide) c7, aN, kA201, kA202, kA203, kA206, kA306, i1n0, i0n1, i0e0, i1e1, gI, gR, pI, pB, pR, xI, xL, yI, yL, vc, kd_sFi, fr_sFi, ln_sFi, ai_sFi, al_sFi, ar_sFi, cs_sFi, sz_sFi, sz_sAi, kd_sAi, fi_sAi, fr_sAi, ln_sAi, al_sAi, ar_sAi, cs_sAi, kd_wz, fi_wz, fr_wz, ln_wz, ai_wz, al_wz, ar_wz, Option.bind_some, if_true, if_false, Nat.reduceAdd, Nat.reduceMul, reduceIte, and_self, true_and, and_true]
  have n7 := no 7 (by decide) c7
  refine ⟨10026, ?_, fun i hi => ?_, Or.inl rfl⟩
  · simp only [m_X7_wordKind, n0, n1, n2, n3, n4, n5, n6, n7, aN, kA201, kA202, kA203, kA206, kA306, i1n0, i0n1, i0e0, i1e1, gI, gR, pI, pB, pR, xI, xL, yI, yL, vc, kd_sFi, fr_sFi, ln_sFi, ai_sFi, al_sFi, ar_sFi, cs_sFi, sz_sFi, sz_sAi, kd_sAi, fi_sAi, fr_sAi, ln_sAi, al_sAi, ar_sAi, cs_sAi, kd_wz, fi_wz, fr_wz, ln_wz, ai_wz, al_wz, ar_wz, Option.bind_some, if_true, if_false, Nat.reduceAdd, Nat.reduceMul, reduceIte, and_self, true_and, and_true]
  · constructor
    · intro z
      exfalso
      have := (sp i hi).mpr z
      match i, hi with
      | 0, _ => exact c0 this
      | 1, _ => exact c1 this
      | 2, _ => exact c2 this
      | 3, _ => exact c3 this
      | 4, _ => exact c4 this
      | 5, _ => exact c5 this
      | 6, _ => exact c6 this
      | 7, _ => exact c7 this
    · intro z
      exact absurd z.symm (wz i hi)
end SPELL
