section SCAN9
variable {ax ao am : Nat} {ad : Nat → Nat → Nat} {n e pO fO q tm : Nat → Nat} {tx : Nat → List (Int32 × List Int32)} {w : Nat} {pn : Nat → Nat} {nw : Nat → Nat → Nat} {fs : Nat → Nat} {ls : Nat → Option Nat} {rs rl pr : Nat → Nat} {tl : Nat} {hx hm : HS}
def Tp9 (am : Nat) (q : Nat → Nat) (sg : Nat → Nat) (tl : Nat) (h : HS) : Prop := tl ≤ 600 ∧ mf am h 3 = nI tl ∧ ∀ i, i < tl → mv q h 1 i = nI (sg i) ∧ sg i ≤ 126
theorem w_num {sg : Nat → Nat} {st E T : Nat} {h : HS} (go : Int32 → Int32 → HS → Option HS) (hM : SMA q am h) (hT : Tp9 am q sg tl h) (hE : E ≤ tl) (hd : ∀ j, st ≤ j → j < E → isD (sg j)) (hx : E = tl ∨ ¬ isD (sg E)) : ∀ (k e0 : Nat), e0 + k = E → st ≤ e0 → ∀ F, k < F → X9_cutAll_L159 am go F (nI T) (nI e0) (nI st) (lN (nvl sg st (min 4 (e0 - st)))) h = X9_cutAll_b218 am go (nI T) (nI E) (nI st) (lN (nvl sg st (min 4 (E - st)))) h := by
  have ht6 := hT.1
  have hkm : kd h am = 11 := hM.1
  have f3 : fi h 1003 am = nI tl := hT.2.1
  have r1 : fr h 1001 am = some (q 1) := (hM.2.1 (1, 201, 600) (by decide)).1
  have k1 : kd h (q 1) = 201 := (hM.2.1 (1, 201, 600) (by decide)).2.1
  have l1 : ln h (q 1) = 600 := (hM.2.1 (1, 201, 600) (by decide)).2.2
  intro k
  induction k with
  | zero =>
    intro e0 hk hst F hF
    obtain ⟨F, rfl⟩ := nF1 hF
    have he : e0 = E := by omega
    subst he
    conv => lhs; unfold X9_cutAll_L159
    by_cases hl : e0 = tl
    · have e1 : nI tl ≤ nI e0 := nI_le (by omega) (by omega)
      simp only [aN, kA201, kA202, kA203, kA206, kA306, i1n0, i0n1, i0e0, i1e1, gI, gR, pI, pB, pR, xI, xL, yI, yL, vc, kd_sFi, fr_sFi, ln_sFi, ai_sFi, al_sFi, ar_sFi, cs_sFi, sz_sFi, sz_sAi, kd_sAi, fi_sAi, fr_sAi, ln_sAi, al_sAi, ar_sAi, cs_sAi, kd_wz, fi_wz, fr_wz, ln_wz, ai_wz, al_wz, ar_wz, Option.bind_some, if_true, if_false, Nat.reduceAdd, Nat.reduceMul, reduceIte, and_self, true_and, and_true, hkm, f3, e1]
    · have e1 : ¬ nI tl ≤ nI e0 := nI_ge (by omega) (by omega)
      obtain ⟨v1, h126⟩ := hT.2.2 e0 (by omega)
      have hs : ai h (q 1) e0 = nI (sg e0) := v1
      have cl : (nI e0).toNatClampNeg = e0 := nI_cl (N := 600) (by omega) (by omega)
      have ib : inB (nI e0) 600 = true := inB_nI (by omega) (by omega)
      have hnd := hx.resolve_left hl
      have ed := e_isD9 (x := sg e0) (by omega) h
      rw [if_neg hnd] at ed
      simp only [aN, kA201, kA202, kA203, kA206, kA306, i1n0, i0n1, i0e0, i1e1, gI, gR, pI, pB, pR, xI, xL, yI, yL, vc, kd_sFi, fr_sFi, ln_sFi, ai_sFi, al_sFi, ar_sFi, cs_sFi, sz_sFi, sz_sAi, kd_sAi, fi_sAi, fr_sAi, ln_sAi, al_sAi, ar_sAi, cs_sAi, kd_wz, fi_wz, fr_wz, ln_wz, ai_wz, al_wz, ar_wz, Option.bind_some, if_true, if_false, Nat.reduceAdd, Nat.reduceMul, reduceIte, and_self, true_and, and_true, hkm, f3, e1, r1, k1, l1, cl, ib, hs, ed]
  | succ k ih =>
    intro e0 hk hst F hF
    obtain ⟨F, rfl⟩ := nF1 hF
    have e1 : ¬ nI tl ≤ nI e0 := nI_ge (by omega) (by omega)
    obtain ⟨v1, h126⟩ := hT.2.2 e0 (by omega)
    have hs : ai h (q 1) e0 = nI (sg e0) := v1
    have cl : (nI e0).toNatClampNeg = e0 := nI_cl (N := 600) (by omega) (by omega)
    have ib : inB (nI e0) 600 = true := inB_nI (by omega) (by omega)
    have hd0 := hd e0 hst (by omega)
    have ed := e_isD9 (x := sg e0) (by omega) h
    rw [if_pos hd0] at ed
    have es : nI e0 - nI st = nI (e0 - st) := nI_sub hst
    have e7 : nI e0 + 1 = nI (e0 + 1) := nI_add e0 1
    rw [← ih (e0 + 1) (by omega) (by omega) F (by omega)]
    conv => lhs; unfold X9_cutAll_L159
    by_cases h4 : 4 ≤ e0 - st
    · have e4 : (4 : Int32) ≤ nI (e0 - st) := nI_le (a := 4) h4 (by omega)
      rw [show min 4 (e0 - st) = 4 by omega, show min 4 (e0 + 1 - st) = 4 by omega]
      simp only [X9_cutAll_b210, aN, kA201, kA202, kA203, kA206, kA306, i1n0, i0n1, i0e0, i1e1, gI, gR, pI, pB, pR, xI, xL, yI, yL, vc, kd_sFi, fr_sFi, ln_sFi, ai_sFi, al_sFi, ar_sFi, cs_sFi, sz_sFi, sz_sAi, kd_sAi, fi_sAi, fr_sAi, ln_sAi, al_sAi, ar_sAi, cs_sAi, kd_wz, fi_wz, fr_wz, ln_wz, ai_wz, al_wz, ar_wz, Option.bind_some, if_true, if_false, Nat.reduceAdd, Nat.reduceMul, reduceIte, and_self, true_and, and_true, hkm, f3, e1, r1, k1, l1, cl, ib, hs, ed, es, e4, e7]
    · have e4 : ¬ (4 : Int32) ≤ nI (e0 - st) := nI_ge (b := 4) (by omega) (by omega)
      rw [show min 4 (e0 - st) = e0 - st by omega, show min 4 (e0 + 1 - st) = (e0 - st) + 1 by omega]
      have ev : (10 : Int64) * lN (nvl sg st (e0 - st)) + (nI (sg e0)).toInt64 - 48 = lN (nvl sg st (e0 - st + 1)) := by
        have : nvl sg st (e0 - st + 1) = nvl sg st (e0 - st) * 10 + (sg e0 - 48) := by
          show nvl sg st (e0 - st) * 10 + (sg (st + (e0 - st)) - 48) = _
          rw [show st + (e0 - st) = e0 by omega]
        rw [this, show (10 : Int64) = lN 10 from rfl, show (48 : Int64) = lN 48 from rfl, nI_l (by omega), lN_mul, lN_add, lN_sub (by have := hd0.1; omega)]
        congr 1
        have := hd0.1
        omega
      simp only [X9_cutAll_b210, aN, kA201, kA202, kA203, kA206, kA306, i1n0, i0n1, i0e0, i1e1, gI, gR, pI, pB, pR, xI, xL, yI, yL, vc, kd_sFi, fr_sFi, ln_sFi, ai_sFi, al_sFi, ar_sFi, cs_sFi, sz_sFi, sz_sAi, kd_sAi, fi_sAi, fr_sAi, ln_sAi, al_sAi, ar_sAi, cs_sAi, kd_wz, fi_wz, fr_wz, ln_wz, ai_wz, al_wz, ar_wz, Option.bind_some, if_true, if_false, Nat.reduceAdd, Nat.reduceMul, reduceIte, and_self, true_and, and_true, hkm, f3, e1, r1, k1, l1, cl, ib, hs, ed, es, e4, e7, ev]
theorem w_word {sg : Nat → Nat} {st E T : Nat} {h : HS} (go : Int32 → Int32 → HS → Option HS) (hM : SMA q am h) (hT : Tp9 am q sg tl h) (hE : E ≤ tl) (hd : ∀ j, st ≤ j → j < E → isL (sg j)) (hx : E = tl ∨ ¬ isL (sg E)) : ∀ (k e0 : Nat), e0 + k = E → st ≤ e0 → ∀ F, k < F → X9_cutAll_L70 am go F (nI T) (nI e0) (nI st) (lN (hvl sg st (min 9 (e0 - st)))) h = X9_cutAll_b129 am go (nI T) (nI E) (nI st) (lN (hvl sg st (min 9 (E - st)))) h := by
  have ht6 := hT.1
  have hkm : kd h am = 11 := hM.1
  have f3 : fi h 1003 am = nI tl := hT.2.1
  have r1 : fr h 1001 am = some (q 1) := (hM.2.1 (1, 201, 600) (by decide)).1
  have k1 : kd h (q 1) = 201 := (hM.2.1 (1, 201, 600) (by decide)).2.1
  have l1 : ln h (q 1) = 600 := (hM.2.1 (1, 201, 600) (by decide)).2.2
  intro k
  induction k with
  | zero =>
    intro e0 hk hst F hF
    obtain ⟨F, rfl⟩ := nF1 hF
    have he : e0 = E := by omega
    subst he
    conv => lhs; unfold X9_cutAll_L70
    by_cases hl : e0 = tl
    · have e1 : nI tl ≤ nI e0 := nI_le (by omega) (by omega)
      simp only [aN, kA201, kA202, kA203, kA206, kA306, i1n0, i0n1, i0e0, i1e1, gI, gR, pI, pB, pR, xI, xL, yI, yL, vc, kd_sFi, fr_sFi, ln_sFi, ai_sFi, al_sFi, ar_sFi, cs_sFi, sz_sFi, sz_sAi, kd_sAi, fi_sAi, fr_sAi, ln_sAi, al_sAi, ar_sAi, cs_sAi, kd_wz, fi_wz, fr_wz, ln_wz, ai_wz, al_wz, ar_wz, Option.bind_some, if_true, if_false, Nat.reduceAdd, Nat.reduceMul, reduceIte, and_self, true_and, and_true, hkm, f3, e1]
    · have e1 : ¬ nI tl ≤ nI e0 := nI_ge (by omega) (by omega)
      obtain ⟨v1, h126⟩ := hT.2.2 e0 (by omega)
      have hs : ai h (q 1) e0 = nI (sg e0) := v1
      have cl : (nI e0).toNatClampNeg = e0 := nI_cl (N := 600) (by omega) (by omega)
      have ib : inB (nI e0) 600 = true := inB_nI (by omega) (by omega)
      have hnd := hx.resolve_left hl
      have ed := e_isL9 (x := sg e0) (by omega) h
      rw [if_neg hnd] at ed
      simp only [aN, kA201, kA202, kA203, kA206, kA306, i1n0, i0n1, i0e0, i1e1, gI, gR, pI, pB, pR, xI, xL, yI, yL, vc, kd_sFi, fr_sFi, ln_sFi, ai_sFi, al_sFi, ar_sFi, cs_sFi, sz_sFi, sz_sAi, kd_sAi, fi_sAi, fr_sAi, ln_sAi, al_sAi, ar_sAi, cs_sAi, kd_wz, fi_wz, fr_wz, ln_wz, ai_wz, al_wz, ar_wz, Option.bind_some, if_true, if_false, Nat.reduceAdd, Nat.reduceMul, reduceIte, and_self, true_and, and_true, hkm, f3, e1, r1, k1, l1, cl, ib, hs, ed]
  | succ k ih =>
    intro e0 hk hst F hF
    obtain ⟨F, rfl⟩ := nF1 hF
    have e1 : ¬ nI tl ≤ nI e0 := nI_ge (by omega) (by omega)
    obtain ⟨v1, h126⟩ := hT.2.2 e0 (by omega)
    have hs : ai h (q 1) e0 = nI (sg e0) := v1
    have cl : (nI e0).toNatClampNeg = e0 := nI_cl (N := 600) (by omega) (by omega)
    have ib : inB (nI e0) 600 = true := inB_nI (by omega) (by omega)
    have hd0 := hd e0 hst (by omega)
    have ed := e_isL9 (x := sg e0) (by omega) h
    rw [if_pos hd0] at ed
    have es : nI e0 - nI st = nI (e0 - st) := nI_sub hst
    have e7 : nI e0 + 1 = nI (e0 + 1) := nI_add e0 1
    rw [← ih (e0 + 1) (by omega) (by omega) F (by omega)]
    conv => lhs; unfold X9_cutAll_L70
    by_cases h4 : 9 ≤ e0 - st
    · have e4 : (9 : Int32) ≤ nI (e0 - st) := nI_le (a := 9) h4 (by omega)
      rw [show min 9 (e0 - st) = 9 by omega, show min 9 (e0 + 1 - st) = 9 by omega]
      simp only [X9_cutAll_b121, aN, kA201, kA202, kA203, kA206, kA306, i1n0, i0n1, i0e0, i1e1, gI, gR, pI, pB, pR, xI, xL, yI, yL, vc, kd_sFi, fr_sFi, ln_sFi, ai_sFi, al_sFi, ar_sFi, cs_sFi, sz_sFi, sz_sAi, kd_sAi, fi_sAi, fr_sAi, ln_sAi, al_sAi, ar_sAi, cs_sAi, kd_wz, fi_wz, fr_wz, ln_wz, ai_wz, al_wz, ar_wz, Option.bind_some, if_true, if_false, Nat.reduceAdd, Nat.reduceMul, reduceIte, and_self, true_and, and_true, hkm, f3, e1, r1, k1, l1, cl, ib, hs, ed, es, e4, e7]
    · have e4 : ¬ (9 : Int32) ≤ nI (e0 - st) := nI_ge (b := 9) (by omega) (by omega)
      rw [show min 9 (e0 - st) = e0 - st by omega, show min 9 (e0 + 1 - st) = (e0 - st) + 1 by omega]
      have er : m_X9_rank (nI (sg e0)) h = some (nI (sg e0 - 96), h) := by
        have : nI (sg e0) - 96 = nI (sg e0 - 96) := nI_sub (b := 96) (by have := hd0.1; omega)
        simp only [m_X9_rank, ed, aN, kA201, kA202, kA203, kA206, kA306, i1n0, i0n1, i0e0, i1e1, gI, gR, pI, pB, pR, xI, xL, yI, yL, vc, kd_sFi, fr_sFi, ln_sFi, ai_sFi, al_sFi, ar_sFi, cs_sFi, sz_sFi, sz_sAi, kd_sAi, fi_sAi, fr_sAi, ln_sAi, al_sAi, ar_sAi, cs_sAi, kd_wz, fi_wz, fr_wz, ln_wz, ai_wz, al_wz, ar_wz, Option.bind_some, if_true, if_false, Nat.reduceAdd, Nat.reduceMul, reduceIte, and_self, true_and, and_true, this]
      have ev : (37 : Int64) * lN (hvl sg st (e0 - st)) + (nI (sg e0 - 96)).toInt64 = lN (hvl sg st (e0 - st + 1)) := by
        have : hvl sg st (e0 - st + 1) = 37 * hvl sg st (e0 - st) + (sg e0 - 96) := by
          show 37 * hvl sg st (e0 - st) + (sg (st + (e0 - st)) - 96) = _
          rw [show st + (e0 - st) = e0 by omega]
        rw [this, show (37 : Int64) = lN 37 from rfl, nI_l (by omega), lN_mul, lN_add]
      simp only [X9_cutAll_b121, aN, kA201, kA202, kA203, kA206, kA306, i1n0, i0n1, i0e0, i1e1, gI, gR, pI, pB, pR, xI, xL, yI, yL, vc, kd_sFi, fr_sFi, ln_sFi, ai_sFi, al_sFi, ar_sFi, cs_sFi, sz_sFi, sz_sAi, kd_sAi, fi_sAi, fr_sAi, ln_sAi, al_sAi, ar_sAi, cs_sAi, kd_wz, fi_wz, fr_wz, ln_wz, ai_wz, al_wz, ar_wz, Option.bind_some, if_true, if_false, Nat.reduceAdd, Nat.reduceMul, reduceIte, and_self, true_and, and_true, hkm, f3, e1, r1, k1, l1, cl, ib, hs, ed, es, e4, e7, er, ev]
/-- numbers of words are words -/
def hof (f : Nat → Nat) : Nat → Nat
  | 0 => 0
  | k + 1 => 37 * hof f k + f k
theorem hof_inj : ∀ (k k' : Nat) (f f' : Nat → Nat), (∀ j, j < k → 1 ≤ f j ∧ f j ≤ 36) → (∀ j, j < k' → 1 ≤ f' j ∧ f' j ≤ 36) → hof f k = hof f' k' → k = k' ∧ ∀ j, j < k → f j = f' j
  | 0, 0, _, _, _, _, _ => ⟨rfl, fun j hj => by omega⟩
  | 0, k' + 1, f, f', _, h2, h => by
    have := (h2 k' (by omega)).1
    have h3 : hof f 0 = 37 * hof f' k' + f' k' := h
    have h4 : hof f 0 = 0 := rfl
    omega
  | k + 1, 0, f, f', h1, _, h => by
    have := (h1 k (by omega)).1
    have h3 : 37 * hof f k + f k = hof f' 0 := h
    have h4 : hof f' 0 = 0 := rfl
    omega
  | k + 1, k' + 1, f, f', h1, h2, h => by
    have a1 := h1 k (by omega)
    have a2 := h2 k' (by omega)
    have h3 : 37 * hof f k + f k = 37 * hof f' k' + f' k' := h
    have h4 : hof f k = hof f' k' := by omega
    have h5 : f k = f' k' := by omega
    obtain ⟨b1, b2⟩ := hof_inj k k' f f' (fun j hj => h1 j (by omega)) (fun j hj => h2 j (by omega)) h4
    subst b1
    refine ⟨rfl, fun j hj => ?_⟩
    by_cases hjk : j = k
    · subst hjk; exact h5
    · exact b2 j (by omega)
theorem hof_cg {f f' : Nat → Nat} : ∀ (k : Nat), (∀ j, j < k → f j = f' j) → hof f k = hof f' k
  | 0, _ => rfl
  | k + 1, h => by
    show 37 * hof f k + f k = 37 * hof f' k + f' k
    rw [hof_cg k (fun j hj => h j (by omega)), h k (by omega)]
theorem hvl_hof (sg : Nat → Nat) (st : Nat) : ∀ k, hvl sg st k = hof (fun j => sg (st + j) - 96) k
  | 0 => rfl
  | k + 1 => by
    show 37 * hvl sg st k + (sg (st + k) - 96) = 37 * hof _ k + (sg (st + k) - 96)
    rw [hvl_hof sg st k]
def wbn : List (List Nat) := [[114, 97, 116, 101], [119, 104, 101, 110], [97, 110, 100], [107, 105, 110, 100], [116, 104, 111, 117, 115, 97, 110, 100, 115], [112, 114, 105, 110, 116, 101, 100], [109, 111, 110, 116, 104], [119, 101, 101, 107, 115]]
def wb (i j : Nat) : Nat := (wbn.getD i []).getD j 0
def HW : List Nat := [913868, 1176170, 1891, 570026, 71049021893761, 42317417930, 25143802, 43366239]
theorem wb_hof : ∀ i, i < 8 → hof (fun j => wb i j - 96) (lenS.getD i 0) = HW.getD i 0 := by decide
theorem wb_rng : ∀ i, i < 8 → ∀ j, j < lenS.getD i 0 → 97 ≤ wb i j ∧ wb i j ≤ 122 := by decide
theorem wb_byt : ∀ i, i < 8 → ∀ j, j < lenS.getD i 0 → (bytS.getD i []).getD j 0 = nI (wb i j) := by decide
theorem wb_len : ∀ i, i < 8 → lenS.getD i 0 ≤ 9 := by decide
theorem HW_inj : ∀ i, i < 8 → ∀ j, j < 8 → HW.getD i 0 = HW.getD j 0 → i = j := by decide
/-- the signs from st to E are the i-th word -/
def spl (sg : Nat → Nat) (st E i : Nat) : Prop := E - st = lenS.getD i 0 ∧ ∀ j, j < lenS.getD i 0 → sg (st + j) = wb i j
theorem spl_iff {sg : Nat → Nat} {st E i : Nat} (hi : i < 8) (hd : ∀ j, st ≤ j → j < E → isL (sg j)) : spl sg st E i ↔ hvl sg st (E - st) = HW.getD i 0 := by
  rw [hvl_hof, ← wb_hof i hi]
  constructor
  · rintro ⟨h1, h2⟩
    rw [h1]
    exact hof_cg _ (fun j hj => by rw [h2 j hj])
  · intro h
    obtain ⟨h1, h2⟩ := hof_inj _ _ _ _ (fun j hj => by
      have := hd (st + j) (by omega) (by omega)
      show 1 ≤ sg (st + j) - 96 ∧ sg (st + j) - 96 ≤ 36
      have h1 := this.1
      have h2 := this.2
      omega) (fun j hj => by
      have := wb_rng i hi j hj
      show 1 ≤ wb i j - 96 ∧ wb i j - 96 ≤ 36
      omega) h
    refine ⟨h1, fun j hj => ?_⟩
    have h3 := h2 j (by omega)
    have h3' : sg (st + j) - 96 = wb i j - 96 := h3
    have := wb_rng i hi j hj
    have h4 := hd (st + j) (by omega) (by omega)
    have h5 := h4.1
    omega
end SCAN9
