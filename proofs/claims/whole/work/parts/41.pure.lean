/-! lists and places -/
theorem e_within (a b c : Int32) (h : HS) : m_X8_isWithin a b c h = some (if a < b then 0 else if c < a then 0 else 1, h) := by
  unfold m_X8_isWithin
  split
  · rfl
  · split <;> rfl
theorem e_within9 (a b c : Int32) (h : HS) : m_X9_within a b c h = some (if a < b then 0 else if c < a then 0 else 1, h) := by
  unfold m_X9_within
  split
  · rfl
  · split <;> rfl
theorem e_circ (a : Int32) (h : HS) : m_X8_isCirculation a h = some (if a < 1 then 0 else if 100000 < a then 0 else 1, h) := by
  unfold m_X8_isCirculation
  rw [e_within]
  simp only [Option.bind_some]
  split
  · simp
  · split <;> simp
section LST
variable {ad : Nat → Nat → Nat} {n e : Nat → Nat} {h : HS} {l c : Nat}
theorem e_size (hk : kd h (ad 0 l) = 1) (hL : LX ad n e (kd h) (fi h 2) (fr h 1) (ln h) (ar h) (sz h) (cs h 0) l c) : m_Jx4a65c_size_8abf5 (ad 0 l) h = some (nI (n c), h) := by
  have h2 := hL.2.1
  simp only [m_Jx4a65c_size_8abf5, gI, hk, if_true, Option.bind_some, Nat.mul_zero, Nat.zero_add, h2]
theorem e_get (hk : kd h (ad 0 l) = 1) (hL : LX ad n e (kd h) (fi h 2) (fr h 1) (ln h) (ar h) (sz h) (cs h 0) l c) (hn : n c ≤ 100) {j : Nat} (hj : j < n c) : m_Jx4a65c_get_915e3 (ad 0 l) (nI j) h = some (some (ad c j), h) := by
  obtain ⟨h1, h2, h3, -, h5⟩ := hL
  have h6 : kd h (e l) = 206 ∧ n c ≤ ln h (e l) := by
    rcases h5 with h5 | h5
    · omega
    · exact ⟨h5.1, h5.2.1⟩
  have hj31 : j < 2 ^ 31 := by omega
  have e1 : ¬ nI j < 0 := nI_pos hj31
  have e2 : nI j < nI (n c) := nI_lt hj (by omega)
  have e3 : inB (nI j) (ln h (e l)) = true := by
    simp only [inB, Bool.and_eq_true, decide_eq_true_eq]
    exact ⟨nI_pos' hj31, by rw [nI_clamp hj31]; omega⟩
  simp only [m_Jx4a65c_get_915e3, m_J15_checkIndex_7cf53, m_J3_checkIndex_8e157, m_Jx4a65c_elementData_915e3, gI, gR, xR, vc, hk, if_true, if_false, Option.bind_some, Nat.mul_zero, Nat.zero_add, h1, h2, e1, e2, e3, h6.1, and_self, nI_clamp hj31, h3 j hj]
end LST
theorem nI_m1 (N : Nat) (a : Int32) (hN : N ≤ 100000) (h0 : ¬ a < 0) : (nI N - 1 < a) ↔ nI N ≤ a := by
  obtain ⟨j, hj, rfl⟩ := nI_of h0
  have h1 : (nI N).toInt = (N : Int) := nI_toInt (by omega)
  have h2 : (nI j).toInt = (j : Int) := nI_toInt hj
  rw [Int32.lt_iff_toInt_lt, Int32.le_iff_toInt_le, Int32.toInt_sub, h1, h2]
  have h3 : (1 : Int32).toInt = 1 := rfl
  rw [h3]
  have h4 : ((N : Int) - 1).bmod (2 ^ 32) = (N : Int) - 1 := by
    apply Int.bmod_eq_of_le <;> omega
  rw [h4]
  omega
section AT
variable {ax ao am : Nat} {ad : Nat → Nat → Nat} {n e pO fO q : Nat → Nat} {h : HS}
theorem k0 (hS : SXA ax ao ad n e pO fO h) {t i : Nat} (hi : i < n t) : kd h (ad t i) = kX t := (hS.2.2.1 t i hi).1
theorem kax (hS : SXA ax ao ad n e pO fO h) : kd h ax = 10 := by
  have h1 := k0 hS (t := 9) (i := 0) (by rw [hS.1.2.2.2.2.2.1]; decide)
  rw [hS.2.2.2.2.1.1] at h1
  exact h1
theorem kls (hS : SXA ax ao ad n e pO fO h) {l : Nat} (hl : l < 3) : kd h (ad 0 l) = 1 := k0 hS (t := 0) (by rw [hS.1.1]; exact hl)
theorem n_le (hS : SXA ax ao ad n e pO fO h) : n 2 ≤ 10 ∧ n 3 ≤ 20 ∧ n 1 ≤ 60 ∧ n 4 ≤ 21 ∧ 1 ≤ n 4 := by
  obtain ⟨⟨-, -, -, -, -, -, -, -, -, -, -, -, -, -, -, -, -, -, -, -, a, b, c, d, e, -⟩, -⟩ := hS
  exact ⟨a, b, c, d, e⟩
theorem e_featureAt_in (hS : SXA ax ao ad n e pO fO h) {j : Nat} (hj : j < n 2) : m_X8_featureAt ax (nI j) h = some (some (ad 2 j), h) := by
  have hL : LX ad n e (kd h) (fi h 2) (fr h 1) (ln h) (ar h) (sz h) (cs h 0) 0 2 := hS.2.2.2.2.2.1.1
  have hn : n 2 ≤ 100 := by have := n_le hS; omega
  have hk := kls hS (l := 0) (by decide)
  have hR : fr h 900 ax = some (ad 0 0) := hS.2.2.2.2.1.2.2.1
  have ha := kax hS
  have hj31 : j < 2 ^ 31 := by omega
  have e1 : ¬ nI j < 0 := nI_pos hj31
  have e2 : ¬ nI (n 2) - 1 < nI j := by
    rw [nI_m1 _ _ (by omega) e1]
    exact nI_ge hj (by omega)
  have e4 : kd h (ad 2 j) = 2 + 1 := k0 hS hj
  simp only [m_X8_featureAt, gR, vc, ha, hk, hR, if_true, if_false, Option.bind_some, Nat.reduceMul, Nat.reduceAdd, e_size hk hL, e_within, e1, e2, e_get hk hL hn hj, cst, isO, e4, beq_self_eq_true, or_true, i1n0, Nat.zero_add, reduceIte]
theorem e_featureAt_out (hS : SXA ax ao ad n e pO fO h) {a : Int32} (ho : a < 0 ∨ (¬ a < 0 ∧ nI (n 2) ≤ a)) : m_X8_featureAt ax a h = some (none, h) := by
  have hL : LX ad n e (kd h) (fi h 2) (fr h 1) (ln h) (ar h) (sz h) (cs h 0) 0 2 := hS.2.2.2.2.2.1.1
  have hn : n 2 ≤ 100 := by have := n_le hS; omega
  have hk := kls hS (l := 0) (by decide)
  have hR : fr h 900 ax = some (ad 0 0) := hS.2.2.2.2.1.2.2.1
  have ha := kax hS
  have e5 : (if a < 0 then (0 : Int32) else if nI (n 2) - 1 < a then 0 else 1) = 0 := by
    rcases ho with ho | ⟨h1, h2⟩
    · rw [if_pos ho]
    · rw [if_neg h1, if_pos ((nI_m1 _ _ (by omega) h1).mpr h2)]
  simp only [m_X8_featureAt, gR, vc, ha, hk, hR, if_true, if_false, Option.bind_some, Nat.reduceMul, Nat.reduceAdd, e_size hk hL, e_within, e5, Nat.zero_add, reduceIte]
theorem e_paperAt_in (hS : SXA ax ao ad n e pO fO h) {j : Nat} (hj : j < n 3) : m_X8_paperAt ax (nI j) h = some (some (ad 3 j), h) := by
  have hL : LX ad n e (kd h) (fi h 2) (fr h 1) (ln h) (ar h) (sz h) (cs h 0) 1 3 := hS.2.2.2.2.2.1.2.1
  have hn : n 3 ≤ 100 := by have := n_le hS; omega
  have hk := kls hS (l := 1) (by decide)
  have hR : fr h 901 ax = some (ad 0 1) := hS.2.2.2.2.1.2.2.2.1
  have ha := kax hS
  have hj31 : j < 2 ^ 31 := by omega
  have e1 : ¬ nI j < 0 := nI_pos hj31
  have e2 : ¬ nI (n 3) - 1 < nI j := by
    rw [nI_m1 _ _ (by omega) e1]
    exact nI_ge hj (by omega)
  have e4 : kd h (ad 3 j) = 3 + 1 := k0 hS hj
  simp only [m_X8_paperAt, gR, vc, ha, hk, hR, if_true, if_false, Option.bind_some, Nat.reduceMul, Nat.reduceAdd, e_size hk hL, e_within, e1, e2, e_get hk hL hn hj, cst, isO, e4, beq_self_eq_true, or_true, i1n0, Nat.zero_add, reduceIte]
theorem e_paperAt_out (hS : SXA ax ao ad n e pO fO h) {a : Int32} (ho : a < 0 ∨ (¬ a < 0 ∧ nI (n 3) ≤ a)) : m_X8_paperAt ax a h = some (none, h) := by
  have hL : LX ad n e (kd h) (fi h 2) (fr h 1) (ln h) (ar h) (sz h) (cs h 0) 1 3 := hS.2.2.2.2.2.1.2.1
  have hn : n 3 ≤ 100 := by have := n_le hS; omega
  have hk := kls hS (l := 1) (by decide)
  have hR : fr h 901 ax = some (ad 0 1) := hS.2.2.2.2.1.2.2.2.1
  have ha := kax hS
  have e5 : (if a < 0 then (0 : Int32) else if nI (n 3) - 1 < a then 0 else 1) = 0 := by
    rcases ho with ho | ⟨h1, h2⟩
    · rw [if_pos ho]
    · rw [if_neg h1, if_pos ((nI_m1 _ _ (by omega) h1).mpr h2)]
  simp only [m_X8_paperAt, gR, vc, ha, hk, hR, if_true, if_false, Option.bind_some, Nat.reduceMul, Nat.reduceAdd, e_size hk hL, e_within, e5, Nat.zero_add, reduceIte]
theorem e_contractAt_in (hS : SXA ax ao ad n e pO fO h) {j : Nat} (hj : j < n 1) : m_X8_contractAt ax (nI j) h = some (some (ad 1 j), h) := by
  have hL : LX ad n e (kd h) (fi h 2) (fr h 1) (ln h) (ar h) (sz h) (cs h 0) 2 1 := hS.2.2.2.2.2.1.2.2.1
  have hn : n 1 ≤ 100 := by have := n_le hS; omega
  have hk := kls hS (l := 2) (by decide)
  have hR : fr h 902 ax = some (ad 0 2) := hS.2.2.2.2.1.2.2.2.2.1
  have ha := kax hS
  have hj31 : j < 2 ^ 31 := by omega
  have e1 : ¬ nI j < 0 := nI_pos hj31
  have e2 : ¬ nI (n 1) - 1 < nI j := by
    rw [nI_m1 _ _ (by omega) e1]
    exact nI_ge hj (by omega)
  have e4 : kd h (ad 1 j) = 1 + 1 := k0 hS hj
  simp only [m_X8_contractAt, gR, vc, ha, hk, hR, if_true, if_false, Option.bind_some, Nat.reduceMul, Nat.reduceAdd, e_size hk hL, e_within, e1, e2, e_get hk hL hn hj, cst, isO, e4, beq_self_eq_true, or_true, i1n0, Nat.zero_add, reduceIte]
theorem e_contractAt_out (hS : SXA ax ao ad n e pO fO h) {a : Int32} (ho : a < 0 ∨ (¬ a < 0 ∧ nI (n 1) ≤ a)) : m_X8_contractAt ax a h = some (none, h) := by
  have hL : LX ad n e (kd h) (fi h 2) (fr h 1) (ln h) (ar h) (sz h) (cs h 0) 2 1 := hS.2.2.2.2.2.1.2.2.1
  have hn : n 1 ≤ 100 := by have := n_le hS; omega
  have hk := kls hS (l := 2) (by decide)
  have hR : fr h 902 ax = some (ad 0 2) := hS.2.2.2.2.1.2.2.2.2.1
  have ha := kax hS
  have e5 : (if a < 0 then (0 : Int32) else if nI (n 1) - 1 < a then 0 else 1) = 0 := by
    rcases ho with ho | ⟨h1, h2⟩
    · rw [if_pos ho]
    · rw [if_neg h1, if_pos ((nI_m1 _ _ (by omega) h1).mpr h2)]
  simp only [m_X8_contractAt, gR, vc, ha, hk, hR, if_true, if_false, Option.bind_some, Nat.reduceMul, Nat.reduceAdd, e_size hk hL, e_within, e5, Nat.zero_add, reduceIte]
theorem crf (hS : SXA ax ao ad n e pO fO h) {c : Nat} (hc : c < n 1) : fr h 109 (ad 1 c) = some (ad 11 c) ∧ fr h 110 (ad 1 c) = some (ad 14 c) ∧ fr h 100 (ad 1 c) = some (ad 3 (pO c)) ∧ fr h 101 (ad 1 c) = some (ad 2 (fO c)) ∧ pO c < n 3 ∧ fO c < n 2 := by
  obtain ⟨-, -, -, -, ⟨-, -, -, -, -, -, -, -, -, -, -, -, -, -, -, -, -, -, -, h1, -⟩, -⟩ := hS
  exact h1 c hc
theorem prf (hS : SXA ax ao ad n e pO fO h) {c : Nat} (hc : c < n 3) : fr h 303 (ad 3 c) = some (ad 13 c) := by
  obtain ⟨-, -, -, -, ⟨-, -, -, -, -, -, -, -, -, -, -, -, -, -, -, -, -, -, h1, -⟩, -⟩ := hS
  exact h1 c hc
theorem frf (hS : SXA ax ao ad n e pO fO h) {c : Nat} (hc : c < n 2) : fr h 203 (ad 2 c) = some (ad 12 c) := by
  obtain ⟨-, -, -, -, ⟨-, -, -, -, -, -, -, -, -, -, -, -, -, -, -, -, -, h1, -⟩, -⟩ := hS
  exact h1 c hc
theorem nSX (hS : SXA ax ao ad n e pO fO h) : n 0 = 3 ∧ n 5 = 1 ∧ n 6 = 1 ∧ n 7 = 1 ∧ n 8 = 1 ∧ n 9 = 1 ∧ n 11 = n 1 ∧ n 12 = n 2 ∧ n 13 = n 3 ∧ n 14 = n 1 ∧ n 15 = n 4 ∧ n 16 = 1 ∧ n 17 = 1 ∧ n 18 = 1 ∧ n 19 = 1 ∧ n 20 = 1 ∧ n 21 = 1 ∧ n 22 = 1 ∧ n 23 = 1 := by
  obtain ⟨⟨a1, a2, a3, a4, a5, a6, a7, a8, a9, b1, b2, b3, b4, b5, b6, b7, b8, b9, b10, -⟩, -⟩ := hS
  exact ⟨a1, a2, a3, a4, a5, a6, a7, a8, a9, b1, b2, b3, b4, b5, b6, b7, b8, b9, b10⟩
end AT
