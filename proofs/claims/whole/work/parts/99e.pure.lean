section RTX
variable {ax ao am : Nat} {ad : Nat → Nat → Nat} {n e pO fO q tm : Nat → Nat} {tx : Nat → List (Int32 × List Int32)} {w : Nat} {pn : Nat → Nat} {nw : Nat → Nat → Nat} {fs : Nat → Nat} {ls : Nat → Option Nat} {rs rl pr : Nat → Nat} {tl : Nat} {hx hm : HS}
theorem kd_nO (h : HS) (c : Nat) : kd (nO h c) = va_up (kd h) (sz h) (c + 1) := rfl
theorem fi_nO (h : HS) (c : Nat) : fi (nO h c) = fun g a => if a = sz h then 0 else fi h g a := rfl
theorem fr_nO (h : HS) (c : Nat) : fr (nO h c) = fun g a => if a = sz h then none else fr h g a := rfl
theorem ln_nO (h : HS) (c : Nat) : ln (nO h c) = ln h := rfl
theorem ai_nO (h : HS) (c : Nat) : ai (nO h c) = ai h := rfl
theorem sz_nO (h : HS) (c : Nat) : sz (nO h c) = sz h + 1 := rfl
theorem kd_sRi (h : HS) (a : Nat) (f : Nat → Int32) : kd (sRi h a f) = kd h := rfl
theorem ln_sRi (h : HS) (a : Nat) (f : Nat → Int32) : ln (sRi h a f) = ln h := rfl
theorem fi_sRi (h : HS) (a : Nat) (f : Nat → Int32) : fi (sRi h a f) = fi h := rfl
theorem fr_sRi (h : HS) (a : Nat) (f : Nat → Int32) : fr (sRi h a f) = fr h := rfl
theorem sz_sRi (h : HS) (a : Nat) (f : Nat → Int32) : sz (sRi h a f) = sz h := rfl
theorem ai_sRi (h : HS) (a : Nat) (f : Nat → Int32) : ai (sRi h a f) = va_up (ai h) a f := rfl
theorem NEW_sRi {h : HS} {S : Nat} {f : Nat → Int32} (hS : sz hx ≤ S) (hN : NEW hx h) : NEW hx (sRi h S f) := by
  obtain ⟨a1, a2, a3⟩ := hN
  refine ⟨a1, a2, fun a ha => ?_⟩
  obtain ⟨b1, b2, b3, b4, b5, b6, b7⟩ := a3 a ha
  exact ⟨b1, b2, by rw [ai_sRi, va_upN _ _ (by omega)]; exact b3, b4, b5, b6, b7⟩
theorem x_rateText {h : HS} (hS : SXA ax ao ad n e pO fO h) {C : List Int32} (hC : CX ad n C h) (hl : C.length < 600) : ∃ h1, m_X6_rateText (ad 7 0) h = some (some (sz h), h1) ∧ NEW h h1 ∧ sz h1 = sz h + 2 ∧ kd h1 (sz h) = 5 ∧ kd h1 (sz h + 1) = 201 ∧ ln h1 (sz h + 1) = C.length ∧ fr h1 400 (sz h) = some (sz h + 1) ∧ fi h1 401 (sz h) = cf ad n h 705 0 ∧ ∀ j, j < C.length → ai h1 (sz h + 1) j = C.getD j 0 := by
  obtain ⟨n7, n8, n17, n18, n19, k7, k8, r700, r701, r800, r801, k17, l17, k18, l18, k19, l19, -⟩ := ktok hS
  have f702 : fi h 702 (ad 7 0) = nI C.length := (f7 hS (by decide)).trans hC.1
  have f705 : fi h 705 (ad 7 0) = cf ad n h 705 0 := f7 hS (by decide)
  have b7 : ad 7 0 < sz h := (hS.2.2.1 7 0 n7).2
  have b19 : ad 19 0 < sz h := (hS.2.2.1 19 0 n19).2
  have m7 : (ad 7 0 = sz h) = False := eq_false (by omega)
  have m19 : (ad 19 0 = sz h) = False := eq_false (by omega)
  have m71 : (ad 7 0 = sz h + 1) = False := eq_false (by omega)
  have m191 : (ad 19 0 = sz h + 1) = False := eq_false (by omega)
  have mS : (sz h = sz h + 1) = False := eq_false (by omega)
  have mS1 : (sz h + 1 = sz h) = False := eq_false (by omega)
  obtain ⟨F, hF⟩ : ∃ F, F = va_cpy (ai (nA (nO h 4) 201 C.length) (ad 19 0)) (ai (nA (nO h 4) 201 C.length) (sz h + 1)) 0 0 C.length := ⟨_, rfl⟩
  have e1 : ¬ nI 600 < nI C.length := fun z => by have := (nI_ltI (by omega) (by omega)).mp z; omega
  have e2 : (if (0 : Int32) < nI C.length then nI C.length else 0) = nI C.length := by
    by_cases h0 : C.length = 0
    · rw [h0]; rfl
    · have h0' : (0 : Int32) < nI C.length := nI_lt (a := 0) (b := C.length) (by omega) (by omega)
      rw [if_pos h0']
  have e3 : (nI C.length = nI 600) = False := eq_false fun z => by have := (nI_eq (by omega) (by omega)).mp z; omega
  have e4 : nI C.length < nI 600 := nI_lt hl (by omega)
  have cl : (nI C.length).toNatClampNeg = C.length := nI_cl hl (by omega)
  have ib : inB (nI C.length) 601 = true := inB_nI (by omega) (by omega)
  have e5 : (0 : Int32) ≤ nI C.length := nI_pos' (by omega)
  have z00 : ((0 : Int32) ≤ 0) = True := eq_true (by decide)
  have c0 : (0 : Int32).toNatClampNeg = 0 := by decide
  have le1 : (0 + C.length ≤ 600) = True := eq_true (by omega)
  have le2 : (0 + C.length ≤ C.length) = True := eq_true (by omega)
  refine ⟨sFi (sFr (sRi (nA (nO h 4) 201 C.length) (sz h + 1) F) 400 (sz h) (some (sz h + 1))) 401 (sz h) (cf ad n h 705 0), ?_, ?_, rfl, ?_, ?_, ?_, ?_, ?_, fun j hj => ?_⟩
  · have ecp : cpI (nA (nO h 4) 201 C.length) (some (ad 19 0)) 0 (some (sz h + 1)) 0 (nI C.length) = some (sRi (nA (nO h 4) 201 C.length) (sz h + 1) F) := by
      have kk1 : kd (nA (nO h 4) 201 C.length) (ad 19 0) = 201 := by simp only [kd_nA, kd_nO, sz_nO, va_up, m19, m191, if_false, k19]
      have kk2 : kd (nA (nO h 4) 201 C.length) (sz h + 1) = 201 := by simp only [kd_nA, sz_nO, va_up, if_true]
      have ll1 : ln (nA (nO h 4) 201 C.length) (ad 19 0) = 600 := by simp only [ln_nA, ln_nO, sz_nO, va_up, m191, if_false, l19]
      have ll2 : ln (nA (nO h 4) 201 C.length) (sz h + 1) = C.length := by simp only [ln_nA, sz_nO, va_up, if_true]
      simp only [cpI, kk1, kk2, ll1, ll2, z00, e5, c0, cl, le1, le2, and_self, if_true, hF]
    have ecopy : m_J7_copyOf_59c91 (some (ad 19 0)) (nI C.length) (nO h 4) = some (some (sz h + 1), sRi (nA (nO h 4) 201 C.length) (sz h + 1) F) := by
      have a1 : aN (nO h 4) (some (ad 19 0)) = some (nI 600) := by simp only [aN, kd_nO, ln_nO, va_up, m19, if_false, k19, kA201, if_true, l19]
      have a2 : nwA 600 (nO h 4) 201 (nI C.length) = some (some (sz h + 1), nA (nO h 4) 201 C.length) := by simp only [nwA, ib, if_true, cl, sz_nO]
      have a3 : aN (nA (nO h 4) 201 C.length) (some (ad 19 0)) = some (nI 600) := by simp only [aN, kd_nA, ln_nA, kd_nO, ln_nO, sz_nO, va_up, m19, m191, if_false, k19, kA201, if_true, l19]
      simp only [m_J7_copyOf_59c91, a1, Option.bind_some, e3, if_false, a2, a3, e4, if_true, ecp]
    have g1 : gR (nO h 4) (some (ad 7 0)) 7 1 = some (some (ad 19 0)) := by simp only [gR, kd_nO, fr_nO, va_up, m7, if_false, k7, if_true, Nat.reduceAdd, Nat.reduceMul, r701]
    have g2 : gI (sRi (nA (nO h 4) 201 C.length) (sz h + 1) F) (some (ad 7 0)) 7 5 = some (cf ad n h 705 0) := by
      simp only [gI, kd_sRi, fi_sRi, kd_nA, kd_nO, sz_nO, fi_nA, fi_nO, va_up, m7, m71, if_false, k7, if_true, Nat.reduceAdd, Nat.reduceMul, f705]
    have g3 : m_X3_init (sz h) (some (sz h + 1)) (cf ad n h 705 0) (sRi (nA (nO h 4) 201 C.length) (sz h + 1) F) = some (sFi (sFr (sRi (nA (nO h 4) 201 C.length) (sz h + 1) F) 400 (sz h) (some (sz h + 1))) 401 (sz h) (cf ad n h 705 0)) := by
      have kk : kd (sRi (nA (nO h 4) 201 C.length) (sz h + 1) F) (sz h) = 5 := by simp only [kd_sRi, kd_nA, kd_nO, sz_nO, va_up, mS, if_false, if_true, Nat.reduceAdd]
      simp only [m_X3_init, pR, pI, kd_sFr, kk, Nat.reduceAdd, Nat.reduceMul, if_true, Option.bind_some]
    simp only [m_X6_rateText, gI, gR, aN, k7, Nat.reduceAdd, Nat.reduceMul, if_true, Option.bind_some, f702, r701, k19, kA201, l19, e1, if_false, e2]
    have g1' := g1
    simp only [gR, Nat.reduceAdd, Nat.reduceMul] at g1'
    rw [g1']
    simp only [Option.bind_some, ecopy]
    have g2' := g2
    simp only [gI, Nat.reduceAdd, Nat.reduceMul] at g2'
    rw [g2']
    simp only [Option.bind_some, g3]
  · exact NEW_sFi (Nat.le_refl _) (NEW_sFr (Nat.le_refl _) (NEW_sRi (by omega) (NEW_nA NEW_nO)))
  · simp only [kd_sFi, kd_sFr, kd_sRi, kd_nA, kd_nO, sz_nO, va_up, mS, if_false, if_true, Nat.reduceAdd]
  · simp only [kd_sFi, kd_sFr, kd_sRi, kd_nA, sz_nO, va_up, if_true]
  · simp only [ln_sFi, ln_sFr, ln_sRi, ln_nA, sz_nO, va_up, if_true]
  · simp only [fr_sFi, fr_sFrU, up2, and_self, if_true]
  · simp only [fi_sFi, up2, and_self, if_true]
  · have e6 : ai (sFi (sFr (sRi (nA (nO h 4) 201 C.length) (sz h + 1) F) 400 (sz h) (some (sz h + 1))) 401 (sz h) (cf ad n h 705 0)) (sz h + 1) = F := by
      simp only [ai_sFi, ai_sFr, ai_sRi, va_up, if_true]
    rw [e6, hF]
    unfold va_cpy
    rw [if_pos ⟨Nat.zero_le _, by omega⟩, ai_nA, ai_nO, sz_nO, va_upN _ _ (by omega), Nat.sub_zero, Nat.zero_add, cv_at (n := n) n19]
    exact hC.2 j hj
def tgT (S : Nat) : Nat → Option Nat := fun t => match t with
  | 4 => some S
  | 15 => some (S + 1)
  | _ => none
theorem tgT_some {S t a : Nat} (h : tgT S t = some a) : (t = 4 ∧ a = S) ∨ (t = 15 ∧ a = S + 1) := by
  unfold tgT at h
  split at h
  · cases h; exact Or.inl ⟨rfl, rfl⟩
  · cases h; exact Or.inr ⟨rfl, rfl⟩
  · cases h
theorem tgT_none {S t : Nat} (h4 : t ≠ 4) (h15 : t ≠ 15) : tgT S t = none := by
  unfold tgT
  split
  · exact absurd rfl h4
  · exact absurd rfl h15
  · rfl
theorem SXA_text {h h1 : HS} (hS : SXA ax ao ad n e pO fO h) (hN : NEW h h1) (hsz : sz h1 = sz h + 2) (k5 : kd h1 (sz h) = 5) (k201 : kd h1 (sz h + 1) = 201) (r400 : fr h1 400 (sz h) = some (sz h + 1)) (hn4 : n 4 ≤ 20) : SXA ax ao (adX (tgT (sz h)) n ad) (nX (tgT (sz h)) n) e pO fO (sFr h1 907 ax (some (sz h))) := by
  obtain ⟨N1, N2, N3⟩ := hN
  have hn := n_le hS
  have hax : ax < sz h := ax_lt hS
  have no : ∀ t, t ≠ 4 → t ≠ 15 → nX (tgT (sz h)) n t = n t := fun t h4 h15 => nX_none (tgT_none h4 h15)
  have n4' : nX (tgT (sz h)) n 4 = n 4 + 1 := nX_some (a := sz h) rfl
  have n15' : nX (tgT (sz h)) n 15 = n 15 + 1 := nX_some (a := sz h + 1) rfl
  obtain ⟨s1, s2, s3, s4, s5, ⟨l1, l2, l3, l4⟩, c1, c2, c3, c4⟩ := hS
  have old : ∀ t i, i < n t → adX (tgT (sz h)) n ad t i = ad t i := fun t i hi => adX_old hi
  have ltz : ∀ t i, i < n t → ad t i < sz h := fun t i hi => (s3 t i hi).2
  obtain ⟨a0, a5, a6, a7, a8, a9, a11, a12, a13, a14, a15, a16, a17, a18, a19, a20, a21, a22, a23, a10, b2, b3, b1, b4, b5, b6⟩ := s1
  have fro : ∀ g a, a < sz h → g ≠ 907 → fr (sFr h1 907 ax (some (sz h))) g a = fr h g a := fun g a ha hg => by
    rw [fr_sFrU, up2_ne1 _ _ _ _ hg]; exact (N3 a ha).2.2.2.2.2.2 g
  have kdo : ∀ a, a < sz h → kd (sFr h1 907 ax (some (sz h))) a = kd h a := fun a ha => (N3 a ha).1
  refine ⟨⟨by rw [no 0 (by decide) (by decide)]; exact a0, by rw [no 5 (by decide) (by decide)]; exact a5, by rw [no 6 (by decide) (by decide)]; exact a6, by rw [no 7 (by decide) (by decide)]; exact a7, by rw [no 8 (by decide) (by decide)]; exact a8, by rw [no 9 (by decide) (by decide)]; exact a9, by rw [no 11 (by decide) (by decide), no 1 (by decide) (by decide)]; exact a11, by rw [no 12 (by decide) (by decide), no 2 (by decide) (by decide)]; exact a12, by rw [no 13 (by decide) (by decide), no 3 (by decide) (by decide)]; exact a13, by rw [no 14 (by decide) (by decide), no 1 (by decide) (by decide)]; exact a14, by rw [n15', n4', a15], by rw [no 16 (by decide) (by decide)]; exact a16, by rw [no 17 (by decide) (by decide)]; exact a17, by rw [no 18 (by decide) (by decide)]; exact a18, by rw [no 19 (by decide) (by decide)]; exact a19, by rw [no 20 (by decide) (by decide)]; exact a20, by rw [no 21 (by decide) (by decide)]; exact a21, by rw [no 22 (by decide) (by decide)]; exact a22, by rw [no 23 (by decide) (by decide)]; exact a23, by rw [no 10 (by decide) (by decide)]; exact a10, by rw [no 2 (by decide) (by decide)]; exact b2, by rw [no 3 (by decide) (by decide)]; exact b3, by rw [no 1 (by decide) (by decide)]; exact b1, by rw [n4']; omega, by rw [n4']; omega, fun t ht => by rw [no t (by omega) (by omega)]; exact b6 t ht⟩, ?_, ?_, ?_, ?_, ?_, ?_⟩
  · intro t i t' i' hi hi' heq
    rcases nX_cases hi with hi | ⟨a, ha, hia⟩ <;> rcases nX_cases hi' with hi' | ⟨a', ha', hia'⟩
    · rw [old t i hi, old t' i' hi'] at heq; exact s2 t i t' i' hi hi' heq
    · rw [old t i hi, hia', adX_new ha'] at heq
      have := ltz t i hi
      rcases tgT_some ha' with ⟨-, rfl⟩ | ⟨-, rfl⟩ <;> omega
    · rw [old t' i' hi', hia, adX_new ha] at heq
      have := ltz t' i' hi'
      rcases tgT_some ha with ⟨-, rfl⟩ | ⟨-, rfl⟩ <;> omega
    · rw [hia, hia', adX_new ha, adX_new ha'] at heq
      rcases tgT_some ha with ⟨rfl, rfl⟩ | ⟨rfl, rfl⟩ <;> rcases tgT_some ha' with ⟨rfl, rfl⟩ | ⟨rfl, rfl⟩
      · exact ⟨rfl, by rw [hia, hia']⟩
      · omega
      · omega
      · exact ⟨rfl, by rw [hia, hia']⟩
  · intro t i hi
    show kd (sFr h1 907 ax (some (sz h))) _ = _ ∧ _ < sz h1
    rcases nX_cases hi with hi | ⟨a, ha, hia⟩
    · rw [old t i hi, kdo _ (ltz t i hi)]
      have := ltz t i hi
      exact ⟨(s3 t i hi).1, by omega⟩
    · rw [hia, adX_new ha]
      rcases tgT_some ha with ⟨rfl, rfl⟩ | ⟨rfl, rfl⟩
      · exact ⟨k5, by omega⟩
      · exact ⟨k201, by omega⟩
  · intro t i hi h11 h15
    rcases nX_cases hi with hi | ⟨a, ha, hia⟩
    · rw [old t i hi]
      exact ((N3 _ (ltz t i hi)).2.1).trans (s4 t i hi h11 h15)
    · rcases tgT_some ha with ⟨rfl, rfl⟩ | ⟨rfl, rfl⟩
      · omega
      · exact absurd rfl h15
  · obtain ⟨r1, r2, r900, r901, r902, r903, r904, r905, r906, r907, r600, r700, r701, r800, r801, r500, r501, g2, g3, g1, g4⟩ := s5
    have l9 : 0 < n 9 := by omega
    have l23 : 0 < n 23 := by omega
    have l6 : 0 < n 6 := by omega
    have l7 : 0 < n 7 := by omega
    have l8 : 0 < n 8 := by omega
    have l5 : 0 < n 5 := by omega
    have l16 : 0 < n 16 := by omega
    have l17 : 0 < n 17 := by omega
    have l18 : 0 < n 18 := by omega
    have l19 : 0 < n 19 := by omega
    have l20 : 0 < n 20 := by omega
    have l21 : 0 < n 21 := by omega
    have l22 : 0 < n 22 := by omega
    have l00 : 0 < n 0 := by omega
    have l01 : 1 < n 0 := by omega
    have l02 : 2 < n 0 := by omega
    refine ⟨by rw [old 9 0 l9]; exact r1, by rw [old 23 0 l23]; exact r2, by rw [old 0 0 l00, fro _ _ hax (by decide)]; exact r900, by rw [old 0 1 l01, fro _ _ hax (by decide)]; exact r901, by rw [old 0 2 l02, fro _ _ hax (by decide)]; exact r902, by rw [old 6 0 l6, fro _ _ hax (by decide)]; exact r903, by rw [old 7 0 l7, fro _ _ hax (by decide)]; exact r904, by rw [old 5 0 l5, fro _ _ hax (by decide)]; exact r905, by rw [old 22 0 l22, fro _ _ hax (by decide)]; exact r906, ?_, by rw [old 6 0 l6, old 16 0 l16, fro _ _ (ltz 6 0 l6) (by decide)]; exact r600, by rw [old 7 0 l7, old 8 0 l8, fro _ _ (ltz 7 0 l7) (by decide)]; exact r700, by rw [old 7 0 l7, old 19 0 l19, fro _ _ (ltz 7 0 l7) (by decide)]; exact r701, by rw [old 8 0 l8, old 17 0 l17, fro _ _ (ltz 8 0 l8) (by decide)]; exact r800, by rw [old 8 0 l8, old 18 0 l18, fro _ _ (ltz 8 0 l8) (by decide)]; exact r801, by rw [old 5 0 l5, old 20 0 l20, fro _ _ (ltz 5 0 l5) (by decide)]; exact r500, by rw [old 5 0 l5, old 21 0 l21, fro _ _ (ltz 5 0 l5) (by decide)]; exact r501, fun i hi => ?_, fun i hi => ?_, fun i hi => ?_, fun i hi => ?_⟩
    · rw [fr_sFrU, up2_same, n4', Nat.add_sub_cancel, adX_new (show tgT (sz h) 4 = some (sz h) from rfl)]
    · rw [no 2 (by decide) (by decide)] at hi
      rw [old 2 i hi, old 12 i (by omega), fro _ _ (ltz 2 i hi) (by decide)]; exact g2 i hi
    · rw [no 3 (by decide) (by decide)] at hi
      rw [old 3 i hi, old 13 i (by omega), fro _ _ (ltz 3 i hi) (by decide)]; exact g3 i hi
    · rw [no 1 (by decide) (by decide)] at hi
      obtain ⟨y1, y2, y3, y4, y5, y6⟩ := g1 i hi
      rw [old 1 i hi, old 11 i (by omega), old 14 i (by omega), old 3 _ y5, old 2 _ y6, no 3 (by decide) (by decide), no 2 (by decide) (by decide), fro _ _ (ltz 1 i hi) (by decide), fro _ _ (ltz 1 i hi) (by decide), fro _ _ (ltz 1 i hi) (by decide), fro _ _ (ltz 1 i hi) (by decide)]
      exact ⟨y1, y2, y3, y4, y5, y6⟩
    · rw [n4'] at hi
      by_cases hi4 : i < n 4
      · rw [old 4 i hi4, old 15 i (by omega), fro _ _ (ltz 4 i hi4) (by decide)]; exact g4 i hi4
      · have hie : i = n 4 := by omega
        have e15 : adX (tgT (sz h)) n ad 15 i = sz h + 1 := by rw [hie, ← a15]; exact adX_new (a := sz h + 1) rfl
        have e4 : adX (tgT (sz h)) n ad 4 i = sz h := by rw [hie]; exact adX_new (a := sz h) rfl
        rw [e4, e15, fr_sFrU, up2_ne1 _ _ _ _ (by decide)]; exact r400
  · have go : ∀ l c, l < 3 → c ≠ 4 → c ≠ 15 → LX ad n e (kd h) (fi h 2) (fr h 1) (ln h) (ar h) (sz h) (cs h 0) l c → LX (adX (tgT (sz h)) n ad) (nX (tgT (sz h)) n) e (kd h1) (fi h1 2) (fr (sFr h1 907 ax (some (sz h))) 1) (ln h1) (ar h1) (sz h1) (cs h1 0) l c := by
      rintro l c hl h4 h15 ⟨y1, y2, y3, y4, y5⟩
      have hl0 : l < n 0 := by omega
      have hz := ltz 0 l hl0
      obtain ⟨z1, z2, z3, z4, z5, z6, z7⟩ := N3 (e l) y4
      refine ⟨?_, ?_, fun j hj => ?_, by omega, ?_⟩
      · rw [old 0 l hl0, fro _ _ hz (by decide)]; exact y1
      · rw [old 0 l hl0, no c h4 h15, (N3 _ hz).2.2.2.2.2.1 2]; exact y2
      · rw [no c h4 h15] at hj
        rw [old c j hj, z5]; exact y3 j hj
      · rw [no c h4 h15, z1, z2, N2]; exact y5
    refine ⟨go 0 2 (by decide) (by decide) (by decide) l1, go 1 3 (by decide) (by decide) (by decide) l2, go 2 1 (by decide) (by decide) (by decide) l3, fun l l' hl hl' hk he => l4 l l' hl hl' ?_ he⟩
    have hel : e l < sz h := by
      match l, hl with
      | 0, _ => exact l1.2.2.2.1
      | 1, _ => exact l2.2.2.2.1
      | 2, _ => exact l3.2.2.2.1
    rw [← (N3 (e l) hel).1]; exact hk
  · have cse : cs (sFr h1 907 ax (some (sz h))) = cs h := N2
    refine ⟨?_, ?_, ?_, fun i hi => ?_⟩
    · rw [cse, kdo _ c3]; exact c1
    · rw [cse]; exact ((N3 _ c3).2.1).trans c2
    · rw [cse]; show cs h 0 < sz h1; omega
    · obtain ⟨d1, d2, d3, v, d4, d5, d6, d7, d8⟩ := c4 i hi
      rw [cse]
      refine ⟨by show _ < sz h1; omega, by rw [kdo _ d1]; exact d2, ((N3 _ d1).2.2.2.2.2.1 35001).trans d3, v, by rw [fro _ _ d1 (by decide)]; exact d4, by show _ < sz h1; omega, by rw [kdo _ d5]; exact d6, ((N3 _ d5).2.1).trans d7, fun j hj => ?_⟩
      have := d8 j hj
      unfold cA at this ⊢
      rw [kdo _ d5]
      show (if kd h v = 303 then ai h1 v j else 0) = _
      rw [(N3 v d5).2.2.1]; exact this
theorem cf_text {h h1 : HS} (hS : SXA ax ao ad n e pO fO h) (hN : NEW h h1) {g : Nat} (hg : g / 100 ≠ 4) (hg15 : g / 100 ≠ 15) : cf (adX (tgT (sz h)) n ad) (nX (tgT (sz h)) n) (sFr h1 907 ax (some (sz h))) g = cf ad n h g := by
  funext i
  unfold cf
  rw [nX_none (tgT_none hg hg15)]
  by_cases hi : i < n (g / 100)
  · rw [if_pos hi, if_pos hi, adX_old hi]
    exact (hN.2.2 _ (hS.2.2.1 _ i hi).2).2.2.2.2.2.1 g
  · rw [if_neg hi, if_neg hi]
theorem cf_text4 {h h1 : HS} (hS : SXA ax ao ad n e pO fO h) (hN : NEW h h1) : cf (adX (tgT (sz h)) n ad) (nX (tgT (sz h)) n) (sFr h1 907 ax (some (sz h))) 401 = va_up (cf ad n h 401) (n 4) (fi h1 401 (sz h)) := by
  funext i
  have n4' : nX (tgT (sz h)) n 4 = n 4 + 1 := nX_some (a := sz h) rfl
  show (if i < nX (tgT (sz h)) n 4 then fi h1 401 (adX (tgT (sz h)) n ad 4 i) else 0) = _
  rw [n4']
  by_cases hi : i < n 4
  · rw [if_pos (by omega), adX_old hi, va_upN _ _ (by omega), (hN.2.2 _ (hS.2.2.1 4 i hi).2).2.2.2.2.2.1 401]
    exact cf_at (g := 401) (n := n) (t := 4) (by decide) hi
  · by_cases hi2 : i = n 4
    · rw [if_pos (by omega), hi2, adX_new (show tgT (sz h) 4 = some (sz h) from rfl), va_up_same]
    · rw [if_neg (by omega), va_upN _ _ hi2]
      show _ = (if i < n 4 then _ else _)
      rw [if_neg hi]
theorem cv_text {h h1 : HS} (hS : SXA ax ao ad n e pO fO h) (hN : NEW h h1) {t : Nat} (h4 : t ≠ 4) (h15 : t ≠ 15) : cv (adX (tgT (sz h)) n ad) (nX (tgT (sz h)) n) (sFr h1 907 ax (some (sz h))) t = cv ad n h t := by
  funext i j
  unfold cv
  rw [nX_none (tgT_none h4 h15)]
  by_cases hi : i < n t
  · rw [if_pos hi, if_pos hi, adX_old hi]
    show ai h1 (ad t i) j = _
    rw [(hN.2.2 _ (hS.2.2.1 t i hi).2).2.2.1]
  · rw [if_neg hi, if_neg hi]
theorem cv_text15 {h h1 : HS} (hS : SXA ax ao ad n e pO fO h) (hN : NEW h h1) (j : Nat) : (∀ i, i < n 4 → cv (adX (tgT (sz h)) n ad) (nX (tgT (sz h)) n) (sFr h1 907 ax (some (sz h))) 15 i j = cv ad n h 15 i j) ∧ cv (adX (tgT (sz h)) n ad) (nX (tgT (sz h)) n) (sFr h1 907 ax (some (sz h))) 15 (n 4) j = ai h1 (sz h + 1) j := by
  have a15 : n 15 = n 4 := (nSX hS).2.2.2.2.2.2.2.2.2.2.1
  have n15' : nX (tgT (sz h)) n 15 = n 15 + 1 := nX_some (a := sz h + 1) rfl
  refine ⟨fun i hi => ?_, ?_⟩
  · unfold cv
    rw [n15', if_pos (by omega), if_pos (by omega), adX_old (by omega)]
    show ai h1 (ad 15 i) j = _
    rw [(hN.2.2 _ (hS.2.2.1 15 i (by omega)).2).2.2.1]
  · unfold cv
    rw [n15', if_pos (by omega), ← a15, adX_new (show tgT (sz h) 15 = some (sz h + 1) from rfl)]; rfl
end RTX
