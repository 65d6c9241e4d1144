section WHY
variable {ax ao am : Nat} {ad : Nat → Nat → Nat} {n e pO fO q tm : Nat → Nat} {tx : Nat → List (Int32 × List Int32)} {w : Nat} {pn : Nat → Nat} {nw : Nat → Nat → Nat} {fs : Nat → Nat} {ls : Nat → Option Nat} {rs rl pr : Nat → Nat} {tl : Nat} {hx hm : HS}
/-- what of the reference's contract c 'why' needs -/
def WyC (q : Nat → Nat) (h : HS) (n pO fO fs : Nat → Nat) (ls : Nat → Option Nat) : Prop := ∀ c, c < n 1 → mv q h 40 c = nI (pO c) ∧ mv q h 41 c = nI (fO c) ∧ pO c < 20 ∧ fO c < 10
theorem why_skip {h : HS} (hM : SMA q am h) (hR : RnC n fs ls (mv q h 42) (mv q h 43)) (hY : WyC q h n pO fO fs ls) (hn : n 1 ≤ 60) (hw : w ≤ 200) (h24 : fi h 1024 am = nI w) (h39 : fi h 1039 am = nI (n 1)) {p f c F : Nat} (hf : f < 10) (hc : c < n 1) (o b : Int32) (hno : ¬ (fO c = f ∧ rn (fs c) (ls c) (w + 1))) : X9_why_L35 am (F + 1) (nI p) (nI f) o b (nI c) h = X9_why_L35 am F (nI p) (nI f) o b (nI (c + 1)) h := by
  have hkm : kd h am = 11 := hM.1
  have r41 : fr h 1041 am = some (q 41) := (hM.2.1 (41, 201, 60) (by decide)).1
  have k41 : kd h (q 41) = 201 := (hM.2.1 (41, 201, 60) (by decide)).2.1
  have l41 : ln h (q 41) = 60 := (hM.2.1 (41, 201, 60) (by decide)).2.2
  have e6 : nI w + 1 = nI (w + 1) := nI_add w 1
  have e7 : nI c + 1 = nI (c + 1) := nI_add c 1
  have e1 : ¬ nI (n 1) ≤ nI c := nI_ge hc (by omega)
  have cl : (nI c).toNatClampNeg = c := nI_cl (N := 60) (by omega) (by omega)
  have ib : inB (nI c) 60 = true := inB_nI (by omega) (by omega)
  obtain ⟨y1, y2, y3, y4⟩ := hY c hc
  have m41 : ai h (q 41) c = nI (fO c) := y2
  obtain ⟨r1, r2, r3, r4⟩ := hR c hc
  have e2 := e_runs9 hM (c := c) (by omega) (u := w + 1) (by omega) r1 r2 r3 r4
  conv => lhs; unfold X9_why_L35
  by_cases hff : fO c = f
  · have h0 : wk1 (fs c) (ls c) (w + 1) = 0 := by
      rcases wk1_or (fs c) (w + 1) (ls c) with h0 | h0
      · exact h0
      · exact absurd ⟨hff, wk1_iff.mp h0⟩ hno
    rw [h0] at e2
    simp only [X9_why_b183, aN, kA201, kA202, kA203, kA206, kA306, i1n0, i0n1, i0e0, i1e1, gI, gR, pI, pB, pR, xI, xL, yI, yL, vc, kd_sFi, fr_sFi, ln_sFi, ai_sFi, al_sFi, ar_sFi, cs_sFi, sz_sFi, sz_sAi, kd_sAi, fi_sAi, fr_sAi, ln_sAi, al_sAi, ar_sAi, cs_sAi, kd_wz, fi_wz, fr_wz, ln_wz, ai_wz, al_wz, ar_wz, Option.bind_some, if_true, if_false, Nat.reduceAdd, Nat.reduceMul, reduceIte, and_self, true_and, and_true, hkm, h39, h24, e1, r41, k41, l41, cl, ib, m41, hff, e6, e2, show (nI 0 = 0) = True from eq_true rfl, e7]
  · have hne : ¬ nI (fO c) = nI f := fun z => hff ((nI_eq (by omega) (by omega)).mp z)
    simp only [X9_why_b183, aN, kA201, kA202, kA203, kA206, kA306, i1n0, i0n1, i0e0, i1e1, gI, gR, pI, pB, pR, xI, xL, yI, yL, vc, kd_sFi, fr_sFi, ln_sFi, ai_sFi, al_sFi, ar_sFi, cs_sFi, sz_sFi, sz_sAi, kd_sAi, fi_sAi, fr_sAi, ln_sAi, al_sAi, ar_sAi, cs_sAi, kd_wz, fi_wz, fr_wz, ln_wz, ai_wz, al_wz, ar_wz, Option.bind_some, if_true, if_false, Nat.reduceAdd, Nat.reduceMul, reduceIte, and_self, true_and, and_true, hkm, h39, e1, r41, k41, l41, cl, ib, m41, hne, e7]
theorem why_hit {h : HS} (hM : SMA q am h) (hR : RnC n fs ls (mv q h 42) (mv q h 43)) (hY : WyC q h n pO fO fs ls) (hn : n 1 ≤ 60) (hw : w ≤ 200) (h24 : fi h 1024 am = nI w) (h39 : fi h 1039 am = nI (n 1)) {p f c F : Nat} (hp : p < 20) (hf : f < 10) (hc : c < n 1) {o b : Nat} (ho : o = 0 ∨ o = 1) (hb : b = 0 ∨ b = 1) (hff : fO c = f) (hrn : rn (fs c) (ls c) (w + 1)) : X9_why_L35 am (F + 1) (nI p) (nI f) (nI o) (nI b) (nI c) h = X9_why_L35 am F (nI p) (nI f) (nI (gp (o = 1 ∨ pO c = p))) (nI (gp (b = 1 ∨ (pO c ≠ p ∧ nrr (mv q h 27 f) (mv q h 35 (pO c)) (mv q h 36 (pO c)) (mv q h 35 p) (mv q h 36 p))))) (nI (c + 1)) h := by
  have hkm : kd h am = 11 := hM.1
  have r41 : fr h 1041 am = some (q 41) := (hM.2.1 (41, 201, 60) (by decide)).1
  have k41 : kd h (q 41) = 201 := (hM.2.1 (41, 201, 60) (by decide)).2.1
  have l41 : ln h (q 41) = 60 := (hM.2.1 (41, 201, 60) (by decide)).2.2
  have r40 : fr h 1040 am = some (q 40) := (hM.2.1 (40, 201, 60) (by decide)).1
  have k40 : kd h (q 40) = 201 := (hM.2.1 (40, 201, 60) (by decide)).2.1
  have l40 : ln h (q 40) = 60 := (hM.2.1 (40, 201, 60) (by decide)).2.2
  have r35 : fr h 1035 am = some (q 35) := (hM.2.1 (35, 201, 20) (by decide)).1
  have k35 : kd h (q 35) = 201 := (hM.2.1 (35, 201, 20) (by decide)).2.1
  have l35 : ln h (q 35) = 20 := (hM.2.1 (35, 201, 20) (by decide)).2.2
  have r36 : fr h 1036 am = some (q 36) := (hM.2.1 (36, 201, 20) (by decide)).1
  have k36 : kd h (q 36) = 201 := (hM.2.1 (36, 201, 20) (by decide)).2.1
  have l36 : ln h (q 36) = 20 := (hM.2.1 (36, 201, 20) (by decide)).2.2
  have r27 : fr h 1027 am = some (q 27) := (hM.2.1 (27, 201, 10) (by decide)).1
  have k27 : kd h (q 27) = 201 := (hM.2.1 (27, 201, 10) (by decide)).2.1
  have l27 : ln h (q 27) = 10 := (hM.2.1 (27, 201, 10) (by decide)).2.2
  have e6 : nI w + 1 = nI (w + 1) := nI_add w 1
  have e7 : nI c + 1 = nI (c + 1) := nI_add c 1
  have e1 : ¬ nI (n 1) ≤ nI c := nI_ge hc (by omega)
  have cl : (nI c).toNatClampNeg = c := nI_cl (N := 60) (by omega) (by omega)
  have ib : inB (nI c) 60 = true := inB_nI (by omega) (by omega)
  obtain ⟨y1, y2, y3, y4⟩ := hY c hc
  have m41 : ai h (q 41) c = nI f := by rw [← hff]; exact y2
  have m40 : ai h (q 40) c = nI (pO c) := y1
  have clp : (nI p).toNatClampNeg = p := nI_cl hp (by omega)
  have ibp : inB (nI p) 20 = true := inB_nI hp (by omega)
  have clo : (nI (pO c)).toNatClampNeg = pO c := nI_cl y3 (by omega)
  have ibo : inB (nI (pO c)) 20 = true := inB_nI y3 (by omega)
  have clf : (nI f).toNatClampNeg = f := nI_cl hf (by omega)
  have ibf : inB (nI f) 10 = true := inB_nI hf (by omega)
  obtain ⟨r1, r2, r3, r4⟩ := hR c hc
  have e2 := e_runs9 hM (c := c) (by omega) (u := w + 1) (by omega) r1 r2 r3 r4
  rw [wk1_iff.mpr hrn] at e2
  have n10 : (nI 1 = 0) = False := eq_false (by decide)
  have n00 : (nI 0 = 0) = True := eq_true rfl
  have g11 : ∀ x : Prop, gp ((1 : Nat) = 1 ∨ x) = 1 := fun x => gp_pos (Or.inl rfl)
  have one : (1 : Int32) = nI 1 := rfl
  have zero : (0 : Int32) = nI 0 := rfl
  by_cases hpp : pO c = p
  · have q1 : gp (o = 1 ∨ pO c = p) = 1 := gp_pos (Or.inr hpp)
    have q2 : gp (b = 1 ∨ (pO c ≠ p ∧ nrr (mv q h 27 f) (mv q h 35 (pO c)) (mv q h 36 (pO c)) (mv q h 35 p) (mv q h 36 p))) = b := by
      rcases hb with rfl | rfl
      · exact gp_neg (fun z => by rcases z with z | z; cases z; exact z.1 hpp)
      · exact gp_pos (Or.inl rfl)
    rw [q1, q2]
    conv => lhs; unfold X9_why_L35
    rcases ho with rfl | rfl <;> rcases hb with rfl | rfl <;> simp only [X9_why_b127, X9_why_b132, X9_why_b176, X9_why_b180, X9_why_b181, X9_why_b183, aN, kA201, kA202, kA203, kA206, kA306, i1n0, i0n1, i0e0, i1e1, gI, gR, pI, pB, pR, xI, xL, yI, yL, vc, kd_sFi, fr_sFi, ln_sFi, ai_sFi, al_sFi, ar_sFi, cs_sFi, sz_sFi, sz_sAi, kd_sAi, fi_sAi, fr_sAi, ln_sAi, al_sAi, ar_sAi, cs_sAi, kd_wz, fi_wz, fr_wz, ln_wz, ai_wz, al_wz, ar_wz, Option.bind_some, if_true, if_false, Nat.reduceAdd, Nat.reduceMul, reduceIte, and_self, true_and, and_true, hkm, h39, h24, e1, r41, k41, l41, r40, k40, l40, r35, k35, l35, r36, k36, l36, r27, k27, l27, cl, ib, clp, ibp, clf, ibf, m41, m40, e6, e2, n10, n00, hpp, e7] <;> rfl
  · have hne : ¬ nI (pO c) = nI p := fun z => hpp ((nI_eq (by omega) (by omega)).mp z)
    have q1 : gp (o = 1 ∨ pO c = p) = o := by
      rcases ho with rfl | rfl
      · exact gp_neg (fun z => by rcases z with z | z; cases z; exact hpp z)
      · exact gp_pos (Or.inl rfl)
    rw [q1]
    rcases gp_or (nrr (mv q h 27 f) (mv q h 35 (pO c)) (mv q h 36 (pO c)) (mv q h 35 p) (mv q h 36 p)) with ⟨-, g2⟩ | ⟨-, g2⟩
    · have q2 : gp (b = 1 ∨ (pO c ≠ p ∧ nrr (mv q h 27 f) (mv q h 35 (pO c)) (mv q h 36 (pO c)) (mv q h 35 p) (mv q h 36 p))) = b := by
        rcases hb with rfl | rfl
        · exact gp_neg (fun z => by rcases z with z | z; cases z; exact g2 z.2)
        · exact gp_pos (Or.inl rfl)
      rw [q2]
      have hcond : ai h (q 27) f * ai h (q 27) f ≤ (ai h (q 35) (pO c) - ai h (q 35) p) * (ai h (q 35) (pO c) - ai h (q 35) p) + (ai h (q 36) (pO c) - ai h (q 36) p) * (ai h (q 36) (pO c) - ai h (q 36) p) := Classical.not_not.mp g2
      conv => lhs; unfold X9_why_L35
      rcases ho with rfl | rfl <;> rcases hb with rfl | rfl <;> simp only [X9_why_b127, X9_why_b132, X9_why_b176, X9_why_b180, X9_why_b181, X9_why_b183, aN, kA201, kA202, kA203, kA206, kA306, i1n0, i0n1, i0e0, i1e1, gI, gR, pI, pB, pR, xI, xL, yI, yL, vc, kd_sFi, fr_sFi, ln_sFi, ai_sFi, al_sFi, ar_sFi, cs_sFi, sz_sFi, sz_sAi, kd_sAi, fi_sAi, fr_sAi, ln_sAi, al_sAi, ar_sAi, cs_sAi, kd_wz, fi_wz, fr_wz, ln_wz, ai_wz, al_wz, ar_wz, Option.bind_some, if_true, if_false, Nat.reduceAdd, Nat.reduceMul, reduceIte, and_self, true_and, and_true, hkm, h39, h24, e1, r41, k41, l41, r40, k40, l40, r35, k35, l35, r36, k36, l36, r27, k27, l27, cl, ib, clp, ibp, clo, ibo, clf, ibf, m41, m40, e6, e2, n10, n00, hne, hcond, e7] <;> rfl
    · have q2 : gp (b = 1 ∨ (pO c ≠ p ∧ nrr (mv q h 27 f) (mv q h 35 (pO c)) (mv q h 36 (pO c)) (mv q h 35 p) (mv q h 36 p))) = 1 := gp_pos (Or.inr ⟨hpp, g2⟩)
      rw [q2]
      have hcond : ¬ ai h (q 27) f * ai h (q 27) f ≤ (ai h (q 35) (pO c) - ai h (q 35) p) * (ai h (q 35) (pO c) - ai h (q 35) p) + (ai h (q 36) (pO c) - ai h (q 36) p) * (ai h (q 36) (pO c) - ai h (q 36) p) := g2
      conv => lhs; unfold X9_why_L35
      rcases ho with rfl | rfl <;> rcases hb with rfl | rfl <;> simp only [X9_why_b127, X9_why_b132, X9_why_b176, X9_why_b180, X9_why_b181, X9_why_b183, aN, kA201, kA202, kA203, kA206, kA306, i1n0, i0n1, i0e0, i1e1, gI, gR, pI, pB, pR, xI, xL, yI, yL, vc, kd_sFi, fr_sFi, ln_sFi, ai_sFi, al_sFi, ar_sFi, cs_sFi, sz_sFi, sz_sAi, kd_sAi, fi_sAi, fr_sAi, ln_sAi, al_sAi, ar_sAi, cs_sAi, kd_wz, fi_wz, fr_wz, ln_wz, ai_wz, al_wz, ar_wz, Option.bind_some, if_true, if_false, Nat.reduceAdd, Nat.reduceMul, reduceIte, and_self, true_and, and_true, hkm, h39, h24, e1, r41, k41, l41, r40, k40, l40, r35, k35, l35, r36, k36, l36, r27, k27, l27, cl, ib, clp, ibp, clo, ibo, clf, ibf, m41, m40, e6, e2, n10, n00, hne, hcond, e7] <;> rfl
theorem gp01 (p : Prop) : gp p = 0 ∨ gp p = 1 := by rcases gp_or p with h | h; exact Or.inl h.1; exact Or.inr h.1
theorem gp_1 {p : Prop} : gp p = 1 ↔ p := by
  rcases gp_or p with h | h
  · exact ⟨fun z => by rw [h.1] at z; exact absurd z (by decide), fun z => absurd z h.2⟩
  · exact ⟨fun _ => h.2, fun _ => h.1⟩
theorem or_step {A : Nat → Prop} {c N : Nat} {o : Prop} (hc : c < N) : (o ∨ ∃ c', c ≤ c' ∧ c' < N ∧ A c') ↔ ((o ∨ A c) ∨ ∃ c', c + 1 ≤ c' ∧ c' < N ∧ A c') := by
  constructor
  · rintro (z | ⟨c', h1, h2, h3⟩)
    · exact Or.inl (Or.inl z)
    · by_cases hcc : c' = c
      · subst hcc; exact Or.inl (Or.inr h3)
      · exact Or.inr ⟨c', by omega, h2, h3⟩
  · rintro ((z | z) | ⟨c', h1, h2, h3⟩)
    · exact Or.inl z
    · exact Or.inr ⟨c, Nat.le_refl _, hc, z⟩
    · exact Or.inr ⟨c', by omega, h2, h3⟩
theorem e_why {h : HS} (hM : SMA q am h) (hR : RnC n fs ls (mv q h 42) (mv q h 43)) (hY : WyC q h n pO fO fs ls) (hn : n 1 ≤ 60) (hw : w ≤ 200) (h24 : fi h 1024 am = nI w) (h39 : fi h 1039 am = nI (n 1)) {p f : Nat} (hp : p < 20) (hf : f < 10) : ∀ (k c o b : Nat), c + k = n 1 → (o = 0 ∨ o = 1) → (b = 0 ∨ b = 1) → ∀ F, k < F → X9_why_L35 am F (nI p) (nI f) (nI o) (nI b) (nI c) h = X9_why_L35 am 1 (nI p) (nI f) (nI (gp (o = 1 ∨ ∃ c', c ≤ c' ∧ c' < n 1 ∧ (pO c' = p ∧ fO c' = f ∧ rn (fs c') (ls c') (w + 1))))) (nI (gp (b = 1 ∨ ∃ c', c ≤ c' ∧ c' < n 1 ∧ (pO c' ≠ p ∧ fO c' = f ∧ rn (fs c') (ls c') (w + 1) ∧ nrr (mv q h 27 f) (mv q h 35 (pO c')) (mv q h 36 (pO c')) (mv q h 35 p) (mv q h 36 p))))) (nI (n 1)) h := by
  intro k
  induction k with
  | zero =>
    intro c o b hck ho hb F hF
    obtain ⟨F, rfl⟩ := nF1 hF
    have hkm : kd h am = 11 := hM.1
    have hc : c = n 1 := by omega
    subst hc
    have q1 : ∀ A : Nat → Prop, gp (o = 1 ∨ ∃ c', n 1 ≤ c' ∧ c' < n 1 ∧ A c') = o := fun A => by
      rcases ho with rfl | rfl
      · exact gp_neg (fun z => by rcases z with z | ⟨c', h1, h2, _⟩; cases z; omega)
      · exact gp_pos (Or.inl rfl)
    have q2 : ∀ A : Nat → Prop, gp (b = 1 ∨ ∃ c', n 1 ≤ c' ∧ c' < n 1 ∧ A c') = b := fun A => by
      rcases hb with rfl | rfl
      · exact gp_neg (fun z => by rcases z with z | ⟨c', h1, h2, _⟩; cases z; omega)
      · exact gp_pos (Or.inl rfl)
    rw [q1, q2]
    simp only [X9_why_L35, aN, kA201, kA202, kA203, kA206, kA306, i1n0, i0n1, i0e0, i1e1, gI, gR, pI, pB, pR, xI, xL, yI, yL, vc, kd_sFi, fr_sFi, ln_sFi, ai_sFi, al_sFi, ar_sFi, cs_sFi, sz_sFi, sz_sAi, kd_sAi, fi_sAi, fr_sAi, ln_sAi, al_sAi, ar_sAi, cs_sAi, kd_wz, fi_wz, fr_wz, ln_wz, ai_wz, al_wz, ar_wz, Option.bind_some, if_true, if_false, Nat.reduceAdd, Nat.reduceMul, reduceIte, and_self, true_and, and_true, hkm, h39, Int32.le_refl]
  | succ k ih =>
    intro c o b hck ho hb F hF
    obtain ⟨F, rfl⟩ := nF1 hF
    have hc : c < n 1 := by omega
    by_cases hhit : fO c = f ∧ rn (fs c) (ls c) (w + 1)
    · rw [why_hit hM hR hY hn hw h24 h39 hp hf hc ho hb hhit.1 hhit.2, ih (c + 1) _ _ (by omega) (gp01 _) (gp01 _) F (by omega)]
      have c1 : gp (gp (o = 1 ∨ pO c = p) = 1 ∨ ∃ c', c + 1 ≤ c' ∧ c' < n 1 ∧ (pO c' = p ∧ fO c' = f ∧ rn (fs c') (ls c') (w + 1))) = gp (o = 1 ∨ ∃ c', c ≤ c' ∧ c' < n 1 ∧ (pO c' = p ∧ fO c' = f ∧ rn (fs c') (ls c') (w + 1))) := by
        apply gp_congr
        rw [gp_1, or_step (A := fun c' => pO c' = p ∧ fO c' = f ∧ rn (fs c') (ls c') (w + 1)) hc]
        exact ⟨fun z => by rcases z with (z | z) | z; exact Or.inl (Or.inl z); exact Or.inl (Or.inr ⟨z, hhit.1, hhit.2⟩); exact Or.inr z, fun z => by rcases z with (z | z) | z; exact Or.inl (Or.inl z); exact Or.inl (Or.inr z.1); exact Or.inr z⟩
      have c2 : gp (gp (b = 1 ∨ (pO c ≠ p ∧ nrr (mv q h 27 f) (mv q h 35 (pO c)) (mv q h 36 (pO c)) (mv q h 35 p) (mv q h 36 p))) = 1 ∨ ∃ c', c + 1 ≤ c' ∧ c' < n 1 ∧ (pO c' ≠ p ∧ fO c' = f ∧ rn (fs c') (ls c') (w + 1) ∧ nrr (mv q h 27 f) (mv q h 35 (pO c')) (mv q h 36 (pO c')) (mv q h 35 p) (mv q h 36 p))) = gp (b = 1 ∨ ∃ c', c ≤ c' ∧ c' < n 1 ∧ (pO c' ≠ p ∧ fO c' = f ∧ rn (fs c') (ls c') (w + 1) ∧ nrr (mv q h 27 f) (mv q h 35 (pO c')) (mv q h 36 (pO c')) (mv q h 35 p) (mv q h 36 p))) := by
        apply gp_congr
        rw [gp_1, or_step (A := fun c' => pO c' ≠ p ∧ fO c' = f ∧ rn (fs c') (ls c') (w + 1) ∧ nrr (mv q h 27 f) (mv q h 35 (pO c')) (mv q h 36 (pO c')) (mv q h 35 p) (mv q h 36 p)) hc]
        exact ⟨fun z => by rcases z with (z | z) | z; exact Or.inl (Or.inl z); exact Or.inl (Or.inr ⟨z.1, hhit.1, hhit.2, z.2⟩); exact Or.inr z, fun z => by rcases z with (z | z) | z; exact Or.inl (Or.inl z); exact Or.inl (Or.inr ⟨z.1, z.2.2.2⟩); exact Or.inr z⟩
      rw [c1, c2]
    · rw [why_skip hM hR hY hn hw h24 h39 hf hc _ _ hhit, ih (c + 1) o b (by omega) ho hb F (by omega)]
      have c1 : gp (o = 1 ∨ ∃ c', c + 1 ≤ c' ∧ c' < n 1 ∧ (pO c' = p ∧ fO c' = f ∧ rn (fs c') (ls c') (w + 1))) = gp (o = 1 ∨ ∃ c', c ≤ c' ∧ c' < n 1 ∧ (pO c' = p ∧ fO c' = f ∧ rn (fs c') (ls c') (w + 1))) := by
        apply gp_congr
        rw [or_step (A := fun c' => pO c' = p ∧ fO c' = f ∧ rn (fs c') (ls c') (w + 1)) hc]
        exact ⟨fun z => by rcases z with z | z; exact Or.inl (Or.inl z); exact Or.inr z, fun z => by rcases z with (z | z) | z; exact Or.inl z; exact absurd ⟨z.2.1, z.2.2⟩ hhit; exact Or.inr z⟩
      have c2 : gp (b = 1 ∨ ∃ c', c + 1 ≤ c' ∧ c' < n 1 ∧ (pO c' ≠ p ∧ fO c' = f ∧ rn (fs c') (ls c') (w + 1) ∧ nrr (mv q h 27 f) (mv q h 35 (pO c')) (mv q h 36 (pO c')) (mv q h 35 p) (mv q h 36 p))) = gp (b = 1 ∨ ∃ c', c ≤ c' ∧ c' < n 1 ∧ (pO c' ≠ p ∧ fO c' = f ∧ rn (fs c') (ls c') (w + 1) ∧ nrr (mv q h 27 f) (mv q h 35 (pO c')) (mv q h 36 (pO c')) (mv q h 35 p) (mv q h 36 p))) := by
        apply gp_congr
        rw [or_step (A := fun c' => pO c' ≠ p ∧ fO c' = f ∧ rn (fs c') (ls c') (w + 1) ∧ nrr (mv q h 27 f) (mv q h 35 (pO c')) (mv q h 36 (pO c')) (mv q h 35 p) (mv q h 36 p)) hc]
        exact ⟨fun z => by rcases z with z | z; exact Or.inl (Or.inl z); exact Or.inr z, fun z => by rcases z with (z | z) | z; exact Or.inl z; exact absurd ⟨z.2.1, z.2.2.1⟩ hhit; exact Or.inr z⟩
      rw [c1, c2]
end WHY
