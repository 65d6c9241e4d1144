/-! a new feature -/
def Wi (a b c : Int32) : Prop := ¬ a < b ∧ ¬ c < a
theorem wi_pos {a b c : Int32} (h : Wi a b c) : (if a < b then (0 : Int32) else if c < a then 0 else 1) = 1 := by rw [if_neg h.1, if_neg h.2]
theorem wi_neg {a b c : Int32} (h : ¬ Wi a b c) : (if a < b then (0 : Int32) else if c < a then 0 else 1) = 0 := by
  by_cases h1 : a < b
  · rw [if_pos h1]
  · by_cases h2 : c < a
    · rw [if_neg h1, if_pos h2]
    · exact absurd ⟨h1, h2⟩ h
theorem fr_sFrU (h : HS) (g a : Nat) (x : Option Nat) : fr (sFr h g a x) = up2 (fr h) g a x := rfl
theorem ai_sFr (h : HS) (a i : Nat) (x : Option Nat) : ai (sFr h a i x) = ai h := rfl
theorem al_sFr (h : HS) (a i : Nat) (x : Option Nat) : al (sFr h a i x) = al h := rfl
section FEAT
variable {ax ao am : Nat} {ad : Nat → Nat → Nat} {n e pO fO q tm : Nat → Nat} {tx : Nat → List (Int32 × List Int32)} {w : Nat} {pn : Nat → Nat} {nw : Nat → Nat → Nat} {fs : Nat → Nat} {ls : Nat → Option Nat} {rs rl pr : Nat → Nat} {tl : Nat} {hx hm : HS}
def hF1 (hx : HS) (v1 v2 v3 v4 v5 v6 : Int32) : HS := sAi (sAi (sAi (sFi (sFi (sFi (sFi (sFi (sFi (sFi (sFi (sFr (nA (nO hx 2) 201 3) 203 (sz hx) (some (sz hx + 1))) 204 (sz hx) 0) 205 (sz hx) 0) 206 (sz hx) 0) 207 (sz hx) 0) 208 (sz hx) 0) 200 (sz hx) v1) 201 (sz hx) v2) 202 (sz hx) v3) (sz hx + 1) 0 v4) (sz hx + 1) 1 v5) (sz hx + 1) 2 v6
theorem NEW_sFi {h : HS} {g S : Nat} {x : Int32} (hS : sz hx ≤ S) (hN : NEW hx h) : NEW hx (sFi h g S x) := by
  obtain ⟨n1, n2, n3⟩ := hN
  refine ⟨n1, n2, fun a ha => ?_⟩
  obtain ⟨a1, a2, a3, a4, a5, a6, a7⟩ := n3 a ha
  exact ⟨a1, a2, a3, a4, a5, fun g' => by rw [fi_sFi, up2_ne2 _ _ _ _ (by omega)]; exact a6 g', a7⟩
theorem NEW_sFr {h : HS} {g S : Nat} {x : Option Nat} (hS : sz hx ≤ S) (hN : NEW hx h) : NEW hx (sFr h g S x) := by
  obtain ⟨n1, n2, n3⟩ := hN
  refine ⟨n1, n2, fun a ha => ?_⟩
  obtain ⟨a1, a2, a3, a4, a5, a6, a7⟩ := n3 a ha
  exact ⟨a1, a2, a3, a4, a5, a6, fun g' => by rw [fr_sFrU, up2_ne2 _ _ _ _ (by omega)]; exact a7 g'⟩
theorem NEW_sAi {h : HS} {S j : Nat} {x : Int32} (hS : sz hx ≤ S) (hN : NEW hx h) : NEW hx (sAi h S j x) := by
  obtain ⟨n1, n2, n3⟩ := hN
  refine ⟨n1, n2, fun a ha => ?_⟩
  obtain ⟨a1, a2, a3, a4, a5, a6, a7⟩ := n3 a ha
  exact ⟨a1, a2, by funext i; rw [ai_sAi, up2_ne1 _ _ _ _ (by omega)]; exact congrFun a3 i, a4, a5, a6, a7⟩
theorem NEW_nO {c : Nat} : NEW hx (nO hx c) := by
  refine ⟨Nat.le_succ _, rfl, fun a ha => ⟨va_upN _ _ (by omega), rfl, rfl, rfl, rfl, fun g => if_neg (by omega), fun g => if_neg (by omega)⟩⟩
theorem NEW_nA {h : HS} {k m : Nat} (hN : NEW hx h) : NEW hx (nA h k m) := by
  obtain ⟨n1, n2, n3⟩ := hN
  refine ⟨Nat.le_succ_of_le n1, n2, fun a ha => ?_⟩
  obtain ⟨a1, a2, a3, a4, a5, a6, a7⟩ := n3 a ha
  exact ⟨(va_upN _ _ (by omega)).trans a1, (va_upN _ _ (by omega)).trans a2, (va_upN _ _ (by omega)).trans a3, (va_upN _ _ (by omega)).trans a4, (va_upN _ _ (by omega)).trans a5, a6, a7⟩
theorem e_initF1 (v1 v2 v3 v4 v5 v6 : Int32) : NEW hx (hF1 hx v1 v2 v3 v4 v5 v6) := by
  unfold hF1
  have z1 : sz hx ≤ sz hx := Nat.le_refl _
  have z2 : sz hx ≤ sz hx + 1 := Nat.le_succ _
  exact NEW_sAi z2 (NEW_sAi z2 (NEW_sAi z2 (NEW_sFi z1 (NEW_sFi z1 (NEW_sFi z1 (NEW_sFi z1 (NEW_sFi z1 (NEW_sFi z1 (NEW_sFi z1 (NEW_sFi z1 (NEW_sFr z1 (NEW_nA NEW_nO))))))))))))
theorem e_initF2 (v1 v2 v3 v4 v5 v6 : Int32) : kd (hF1 hx v1 v2 v3 v4 v5 v6) (sz hx) = 3 ∧ kd (hF1 hx v1 v2 v3 v4 v5 v6) (sz hx + 1) = 201 ∧ ln (hF1 hx v1 v2 v3 v4 v5 v6) (sz hx + 1) = 3 ∧ sz (hF1 hx v1 v2 v3 v4 v5 v6) = sz hx + 2 ∧ fr (hF1 hx v1 v2 v3 v4 v5 v6) 203 (sz hx) = some (sz hx + 1) := by
  have kS : kd (nA (nO hx 2) 201 3) (sz hx) = 3 := by
    show va_up (va_up (kd hx) (sz hx) 3) (sz hx + 1) 201 (sz hx) = 3
    rw [va_upN _ _ (by omega), va_up_same]
  have kB : kd (nA (nO hx 2) 201 3) (sz hx + 1) = 201 := va_up_same _ _ _
  have lB : ln (nA (nO hx 2) 201 3) (sz hx + 1) = 3 := va_up_same _ _ _
  unfold hF1
  refine ⟨kS, kB, lB, rfl, ?_⟩
  rw [fr_sAi, fr_sAi, fr_sAi, fr_sFi, fr_sFi, fr_sFi, fr_sFi, fr_sFi, fr_sFi, fr_sFi, fr_sFi, fr_sFrU, up2_same]
theorem e_initF3 (v1 v2 v3 v4 v5 v6 : Int32) : fi (hF1 hx v1 v2 v3 v4 v5 v6) 200 (sz hx) = v1 ∧ fi (hF1 hx v1 v2 v3 v4 v5 v6) 201 (sz hx) = v2 ∧ fi (hF1 hx v1 v2 v3 v4 v5 v6) 202 (sz hx) = v3 ∧ fi (hF1 hx v1 v2 v3 v4 v5 v6) 204 (sz hx) = 0 ∧ fi (hF1 hx v1 v2 v3 v4 v5 v6) 205 (sz hx) = 0 ∧ fi (hF1 hx v1 v2 v3 v4 v5 v6) 206 (sz hx) = 0 ∧ fi (hF1 hx v1 v2 v3 v4 v5 v6) 207 (sz hx) = 0 ∧ fi (hF1 hx v1 v2 v3 v4 v5 v6) 208 (sz hx) = 0 := by
  have e : ∀ g, fi (hF1 hx v1 v2 v3 v4 v5 v6) g (sz hx) = if g = 202 then v3 else if g = 201 then v2 else if g = 200 then v1 else if g = 208 then 0 else if g = 207 then 0 else if g = 206 then 0 else if g = 205 then 0 else if g = 204 then 0 else fi (nA (nO hx 2) 201 3) g (sz hx) := by
    intro g
    unfold hF1
    rw [fi_sAi, fi_sAi, fi_sAi, fi_sFi, fi_sFi, fi_sFi, fi_sFi, fi_sFi, fi_sFi, fi_sFi, fi_sFi, fi_sFr]
    simp only [up2, and_true]
  refine ⟨?_, ?_, ?_, ?_, ?_, ?_, ?_, ?_⟩ <;> (rw [e]; simp)
theorem e_initF4 (v1 v2 v3 v4 v5 v6 : Int32) : ai (hF1 hx v1 v2 v3 v4 v5 v6) (sz hx + 1) 0 = v4 ∧ ai (hF1 hx v1 v2 v3 v4 v5 v6) (sz hx + 1) 1 = v5 ∧ ai (hF1 hx v1 v2 v3 v4 v5 v6) (sz hx + 1) 2 = v6 := by
  unfold hF1
  rw [ai_sAi, ai_sAi, ai_sAi]
  refine ⟨?_, ?_, ?_⟩
  · rw [up2_ne2 _ _ _ _ (by decide), up2_ne2 _ _ _ _ (by decide), up2_same]
  · rw [up2_ne2 _ _ _ _ (by decide), up2_same]
  · rw [up2_same]
section BIND
variable {β : Type} {h : HS} {a c k : Nat}
theorem pI_b {x : Int32} {f : HS → Option β} (hk : kd h a = c + 1) : (pI h (some a) c k x).bind f = f (sFi h (100 * c + k) a x) := by simp only [pI, hk, if_true, Option.bind_some]
theorem pB_b {x : Int32} {f : HS → Option β} (hk : kd h a = c + 1) (hx : x = 0 ∨ x = 1) : (pB h (some a) c k x).bind f = f (sFi h (100 * c + k) a x) := by simp only [pB, pI, hk, if_true, Option.bind_some, if_pos hx]
theorem pR_b {x : Option Nat} {f : HS → Option β} (hk : kd h a = c + 1) : (pR h (some a) c k x).bind f = f (sFr h (100 * c + k) a x) := by simp only [pR, hk, if_true, Option.bind_some]
theorem gR_b {f : Option Nat → Option β} (hk : kd h a = c + 1) : (gR h (some a) c k).bind f = f (fr h (100 * c + k) a) := by simp only [gR, hk, if_true, Option.bind_some]
theorem gI_b {f : Int32 → Option β} (hk : kd h a = c + 1) : (gI h (some a) c k).bind f = f (fi h (100 * c + k) a) := by simp only [gI, hk, if_true, Option.bind_some]
theorem yI_b {kk : Nat} {i x : Int32} {f : HS → Option β} (hk : kd h a = kk) (hi : inB i (ln h a) = true) : (yI kk h (some a) i x).bind f = f (sAi h a i.toNatClampNeg (vp_nar (tyK kk) x)) := by simp only [yI, hk, hi, and_self, if_true, Option.bind_some]
theorem nwA_b {cap : Nat} {i : Int32} {f : Option Nat × HS → Option β} (hi : inB i (cap + 1) = true) : (nwA cap h k i).bind f = f (some (sz h), nA h k i.toNatClampNeg) := by simp only [nwA, hi, if_true, Option.bind_some]
end BIND
theorem e_initF5 (v1 v2 v3 v4 v5 v6 : Int32) : m_X1_init (sz hx) v1 v2 v3 v4 v5 v6 (nO hx 2) = some (hF1 hx v1 v2 v3 v4 v5 v6) := by
  have kS : kd (nA (nO hx 2) 201 3) (sz hx) = 3 := by
    show va_up (va_up (kd hx) (sz hx) 3) (sz hx + 1) 201 (sz hx) = 3
    rw [va_upN _ _ (by omega), va_up_same]
  have kB : kd (nA (nO hx 2) 201 3) (sz hx + 1) = 201 := va_up_same _ _ _
  have lB : ln (nA (nO hx 2) 201 3) (sz hx + 1) = 3 := va_up_same _ _ _
  have i0 : inB (0 : Int32) 3 = true := by decide
  have i1 : inB (1 : Int32) 3 = true := by decide
  have i2 : inB (2 : Int32) 3 = true := by decide
  have c3 : (3 : Int32).toNatClampNeg = 3 := by decide
  have z1 : sz (nO hx 2) = sz hx + 1 := rfl
  unfold m_X1_init hF1
  rw [nwA_b (by decide)]
  rw [c3, z1]
  rw [pR_b kS, pB_b, pI_b, pI_b, pB_b, pI_b, pI_b, pI_b, pI_b, gR_b]
  · have hfr : ∀ h : HS, fr h = up2 (fr (nA (nO hx 2) 201 3)) 203 (sz hx) (some (sz hx + 1)) → fr h 203 (sz hx) = some (sz hx + 1) := fun h hh => by rw [hh, up2_same]
    rw [hfr _ rfl, yI_b, gR_b, hfr _ rfl, yI_b, gR_b, hfr _ rfl, yI_b]
    · rfl
    · exact kB
    · exact lB.symm ▸ i2
    · exact kS
    · exact kB
    · exact lB.symm ▸ i1
    · exact kS
    · exact kB
    · exact lB.symm ▸ i0
  all_goals first
    | exact kS
    | exact Or.inl rfl
theorem e_feature_bad (hS : SXA ax ao ad n e pO fO hx) {a b c d f : Int32} (hbad : ¬ (Wi a 0 3 ∧ Wi b 0 500 ∧ Wi c 0 100 ∧ Wi d 0 100 ∧ Wi f 0 100 ∧ ¬ c + d + f = 0 ∧ n 2 < 10)) : m_X8_feature ax a b c d f hx = some (-1, hx) := by
  have hka := kax hS
  have hn := n_le hS
  obtain ⟨hL, hr, hk⟩ := lfs hS
  by_cases h1 : Wi c 0 100
  · by_cases h2 : Wi d 0 100
    · by_cases h3 : Wi f 0 100
      · by_cases h4 : c + d + f = 0
        · simp only [m_X8_feature, X8_feature_b36, X8_feature_b37, e_within, wi_pos h1, wi_pos h2, wi_pos h3, h4, aN, kA201, kA202, kA203, kA206, kA306, i1n0, i0n1, i0e0, i1e1, gI, gR, pI, pB, pR, xI, xL, yI, yL, vc, kd_sFi, fr_sFi, ln_sFi, ai_sFi, al_sFi, ar_sFi, cs_sFi, sz_sFi, sz_sAi, kd_sAi, fi_sAi, fr_sAi, ln_sAi, al_sAi, ar_sAi, cs_sAi, kd_wz, fi_wz, fr_wz, ln_wz, ai_wz, al_wz, ar_wz, Option.bind_some, if_true, if_false, Nat.reduceAdd, Nat.reduceMul, reduceIte, and_self, true_and, and_true]
        · by_cases h5 : Wi a 0 3
          · by_cases h6 : Wi b 0 500
            · have h7 : n 2 = 10 := by
                by_cases h8 : n 2 < 10
                · exact absurd ⟨h5, h6, h1, h2, h3, h4, h8⟩ hbad
                · omega
              have h9 : ¬ nI (n 2) < 10 := by rw [h7]; decide
              simp only [m_X8_feature, X8_feature_b36, X8_feature_b37, e_within, wi_pos h1, wi_pos h2, wi_pos h3, h4, wi_pos h5, wi_pos h6, aN, kA201, kA202, kA203, kA206, kA306, i1n0, i0n1, i0e0, i1e1, gI, gR, pI, pB, pR, xI, xL, yI, yL, vc, kd_sFi, fr_sFi, ln_sFi, ai_sFi, al_sFi, ar_sFi, cs_sFi, sz_sFi, sz_sAi, kd_sAi, fi_sAi, fr_sAi, ln_sAi, al_sAi, ar_sAi, cs_sAi, kd_wz, fi_wz, fr_wz, ln_wz, ai_wz, al_wz, ar_wz, Option.bind_some, if_true, if_false, Nat.reduceAdd, Nat.reduceMul, reduceIte, and_self, true_and, and_true, hka, hr, hk, Nat.zero_add, e_size hk hL, h9]
            · simp only [m_X8_feature, X8_feature_b36, X8_feature_b37, e_within, wi_pos h1, wi_pos h2, wi_pos h3, h4, wi_pos h5, wi_neg h6, aN, kA201, kA202, kA203, kA206, kA306, i1n0, i0n1, i0e0, i1e1, gI, gR, pI, pB, pR, xI, xL, yI, yL, vc, kd_sFi, fr_sFi, ln_sFi, ai_sFi, al_sFi, ar_sFi, cs_sFi, sz_sFi, sz_sAi, kd_sAi, fi_sAi, fr_sAi, ln_sAi, al_sAi, ar_sAi, cs_sAi, kd_wz, fi_wz, fr_wz, ln_wz, ai_wz, al_wz, ar_wz, Option.bind_some, if_true, if_false, Nat.reduceAdd, Nat.reduceMul, reduceIte, and_self, true_and, and_true]
          · simp only [m_X8_feature, X8_feature_b36, X8_feature_b37, e_within, wi_pos h1, wi_pos h2, wi_pos h3, h4, wi_neg h5, aN, kA201, kA202, kA203, kA206, kA306, i1n0, i0n1, i0e0, i1e1, gI, gR, pI, pB, pR, xI, xL, yI, yL, vc, kd_sFi, fr_sFi, ln_sFi, ai_sFi, al_sFi, ar_sFi, cs_sFi, sz_sFi, sz_sAi, kd_sAi, fi_sAi, fr_sAi, ln_sAi, al_sAi, ar_sAi, cs_sAi, kd_wz, fi_wz, fr_wz, ln_wz, ai_wz, al_wz, ar_wz, Option.bind_some, if_true, if_false, Nat.reduceAdd, Nat.reduceMul, reduceIte, and_self, true_and, and_true]
      · simp only [m_X8_feature, X8_feature_b36, X8_feature_b37, e_within, wi_pos h1, wi_pos h2, wi_neg h3, aN, kA201, kA202, kA203, kA206, kA306, i1n0, i0n1, i0e0, i1e1, gI, gR, pI, pB, pR, xI, xL, yI, yL, vc, kd_sFi, fr_sFi, ln_sFi, ai_sFi, al_sFi, ar_sFi, cs_sFi, sz_sFi, sz_sAi, kd_sAi, fi_sAi, fr_sAi, ln_sAi, al_sAi, ar_sAi, cs_sAi, kd_wz, fi_wz, fr_wz, ln_wz, ai_wz, al_wz, ar_wz, Option.bind_some, if_true, if_false, Nat.reduceAdd, Nat.reduceMul, reduceIte, and_self, true_and, and_true]
    · simp only [m_X8_feature, X8_feature_b36, X8_feature_b37, e_within, wi_pos h1, wi_neg h2, aN, kA201, kA202, kA203, kA206, kA306, i1n0, i0n1, i0e0, i1e1, gI, gR, pI, pB, pR, xI, xL, yI, yL, vc, kd_sFi, fr_sFi, ln_sFi, ai_sFi, al_sFi, ar_sFi, cs_sFi, sz_sFi, sz_sAi, kd_sAi, fi_sAi, fr_sAi, ln_sAi, al_sAi, ar_sAi, cs_sAi, kd_wz, fi_wz, fr_wz, ln_wz, ai_wz, al_wz, ar_wz, Option.bind_some, if_true, if_false, Nat.reduceAdd, Nat.reduceMul, reduceIte, and_self, true_and, and_true]
  · simp only [m_X8_feature, X8_feature_b36, X8_feature_b37, e_within, wi_neg h1, aN, kA201, kA202, kA203, kA206, kA306, i1n0, i0n1, i0e0, i1e1, gI, gR, pI, pB, pR, xI, xL, yI, yL, vc, kd_sFi, fr_sFi, ln_sFi, ai_sFi, al_sFi, ar_sFi, cs_sFi, sz_sFi, sz_sAi, kd_sAi, fi_sAi, fr_sAi, ln_sAi, al_sAi, ar_sAi, cs_sAi, kd_wz, fi_wz, fr_wz, ln_wz, ai_wz, al_wz, ar_wz, Option.bind_some, if_true, if_false, Nat.reduceAdd, Nat.reduceMul, reduceIte, and_self, true_and, and_true]
theorem e_feature9_bad {h : HS} (hM : SMA q am h) (h25 : mf am h 25 = nI (n 2)) (hn2 : n 2 ≤ 10) {a b c d f : Int32} (hbad : ¬ (Wi a 0 3 ∧ Wi b 0 500 ∧ Wi c 0 100 ∧ Wi d 0 100 ∧ Wi f 0 100 ∧ ¬ c + d + f = 0 ∧ n 2 < 10)) : m_X9_feature am a b c d f h = some (-1, sFi h 1000 am 0) := by
  have hkm : kd h am = 11 := hM.1
  have i25 : fi (sFi h 1000 am 0) 1025 am = nI (n 2) := h25
  by_cases h5 : Wi a 0 3
  · by_cases h6 : Wi b 0 500
    · by_cases h1 : Wi c 0 100
      · by_cases h2 : Wi d 0 100
        · by_cases h3 : Wi f 0 100
          · by_cases h4 : c + d + f = 0
            · simp only [m_X9_feature, e_within9, wi_pos h1, wi_pos h2, wi_pos h3, h4, wi_pos h5, wi_pos h6, aN, kA201, kA202, kA203, kA206, kA306, i1n0, i0n1, i0e0, i1e1, gI, gR, pI, pB, pR, xI, xL, yI, yL, vc, kd_sFi, fr_sFi, ln_sFi, ai_sFi, al_sFi, ar_sFi, cs_sFi, sz_sFi, sz_sAi, kd_sAi, fi_sAi, fr_sAi, ln_sAi, al_sAi, ar_sAi, cs_sAi, kd_wz, fi_wz, fr_wz, ln_wz, ai_wz, al_wz, ar_wz, Option.bind_some, if_true, if_false, Nat.reduceAdd, Nat.reduceMul, reduceIte, and_self, true_and, and_true, hkm]
            · have h7 : n 2 = 10 := by
                by_cases h8 : n 2 < 10
                · exact absurd ⟨h5, h6, h1, h2, h3, h4, h8⟩ hbad
                · omega
              have h9 : nI (n 2) = 10 := by rw [h7]; rfl
              simp only [m_X9_feature, e_within9, wi_pos h1, wi_pos h2, wi_pos h3, h4, wi_pos h5, wi_pos h6, aN, kA201, kA202, kA203, kA206, kA306, i1n0, i0n1, i0e0, i1e1, gI, gR, pI, pB, pR, xI, xL, yI, yL, vc, kd_sFi, fr_sFi, ln_sFi, ai_sFi, al_sFi, ar_sFi, cs_sFi, sz_sFi, sz_sAi, kd_sAi, fi_sAi, fr_sAi, ln_sAi, al_sAi, ar_sAi, cs_sAi, kd_wz, fi_wz, fr_wz, ln_wz, ai_wz, al_wz, ar_wz, Option.bind_some, if_true, if_false, Nat.reduceAdd, Nat.reduceMul, reduceIte, and_self, true_and, and_true, hkm, i25, h9]
          · simp only [m_X9_feature, e_within9, wi_pos h1, wi_pos h2, wi_neg h3, wi_pos h5, wi_pos h6, aN, kA201, kA202, kA203, kA206, kA306, i1n0, i0n1, i0e0, i1e1, gI, gR, pI, pB, pR, xI, xL, yI, yL, vc, kd_sFi, fr_sFi, ln_sFi, ai_sFi, al_sFi, ar_sFi, cs_sFi, sz_sFi, sz_sAi, kd_sAi, fi_sAi, fr_sAi, ln_sAi, al_sAi, ar_sAi, cs_sAi, kd_wz, fi_wz, fr_wz, ln_wz, ai_wz, al_wz, ar_wz, Option.bind_some, if_true, if_false, Nat.reduceAdd, Nat.reduceMul, reduceIte, and_self, true_and, and_true, hkm]
        · simp only [m_X9_feature, e_within9, wi_pos h1, wi_neg h2, wi_pos h5, wi_pos h6, aN, kA201, kA202, kA203, kA206, kA306, i1n0, i0n1, i0e0, i1e1, gI, gR, pI, pB, pR, xI, xL, yI, yL, vc, kd_sFi, fr_sFi, ln_sFi, ai_sFi, al_sFi, ar_sFi, cs_sFi, sz_sFi, sz_sAi, kd_sAi, fi_sAi, fr_sAi, ln_sAi, al_sAi, ar_sAi, cs_sAi, kd_wz, fi_wz, fr_wz, ln_wz, ai_wz, al_wz, ar_wz, Option.bind_some, if_true, if_false, Nat.reduceAdd, Nat.reduceMul, reduceIte, and_self, true_and, and_true, hkm]
      · simp only [m_X9_feature, e_within9, wi_neg h1, wi_pos h5, wi_pos h6, aN, kA201, kA202, kA203, kA206, kA306, i1n0, i0n1, i0e0, i1e1, gI, gR, pI, pB, pR, xI, xL, yI, yL, vc, kd_sFi, fr_sFi, ln_sFi, ai_sFi, al_sFi, ar_sFi, cs_sFi, sz_sFi, sz_sAi, kd_sAi, fi_sAi, fr_sAi, ln_sAi, al_sAi, ar_sAi, cs_sAi, kd_wz, fi_wz, fr_wz, ln_wz, ai_wz, al_wz, ar_wz, Option.bind_some, if_true, if_false, Nat.reduceAdd, Nat.reduceMul, reduceIte, and_self, true_and, and_true, hkm]
    · simp only [m_X9_feature, e_within9, wi_pos h5, wi_neg h6, aN, kA201, kA202, kA203, kA206, kA306, i1n0, i0n1, i0e0, i1e1, gI, gR, pI, pB, pR, xI, xL, yI, yL, vc, kd_sFi, fr_sFi, ln_sFi, ai_sFi, al_sFi, ar_sFi, cs_sFi, sz_sFi, sz_sAi, kd_sAi, fi_sAi, fr_sAi, ln_sAi, al_sAi, ar_sAi, cs_sAi, kd_wz, fi_wz, fr_wz, ln_wz, ai_wz, al_wz, ar_wz, Option.bind_some, if_true, if_false, Nat.reduceAdd, Nat.reduceMul, reduceIte, and_self, true_and, and_true, hkm]
  · simp only [m_X9_feature, e_within9, wi_neg h5, aN, kA201, kA202, kA203, kA206, kA306, i1n0, i0n1, i0e0, i1e1, gI, gR, pI, pB, pR, xI, xL, yI, yL, vc, kd_sFi, fr_sFi, ln_sFi, ai_sFi, al_sFi, ar_sFi, cs_sFi, sz_sFi, sz_sAi, kd_sAi, fi_sAi, fr_sAi, ln_sAi, al_sAi, ar_sAi, cs_sAi, kd_wz, fi_wz, fr_wz, ln_wz, ai_wz, al_wz, ar_wz, Option.bind_some, if_true, if_false, Nat.reduceAdd, Nat.reduceMul, reduceIte, and_self, true_and, and_true, hkm]
end FEAT
