/-! the reference's bill -/
section BILL9
variable {ax ao am : Nat} {ad : Nat → Nat → Nat} {n e pO fO q tm : Nat → Nat} {tx : Nat → List (Int32 × List Int32)} {w : Nat} {pn : Nat → Nat} {nw : Nat → Nat → Nat} {fs : Nat → Nat} {ls : Nat → Option Nat} {rs rl pr : Nat → Nat} {tl : Nat} {hx hm : HS}
def FrB (q : Nat → Nat) (h h' : HS) : Prop := SameS h h' ∧ fi h' = fi h ∧ ∀ k, (k ≠ 22 ∧ k ≠ 23) → mv q h' k = mv q h k
theorem FrB.rf (h : HS) : FrB q h h := ⟨SameS.rf h, rfl, fun _ _ => rfl⟩
theorem FrB.tr {a b c : HS} (h1 : FrB q a b) (h2 : FrB q b c) : FrB q a c := ⟨h1.1.tr h2.1, h2.2.1.trans h1.2.1, fun k hk => (h2.2.2 k hk).trans (h1.2.2 k hk)⟩
theorem FrW.b {a b : HS} (h : FrW q a b) : FrB q a b := ⟨h.1, h.2.1, fun k hk => h.2.2 k hk.2⟩
/-- a text as the reference has it -/
def Tx9 (q : Nat → Nat) (h : HS) (t : Nat) (T : List (Int32 × List Int32)) : Prop := t ≤ 20 ∧ (t = 0 → T = []) ∧ (∀ p ∈ T, okE p.2 0) ∧ T.length ≤ 16 ∧ (1 ≤ t → mv q h 12 (t - 1) = nI T.length ∧ ∀ k, k < T.length → mv q h 13 (16 * (t - 1) + k) = (T.getD k (0, [])).1 ∧ ∃ at0, mv q h 14 (16 * (t - 1) + k) = nI at0 ∧ at0 + (T.getD k (0, [])).2.length < 660 ∧ lnAt (mv q h 15) (mv q h 16) (660 * (t - 1) + at0) (T.getD k (0, [])).2)
theorem Tx9.fr {h h' : HS} {t : Nat} {T : List (Int32 × List Int32)} (hT : Tx9 q h t T) (hf : ∀ k, k = 12 ∨ k = 13 ∨ k = 14 ∨ k = 15 ∨ k = 16 → mv q h' k = mv q h k) : Tx9 q h' t T := by
  unfold Tx9
  rw [hf 12 (by decide), hf 13 (by decide), hf 14 (by decide), hf 15 (by decide), hf 16 (by decide)]
  exact hT
theorem bil_z (a b : Int32) : ((((0 : Int32).toInt64 * a.toInt64) * b.toInt64) / 1000).toInt32 = 0 := by
  have h1 : (0 : Int32).toInt64 = 0 := by decide
  have h2 : ((0 : Int64) / 1000).toInt32 = 0 := by decide
  rw [h1, Int64.zero_mul, Int64.zero_mul, h2]
theorem w_bill {T : List (Int32 × List Int32)} {t : Nat} (ht : 1 ≤ t) {fc : Nat → Int32} {u : Nat} (hu : 0 < u) (hu4 : u ≤ 4) (hf4 : fc 4 = nI u) (sold many : Int32) : ∀ (r k : Nat) (h : HS), SMA q am h → Tx9 q h t T → (∀ j, j < 5 → mv q h 22 j = fc j) → k + r = T.length → ∀ F, r < F → ∃ h', X9_billOf_L97 am F (nI (t - 1)) sold many (nI k) h = some ((((rateOf fc (T.drop k)).toInt64 * many.toInt64 * sold.toInt64) / 1000).toInt32, h') ∧ FrB q h h' := by
  intro r
  induction r with
  | zero =>
    intro k h hM hT hk hkr F hF
    obtain ⟨F, rfl⟩ := nF1 hF
    refine ⟨h, ?_, FrB.rf h⟩
    have hkm : kd h am = 11 := hM.1
    have r12 : fr h 1012 am = some (q 12) := (hM.2.1 (12, 201, 21) (by decide)).1
    have k12 : kd h (q 12) = 201 := (hM.2.1 (12, 201, 21) (by decide)).2.1
    have l12 : ln h (q 12) = 21 := (hM.2.1 (12, 201, 21) (by decide)).2.2
    obtain ⟨g1, g2, g3, g4, g5⟩ := hT
    obtain ⟨g6, -⟩ := g5 ht
    have e0 : ¬ nI (t - 1) < 0 := nI_pos (by omega)
    have cl : (nI (t - 1)).toNatClampNeg = t - 1 := nI_cl (N := 21) (by omega) (by omega)
    have ib : inB (nI (t - 1)) 21 = true := inB_nI (by omega) (by omega)
    have m12 : ai h (q 12) (t - 1) = nI T.length := g6
    have e1 : nI T.length ≤ nI k := nI_le (by omega) (by omega)
    have ed : T.drop k = [] := List.drop_eq_nil_of_le (by omega)
    have er : rateOf fc (T.drop k) = 0 := by rw [ed]; rfl
    rw [er, bil_z]
    conv => lhs; unfold X9_billOf_L97
    simp only [aN, kA201, kA202, kA203, kA206, kA306, i1n0, i0n1, i0e0, i1e1, gI, gR, pI, pB, pR, xI, xL, yI, yL, vc, kd_sFi, fr_sFi, ln_sFi, ai_sFi, al_sFi, ar_sFi, cs_sFi, sz_sFi, sz_sAi, kd_sAi, fi_sAi, fr_sAi, ln_sAi, al_sAi, ar_sAi, cs_sAi, kd_wz, fi_wz, fr_wz, ln_wz, ai_wz, al_wz, ar_wz, Option.bind_some, if_true, if_false, Nat.reduceAdd, Nat.reduceMul, reduceIte, and_self, true_and, and_true, hkm, r12, k12, l12, e0, cl, ib, m12, e1]
  | succ r ih =>
    intro k h hM hT hk hkr F hF
    obtain ⟨F, rfl⟩ := nF1 hF
    have hkm : kd h am = 11 := hM.1
    have r12 : fr h 1012 am = some (q 12) := (hM.2.1 (12, 201, 21) (by decide)).1
    have k12 : kd h (q 12) = 201 := (hM.2.1 (12, 201, 21) (by decide)).2.1
    have l12 : ln h (q 12) = 21 := (hM.2.1 (12, 201, 21) (by decide)).2.2
    have r13 : fr h 1013 am = some (q 13) := (hM.2.1 (13, 201, 336) (by decide)).1
    have k13 : kd h (q 13) = 201 := (hM.2.1 (13, 201, 336) (by decide)).2.1
    have l13 : ln h (q 13) = 336 := (hM.2.1 (13, 201, 336) (by decide)).2.2
    have r14 : fr h 1014 am = some (q 14) := (hM.2.1 (14, 201, 336) (by decide)).1
    have k14 : kd h (q 14) = 201 := (hM.2.1 (14, 201, 336) (by decide)).2.1
    have l14 : ln h (q 14) = 336 := (hM.2.1 (14, 201, 336) (by decide)).2.2
    have r22 : fr h 1022 am = some (q 22) := (hM.2.1 (22, 201, 5) (by decide)).1
    have k22 : kd h (q 22) = 201 := (hM.2.1 (22, 201, 5) (by decide)).2.1
    have l22 : ln h (q 22) = 5 := (hM.2.1 (22, 201, 5) (by decide)).2.2
    obtain ⟨g1, g2, g3, g4, g5⟩ := id hT
    obtain ⟨g6, g7⟩ := g5 ht
    have hkT : k < T.length := by omega
    obtain ⟨g8, at0, g9, g10, g11⟩ := g7 k hkT
    have e0 : ¬ nI (t - 1) < 0 := nI_pos (by omega)
    have cl : (nI (t - 1)).toNatClampNeg = t - 1 := nI_cl (N := 21) (by omega) (by omega)
    have ib : inB (nI (t - 1)) 21 = true := inB_nI (by omega) (by omega)
    have m12 : ai h (q 12) (t - 1) = nI T.length := g6
    have e1 : ¬ nI T.length ≤ nI k := nI_ge hkT (by omega)
    have m22 : ai h (q 22) 4 = nI u := (hk 4 (by decide)).trans hf4
    have c4 : (4 : Int32).toNatClampNeg = 4 := by decide
    have b4 : inB 4 5 = true := by decide
    have e2 : ¬ nI u ≤ 0 := nI_ge (a := 0) hu (by omega)
    have e3 : (16 : Int32) * nI (t - 1) + nI k = nI (16 * (t - 1) + k) := by rw [show (16 : Int32) = nI 16 from rfl, nI_mul, nI_add]
    have cl2 : (nI (16 * (t - 1) + k)).toNatClampNeg = 16 * (t - 1) + k := nI_cl (N := 336) (by omega) (by omega)
    have ib2 : inB (nI (16 * (t - 1) + k)) 336 = true := inB_nI (by omega) (by omega)
    have m14 : ai h (q 14) (16 * (t - 1) + k) = nI at0 := g9
    have e4 : (660 : Int32) * nI (t - 1) + nI at0 = nI (660 * (t - 1) + at0) := by rw [show (660 : Int32) = nI 660 from rfl, nI_mul, nI_add]
    have eg : T.getD k (0, []) = T[k] := by rw [List.getD_eq_getElem?_getD, List.getElem?_eq_getElem hkT]; rfl
    have ed : T.drop k = T.getD k (0, []) :: T.drop (k + 1) := by rw [eg]; exact List.drop_eq_getElem_cons hkT
    obtain ⟨⟨rt, es⟩, hp⟩ : ∃ p, T.getD k (0, []) = p := ⟨_, rfl⟩
    rw [hp] at ed g8 g10 g11
    have hok : okE es 0 := g3 (rt, es) (by rw [← hp, eg]; exact List.getElem_mem hkT)
    obtain ⟨h1, x1, x2⟩ := w_eval (fc := fc) es [] (660 * (t - 1) + at0) h hM hok (by simp) trivial hk g11 (by have : at0 + es.length < 660 := g10; omega) (999 - es.length)
    have hfu : 999 - es.length + 1 + es.length = FU := by unfold FU; have : at0 + es.length < 660 := g10; omega
    rw [hfu] at x1
    have hw : m_X9_worth am (nI (660 * (t - 1) + at0)) h = some ((ev fc es []).headD 0, h1) := x1
    have er : rateOf fc (T.drop k) = if (ev fc es []).headD 0 ≠ 0 then rt else rateOf fc (T.drop (k + 1)) := by rw [ed]; rfl
    have e7 : nI k + 1 = nI (k + 1) := nI_add k 1
    by_cases hz : (ev fc es []).headD 0 = 0
    · rw [er, if_neg (fun z => z hz)]
      obtain ⟨h2, y1, y2⟩ := ih (k + 1) h1 (SMA_same x2.1 hM) (hT.fr (fun k hk' => x2.2.2 k (by omega))) (fun j hj => by rw [x2.2.2 22 (by decide)]; exact hk j hj) (by omega) F (by omega)
      refine ⟨h2, ?_, x2.b.tr y2⟩
      rw [← y1]
      conv => lhs; unfold X9_billOf_L97
      simp only [aN, kA201, kA202, kA203, kA206, kA306, i1n0, i0n1, i0e0, i1e1, gI, gR, pI, pB, pR, xI, xL, yI, yL, vc, kd_sFi, fr_sFi, ln_sFi, ai_sFi, al_sFi, ar_sFi, cs_sFi, sz_sFi, sz_sAi, kd_sAi, fi_sAi, fr_sAi, ln_sAi, al_sAi, ar_sAi, cs_sAi, kd_wz, fi_wz, fr_wz, ln_wz, ai_wz, al_wz, ar_wz, Option.bind_some, if_true, if_false, Nat.reduceAdd, Nat.reduceMul, reduceIte, and_self, true_and, and_true, hkm, r12, k12, l12, r13, k13, l13, r14, k14, l14, r22, k22, l22, e0, cl, ib, m12, e1, m22, c4, b4, e2, e3, cl2, ib2, m14, e4, hw, hz, e7]
    · rw [er, if_pos hz]
      refine ⟨h1, ?_, x2.b⟩
      have d1 := x2.1.1
      have d2 := x2.1.2.1
      have d3 := x2.1.2.2.1
      have m13 : ai h1 (q 13) (16 * (t - 1) + k) = rt := by
        have := congrFun (x2.2.2 13 (by decide)) (16 * (t - 1) + k)
        exact this.trans g8
      conv => lhs; unfold X9_billOf_L97
      simp only [aN, kA201, kA202, kA203, kA206, kA306, i1n0, i0n1, i0e0, i1e1, gI, gR, pI, pB, pR, xI, xL, yI, yL, vc, kd_sFi, fr_sFi, ln_sFi, ai_sFi, al_sFi, ar_sFi, cs_sFi, sz_sFi, sz_sAi, kd_sAi, fi_sAi, fr_sAi, ln_sAi, al_sAi, ar_sAi, cs_sAi, kd_wz, fi_wz, fr_wz, ln_wz, ai_wz, al_wz, ar_wz, Option.bind_some, if_true, if_false, Nat.reduceAdd, Nat.reduceMul, reduceIte, and_self, true_and, and_true, hkm, r12, k12, l12, r13, k13, l13, r14, k14, l14, r22, k22, l22, e0, cl, ib, m12, e1, m22, c4, b4, e2, e3, cl2, ib2, m14, e4, hw, hz, d1, d2, d3, m13]
theorem y_kn {h : HS} (hM : SMA q am h) {k : Nat} (hk : k < 5) (z : Int32) (hz : z = nI k) (v : Int32) : ∃ h', yI 201 h (some (q 22)) z v = some h' ∧ FrB q h h' ∧ mv q h' 22 = va_up (mv q h 22) k v := by
  have r22 : fr h 1022 am = some (q 22) := (hM.2.1 (22, 201, 5) (by decide)).1
  have k22 : kd h (q 22) = 201 := (hM.2.1 (22, 201, 5) (by decide)).2.1
  have l22 : ln h (q 22) = 5 := (hM.2.1 (22, 201, 5) (by decide)).2.2
  have cl : (nI k).toNatClampNeg = k := nI_cl hk (by omega)
  have ib : inB (nI k) 5 = true := inB_nI hk (by omega)
  have e1 : mv q (sAi h (q 22) k v) = up2 (mv q h) 22 k v := mv_sAi hM.2.2
  refine ⟨sAi h (q 22) k v, ?_, ⟨⟨rfl, rfl, rfl, rfl, rfl, rfl, rfl⟩, rfl, fun k' hk' => ?_⟩, ?_⟩
  · rw [hz]; simp only [aN, kA201, kA202, kA203, kA206, kA306, i1n0, i0n1, i0e0, i1e1, gI, gR, pI, pB, pR, xI, xL, yI, yL, vc, kd_sFi, fr_sFi, ln_sFi, ai_sFi, al_sFi, ar_sFi, cs_sFi, sz_sFi, sz_sAi, kd_sAi, fi_sAi, fr_sAi, ln_sAi, al_sAi, ar_sAi, cs_sAi, kd_wz, fi_wz, fr_wz, ln_wz, ai_wz, al_wz, ar_wz, Option.bind_some, if_true, if_false, Nat.reduceAdd, Nat.reduceMul, reduceIte, and_self, true_and, and_true, k22, l22, cl, ib, nar_i32]
  · rw [e1]; funext i; exact up2_ne1 _ _ _ _ hk'.1
  · rw [e1]; exact up2_va _ _ _ _
theorem e_billOf {h : HS} (hM : SMA q am h) {c m t p f : Nat} (hc : c < 60) (hm5 : m < 51) (hp : p < 20) (hf : f < 10) (h40 : mv q h 40 c = nI p) (h41 : mv q h 41 c = nI f) {G : Nat} {L : Option Nat} (h102 : mv q h 42 c = nI G) (h103 : mv q h 43 c = lsI L) (b1 : G ≤ 1000) (b2 : ∀ z, L = some z → z ≤ 1000) (h51 : mv q h 51 m = nI t - 1) {T : List (Int32 × List Int32)} (hT : Tx9 q h t T) : ∃ h', m_X9_billOf am (nI c) (nI m) h = some (bil T (mv q h 26 f) (mv q h 38 (51 * p + m)) (mv q h 48 (51 * c + m)) m (wkN G L m), h') ∧ FrB q h h' := by
  have hkm : kd h am = 11 := hM.1
  have r51 : fr h 1051 am = some (q 51) := (hM.2.1 (51, 201, 51) (by decide)).1
  have k51 : kd h (q 51) = 201 := (hM.2.1 (51, 201, 51) (by decide)).2.1
  have l51 : ln h (q 51) = 51 := (hM.2.1 (51, 201, 51) (by decide)).2.2
  have r38 : fr h 1038 am = some (q 38) := (hM.2.1 (38, 201, 1020) (by decide)).1
  have k38 : kd h (q 38) = 201 := (hM.2.1 (38, 201, 1020) (by decide)).2.1
  have l38 : ln h (q 38) = 1020 := (hM.2.1 (38, 201, 1020) (by decide)).2.2
  have r40 : fr h 1040 am = some (q 40) := (hM.2.1 (40, 201, 60) (by decide)).1
  have k40 : kd h (q 40) = 201 := (hM.2.1 (40, 201, 60) (by decide)).2.1
  have l40 : ln h (q 40) = 60 := (hM.2.1 (40, 201, 60) (by decide)).2.2
  have r48 : fr h 1048 am = some (q 48) := (hM.2.1 (48, 201, 3060) (by decide)).1
  have k48 : kd h (q 48) = 201 := (hM.2.1 (48, 201, 3060) (by decide)).2.1
  have l48 : ln h (q 48) = 3060 := (hM.2.1 (48, 201, 3060) (by decide)).2.2
  have r22 : fr h 1022 am = some (q 22) := (hM.2.1 (22, 201, 5) (by decide)).1
  have k22 : kd h (q 22) = 201 := (hM.2.1 (22, 201, 5) (by decide)).2.1
  have l22 : ln h (q 22) = 5 := (hM.2.1 (22, 201, 5) (by decide)).2.2
  have r26 : fr h 1026 am = some (q 26) := (hM.2.1 (26, 201, 10) (by decide)).1
  have k26 : kd h (q 26) = 201 := (hM.2.1 (26, 201, 10) (by decide)).2.1
  have l26 : ln h (q 26) = 10 := (hM.2.1 (26, 201, 10) (by decide)).2.2
  have r41 : fr h 1041 am = some (q 41) := (hM.2.1 (41, 201, 60) (by decide)).1
  have k41 : kd h (q 41) = 201 := (hM.2.1 (41, 201, 60) (by decide)).2.1
  have l41 : ln h (q 41) = 60 := (hM.2.1 (41, 201, 60) (by decide)).2.2
  have r12 : fr h 1012 am = some (q 12) := (hM.2.1 (12, 201, 21) (by decide)).1
  have k12 : kd h (q 12) = 201 := (hM.2.1 (12, 201, 21) (by decide)).2.1
  have l12 : ln h (q 12) = 21 := (hM.2.1 (12, 201, 21) (by decide)).2.2
  obtain ⟨kn, hkn⟩ : ∃ x, x = mv q h 26 f := ⟨_, rfl⟩
  obtain ⟨sd, hsd⟩ : ∃ x, x = mv q h 38 (51 * p + m) := ⟨_, rfl⟩
  obtain ⟨mn, hmn⟩ : ∃ x, x = mv q h 48 (51 * c + m) := ⟨_, rfl⟩
  rw [← hkn, ← hsd, ← hmn]
  obtain ⟨h1, y0, f1, f1a⟩ := y_kn hM (k := 0) (by decide) 0 rfl kn
  have hM1 := SMA_same f1.1 hM
  obtain ⟨h2, y1, f2, f2a⟩ := y_kn hM1 (k := 1) (by decide) 1 rfl (sd / 1000)
  have hM2 := SMA_same f2.1 hM1
  obtain ⟨h3, y2, f3, f3a⟩ := y_kn hM2 (k := 2) (by decide) 2 rfl mn
  have hM3 := SMA_same f3.1 hM2
  obtain ⟨h4, y3, f4, f4a⟩ := y_kn hM3 (k := 3) (by decide) 3 rfl (nI m)
  have hM4 := SMA_same f4.1 hM3
  have F2 := f1.tr f2
  have F3 := F2.tr f3
  have F4 := F3.tr f4
  have ew := e_wk9 hM4 hc (m := m) (by omega) (by rw [F4.2.2 42 (by decide)]; exact h102) (by rw [F4.2.2 43 (by decide)]; exact h103) b1 b2
  obtain ⟨h5, y4, f5, f5a⟩ := y_kn hM4 (k := 4) (by decide) 4 rfl (nI (wkN G L m))
  have hM5 := SMA_same f5.1 hM4
  have F5 := F4.tr f5
  have wle : wkN G L m ≤ 4 := by
    unfold wkN
    rcases wk1_or G (4 * m + 1) L with x | x <;> rcases wk1_or G (4 * m + 2) L with y | y <;> rcases wk1_or G (4 * m + 3) L with u | u <;> rcases wk1_or G (4 * m + 4) L with v | v <;> rw [x, y, u, v] <;> decide
  have hk5 : ∀ j, j < 5 → mv q h5 22 j = fac kn sd mn (nI m) (nI (wkN G L m)) j := fun j hj => by
    rw [f5a, f4a, f3a, f2a, f1a]
    exact fac_at _ _ _ _ _ _ j hj
  have fin : ∃ h', X9_billOf_L97 am FU (nI t - 1) sd mn 0 h5 = some (bil T kn sd mn m (wkN G L m), h') ∧ FrB q h5 h' := by
    have hfu : FU = 999 + 1 := rfl
    by_cases ht : t = 0
    · subst ht
      have hTn : T = [] := hT.2.1 rfl
      refine ⟨h5, ?_, FrB.rf _⟩
      have e0 : nI 0 - 1 < 0 := by decide
      have eb : bil T kn sd mn m (wkN G L m) = 0 := by
        unfold bil
        rw [hTn]
        split
        · rfl
        · exact bil_z _ _
      rw [eb, hfu]
      conv => lhs; unfold X9_billOf_L97
      simp only [e0, if_true]
    · have et : nI t - 1 = nI (t - 1) := nI_sub (a := t) (b := 1) (by omega)
      have hT5 := hT.fr (h' := h5) (fun k hk' => F5.2.2 k (by omega))
      rw [et]
      by_cases hu : wkN G L m = 0
      · refine ⟨h5, ?_, FrB.rf _⟩
        have eb : bil T kn sd mn m (wkN G L m) = 0 := by unfold bil; rw [if_pos hu]
        rw [eb, hfu]
        have d1 := F5.1.1
        have d2 := F5.1.2.1
        have d3 := F5.1.2.2.1
        obtain ⟨g1, g2, g3, g4, g5⟩ := hT5
        obtain ⟨g6, -⟩ := g5 (by omega)
        have e0 : ¬ nI (t - 1) < 0 := nI_pos (by omega)
        have cl : (nI (t - 1)).toNatClampNeg = t - 1 := nI_cl (N := 21) (by omega) (by omega)
        have ib : inB (nI (t - 1)) 21 = true := inB_nI (by omega) (by omega)
        have m12 : ai h5 (q 12) (t - 1) = nI T.length := g6
        have m22 : ai h5 (q 22) 4 = 0 := by
          have := hk5 4 (by decide)
          rw [hu] at this
          exact this
        have c4 : (4 : Int32).toNatClampNeg = 4 := by decide
        have b4 : inB 4 5 = true := by decide
        have e3 : ((0 : Int32) ≤ 0) = True := eq_true (by decide)
        conv => lhs; unfold X9_billOf_L97
        by_cases hl : nI T.length ≤ 0
        · simp only [aN, kA201, kA202, kA203, kA206, kA306, i1n0, i0n1, i0e0, i1e1, gI, gR, pI, pB, pR, xI, xL, yI, yL, vc, kd_sFi, fr_sFi, ln_sFi, ai_sFi, al_sFi, ar_sFi, cs_sFi, sz_sFi, sz_sAi, kd_sAi, fi_sAi, fr_sAi, ln_sAi, al_sAi, ar_sAi, cs_sAi, kd_wz, fi_wz, fr_wz, ln_wz, ai_wz, al_wz, ar_wz, Option.bind_some, if_true, if_false, Nat.reduceAdd, Nat.reduceMul, reduceIte, and_self, true_and, and_true, d1, d2, d3, hkm, r12, k12, l12, r22, k22, l22, e0, cl, ib, m12, hl]
        · simp only [aN, kA201, kA202, kA203, kA206, kA306, i1n0, i0n1, i0e0, i1e1, gI, gR, pI, pB, pR, xI, xL, yI, yL, vc, kd_sFi, fr_sFi, ln_sFi, ai_sFi, al_sFi, ar_sFi, cs_sFi, sz_sFi, sz_sAi, kd_sAi, fi_sAi, fr_sAi, ln_sAi, al_sAi, ar_sAi, cs_sAi, kd_wz, fi_wz, fr_wz, ln_wz, ai_wz, al_wz, ar_wz, Option.bind_some, if_true, if_false, Nat.reduceAdd, Nat.reduceMul, reduceIte, and_self, true_and, and_true, d1, d2, d3, hkm, r12, k12, l12, r22, k22, l22, e0, cl, ib, m12, hl, m22, c4, b4, e3]
      · obtain ⟨h', x1, x2⟩ := w_bill (T := T) (t := t) (by omega) (fc := fac kn sd mn (nI m) (nI (wkN G L m))) (u := wkN G L m) (by omega) wle rfl sd mn T.length 0 h5 hM5 hT5 hk5 (Nat.zero_add _) FU (by have := hT.2.2.2.1; unfold FU; omega)
        refine ⟨h', ?_, x2⟩
        have eb : bil T kn sd mn m (wkN G L m) = (((rateOf (fac kn sd mn (nI m) (nI (wkN G L m))) T).toInt64 * mn.toInt64 * sd.toInt64) / 1000).toInt32 := by unfold bil; rw [if_neg hu]
        rw [eb]
        exact x1
  obtain ⟨h', x1, x2⟩ := fin
  refine ⟨h', ?_, F5.tr x2⟩
  have g1 := f1.1.2.1
  have g2 := F2.1.2.1
  have g3 := F3.1.2.1
  have g4 := F4.1.2.1
  have d1 := f1.1.1
  have d2 := F2.1.1
  have d3 := F3.1.1
  have d4 := F4.1.1
  have clm : (nI m).toNatClampNeg = m := nI_cl hm5 (by omega)
  have ibm : inB (nI m) 51 = true := inB_nI hm5 (by omega)
  have clc : (nI c).toNatClampNeg = c := nI_cl hc (by omega)
  have ibc : inB (nI c) 60 = true := inB_nI hc (by omega)
  have clf : (nI f).toNatClampNeg = f := nI_cl hf (by omega)
  have ibf : inB (nI f) 10 = true := inB_nI hf (by omega)
  have ep : (51 : Int32) * nI p + nI m = nI (51 * p + m) := by rw [show (51 : Int32) = nI 51 from rfl, nI_mul, nI_add]
  have ec : (51 : Int32) * nI c + nI m = nI (51 * c + m) := by rw [show (51 : Int32) = nI 51 from rfl, nI_mul, nI_add]
  have clp : (nI (51 * p + m)).toNatClampNeg = 51 * p + m := nI_cl (N := 1020) (by omega) (by omega)
  have ibp : inB (nI (51 * p + m)) 1020 = true := inB_nI (by omega) (by omega)
  have clq : (nI (51 * c + m)).toNatClampNeg = 51 * c + m := nI_cl (N := 3060) (by omega) (by omega)
  have ibq : inB (nI (51 * c + m)) 3060 = true := inB_nI (by omega) (by omega)
  have v51 : ai h (q 51) m = nI t - 1 := h51
  have v40 : ai h (q 40) c = nI p := h40
  have v41 : ai h (q 41) c = nI f := h41
  have v26 : ai h (q 26) f = kn := hkn.symm
  have v38 : ai h (q 38) (51 * p + m) = sd := hsd.symm
  have v48 : ai h (q 48) (51 * c + m) = mn := hmn.symm
  simp only [m_X9_billOf, aN, kA201, kA202, kA203, kA206, kA306, i1n0, i0n1, i0e0, i1e1, gI, gR, pI, pB, pR, xI, xL, vc, kd_sFi, fr_sFi, ln_sFi, ai_sFi, al_sFi, ar_sFi, cs_sFi, sz_sFi, sz_sAi, kd_sAi, fi_sAi, fr_sAi, ln_sAi, al_sAi, ar_sAi, cs_sAi, kd_wz, fi_wz, fr_wz, ln_wz, ai_wz, al_wz, ar_wz, Option.bind_some, if_true, if_false, Nat.reduceAdd, Nat.reduceMul, reduceIte, and_self, true_and, and_true, hkm, r51, k51, l51, r38, k38, l38, r40, k40, l40, r48, k48, l48, r22, k22, l22, r26, k26, l26, r41, k41, l41, clm, ibm, clc, ibc, clf, ibf, ep, ec, clp, ibp, clq, ibq, v51, v40, v41, v26, v38, v48, y0, y1, y2, y3, y4, g1, g2, g3, g4, d1, d2, d3, d4, ew, x1]
theorem up2_ne1' {f : Nat → Nat → Int32} {a b : Nat} {v : Int32} {x : Nat} (h : x ≠ a) : up2 f a b v x = f x := by funext y; exact up2_ne1 _ _ _ _ h
theorem i_back (x y : Int32) : x + (y - x) = y := by rw [Int32.add_comm, Int32.sub_add_cancel]
theorem e_bill9 {h h1 : HS} (hM : SMA q am h) {c m f : Nat} (hc : c < 60) (hm5 : m < 51) (hf : f < 10) {B : Int32} (hb : m_X9_billOf am (nI c) (nI m) h = some (B, h1)) (hF : FrB q h h1) (h41 : mv q h 41 c = nI f) : ∃ h', m_X9_bill am (nI c) (nI m) h = some (B - mv q h 49 (51 * c + m), h') ∧ SameS h h' ∧ fi h' = fi h ∧ (∀ k, (k ≠ 22 ∧ k ≠ 23 ∧ k ≠ 33 ∧ k ≠ 49 ∧ k ≠ 50) → mv q h' k = mv q h k) ∧ mv q h' 49 = va_up (mv q h 49) (51 * c + m) B ∧ mv q h' 50 = va_up (mv q h 50) c (mv q h 50 c + (B - mv q h 49 (51 * c + m))) ∧ mv q h' 33 = va_up (mv q h 33) f (mv q h 33 f + (B - mv q h 49 (51 * c + m))) := by
  have hkm : kd h am = 11 := hM.1
  have r33 : fr h 1033 am = some (q 33) := (hM.2.1 (33, 201, 10) (by decide)).1
  have k33 : kd h (q 33) = 201 := (hM.2.1 (33, 201, 10) (by decide)).2.1
  have l33 : ln h (q 33) = 10 := (hM.2.1 (33, 201, 10) (by decide)).2.2
  have r41 : fr h 1041 am = some (q 41) := (hM.2.1 (41, 201, 60) (by decide)).1
  have k41 : kd h (q 41) = 201 := (hM.2.1 (41, 201, 60) (by decide)).2.1
  have l41 : ln h (q 41) = 60 := (hM.2.1 (41, 201, 60) (by decide)).2.2
  have r49 : fr h 1049 am = some (q 49) := (hM.2.1 (49, 201, 3060) (by decide)).1
  have k49 : kd h (q 49) = 201 := (hM.2.1 (49, 201, 3060) (by decide)).2.1
  have l49 : ln h (q 49) = 3060 := (hM.2.1 (49, 201, 3060) (by decide)).2.2
  have r50 : fr h 1050 am = some (q 50) := (hM.2.1 (50, 201, 60) (by decide)).1
  have k50 : kd h (q 50) = 201 := (hM.2.1 (50, 201, 60) (by decide)).2.1
  have l50 : ln h (q 50) = 60 := (hM.2.1 (50, 201, 60) (by decide)).2.2
  have d1 := hF.1.1
  have d2 := hF.1.2.1
  have d3 := hF.1.2.2.1
  obtain ⟨o, ho⟩ : ∃ x, x = mv q h 49 (51 * c + m) := ⟨_, rfl⟩
  rw [← ho]
  have clc : (nI c).toNatClampNeg = c := nI_cl hc (by omega)
  have ibc : inB (nI c) 60 = true := inB_nI hc (by omega)
  have clf : (nI f).toNatClampNeg = f := nI_cl hf (by omega)
  have ibf : inB (nI f) 10 = true := inB_nI hf (by omega)
  have ec : (51 : Int32) * nI c + nI m = nI (51 * c + m) := by rw [show (51 : Int32) = nI 51 from rfl, nI_mul, nI_add]
  have clq : (nI (51 * c + m)).toNatClampNeg = 51 * c + m := nI_cl (N := 3060) (by omega) (by omega)
  have ibq : inB (nI (51 * c + m)) 3060 = true := inB_nI (by omega) (by omega)
  have e49 : ai h1 (q 49) (51 * c + m) = o := (congrFun (hF.2.2 49 (by decide)) _).trans ho.symm
  have e50 : ai h1 (q 50) c = mv q h 50 c := congrFun (hF.2.2 50 (by decide)) _
  have e33 : ai h1 (q 33) f = mv q h 33 f := congrFun (hF.2.2 33 (by decide)) _
  have e41 : ai h1 (q 41) c = nI f := (congrFun (hF.2.2 41 (by decide)) _).trans h41
  have n1 : ¬ q 50 = q 49 := fun z => absurd (hM.2.2 _ _ z) (by decide)
  have n2 : ¬ q 33 = q 49 := fun z => absurd (hM.2.2 _ _ z) (by decide)
  have n3 : ¬ q 33 = q 50 := fun z => absurd (hM.2.2 _ _ z) (by decide)
  have n4 : ¬ q 41 = q 49 := fun z => absurd (hM.2.2 _ _ z) (by decide)
  have n5 : ¬ q 41 = q 50 := fun z => absurd (hM.2.2 _ _ z) (by decide)
  have em : mv q (sAi (sAi (sAi h1 (q 49) (51 * c + m) B) (q 50) c (mv q h 50 c + (B - o))) (q 33) f (mv q h 33 f + (B - o))) = up2 (up2 (up2 (mv q h1) 49 (51 * c + m) B) 50 c (mv q h 50 c + (B - o))) 33 f (mv q h 33 f + (B - o)) := by
    rw [mv_sAi hM.2.2, mv_sAi hM.2.2, mv_sAi hM.2.2]
  refine ⟨sAi (sAi (sAi h1 (q 49) (51 * c + m) B) (q 50) c (mv q h 50 c + (B - o))) (q 33) f (mv q h 33 f + (B - o)), ?_, hF.1.tr ⟨rfl, rfl, rfl, rfl, rfl, rfl, rfl⟩, hF.2.1, fun k hk => ?_, ?_, ?_, ?_⟩
  · simp only [m_X9_bill, aN, kA201, kA202, kA203, kA206, kA306, i1n0, i0n1, i0e0, i1e1, gI, gR, pI, pB, pR, xI, xL, yI, yL, vc, kd_sFi, fr_sFi, ln_sFi, ai_sFi, al_sFi, ar_sFi, cs_sFi, sz_sFi, sz_sAi, kd_sAi, fi_sAi, fr_sAi, ln_sAi, al_sAi, ar_sAi, cs_sAi, kd_wz, fi_wz, fr_wz, ln_wz, ai_wz, al_wz, ar_wz, Option.bind_some, if_true, if_false, Nat.reduceAdd, Nat.reduceMul, reduceIte, and_self, true_and, and_true, hkm, hb, d1, d2, d3, r33, k33, l33, r41, k41, l41, r49, k49, l49, r50, k50, l50, clc, ibc, clf, ibf, ec, clq, ibq, e49, nar_i32, i_back, ai_sAi, up2, n1, n2, n3, n4, n5, false_and, e50, e33, e41]
  · rw [em]; funext i
    rw [up2_ne1 _ _ _ _ hk.2.2.1, up2_ne1 _ _ _ _ hk.2.2.2.2, up2_ne1 _ _ _ _ hk.2.2.2.1, hF.2.2 k ⟨hk.1, hk.2.1⟩]
  · rw [em]; funext i
    rw [up2_ne1 _ _ _ _ (by decide), up2_ne1 _ _ _ _ (by decide), up2_va, hF.2.2 49 (by decide)]
  · rw [em]; funext i
    rw [up2_ne1 _ _ _ _ (by decide), up2_va, up2_ne1' (by decide), hF.2.2 50 (by decide)]
  · rw [em, up2_va, up2_ne1' (by decide), up2_ne1' (by decide), hF.2.2 33 (by decide)]
end BILL9
