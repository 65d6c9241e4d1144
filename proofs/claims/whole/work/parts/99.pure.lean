section LINE9
variable {ax ao am : Nat} {ad : Nat → Nat → Nat} {n e pO fO q tm : Nat → Nat} {tx : Nat → List (Int32 × List Int32)} {w : Nat} {pn : Nat → Nat} {nw : Nat → Nat → Nat} {fs : Nat → Nat} {ls : Nat → Option Nat} {rs rl pr : Nat → Nat} {tl : Nat} {hx hm : HS}
def F9 (am : Nat) (q : Nat → Nat) (h h' : HS) : Prop := SameS h h' ∧ (∀ k, (k ≠ 7 ∧ k ≠ 8 ∧ k ≠ 17 ∧ k ≠ 18) → mf am h' k = mf am h k) ∧ (∀ k, (k ≠ 12 ∧ k ≠ 13 ∧ k ≠ 14 ∧ k ≠ 15 ∧ k ≠ 16 ∧ k ≠ 19 ∧ k ≠ 20 ∧ k ≠ 21) → mv q h' k = mv q h k) ∧ (∀ i, i < 13200 → mv q h' 15 i = mv q h 15 i ∧ mv q h' 16 i = mv q h 16 i) ∧ (∀ i, i < 20 → mv q h' 12 i = mv q h 12 i) ∧ ∀ i, i < 320 → mv q h' 13 i = mv q h 13 i ∧ mv q h' 14 i = mv q h 14 i
theorem F9.rf (h : HS) : F9 am q h h := ⟨SameS.rf h, fun _ _ => rfl, fun _ _ => rfl, fun _ _ => ⟨rfl, rfl⟩, fun _ _ => rfl, fun _ _ => ⟨rfl, rfl⟩⟩
theorem F9.tr {a b c : HS} (h1 : F9 am q a b) (h2 : F9 am q b c) : F9 am q a c := ⟨h1.1.tr h2.1, fun k hk => (h2.2.1 k hk).trans (h1.2.1 k hk), fun k hk => (h2.2.2.1 k hk).trans (h1.2.2.1 k hk), fun i hi => ⟨(h2.2.2.2.1 i hi).1.trans (h1.2.2.2.1 i hi).1, (h2.2.2.2.1 i hi).2.trans (h1.2.2.2.1 i hi).2⟩, fun i hi => (h2.2.2.2.2.1 i hi).trans (h1.2.2.2.2.1 i hi), fun i hi => ⟨(h2.2.2.2.2.2 i hi).1.trans (h1.2.2.2.2.2 i hi).1, (h2.2.2.2.2.2 i hi).2.trans (h1.2.2.2.2.2 i hi).2⟩⟩
theorem FM.l {a b : HS} (h : FM am q a b) : F9 am q a b := ⟨h.1, h.2.1, fun k hk => h.2.2.1 k ⟨hk.2.2.2.1, hk.2.2.2.2.1, hk.2.2.2.2.2.1, hk.2.2.2.2.2.2.1, hk.2.2.2.2.2.2.2⟩, h.2.2.2, fun i _ => by rw [h.2.2.1 12 (by decide)], fun i _ => ⟨by rw [h.2.2.1 13 (by decide)], by rw [h.2.2.1 14 (by decide)]⟩⟩
theorem TM.frl {h h' : HS} {K P : Nat → Int32} {T : Nat} (hT : TM q K P T h) (hf : F9 am q h h') : TM q K P T h' := by
  unfold TM
  rw [hf.2.2.1 4 (by decide), hf.2.2.1 5 (by decide), congrFun (ml_same hf.1) 6, congrFun (ml_same hf.1) 9]; exact hT
theorem F9_w {h : HS} (hM : SMA q am h) {k j : Nat} (hk : (k = 12 ∧ 20 ≤ j) ∨ (k = 13 ∧ 320 ≤ j) ∨ (k = 14 ∧ 320 ≤ j)) (x : Int32) : F9 am q h (sAi h (q k) j x) ∧ mv q (sAi h (q k) j x) k = va_up (mv q h k) j x ∧ ∀ k', k' ≠ k → mv q (sAi h (q k) j x) k' = mv q h k' := by
  have e1 : mv q (sAi h (q k) j x) = up2 (mv q h) k j x := mv_sAi hM.2.2
  refine ⟨⟨⟨rfl, rfl, rfl, rfl, rfl, rfl, rfl⟩, fun _ _ => rfl, fun k' hk' => by rw [e1, up2_ne1' (by omega)], fun i hi => ⟨by rw [e1, up2_ne1' (by omega)], by rw [e1, up2_ne1' (by omega)]⟩, fun i hi => ?_, fun i hi => ⟨?_, ?_⟩⟩, by rw [e1, up2_va], fun k' hk' => by rw [e1, up2_ne1' hk']⟩
  · rw [e1]
    by_cases hc : k = 12
    · exact up2_ne2 _ _ _ _ (by omega)
    · exact up2_ne1 _ _ _ _ (by omega)
  · rw [e1]
    by_cases hc : k = 13
    · exact up2_ne2 _ _ _ _ (by omega)
    · exact up2_ne1 _ _ _ _ (by omega)
  · rw [e1]
    by_cases hc : k = 14
    · exact up2_ne2 _ _ _ _ (by omega)
    · exact up2_ne1 _ _ _ _ (by omega)
theorem r_emitG {h : HS} (hM : SMA q am h) {c : Nat} (hc : mf am h 17 = nI c) (hl : c < 660) (x y : Int32) : ∃ h', m_X9_emit am x y h = some h' ∧ FM am q h h' ∧ (∀ k, k ≠ 17 → mf am h' k = mf am h k) ∧ ∀ k, (k ≠ 15 ∧ k ≠ 16) → mv q h' k = mv q h k := by
  have hkm : kd h am = 11 := hM.1
  have f17 : fi h 1017 am = nI c := hc
  have r15 : fr h 1015 am = some (q 15) := (hM.2.1 (15, 201, 13860) (by decide)).1
  have k15 : kd h (q 15) = 201 := (hM.2.1 (15, 201, 13860) (by decide)).2.1
  have l15 : ln h (q 15) = 13860 := (hM.2.1 (15, 201, 13860) (by decide)).2.2
  have r16 : fr h 1016 am = some (q 16) := (hM.2.1 (16, 201, 13860) (by decide)).1
  have k16 : kd h (q 16) = 201 := (hM.2.1 (16, 201, 13860) (by decide)).2.1
  have l16 : ln h (q 16) = 13860 := (hM.2.1 (16, 201, 13860) (by decide)).2.2
  have e1 : (13200 : Int32) + nI c = nI (13200 + c) := nI_add 13200 _
  have cl : (nI (13200 + c)).toNatClampNeg = 13200 + c := nI_cl (N := 13860) (by omega) (by omega)
  have ib : inB (nI (13200 + c)) 13860 = true := inB_nI (by omega) (by omega)
  have e2 : nI c + 1 = nI (c + 1) := nI_add _ 1
  have em : mv q (sFi (sAi (sAi h (q 15) (13200 + c) x) (q 16) (13200 + c) y) 1017 am (nI (c + 1))) = up2 (up2 (mv q h) 15 (13200 + c) x) 16 (13200 + c) y := by
    show mv q (sAi (sAi h (q 15) (13200 + c) x) (q 16) (13200 + c) y) = _
    rw [mv_sAi hM.2.2, mv_sAi hM.2.2]
  have ef : mf am (sFi (sAi (sAi h (q 15) (13200 + c) x) (q 16) (13200 + c) y) 1017 am (nI (c + 1))) = va_up (mf am h) 17 (nI (c + 1)) := mf_sFi rfl
  refine ⟨sFi (sAi (sAi h (q 15) (13200 + c) x) (q 16) (13200 + c) y) 1017 am (nI (c + 1)), ?_, ⟨⟨rfl, rfl, rfl, rfl, rfl, rfl, rfl⟩, fun k hk => by rw [ef, va_upN _ _ hk.2.2.1], fun k hk => by rw [em, up2_ne1' hk.2.1, up2_ne1' hk.1], fun i hi => ⟨?_, ?_⟩⟩, fun k hk => by rw [ef, va_upN _ _ hk], fun k hk => by rw [em, up2_ne1' hk.2, up2_ne1' hk.1]⟩
  · simp only [m_X9_emit, aN, kA201, kA202, kA203, kA206, kA306, i1n0, i0n1, i0e0, i1e1, gI, gR, pI, pB, pR, xI, xL, yI, yL, vc, kd_sFi, fr_sFi, ln_sFi, ai_sFi, al_sFi, ar_sFi, cs_sFi, sz_sFi, sz_sAi, kd_sAi, fi_sAi, fr_sAi, ln_sAi, al_sAi, ar_sAi, cs_sAi, kd_wz, fi_wz, fr_wz, ln_wz, ai_wz, al_wz, ar_wz, Option.bind_some, if_true, if_false, Nat.reduceAdd, Nat.reduceMul, reduceIte, and_self, true_and, and_true, hkm, f17, r15, k15, l15, r16, k16, l16, e1, cl, ib, nar_i32, e2]
  · rw [em, up2_ne1' (by decide)]; exact up2_ne2 _ _ _ _ (by omega)
  · rw [em, up2_ne2 _ _ _ _ (by omega), up2_ne1' (by decide)]
theorem r_signF {h : HS} (hM : SMA q am h) {f : Int32} (h8 : mf am h 8 = f) (hf : f ≠ 0) (c : Int32) : m_X9_isSign am c h = some (0, h) ∧ m_X9_isWord am c h = some (0, h) ∧ m_X9_wrong am c h = some h := by
  have hkm : kd h am = 11 := hM.1
  have f8 : fi h 1008 am = f := h8
  have z : (f = 0) = False := eq_false hf
  refine ⟨?_, ?_, ?_⟩
  · simp only [m_X9_isSign, aN, kA201, kA202, kA203, kA206, kA306, i1n0, i0n1, i0e0, i1e1, gI, gR, pI, pB, pR, xI, xL, yI, yL, vc, kd_sFi, fr_sFi, ln_sFi, ai_sFi, al_sFi, ar_sFi, cs_sFi, sz_sFi, sz_sAi, kd_sAi, fi_sAi, fr_sAi, ln_sAi, al_sAi, ar_sAi, cs_sAi, kd_wz, fi_wz, fr_wz, ln_wz, ai_wz, al_wz, ar_wz, Option.bind_some, if_true, if_false, Nat.reduceAdd, Nat.reduceMul, reduceIte, and_self, true_and, and_true, hkm, f8, z]
  · simp only [m_X9_isWord, aN, kA201, kA202, kA203, kA206, kA306, i1n0, i0n1, i0e0, i1e1, gI, gR, pI, pB, pR, xI, xL, yI, yL, vc, kd_sFi, fr_sFi, ln_sFi, ai_sFi, al_sFi, ar_sFi, cs_sFi, sz_sFi, sz_sAi, kd_sAi, fi_sAi, fr_sAi, ln_sAi, al_sAi, ar_sAi, cs_sAi, kd_wz, fi_wz, fr_wz, ln_wz, ai_wz, al_wz, ar_wz, Option.bind_some, if_true, if_false, Nat.reduceAdd, Nat.reduceMul, reduceIte, and_self, true_and, and_true, hkm, f8, z]
  · simp only [m_X9_wrong, aN, kA201, kA202, kA203, kA206, kA306, i1n0, i0n1, i0e0, i1e1, gI, gR, pI, pB, pR, xI, xL, yI, yL, vc, kd_sFi, fr_sFi, ln_sFi, ai_sFi, al_sFi, ar_sFi, cs_sFi, sz_sFi, sz_sAi, kd_sAi, fi_sAi, fr_sAi, ln_sAi, al_sAi, ar_sAi, cs_sAi, kd_wz, fi_wz, fr_wz, ln_wz, ai_wz, al_wz, ar_wz, Option.bind_some, if_true, if_false, Nat.reduceAdd, Nat.reduceMul, reduceIte, and_self, true_and, and_true, hkm, f8, z]
theorem r_b202F {h : HS} (hM : SMA q am h) {f : Int32} (h8 : mf am h 8 = f) (hf : f ≠ 0) {c : Nat} (hc : mf am h 17 = nI c) (hl : c ≤ 600) : ∃ h', X9_line_b202 am h = some h' ∧ F9 am q h h' ∧ mf am h' 8 = f := by
  have hkm : kd h am = 11 := hM.1
  obtain ⟨h1, a1, a2, a3, a4⟩ := r_emitG hM hc (by omega) 0 0
  have hM1 := SMA_same a2.1 hM
  have hkm1 : kd h1 am = 11 := hM1.1
  have h81 : mf am h1 8 = f := (a3 8 (by decide)).trans h8
  obtain ⟨s1, -, s3⟩ := r_signF hM1 h81 hf 59
  obtain ⟨-, -, s3⟩ := r_signF hM1 h81 hf 1
  have r12 : fr h1 1012 am = some (q 12) := (hM1.2.1 (12, 201, 21) (by decide)).1
  have k12 : kd h1 (q 12) = 201 := (hM1.2.1 (12, 201, 21) (by decide)).2.1
  have l12 : ln h1 (q 12) = 21 := (hM1.2.1 (12, 201, 21) (by decide)).2.2
  have b20 : inB 20 21 = true := by decide
  have c20 : (20 : Int32).toNatClampNeg = 20 := by decide
  obtain ⟨w1, w2, w3⟩ := F9_w hM1 (k := 12) (j := 20) (Or.inl ⟨rfl, Nat.le_refl _⟩) (ai h1 (q 12) 20 + 1)
  refine ⟨sAi h1 (q 12) 20 (ai h1 (q 12) 20 + 1), ?_, a2.l.tr w1, h81⟩
  simp only [X9_line_b202, m_X9_takeSign, aN, kA201, kA202, kA203, kA206, kA306, i1n0, i0n1, i0e0, i1e1, gI, gR, pI, pB, pR, xI, xL, yI, yL, vc, kd_sFi, fr_sFi, ln_sFi, ai_sFi, al_sFi, ar_sFi, cs_sFi, sz_sFi, sz_sAi, kd_sAi, fi_sAi, fr_sAi, ln_sAi, al_sAi, ar_sAi, cs_sAi, kd_wz, fi_wz, fr_wz, ln_wz, ai_wz, al_wz, ar_wz, Option.bind_some, if_true, if_false, Nat.reduceAdd, Nat.reduceMul, reduceIte, and_self, true_and, and_true, hkm, a1, hkm1, s1, s3, r12, k12, l12, b20, c20, nar_i32]
theorem r_b202 {h : HS} (hM : SMA q am h) {K P : Nat → Int32} {T A d nL : Nat} {C : List Int32} (hT : TM q K P T h) (hP : PM am A 0 d h) (hC : CM am q C h) (hl : C.length < 660) (hA : A ≤ T) (h12 : mv q h 12 20 = nI nL) {s : Int32} (hs : 20000 ≤ s) : ∃ h', X9_line_b202 am h = some h' ∧ F9 am q h h' ∧ (K A = 10024 → PM am (A + 1) 0 d h' ∧ CM am q (C ++ [s]) h' ∧ mv q h' 12 20 = nI (nL + 1) ∧ mv q h' 13 = mv q h 13 ∧ mv q h' 14 = mv q h 14) ∧ (K A ≠ 10024 → mf am h' 8 = 1 + 16 * P A) := by
  have hkm : kd h am = 11 := hM.1
  have eo : eO s = 0 := by unfold eO; rw [if_pos hs]
  have ea : eA s = 0 := by unfold eA; rw [if_pos hs]
  obtain ⟨h1, a1, a2, a3, a4, a5⟩ := r_emit hM hC hl s
  rw [eo, ea] at a1
  have hM1 := SMA_same a2.1 hM
  have hkm1 : kd h1 am = 11 := hM1.1
  have hP1 : PM am A 0 d h1 := ⟨(a4 7 (by decide)).trans hP.1, (a4 8 (by decide)).trans hP.2.1, (a4 18 (by decide)).trans hP.2.2⟩
  have ts : m_X9_takeSign am 59 h1 = if K A = 10024 then some (sFi h1 1007 am (nI (A + 1))) else some (sFi h1 1008 am (1 + 16 * P A)) := r_takeSign hM1 (hT.fr a2) hP1 hA (i := 4) (by decide) (c := 59) rfl
  have m12 : mv q h1 12 20 = nI nL := by rw [a5 12 (by decide)]; exact h12
  have b20 : inB 20 21 = true := by decide
  have c20 : (20 : Int32).toNatClampNeg = 20 := by decide
  have en : nI nL + 1 = nI (nL + 1) := nI_add nL 1
  by_cases hk : K A = 10024
  · rw [if_pos hk] at ts
    obtain ⟨p1, p2, p3⟩ := r_at (q := q) hP1 (A + 1)
    have hM2 : SMA q am (sFi h1 1007 am (nI (A + 1))) := hM1
    obtain ⟨w1, w2, w3⟩ := F9_w hM2 (k := 12) (j := 20) (Or.inl ⟨rfl, Nat.le_refl _⟩) (nI (nL + 1))
    have r12 : fr h1 1012 am = some (q 12) := (hM1.2.1 (12, 201, 21) (by decide)).1
    have k12 : kd h1 (q 12) = 201 := (hM1.2.1 (12, 201, 21) (by decide)).2.1
    have l12 : ln h1 (q 12) = 21 := (hM1.2.1 (12, 201, 21) (by decide)).2.2
    have v12 : ai h1 (q 12) 20 = nI nL := m12
    refine ⟨sAi (sFi h1 1007 am (nI (A + 1))) (q 12) 20 (nI (nL + 1)), ?_, (a2.l.tr p1.l).tr w1, fun _ => ⟨p2, ?_, ?_, ?_, ?_⟩, fun z => absurd hk z⟩
    · simp only [X9_line_b202, aN, kA201, kA202, kA203, kA206, kA306, i1n0, i0n1, i0e0, i1e1, gI, gR, pI, pB, pR, xI, xL, yI, yL, vc, kd_sFi, fr_sFi, ln_sFi, ai_sFi, al_sFi, ar_sFi, cs_sFi, sz_sFi, sz_sAi, kd_sAi, fi_sAi, fr_sAi, ln_sAi, al_sAi, ar_sAi, cs_sAi, kd_wz, fi_wz, fr_wz, ln_wz, ai_wz, al_wz, ar_wz, Option.bind_some, if_true, if_false, Nat.reduceAdd, Nat.reduceMul, reduceIte, and_self, true_and, and_true, hkm, a1, hkm1, ts, r12, k12, l12, b20, c20, v12, en, nar_i32]
    · have hc := p3 _ a3
      exact ⟨hc.1, fun j hj => by rw [w3 15 (by decide), w3 16 (by decide)]; exact hc.2 j hj⟩
    · rw [w2, va_up_same]
    · rw [w3 13 (by decide)]; exact a5 13 (by decide)
    · rw [w3 14 (by decide)]; exact a5 14 (by decide)
  · rw [if_neg hk] at ts
    obtain ⟨p1, p2, p3⟩ := FM_s (am := am) (q := q) (h := h1) (k := 8) (by decide) (1 + 16 * P A)
    have hM2 : SMA q am (sFi h1 1008 am (1 + 16 * P A)) := hM1
    obtain ⟨w1, w2, w3⟩ := F9_w hM2 (k := 12) (j := 20) (Or.inl ⟨rfl, Nat.le_refl _⟩) (nI (nL + 1))
    have r12 : fr h1 1012 am = some (q 12) := (hM1.2.1 (12, 201, 21) (by decide)).1
    have k12 : kd h1 (q 12) = 201 := (hM1.2.1 (12, 201, 21) (by decide)).2.1
    have l12 : ln h1 (q 12) = 21 := (hM1.2.1 (12, 201, 21) (by decide)).2.2
    have v12 : ai h1 (q 12) 20 = nI nL := m12
    refine ⟨sAi (sFi h1 1008 am (1 + 16 * P A)) (q 12) 20 (nI (nL + 1)), ?_, (a2.l.tr p1.l).tr w1, fun z => absurd z hk, fun _ => p2⟩
    simp only [X9_line_b202, aN, kA201, kA202, kA203, kA206, kA306, i1n0, i0n1, i0e0, i1e1, gI, gR, pI, pB, pR, xI, xL, yI, yL, vc, kd_sFi, fr_sFi, ln_sFi, ai_sFi, al_sFi, ar_sFi, cs_sFi, sz_sFi, sz_sAi, kd_sAi, fi_sAi, fr_sAi, ln_sAi, al_sAi, ar_sAi, cs_sAi, kd_wz, fi_wz, fr_wz, ln_wz, ai_wz, al_wz, ar_wz, Option.bind_some, if_true, if_false, Nat.reduceAdd, Nat.reduceMul, reduceIte, and_self, true_and, and_true, hkm, a1, hkm1, ts, r12, k12, l12, b20, c20, v12, en, nar_i32]
/-- behind the rate: the word when, the code's place, the expression -/
def rst (th : Nat) (l1 : Int32) (h4 : HS) : Option HS := (gR h4 (some th) 10 14).bind fun x6 => (gI h4 (some th) 10 17).bind fun x7 => (yI 201 h4 x6 l1 x7).bind fun h8 => (pI h8 (some th) 10 18 (0 : Int32)).bind fun h9 => (vc h9 (some th) 10 (fun b11 => m_X9_opens b11 h9)).bind fun h10 => X9_line_L168 th FU ((1 : Int32)) h10
theorem b131_eq (th : Nat) (l1 s2 s1 : Int32) (s0 : Option Nat) (h : HS) : X9_line_b131 th l1 s2 s1 s0 h = (yI 201 h s0 s1 s2).bind fun h1 => (gI h1 (some th) 10 7).bind fun x2 => (pI h1 (some th) 10 7 (x2 + (1 : Int32))).bind fun h3 => (vc h3 (some th) 10 (fun b5 => m_X9_takeWord b5 (1 : Int32) h3)).bind fun h4 => rst th l1 h4 := rfl
theorem r_rst {h : HS} (hM : SMA q am h) {i c : Nat} (hi : 320 ≤ i) (hi2 : i < 336) (h17 : mf am h 17 = nI c) : ∃ h', rst am (nI i) h = X9_line_L168 am FU 1 h' ∧ F9 am q h h' ∧ (∀ k, k ≠ 18 → mf am h' k = mf am h k) ∧ mf am h' 18 = nI 0 ∧ mv q h' 14 = va_up (mv q h 14) i (nI c) ∧ mv q h' 19 0 = 0 ∧ mv q h' 20 0 = 0 ∧ mv q h' 21 0 = 0 ∧ ∀ k, (k ≠ 14 ∧ k ≠ 19 ∧ k ≠ 20 ∧ k ≠ 21) → mv q h' k = mv q h k := by
  have hkm : kd h am = 11 := hM.1
  have f17 : fi h 1017 am = nI c := h17
  have r14 : fr h 1014 am = some (q 14) := (hM.2.1 (14, 201, 336) (by decide)).1
  have k14 : kd h (q 14) = 201 := (hM.2.1 (14, 201, 336) (by decide)).2.1
  have l14 : ln h (q 14) = 336 := (hM.2.1 (14, 201, 336) (by decide)).2.2
  have cl : (nI i).toNatClampNeg = i := nI_cl (N := 336) hi2 (by omega)
  have ib : inB (nI i) 336 = true := inB_nI hi2 (by omega)
  obtain ⟨w1, w2, w3⟩ := F9_w hM (k := 14) (j := i) (Or.inr (Or.inr ⟨rfl, hi⟩)) (nI c)
  have hM1 : SMA q am (sAi h (q 14) i (nI c)) := hM
  obtain ⟨s1, s2, s3⟩ := FM_s (am := am) (q := q) (h := sAi h (q 14) i (nI c)) (k := 18) (by decide) 0
  have hM2 : SMA q am (sFi (sAi h (q 14) i (nI c)) 1018 am 0) := hM
  obtain ⟨h2, o1, o2, o3, o4, o5, o6, o7⟩ := r_opens hM2 (d := 0) (by decide) s2
  refine ⟨h2, ?_, (w1.tr s1.l).tr o2.l, fun k hk => ?_, ?_, ?_, ?_, ?_, ?_, fun k hk => ?_⟩
  · simp only [rst, aN, kA201, kA202, kA203, kA206, kA306, i1n0, i0n1, i0e0, i1e1, gI, gR, pI, pB, pR, xI, xL, yI, yL, vc, kd_sFi, fr_sFi, ln_sFi, ai_sFi, al_sFi, ar_sFi, cs_sFi, sz_sFi, sz_sAi, kd_sAi, fi_sAi, fr_sAi, ln_sAi, al_sAi, ar_sAi, cs_sAi, kd_wz, fi_wz, fr_wz, ln_wz, ai_wz, al_wz, ar_wz, Option.bind_some, if_true, if_false, Nat.reduceAdd, Nat.reduceMul, reduceIte, and_self, true_and, and_true, hkm, r14, k14, l14, f17, cl, ib, nar_i32, o1]
  · rw [o3, s3 k hk]; rfl
  · rw [o3, s2]; rfl
  · rw [o4 14 (by decide)]; exact w2
  · rw [o5, va_up_same]
  · rw [o6, va_up_same]
  · rw [o7, va_up_same]
  · rw [o4 k ⟨hk.2.1, hk.2.2.1, hk.2.2.2⟩]; exact w3 k hk.1
theorem r_rstF {h : HS} (hM : SMA q am h) {i c : Nat} (hi : 320 ≤ i) (hi2 : i < 336) (h17 : mf am h 17 = nI c) (hc : c ≤ 600) {f : Int32} (h8 : mf am h 8 = f) (hf : f ≠ 0) : ∃ h', rst am (nI i) h = some h' ∧ F9 am q h h' ∧ mf am h' 8 = f := by
  obtain ⟨h1, a1, a2, a3, -⟩ := r_rst hM hi hi2 h17
  have hM1 := SMA_same a2.1 hM
  have h81 : mf am h1 8 = f := (a3 8 (by decide)).trans h8
  obtain ⟨h2, b1, b2, b3⟩ := r_b202F hM1 h81 hf ((a3 17 (by decide)).trans h17) hc
  refine ⟨h2, ?_, a2.tr b2, b3⟩
  have hkm : kd h1 am = 11 := hM1.1
  have f8 : fi h1 1008 am = f := h81
  have z : (f = 0) = False := eq_false hf
  have hfu : FU = 999 + 1 := rfl
  rw [a1, ← b1, hfu]
  conv => lhs; unfold X9_line_L168
  simp only [aN, kA201, kA202, kA203, kA206, kA306, i1n0, i0n1, i0e0, i1e1, gI, gR, pI, pB, pR, xI, xL, yI, yL, vc, kd_sFi, fr_sFi, ln_sFi, ai_sFi, al_sFi, ar_sFi, cs_sFi, sz_sFi, sz_sAi, kd_sAi, fi_sAi, fr_sAi, ln_sAi, al_sAi, ar_sAi, cs_sAi, kd_wz, fi_wz, fr_wz, ln_wz, ai_wz, al_wz, ar_wz, Option.bind_some, if_true, if_false, Nat.reduceAdd, Nat.reduceMul, reduceIte, and_self, true_and, and_true, hkm, f8, z]
theorem r_takeWordF {h : HS} (hM : SMA q am h) {f : Int32} (h8 : mf am h 8 = f) (hf : f ≠ 0) : ∃ h', m_X9_takeWord am 1 h = some h' ∧ FM am q h h' ∧ ∀ k, k ≠ 7 → mf am h' k = mf am h k := by
  have hkm : kd h am = 11 := hM.1
  obtain ⟨-, s2, -⟩ := r_signF hM h8 hf 1
  obtain ⟨p1, p2, p3⟩ := FM_s (am := am) (q := q) (h := h) (k := 7) (by decide) (fi h 1007 am + 0)
  have hM1 : SMA q am (sFi h 1007 am (fi h 1007 am + 0)) := hM
  obtain ⟨-, -, s3⟩ := r_signF hM1 ((p3 8 (by decide)).trans h8) hf 1
  refine ⟨sFi h 1007 am (fi h 1007 am + 0), ?_, p1, p3⟩
  simp only [m_X9_takeWord, m_X9_hasWord, X9_hasWord_b20, aN, kA201, kA202, kA203, kA206, kA306, i1n0, i0n1, i0e0, i1e1, gI, gR, pI, pB, pR, xI, xL, yI, yL, vc, kd_sFi, fr_sFi, ln_sFi, ai_sFi, al_sFi, ar_sFi, cs_sFi, sz_sFi, sz_sAi, kd_sAi, fi_sAi, fr_sAi, ln_sAi, al_sAi, ar_sAi, cs_sAi, kd_wz, fi_wz, fr_wz, ln_wz, ai_wz, al_wz, ar_wz, Option.bind_some, if_true, if_false, Nat.reduceAdd, Nat.reduceMul, reduceIte, and_self, true_and, and_true, hkm, s2, true_or, s3]
theorem r_takeWord {h : HS} (hM : SMA q am h) {K P : Nat → Int32} {T A d : Nat} (hT : TM q K P T h) (hP : PM am A 0 d h) (hA : A ≤ T) : (K A = 10021 → m_X9_takeWord am 1 h = some (sFi h 1007 am (nI (A + 1)))) ∧ (K A ≠ 10021 → m_X9_takeWord am 1 h = some (sFi (sFi h 1007 am (nI A)) 1008 am (1 + 16 * P A))) := by
  have hkm : kd h am = 11 := hM.1
  have f7 : fi h 1007 am = nI A := hP.1
  have sw : m_X9_isWord am 1 h = some (if K A = 10021 then 1 else 0, h) := r_isWord hM hT hP hA (i := 1) (by decide)
  have e1 : nI A + 1 = nI (A + 1) := nI_add A 1
  have e0 : nI A + 0 = nI A := Int32.add_zero _
  refine ⟨fun hk => ?_, fun hk => ?_⟩
  · rw [if_pos hk] at sw
    simp only [m_X9_takeWord, m_X9_hasWord, X9_hasWord_b20, aN, kA201, kA202, kA203, kA206, kA306, i1n0, i0n1, i0e0, i1e1, gI, gR, pI, pB, pR, xI, xL, yI, yL, vc, kd_sFi, fr_sFi, ln_sFi, ai_sFi, al_sFi, ar_sFi, cs_sFi, sz_sFi, sz_sAi, kd_sAi, fi_sAi, fr_sAi, ln_sAi, al_sAi, ar_sAi, cs_sAi, kd_wz, fi_wz, fr_wz, ln_wz, ai_wz, al_wz, ar_wz, Option.bind_some, if_true, if_false, Nat.reduceAdd, Nat.reduceMul, reduceIte, and_self, true_and, and_true, hkm, sw, f7, e1, or_true]
  · rw [if_neg hk] at sw
    obtain ⟨p1, p2, p3⟩ := r_at (q := q) hP A
    have hM1 : SMA q am (sFi h 1007 am (nI A)) := hM
    have hw := r_wrong hM1 (hT.fr p1) p2 hA 1
    simp only [m_X9_takeWord, m_X9_hasWord, X9_hasWord_b20, aN, kA201, kA202, kA203, kA206, kA306, i1n0, i0n1, i0e0, i1e1, gI, gR, pI, pB, pR, xI, xL, yI, yL, vc, kd_sFi, fr_sFi, ln_sFi, ai_sFi, al_sFi, ar_sFi, cs_sFi, sz_sFi, sz_sAi, kd_sAi, fi_sAi, fr_sAi, ln_sAi, al_sAi, ar_sAi, cs_sAi, kd_wz, fi_wz, fr_wz, ln_wz, ai_wz, al_wz, ar_wz, Option.bind_some, if_true, if_false, Nat.reduceAdd, Nat.reduceMul, reduceIte, and_self, true_and, and_true, hkm, sw, f7, e0, true_or, hw]
end LINE9
