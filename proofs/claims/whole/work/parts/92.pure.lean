/-! the reference's reader -/
section RD9
variable {ax ao am : Nat} {ad : Nat → Nat → Nat} {n e pO fO q tm : Nat → Nat} {tx : Nat → List (Int32 × List Int32)} {w : Nat} {pn : Nat → Nat} {nw : Nat → Nat → Nat} {fs : Nat → Nat} {ls : Nat → Option Nat} {rs rl pr : Nat → Nat} {tl : Nat} {hx hm : HS}
def TM (q : Nat → Nat) (K P : Nat → Int32) (T : Nat) (h : HS) : Prop := T ≤ 600 ∧ (∀ i, i ≤ T → TokR (K i) (mv q h 4 i) (ml q h 6 i) ∧ P i = mv q h 5 i ∧ ∃ x, x ≤ 600 ∧ mv q h 5 i = nI x) ∧ RW (ml q h 9)
def FM (am : Nat) (q : Nat → Nat) (h h' : HS) : Prop := SameS h h' ∧ (∀ k, (k ≠ 7 ∧ k ≠ 8 ∧ k ≠ 17 ∧ k ≠ 18) → mf am h' k = mf am h k) ∧ (∀ k, (k ≠ 15 ∧ k ≠ 16 ∧ k ≠ 19 ∧ k ≠ 20 ∧ k ≠ 21) → mv q h' k = mv q h k) ∧ ∀ i, i < 13200 → mv q h' 15 i = mv q h 15 i ∧ mv q h' 16 i = mv q h 16 i
theorem FM.rf (h : HS) : FM am q h h := ⟨SameS.rf h, fun _ _ => rfl, fun _ _ => rfl, fun _ _ => ⟨rfl, rfl⟩⟩
theorem FM.tr {a b c : HS} (h1 : FM am q a b) (h2 : FM am q b c) : FM am q a c := ⟨h1.1.tr h2.1, fun k hk => (h2.2.1 k hk).trans (h1.2.1 k hk), fun k hk => (h2.2.2.1 k hk).trans (h1.2.2.1 k hk), fun i hi => ⟨(h2.2.2.2 i hi).1.trans (h1.2.2.2 i hi).1, (h2.2.2.2 i hi).2.trans (h1.2.2.2 i hi).2⟩⟩
theorem TM.fr {h h' : HS} {K P : Nat → Int32} {T : Nat} (hT : TM q K P T h) (hf : FM am q h h') : TM q K P T h' := by
  unfold TM
  rw [hf.2.2.1 4 (by decide), hf.2.2.1 5 (by decide), congrFun (ml_same hf.1) 6, congrFun (ml_same hf.1) 9]; exact hT
def PM (am A : Nat) (f : Int32) (d : Nat) (h : HS) : Prop := mf am h 7 = nI A ∧ mf am h 8 = f ∧ mf am h 18 = nI d
def eO (s : Int32) : Int32 := if 20000 ≤ s then 0 else enO s
def eA (s : Int32) : Int32 := if 20000 ≤ s then 0 else enA s
def CM (am : Nat) (q : Nat → Nat) (C : List Int32) (h : HS) : Prop := mf am h 17 = nI C.length ∧ ∀ j, j < C.length → mv q h 15 (13200 + j) = eO (C.getD j 0) ∧ mv q h 16 (13200 + j) = eA (C.getD j 0)
theorem FM_s {h : HS} {k : Nat} (hk : k = 7 ∨ k = 8 ∨ k = 17 ∨ k = 18) (x : Int32) : FM am q h (sFi h (1000 + k) am x) ∧ mf am (sFi h (1000 + k) am x) k = x ∧ ∀ k', k' ≠ k → mf am (sFi h (1000 + k) am x) k' = mf am h k' := by
  have e1 : mf am (sFi h (1000 + k) am x) = va_up (mf am h) k x := mf_sFi rfl
  refine ⟨⟨⟨rfl, rfl, rfl, rfl, rfl, rfl, rfl⟩, fun k' hk' => by rw [e1, va_upN _ _ (by omega)], fun _ _ => rfl, fun _ _ => ⟨rfl, rfl⟩⟩, by rw [e1, va_up_same], fun k' hk' => by rw [e1, va_upN _ _ hk']⟩
theorem FM_w {h : HS} (hM : SMA q am h) {k : Nat} (hk : k = 19 ∨ k = 20 ∨ k = 21) (j : Nat) (x : Int32) : FM am q h (sAi h (q k) j x) ∧ mv q (sAi h (q k) j x) k = va_up (mv q h k) j x ∧ ∀ k', k' ≠ k → mv q (sAi h (q k) j x) k' = mv q h k' := by
  have e1 : mv q (sAi h (q k) j x) = up2 (mv q h) k j x := mv_sAi hM.2.2
  refine ⟨⟨⟨rfl, rfl, rfl, rfl, rfl, rfl, rfl⟩, fun _ _ => rfl, fun k' hk' => by rw [e1, up2_ne1' (by omega)], fun i hi => ⟨by rw [e1, up2_ne1' (by omega)], by rw [e1, up2_ne1' (by omega)]⟩⟩, by rw [e1, up2_va], fun k' hk' => by rw [e1, up2_ne1' hk']⟩
theorem lgc_eq (x y : Int64) : (lg_cmp x y = 0) ↔ x = y := by
  unfold lg_cmp
  by_cases h1 : x > y
  · rw [if_pos h1]
    refine ⟨fun z => absurd z (by decide), fun z => ?_⟩
    subst z
    exact absurd h1 (Int64.lt_irrefl)
  · rw [if_neg h1]
    by_cases h2 : x = y
    · rw [if_pos h2]; exact ⟨fun _ => h2, fun _ => rfl⟩
    · rw [if_neg h2]; exact ⟨fun z => absurd z (by decide), fun z => absurd z h2⟩
theorem r_isSign {h : HS} (hM : SMA q am h) {K P : Nat → Int32} {T A d : Nat} (hT : TM q K P T h) (hP : PM am A 0 d h) (hA : A ≤ T) {i : Nat} (hi : i < 7) {c : Int32} (hc : c.toInt64 = sgC.getD i 0) : m_X9_isSign am c h = some (if K A = sgK.getD i 0 then 1 else 0, h) := by
  have hkm : kd h am = 11 := hM.1
  have f7 : fi h 1007 am = nI A := hP.1
  have f8 : fi h 1008 am = 0 := hP.2.1
  have r4 : fr h 1004 am = some (q 4) := (hM.2.1 (4, 201, 602) (by decide)).1
  have k4 : kd h (q 4) = 201 := (hM.2.1 (4, 201, 602) (by decide)).2.1
  have l4 : ln h (q 4) = 602 := (hM.2.1 (4, 201, 602) (by decide)).2.2
  have r6 : fr h 1006 am = some (q 6) := (hM.2.1 (6, 204, 602) (by decide)).1
  have k6 : kd h (q 6) = 204 := (hM.2.1 (6, 204, 602) (by decide)).2.1
  have l6 : ln h (q 6) = 602 := (hM.2.1 (6, 204, 602) (by decide)).2.2
  have h6 := hT.1
  have cl : (nI A).toNatClampNeg = A := nI_cl (N := 602) (by omega) (by omega)
  have ib : inB (nI A) 602 = true := inB_nI (by omega) (by omega)
  have tk := ((hT.2.1 A hA).1.2.2.1) i hi
  have v4 : ai h (q 4) A = mv q h 4 A := rfl
  have v6 : al h (q 6) A = ml q h 6 A := rfl
  by_cases h3 : mv q h 4 A = 3
  · have z3 : ((3 : Int32) = 3) = True := eq_true rfl
    by_cases hv : ml q h 6 A = sgC.getD i 0
    · rw [if_pos (tk.mp ⟨h3, hv⟩)]
      have hl : lg_cmp (ml q h 6 A) c.toInt64 = 0 := (lgc_eq _ _).mpr (hv.trans hc.symm)
      simp only [m_X9_isSign, aN, kA201, kA202, kA203, kA206, kA306, i1n0, i0n1, i0e0, i1e1, gI, gR, pI, pB, pR, xI, xL, yI, yL, vc, kd_sFi, fr_sFi, ln_sFi, ai_sFi, al_sFi, ar_sFi, cs_sFi, sz_sFi, sz_sAi, kd_sAi, fi_sAi, fr_sAi, ln_sAi, al_sAi, ar_sAi, cs_sAi, kd_wz, fi_wz, fr_wz, ln_wz, ai_wz, al_wz, ar_wz, Option.bind_some, if_true, if_false, Nat.reduceAdd, Nat.reduceMul, reduceIte, and_self, true_and, and_true, hkm, f7, f8, r4, k4, l4, r6, k6, l6, cl, ib, v4, v6, h3, z3, hl]
    · rw [if_neg (fun z => hv (tk.mpr z).2)]
      have hl : ¬ lg_cmp (ml q h 6 A) c.toInt64 = 0 := fun z => hv (((lgc_eq _ _).mp z).trans hc)
      simp only [m_X9_isSign, aN, kA201, kA202, kA203, kA206, kA306, i1n0, i0n1, i0e0, i1e1, gI, gR, pI, pB, pR, xI, xL, yI, yL, vc, kd_sFi, fr_sFi, ln_sFi, ai_sFi, al_sFi, ar_sFi, cs_sFi, sz_sFi, sz_sAi, kd_sAi, fi_sAi, fr_sAi, ln_sAi, al_sAi, ar_sAi, cs_sAi, kd_wz, fi_wz, fr_wz, ln_wz, ai_wz, al_wz, ar_wz, Option.bind_some, if_true, if_false, Nat.reduceAdd, Nat.reduceMul, reduceIte, and_self, true_and, and_true, hkm, f7, f8, r4, k4, l4, r6, k6, l6, cl, ib, v4, v6, h3, z3, hl]
  · rw [if_neg (fun z => h3 (tk.mpr z).1)]
    simp only [m_X9_isSign, aN, kA201, kA202, kA203, kA206, kA306, i1n0, i0n1, i0e0, i1e1, gI, gR, pI, pB, pR, xI, xL, yI, yL, vc, kd_sFi, fr_sFi, ln_sFi, ai_sFi, al_sFi, ar_sFi, cs_sFi, sz_sFi, sz_sAi, kd_sAi, fi_sAi, fr_sAi, ln_sAi, al_sAi, ar_sAi, cs_sAi, kd_wz, fi_wz, fr_wz, ln_wz, ai_wz, al_wz, ar_wz, Option.bind_some, if_true, if_false, Nat.reduceAdd, Nat.reduceMul, reduceIte, and_self, true_and, and_true, hkm, f7, f8, r4, k4, l4, r6, k6, l6, cl, ib, v4, h3]
theorem r_isWord {h : HS} (hM : SMA q am h) {K P : Nat → Int32} {T A d : Nat} (hT : TM q K P T h) (hP : PM am A 0 d h) (hA : A ≤ T) {i : Nat} (hi : i < 8) : m_X9_isWord am (nI i) h = some (if K A = wdK.getD i 0 then 1 else 0, h) := by
  have hkm : kd h am = 11 := hM.1
  have f7 : fi h 1007 am = nI A := hP.1
  have f8 : fi h 1008 am = 0 := hP.2.1
  have r4 : fr h 1004 am = some (q 4) := (hM.2.1 (4, 201, 602) (by decide)).1
  have k4 : kd h (q 4) = 201 := (hM.2.1 (4, 201, 602) (by decide)).2.1
  have l4 : ln h (q 4) = 602 := (hM.2.1 (4, 201, 602) (by decide)).2.2
  have r6 : fr h 1006 am = some (q 6) := (hM.2.1 (6, 204, 602) (by decide)).1
  have k6 : kd h (q 6) = 204 := (hM.2.1 (6, 204, 602) (by decide)).2.1
  have l6 : ln h (q 6) = 602 := (hM.2.1 (6, 204, 602) (by decide)).2.2
  have r9 : fr h 1009 am = some (q 9) := (hM.2.1 (9, 204, 8) (by decide)).1
  have k9 : kd h (q 9) = 204 := (hM.2.1 (9, 204, 8) (by decide)).2.1
  have l9 : ln h (q 9) = 8 := (hM.2.1 (9, 204, 8) (by decide)).2.2
  have h6 := hT.1
  have cl : (nI A).toNatClampNeg = A := nI_cl (N := 602) (by omega) (by omega)
  have ib : inB (nI A) 602 = true := inB_nI (by omega) (by omega)
  have cli : (nI i).toNatClampNeg = i := nI_cl hi (by omega)
  have ibi : inB (nI i) 8 = true := inB_nI hi (by omega)
  have tk := ((hT.2.1 A hA).1.2.2.2) i hi
  have v4 : ai h (q 4) A = mv q h 4 A := rfl
  have v6 : al h (q 6) A = ml q h 6 A := rfl
  have v9 : al h (q 9) i = WRD.getD i 0 := hT.2.2 i hi
  by_cases h3 : mv q h 4 A = 1
  · by_cases hv : ml q h 6 A = WRD.getD i 0
    · rw [if_pos (tk.mp ⟨h3, hv⟩)]
      have hl : lg_cmp (ml q h 6 A) (WRD.getD i 0) = 0 := (lgc_eq _ _).mpr hv
      simp only [m_X9_isWord, aN, kA201, kA202, kA203, kA206, kA306, i1n0, i0n1, i0e0, i1e1, gI, gR, pI, pB, pR, xI, xL, yI, yL, vc, kd_sFi, fr_sFi, ln_sFi, ai_sFi, al_sFi, ar_sFi, cs_sFi, sz_sFi, sz_sAi, kd_sAi, fi_sAi, fr_sAi, ln_sAi, al_sAi, ar_sAi, cs_sAi, kd_wz, fi_wz, fr_wz, ln_wz, ai_wz, al_wz, ar_wz, Option.bind_some, if_true, if_false, Nat.reduceAdd, Nat.reduceMul, reduceIte, and_self, true_and, and_true, hkm, f7, f8, r4, k4, l4, r6, k6, l6, r9, k9, l9, cl, ib, cli, ibi, v4, v6, v9, h3, hl]
    · rw [if_neg (fun z => hv (tk.mpr z).2)]
      have hl : ¬ lg_cmp (ml q h 6 A) (WRD.getD i 0) = 0 := fun z => hv ((lgc_eq _ _).mp z)
      simp only [m_X9_isWord, aN, kA201, kA202, kA203, kA206, kA306, i1n0, i0n1, i0e0, i1e1, gI, gR, pI, pB, pR, xI, xL, yI, yL, vc, kd_sFi, fr_sFi, ln_sFi, ai_sFi, al_sFi, ar_sFi, cs_sFi, sz_sFi, sz_sAi, kd_sAi, fi_sAi, fr_sAi, ln_sAi, al_sAi, ar_sAi, cs_sAi, kd_wz, fi_wz, fr_wz, ln_wz, ai_wz, al_wz, ar_wz, Option.bind_some, if_true, if_false, Nat.reduceAdd, Nat.reduceMul, reduceIte, and_self, true_and, and_true, hkm, f7, f8, r4, k4, l4, r6, k6, l6, r9, k9, l9, cl, ib, cli, ibi, v4, v6, v9, h3, hl]
  · rw [if_neg (fun z => h3 (tk.mpr z).1)]
    simp only [m_X9_isWord, aN, kA201, kA202, kA203, kA206, kA306, i1n0, i0n1, i0e0, i1e1, gI, gR, pI, pB, pR, xI, xL, yI, yL, vc, kd_sFi, fr_sFi, ln_sFi, ai_sFi, al_sFi, ar_sFi, cs_sFi, sz_sFi, sz_sAi, kd_sAi, fi_sAi, fr_sAi, ln_sAi, al_sAi, ar_sAi, cs_sAi, kd_wz, fi_wz, fr_wz, ln_wz, ai_wz, al_wz, ar_wz, Option.bind_some, if_true, if_false, Nat.reduceAdd, Nat.reduceMul, reduceIte, and_self, true_and, and_true, hkm, f7, f8, r4, k4, l4, r6, k6, l6, r9, k9, l9, cl, ib, v4, h3]
theorem r_wrong {h : HS} (hM : SMA q am h) {K P : Nat → Int32} {T A d : Nat} (hT : TM q K P T h) (hP : PM am A 0 d h) (hA : A ≤ T) (k : Int32) : m_X9_wrong am k h = some (sFi h 1008 am (k + 16 * P A)) := by
  have hkm : kd h am = 11 := hM.1
  have f7 : fi h 1007 am = nI A := hP.1
  have f8 : fi h 1008 am = 0 := hP.2.1
  have r5 : fr h 1005 am = some (q 5) := (hM.2.1 (5, 201, 602) (by decide)).1
  have k5 : kd h (q 5) = 201 := (hM.2.1 (5, 201, 602) (by decide)).2.1
  have l5 : ln h (q 5) = 602 := (hM.2.1 (5, 201, 602) (by decide)).2.2
  have h6 := hT.1
  have cl : (nI A).toNatClampNeg = A := nI_cl (N := 602) (by omega) (by omega)
  have ib : inB (nI A) 602 = true := inB_nI (by omega) (by omega)
  have v5 : ai h (q 5) A = P A := (hT.2.1 A hA).2.1.symm
  simp only [m_X9_wrong, aN, kA201, kA202, kA203, kA206, kA306, i1n0, i0n1, i0e0, i1e1, gI, gR, pI, pB, pR, xI, xL, yI, yL, vc, kd_sFi, fr_sFi, ln_sFi, ai_sFi, al_sFi, ar_sFi, cs_sFi, sz_sFi, sz_sAi, kd_sAi, fi_sAi, fr_sAi, ln_sAi, al_sAi, ar_sAi, cs_sAi, kd_wz, fi_wz, fr_wz, ln_wz, ai_wz, al_wz, ar_wz, Option.bind_some, if_true, if_false, Nat.reduceAdd, Nat.reduceMul, reduceIte, and_self, true_and, and_true, hkm, f7, f8, r5, k5, l5, cl, ib, v5]
theorem flt_val {K P : Nat → Int32} {T A : Nat} {h : HS} (hT : TM q K P T h) (hA : A ≤ T) {k : Nat} (hk : 1 ≤ k) (hk5 : k ≤ 5) : ∃ y, 1 ≤ y ∧ y ≤ 10000 ∧ nI k + 16 * P A = nI y := by
  obtain ⟨-, hp, x, hx, hv⟩ := hT.2.1 A hA
  refine ⟨k + 16 * x, by omega, by omega, ?_⟩
  rw [hp, hv, show (16 : Int32) = nI 16 from rfl, nI_mul, nI_add]
theorem r_emit {h : HS} (hM : SMA q am h) {C : List Int32} (hC : CM am q C h) (hl : C.length < 660) (s : Int32) : ∃ h', m_X9_emit am (eO s) (eA s) h = some h' ∧ FM am q h h' ∧ CM am q (C ++ [s]) h' ∧ (∀ k, k ≠ 17 → mf am h' k = mf am h k) ∧ ∀ k, (k ≠ 15 ∧ k ≠ 16) → mv q h' k = mv q h k := by
  have hkm : kd h am = 11 := hM.1
  have f17 : fi h 1017 am = nI C.length := hC.1
  have r15 : fr h 1015 am = some (q 15) := (hM.2.1 (15, 201, 13860) (by decide)).1
  have k15 : kd h (q 15) = 201 := (hM.2.1 (15, 201, 13860) (by decide)).2.1
  have l15 : ln h (q 15) = 13860 := (hM.2.1 (15, 201, 13860) (by decide)).2.2
  have r16 : fr h 1016 am = some (q 16) := (hM.2.1 (16, 201, 13860) (by decide)).1
  have k16 : kd h (q 16) = 201 := (hM.2.1 (16, 201, 13860) (by decide)).2.1
  have l16 : ln h (q 16) = 13860 := (hM.2.1 (16, 201, 13860) (by decide)).2.2
  have e1 : (13200 : Int32) + nI C.length = nI (13200 + C.length) := nI_add 13200 _
  have cl : (nI (13200 + C.length)).toNatClampNeg = 13200 + C.length := nI_cl (N := 13860) (by omega) (by omega)
  have ib : inB (nI (13200 + C.length)) 13860 = true := inB_nI (by omega) (by omega)
  have e2 : nI C.length + 1 = nI (C.length + 1) := nI_add _ 1
  have em : mv q (sFi (sAi (sAi h (q 15) (13200 + C.length) (eO s)) (q 16) (13200 + C.length) (eA s)) 1017 am (nI (C.length + 1))) = up2 (up2 (mv q h) 15 (13200 + C.length) (eO s)) 16 (13200 + C.length) (eA s) := by
    show mv q (sAi (sAi h (q 15) (13200 + C.length) (eO s)) (q 16) (13200 + C.length) (eA s)) = _
    rw [mv_sAi hM.2.2, mv_sAi hM.2.2]
  have m15 : mv q (sFi (sAi (sAi h (q 15) (13200 + C.length) (eO s)) (q 16) (13200 + C.length) (eA s)) 1017 am (nI (C.length + 1))) 15 = va_up (mv q h 15) (13200 + C.length) (eO s) := by rw [em, up2_ne1' (by decide), up2_va]
  have m16 : mv q (sFi (sAi (sAi h (q 15) (13200 + C.length) (eO s)) (q 16) (13200 + C.length) (eA s)) 1017 am (nI (C.length + 1))) 16 = va_up (mv q h 16) (13200 + C.length) (eA s) := by rw [em, up2_va, up2_ne1' (by decide)]
  have ef : mf am (sFi (sAi (sAi h (q 15) (13200 + C.length) (eO s)) (q 16) (13200 + C.length) (eA s)) 1017 am (nI (C.length + 1))) = va_up (mf am h) 17 (nI (C.length + 1)) := mf_sFi rfl
  refine ⟨sFi (sAi (sAi h (q 15) (13200 + C.length) (eO s)) (q 16) (13200 + C.length) (eA s)) 1017 am (nI (C.length + 1)), ?_, ⟨⟨rfl, rfl, rfl, rfl, rfl, rfl, rfl⟩, fun k hk => by rw [ef, va_upN _ _ hk.2.2.1], fun k hk => by rw [em, up2_ne1' hk.2.1, up2_ne1' hk.1], fun i hi => ⟨by rw [m15, va_upN _ _ (by omega)], by rw [m16, va_upN _ _ (by omega)]⟩⟩, ⟨?_, fun j hj => ?_⟩, fun k hk => by rw [ef, va_upN _ _ hk], fun k hk => by rw [em, up2_ne1' hk.2, up2_ne1' hk.1]⟩
  · simp only [m_X9_emit, aN, kA201, kA202, kA203, kA206, kA306, i1n0, i0n1, i0e0, i1e1, gI, gR, pI, pB, pR, xI, xL, yI, yL, vc, kd_sFi, fr_sFi, ln_sFi, ai_sFi, al_sFi, ar_sFi, cs_sFi, sz_sFi, sz_sAi, kd_sAi, fi_sAi, fr_sAi, ln_sAi, al_sAi, ar_sAi, cs_sAi, kd_wz, fi_wz, fr_wz, ln_wz, ai_wz, al_wz, ar_wz, Option.bind_some, if_true, if_false, Nat.reduceAdd, Nat.reduceMul, reduceIte, and_self, true_and, and_true, hkm, f17, r15, k15, l15, r16, k16, l16, e1, cl, ib, nar_i32, e2]
  · rw [ef, va_up_same, List.length_append]; rfl
  · rw [List.length_append] at hj
    have hj' : j < C.length + 1 := hj
    rw [m15, m16]
    by_cases hjc : j = C.length
    · subst hjc
      rw [va_up_same, va_up_same, show (C ++ [s]).getD C.length 0 = s from by rw [show C.length = C.length + 0 from rfl, gD_r]; rfl]
      exact ⟨rfl, rfl⟩
    · rw [va_upN _ _ (by omega), va_upN _ _ (by omega), gD_l (by omega)]
      exact hC.2 j (by omega)
theorem r_partWord {h : HS} (hM : SMA q am h) {K P : Nat → Int32} {T A d : Nat} (hT : TM q K P T h) (hP : PM am A 0 d h) (hA : A ≤ T) : ∀ (r k : Nat), k + r = 5 → ∀ F, r < F → (∃ k0, k ≤ k0 ∧ k0 < 5 ∧ K A = nI (10000 + k0) ∧ X9_partWord_L2 am F (nI k) h = some (nI k0, h)) ∨ ((∀ k0, k ≤ k0 → k0 < 5 → K A ≠ nI (10000 + k0)) ∧ X9_partWord_L2 am F (nI k) h = some (-1, h)) := by
  have hkm : kd h am = 11 := hM.1
  have wk : ∀ k, k < 5 → wdK.getD (3 + k) 0 = nI (10000 + k) := by decide
  intro r
  induction r with
  | zero =>
    intro k hk F hF
    obtain ⟨F, rfl⟩ := nF1 hF
    refine Or.inr ⟨fun k0 h1 h2 => by omega, ?_⟩
    have e1 : (5 : Int32) ≤ nI k := nI_le (a := 5) (by omega) (by omega)
    conv => lhs; unfold X9_partWord_L2
    simp only [e1, if_true]
  | succ r ih =>
    intro k hk F hF
    obtain ⟨F, rfl⟩ := nF1 hF
    have e1 : ¬ (5 : Int32) ≤ nI k := nI_ge (b := 5) (by omega) (by omega)
    have e2 : (3 : Int32) + nI k = nI (3 + k) := nI_add 3 k
    have hw := r_isWord hM hT hP hA (i := 3 + k) (by omega)
    rw [wk k (by omega)] at hw
    have e7 : nI k + 1 = nI (k + 1) := nI_add k 1
    by_cases hq : K A = nI (10000 + k)
    · rw [if_pos hq] at hw
      refine Or.inl ⟨k, Nat.le_refl _, by omega, hq, ?_⟩
      conv => lhs; unfold X9_partWord_L2
      simp only [aN, kA201, kA202, kA203, kA206, kA306, i1n0, i0n1, i0e0, i1e1, gI, gR, pI, pB, pR, xI, xL, yI, yL, vc, kd_sFi, fr_sFi, ln_sFi, ai_sFi, al_sFi, ar_sFi, cs_sFi, sz_sFi, sz_sAi, kd_sAi, fi_sAi, fr_sAi, ln_sAi, al_sAi, ar_sAi, cs_sAi, kd_wz, fi_wz, fr_wz, ln_wz, ai_wz, al_wz, ar_wz, Option.bind_some, if_true, if_false, Nat.reduceAdd, Nat.reduceMul, reduceIte, and_self, true_and, and_true, hkm, e1, e2, hw]
    · rw [if_neg hq] at hw
      have st : X9_partWord_L2 am (F + 1) (nI k) h = X9_partWord_L2 am F (nI (k + 1)) h := by
        conv => lhs; unfold X9_partWord_L2
        simp only [aN, kA201, kA202, kA203, kA206, kA306, i1n0, i0n1, i0e0, i1e1, gI, gR, pI, pB, pR, xI, xL, yI, yL, vc, kd_sFi, fr_sFi, ln_sFi, ai_sFi, al_sFi, ar_sFi, cs_sFi, sz_sFi, sz_sAi, kd_sAi, fi_sAi, fr_sAi, ln_sAi, al_sAi, ar_sAi, cs_sAi, kd_wz, fi_wz, fr_wz, ln_wz, ai_wz, al_wz, ar_wz, Option.bind_some, if_true, if_false, Nat.reduceAdd, Nat.reduceMul, reduceIte, and_self, true_and, and_true, hkm, e1, e2, hw, e7]
      rw [st]
      rcases ih (k + 1) (by omega) F (by omega) with ⟨k0, a1, a2, a3, a4⟩ | ⟨a1, a2⟩
      · exact Or.inl ⟨k0, by omega, a2, a3, a4⟩
      · refine Or.inr ⟨fun k0 h1 h2 => ?_, a2⟩
        by_cases hk0 : k0 = k
        · subst hk0; exact hq
        · exact a1 k0 (by omega) h2
end RD9
