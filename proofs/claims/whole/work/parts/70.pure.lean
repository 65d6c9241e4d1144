/-! a line's worth, by the reference -/
section EVAL9
variable {ax ao am : Nat} {ad : Nat → Nat → Nat} {n e pO fO q tm : Nat → Nat} {tx : Nat → List (Int32 × List Int32)} {w : Nat} {pn : Nat → Nat} {nw : Nat → Nat → Nat} {fs : Nat → Nat} {ls : Nat → Option Nat} {rs rl pr : Nat → Nat} {tl : Nat} {hx hm : HS}
def FrW (q : Nat → Nat) (h h' : HS) : Prop := SameS h h' ∧ fi h' = fi h ∧ ∀ k, k ≠ 23 → mv q h' k = mv q h k
theorem FrW.rf (h : HS) : FrW q h h := ⟨SameS.rf h, rfl, fun _ _ => rfl⟩
theorem FrW.tr {a b c : HS} (h1 : FrW q a b) (h2 : FrW q b c) : FrW q a c := ⟨h1.1.tr h2.1, h2.2.1.trans h1.2.1, fun k hk => (h2.2.2 k hk).trans (h1.2.2 k hk)⟩
theorem FrW_23 {h : HS} (hM : SMA q am h) (j : Nat) (x : Int32) : FrW q h (sAi h (q 23) j x) ∧ mv q (sAi h (q 23) j x) 23 = va_up (mv q h 23) j x := by
  have e1 : mv q (sAi h (q 23) j x) = up2 (mv q h) 23 j x := mv_sAi hM.2.2
  refine ⟨⟨⟨rfl, rfl, rfl, rfl, rfl, rfl, rfl⟩, rfl, fun k hk => ?_⟩, ?_⟩
  · rw [e1]; funext i; exact up2_ne1 _ _ _ _ hk
  · rw [e1]; exact up2_va _ _ _ _
theorem w_val {h : HS} (hM : SMA q am h) {i m F : Nat} (hi : i < 13860) (hm6 : m < 660) {s : Int32} {fc : Nat → Int32} (h0 : ¬ s < 0) (h1 : s < 10005) (o : mv q h 15 i = enO s) (a : mv q h 16 i = enA s) (hk : ∀ k, k < 5 → mv q h 22 k = fc k) : X9_worth_L4 am (F + 1) (nI i) (nI m) h = X9_worth_L4 am F (nI (i + 1)) (nI (m + 1)) (sAi h (q 23) m (if s < 10000 then s else fc (s.toNatClampNeg - 10000))) := by
  have hkm : kd h am = 11 := hM.1
  have r15 : fr h 1015 am = some (q 15) := (hM.2.1 (15, 201, 13860) (by decide)).1
  have k15 : kd h (q 15) = 201 := (hM.2.1 (15, 201, 13860) (by decide)).2.1
  have l15 : ln h (q 15) = 13860 := (hM.2.1 (15, 201, 13860) (by decide)).2.2
  have r16 : fr h 1016 am = some (q 16) := (hM.2.1 (16, 201, 13860) (by decide)).1
  have k16 : kd h (q 16) = 201 := (hM.2.1 (16, 201, 13860) (by decide)).2.1
  have l16 : ln h (q 16) = 13860 := (hM.2.1 (16, 201, 13860) (by decide)).2.2
  have r22 : fr h 1022 am = some (q 22) := (hM.2.1 (22, 201, 5) (by decide)).1
  have k22 : kd h (q 22) = 201 := (hM.2.1 (22, 201, 5) (by decide)).2.1
  have l22 : ln h (q 22) = 5 := (hM.2.1 (22, 201, 5) (by decide)).2.2
  have r23 : fr h 1023 am = some (q 23) := (hM.2.1 (23, 201, 660) (by decide)).1
  have k23 : kd h (q 23) = 201 := (hM.2.1 (23, 201, 660) (by decide)).2.1
  have l23 : ln h (q 23) = 660 := (hM.2.1 (23, 201, 660) (by decide)).2.2
  have cli : (nI i).toNatClampNeg = i := nI_cl hi (by omega)
  have ibi : inB (nI i) 13860 = true := inB_nI hi (by omega)
  have clm : (nI m).toNatClampNeg = m := nI_cl hm6 (by omega)
  have ibm : inB (nI m) 660 = true := inB_nI hm6 (by omega)
  have o' : ai h (q 15) i = enO s := o
  have a' : ai h (q 16) i = enA s := a
  have e7 : nI i + 1 = nI (i + 1) := nI_add i 1
  have e8 : nI m + 1 = nI (m + 1) := nI_add m 1
  have z1 : ((2 : Int32) = 1) = False := eq_false (by decide)
  have z2 : ((2 : Int32) = 0) = False := eq_false (by decide)
  have z3 : ((2 : Int32) = 2) = True := eq_true rfl
  conv => lhs; unfold X9_worth_L4
  by_cases hs : s < 10000
  · have eo : enO s = 1 := by unfold enO; rw [if_pos hs]
    have ea : enA s = s := by unfold enA; rw [if_pos hs]
    rw [eo] at o'
    rw [ea] at a'
    rw [if_pos hs]
    simp only [X9_worth_b33, X9_worth_b64, X9_worth_b186, aN, kA201, kA202, kA203, kA206, kA306, i1n0, i0n1, i0e0, i1e1, gI, gR, pI, pB, pR, xI, xL, yI, yL, vc, kd_sFi, fr_sFi, ln_sFi, ai_sFi, al_sFi, ar_sFi, cs_sFi, sz_sFi, sz_sAi, kd_sAi, fi_sAi, fr_sAi, ln_sAi, al_sAi, ar_sAi, cs_sAi, kd_wz, fi_wz, fr_wz, ln_wz, ai_wz, al_wz, ar_wz, Option.bind_some, if_true, if_false, Nat.reduceAdd, Nat.reduceMul, reduceIte, and_self, true_and, and_true, hkm, r15, k15, l15, r16, k16, l16, r22, k22, l22, r23, k23, l23, cli, ibi, clm, ibm, o', a', e7, e8, nar_i32]
  · obtain ⟨j, hj, rfl⟩ := nI_of h0
    have j1 : j < 10005 := (nI_ltI (b := 10005) hj (by omega)).mp h1
    have j2 : 10000 ≤ j := Nat.not_lt.mp fun z => hs ((nI_ltI (b := 10000) hj (by omega)).mpr z)
    have c0 : (nI j).toNatClampNeg = j := nI_clamp hj
    have eo : enO (nI j) = 2 := by unfold enO; rw [if_neg hs, if_pos h1]
    have ea : enA (nI j) = nI (j - 10000) := by unfold enA; rw [if_neg hs, if_pos h1]; exact nI_sub (b := 10000) j2
    rw [eo] at o'
    rw [ea] at a'
    rw [if_neg hs, c0]
    have clj : (nI (j - 10000)).toNatClampNeg = j - 10000 := nI_cl (N := 5) (by omega) (by omega)
    have ibj : inB (nI (j - 10000)) 5 = true := inB_nI (by omega) (by omega)
    have v22 : ai h (q 22) (j - 10000) = fc (j - 10000) := hk _ (by omega)
    simp only [X9_worth_b33, X9_worth_b64, X9_worth_b186, aN, kA201, kA202, kA203, kA206, kA306, i1n0, i0n1, i0e0, i1e1, gI, gR, pI, pB, pR, xI, xL, yI, yL, vc, kd_sFi, fr_sFi, ln_sFi, ai_sFi, al_sFi, ar_sFi, cs_sFi, sz_sFi, sz_sAi, kd_sAi, fi_sAi, fr_sAi, ln_sAi, al_sAi, ar_sAi, cs_sAi, kd_wz, fi_wz, fr_wz, ln_wz, ai_wz, al_wz, ar_wz, Option.bind_some, if_true, if_false, Nat.reduceAdd, Nat.reduceMul, reduceIte, and_self, true_and, and_true, hkm, r15, k15, l15, r16, k16, l16, r22, k22, l22, r23, k23, l23, cli, ibi, clm, ibm, clj, ibj, v22, o', a', e7, e8, nar_i32, z1, z2, z3]
theorem w_op {h : HS} (hM : SMA q am h) {i m F : Nat} (hi : i < 13860) (hm6 : m + 1 < 660) {s a b : Int32} (h0 : ¬ s < 10010) (h1 : s < 10015) (o : mv q h 15 i = enO s) (va : mv q h 23 m = a) (vb : mv q h 23 (m + 1) = b) : X9_worth_L4 am (F + 1) (nI i) (nI (m + 1 + 1)) h = X9_worth_L4 am F (nI (i + 1)) (nI (m + 1)) (sAi h (q 23) m (jn s a b)) := by
  have hkm : kd h am = 11 := hM.1
  have r15 : fr h 1015 am = some (q 15) := (hM.2.1 (15, 201, 13860) (by decide)).1
  have k15 : kd h (q 15) = 201 := (hM.2.1 (15, 201, 13860) (by decide)).2.1
  have l15 : ln h (q 15) = 13860 := (hM.2.1 (15, 201, 13860) (by decide)).2.2
  have r23 : fr h 1023 am = some (q 23) := (hM.2.1 (23, 201, 660) (by decide)).1
  have k23 : kd h (q 23) = 201 := (hM.2.1 (23, 201, 660) (by decide)).2.1
  have l23 : ln h (q 23) = 660 := (hM.2.1 (23, 201, 660) (by decide)).2.2
  have cli : (nI i).toNatClampNeg = i := nI_cl hi (by omega)
  have ibi : inB (nI i) 13860 = true := inB_nI hi (by omega)
  have cl0 : (nI m).toNatClampNeg = m := nI_cl (N := 660) (by omega) (by omega)
  have ib0 : inB (nI m) 660 = true := inB_nI (by omega) (by omega)
  have cl1 : (nI (m + 1)).toNatClampNeg = m + 1 := nI_cl (N := 660) (by omega) (by omega)
  have ib1 : inB (nI (m + 1)) 660 = true := inB_nI (by omega) (by omega)
  have o' : ai h (q 15) i = enO s := o
  have va : ai h (q 23) m = a := va
  have vb : ai h (q 23) (m + 1) = b := vb
  have e7 : nI i + 1 = nI (i + 1) := nI_add i 1
  have eT : nI (m + 1 + 1) + (-1) = nI (m + 1) := nI_dec _
  have eT2 : nI (m + 1) - 1 = nI m := nI_sub (a := m + 1) (b := 1) (by omega)
  have hs : s = 10010 ∨ s = 10011 ∨ s = 10012 ∨ s = 10013 ∨ s = 10014 := by
    obtain ⟨j, hj, rfl⟩ := nI_of (x := s) (fun z => h0 (Int32.lt_trans z (by decide)))
    have j1 : j < 10015 := (nI_ltI (b := 10015) hj (by omega)).mp h1
    have j2 : 10010 ≤ j := Nat.not_lt.mp fun z => h0 ((nI_ltI (b := 10010) hj (by omega)).mpr z)
    rcases (show j = 10010 ∨ j = 10011 ∨ j = 10012 ∨ j = 10013 ∨ j = 10014 by omega) with rfl | rfl | rfl | rfl | rfl
    · exact Or.inl rfl
    · exact Or.inr (Or.inl rfl)
    · exact Or.inr (Or.inr (Or.inl rfl))
    · exact Or.inr (Or.inr (Or.inr (Or.inl rfl)))
    · exact Or.inr (Or.inr (Or.inr (Or.inr rfl)))
  conv => lhs; unfold X9_worth_L4
  rcases hs with rfl | rfl | rfl | rfl | rfl
  · have eo : enO 10010 = 3 := by decide
    rw [eo] at o'
    have ej : jn 10010 a b = a + b := rfl
    rw [ej]
    simp only [X9_worth_b184, X9_worth_b185, X9_worth_b186, aN, kA201, kA202, kA203, kA206, kA306, i1n0, i0n1, i0e0, i1e1, gI, gR, pI, pB, pR, xI, xL, yI, yL, vc, kd_sFi, fr_sFi, ln_sFi, ai_sFi, al_sFi, ar_sFi, cs_sFi, sz_sFi, sz_sAi, kd_sAi, fi_sAi, fr_sAi, ln_sAi, al_sAi, ar_sAi, cs_sAi, kd_wz, fi_wz, fr_wz, ln_wz, ai_wz, al_wz, ar_wz, Option.bind_some, if_true, if_false, Nat.reduceAdd, Nat.reduceMul, reduceIte, and_self, true_and, and_true, hkm, r15, k15, l15, r23, k23, l23, cli, ibi, cl1, ib1, cl0, ib0, o', va, vb, eT, eT2, e7, nar_i32, show ((3 : Int32) = 0) = False from eq_false (by decide), show ((3 : Int32) = 1) = False from eq_false (by decide), show ((3 : Int32) = 2) = False from eq_false (by decide), show ((3 : Int32) = 3) = True from eq_true rfl]
  · have eo : enO 10011 = 4 := by decide
    rw [eo] at o'
    have ej : jn 10011 a b = a - b := rfl
    rw [ej]
    simp only [X9_worth_b184, X9_worth_b185, X9_worth_b186, aN, kA201, kA202, kA203, kA206, kA306, i1n0, i0n1, i0e0, i1e1, gI, gR, pI, pB, pR, xI, xL, yI, yL, vc, kd_sFi, fr_sFi, ln_sFi, ai_sFi, al_sFi, ar_sFi, cs_sFi, sz_sFi, sz_sAi, kd_sAi, fi_sAi, fr_sAi, ln_sAi, al_sAi, ar_sAi, cs_sAi, kd_wz, fi_wz, fr_wz, ln_wz, ai_wz, al_wz, ar_wz, Option.bind_some, if_true, if_false, Nat.reduceAdd, Nat.reduceMul, reduceIte, and_self, true_and, and_true, hkm, r15, k15, l15, r23, k23, l23, cli, ibi, cl1, ib1, cl0, ib0, o', va, vb, eT, eT2, e7, nar_i32, show ((4 : Int32) = 0) = False from eq_false (by decide), show ((4 : Int32) = 1) = False from eq_false (by decide), show ((4 : Int32) = 2) = False from eq_false (by decide), show ((4 : Int32) = 3) = False from eq_false (by decide), show ((4 : Int32) = 4) = True from eq_true rfl]
  · have eo : enO 10012 = 5 := by decide
    rw [eo] at o'
    have ej : jn 10012 a b = (if a < b then 1 else 0) := rfl
    rw [ej]
    by_cases hc : b ≤ a
    · rw [if_neg (Int32.not_lt.mpr hc)]
      simp only [X9_worth_b184, X9_worth_b185, X9_worth_b186, aN, kA201, kA202, kA203, kA206, kA306, i1n0, i0n1, i0e0, i1e1, gI, gR, pI, pB, pR, xI, xL, yI, yL, vc, kd_sFi, fr_sFi, ln_sFi, ai_sFi, al_sFi, ar_sFi, cs_sFi, sz_sFi, sz_sAi, kd_sAi, fi_sAi, fr_sAi, ln_sAi, al_sAi, ar_sAi, cs_sAi, kd_wz, fi_wz, fr_wz, ln_wz, ai_wz, al_wz, ar_wz, Option.bind_some, if_true, if_false, Nat.reduceAdd, Nat.reduceMul, reduceIte, and_self, true_and, and_true, hkm, r15, k15, l15, r23, k23, l23, cli, ibi, cl1, ib1, cl0, ib0, o', va, vb, eT, eT2, e7, nar_i32, show ((5 : Int32) = 0) = False from eq_false (by decide), show ((5 : Int32) = 1) = False from eq_false (by decide), show ((5 : Int32) = 2) = False from eq_false (by decide), show ((5 : Int32) = 3) = False from eq_false (by decide), show ((5 : Int32) = 4) = False from eq_false (by decide), show ((5 : Int32) = 5) = True from eq_true rfl, hc]
    · rw [if_pos (Int32.not_le.mp hc)]
      simp only [X9_worth_b184, X9_worth_b185, X9_worth_b186, aN, kA201, kA202, kA203, kA206, kA306, i1n0, i0n1, i0e0, i1e1, gI, gR, pI, pB, pR, xI, xL, yI, yL, vc, kd_sFi, fr_sFi, ln_sFi, ai_sFi, al_sFi, ar_sFi, cs_sFi, sz_sFi, sz_sAi, kd_sAi, fi_sAi, fr_sAi, ln_sAi, al_sAi, ar_sAi, cs_sAi, kd_wz, fi_wz, fr_wz, ln_wz, ai_wz, al_wz, ar_wz, Option.bind_some, if_true, if_false, Nat.reduceAdd, Nat.reduceMul, reduceIte, and_self, true_and, and_true, hkm, r15, k15, l15, r23, k23, l23, cli, ibi, cl1, ib1, cl0, ib0, o', va, vb, eT, eT2, e7, nar_i32, show ((5 : Int32) = 0) = False from eq_false (by decide), show ((5 : Int32) = 1) = False from eq_false (by decide), show ((5 : Int32) = 2) = False from eq_false (by decide), show ((5 : Int32) = 3) = False from eq_false (by decide), show ((5 : Int32) = 4) = False from eq_false (by decide), show ((5 : Int32) = 5) = True from eq_true rfl, hc]
  · have eo : enO 10013 = 6 := by decide
    rw [eo] at o'
    have ej : jn 10013 a b = (if a = b then 1 else 0) := rfl
    rw [ej]
    by_cases hc : a = b
    · rw [if_pos hc]
      simp only [X9_worth_b184, X9_worth_b185, X9_worth_b186, aN, kA201, kA202, kA203, kA206, kA306, i1n0, i0n1, i0e0, i1e1, gI, gR, pI, pB, pR, xI, xL, yI, yL, vc, kd_sFi, fr_sFi, ln_sFi, ai_sFi, al_sFi, ar_sFi, cs_sFi, sz_sFi, sz_sAi, kd_sAi, fi_sAi, fr_sAi, ln_sAi, al_sAi, ar_sAi, cs_sAi, kd_wz, fi_wz, fr_wz, ln_wz, ai_wz, al_wz, ar_wz, Option.bind_some, if_true, if_false, Nat.reduceAdd, Nat.reduceMul, reduceIte, and_self, true_and, and_true, hkm, r15, k15, l15, r23, k23, l23, cli, ibi, cl1, ib1, cl0, ib0, o', va, vb, eT, eT2, e7, nar_i32, show ((6 : Int32) = 0) = False from eq_false (by decide), show ((6 : Int32) = 1) = False from eq_false (by decide), show ((6 : Int32) = 2) = False from eq_false (by decide), show ((6 : Int32) = 3) = False from eq_false (by decide), show ((6 : Int32) = 4) = False from eq_false (by decide), show ((6 : Int32) = 5) = False from eq_false (by decide), show ((6 : Int32) = 6) = True from eq_true rfl, eq_true hc]
    · rw [if_neg hc]
      simp only [X9_worth_b184, X9_worth_b185, X9_worth_b186, aN, kA201, kA202, kA203, kA206, kA306, i1n0, i0n1, i0e0, i1e1, gI, gR, pI, pB, pR, xI, xL, yI, yL, vc, kd_sFi, fr_sFi, ln_sFi, ai_sFi, al_sFi, ar_sFi, cs_sFi, sz_sFi, sz_sAi, kd_sAi, fi_sAi, fr_sAi, ln_sAi, al_sAi, ar_sAi, cs_sAi, kd_wz, fi_wz, fr_wz, ln_wz, ai_wz, al_wz, ar_wz, Option.bind_some, if_true, if_false, Nat.reduceAdd, Nat.reduceMul, reduceIte, and_self, true_and, and_true, hkm, r15, k15, l15, r23, k23, l23, cli, ibi, cl1, ib1, cl0, ib0, o', va, vb, eT, eT2, e7, nar_i32, show ((6 : Int32) = 0) = False from eq_false (by decide), show ((6 : Int32) = 1) = False from eq_false (by decide), show ((6 : Int32) = 2) = False from eq_false (by decide), show ((6 : Int32) = 3) = False from eq_false (by decide), show ((6 : Int32) = 4) = False from eq_false (by decide), show ((6 : Int32) = 5) = False from eq_false (by decide), show ((6 : Int32) = 6) = True from eq_true rfl, eq_false hc]
  · have eo : enO 10014 = 7 := by decide
    rw [eo] at o'
    have ej : jn 10014 a b = (if a ≠ 0 ∧ b ≠ 0 then 1 else 0) := rfl
    rw [ej]
    by_cases hc : a = 0
    · rw [if_neg (fun z => z.1 hc)]
      simp only [X9_worth_b184, X9_worth_b185, X9_worth_b186, aN, kA201, kA202, kA203, kA206, kA306, i1n0, i0n1, i0e0, i1e1, gI, gR, pI, pB, pR, xI, xL, yI, yL, vc, kd_sFi, fr_sFi, ln_sFi, ai_sFi, al_sFi, ar_sFi, cs_sFi, sz_sFi, sz_sAi, kd_sAi, fi_sAi, fr_sAi, ln_sAi, al_sAi, ar_sAi, cs_sAi, kd_wz, fi_wz, fr_wz, ln_wz, ai_wz, al_wz, ar_wz, Option.bind_some, if_true, if_false, Nat.reduceAdd, Nat.reduceMul, reduceIte, and_self, true_and, and_true, hkm, r15, k15, l15, r23, k23, l23, cli, ibi, cl1, ib1, cl0, ib0, o', va, vb, eT, eT2, e7, nar_i32, show ((7 : Int32) = 0) = False from eq_false (by decide), show ((7 : Int32) = 1) = False from eq_false (by decide), show ((7 : Int32) = 2) = False from eq_false (by decide), show ((7 : Int32) = 3) = False from eq_false (by decide), show ((7 : Int32) = 4) = False from eq_false (by decide), show ((7 : Int32) = 5) = False from eq_false (by decide), show ((7 : Int32) = 6) = False from eq_false (by decide), show ((7 : Int32) = 7) = True from eq_true rfl, eq_true hc]
    · by_cases hd : b = 0
      · rw [if_neg (fun z => z.2 hd)]
        simp only [X9_worth_b184, X9_worth_b185, X9_worth_b186, aN, kA201, kA202, kA203, kA206, kA306, i1n0, i0n1, i0e0, i1e1, gI, gR, pI, pB, pR, xI, xL, yI, yL, vc, kd_sFi, fr_sFi, ln_sFi, ai_sFi, al_sFi, ar_sFi, cs_sFi, sz_sFi, sz_sAi, kd_sAi, fi_sAi, fr_sAi, ln_sAi, al_sAi, ar_sAi, cs_sAi, kd_wz, fi_wz, fr_wz, ln_wz, ai_wz, al_wz, ar_wz, Option.bind_some, if_true, if_false, Nat.reduceAdd, Nat.reduceMul, reduceIte, and_self, true_and, and_true, hkm, r15, k15, l15, r23, k23, l23, cli, ibi, cl1, ib1, cl0, ib0, o', va, vb, eT, eT2, e7, nar_i32, show ((7 : Int32) = 0) = False from eq_false (by decide), show ((7 : Int32) = 1) = False from eq_false (by decide), show ((7 : Int32) = 2) = False from eq_false (by decide), show ((7 : Int32) = 3) = False from eq_false (by decide), show ((7 : Int32) = 4) = False from eq_false (by decide), show ((7 : Int32) = 5) = False from eq_false (by decide), show ((7 : Int32) = 6) = False from eq_false (by decide), show ((7 : Int32) = 7) = True from eq_true rfl, eq_false hc, eq_true hd]
      · rw [if_pos ⟨hc, hd⟩]
        simp only [X9_worth_b184, X9_worth_b185, X9_worth_b186, aN, kA201, kA202, kA203, kA206, kA306, i1n0, i0n1, i0e0, i1e1, gI, gR, pI, pB, pR, xI, xL, yI, yL, vc, kd_sFi, fr_sFi, ln_sFi, ai_sFi, al_sFi, ar_sFi, cs_sFi, sz_sFi, sz_sAi, kd_sAi, fi_sAi, fr_sAi, ln_sAi, al_sAi, ar_sAi, cs_sAi, kd_wz, fi_wz, fr_wz, ln_wz, ai_wz, al_wz, ar_wz, Option.bind_some, if_true, if_false, Nat.reduceAdd, Nat.reduceMul, reduceIte, and_self, true_and, and_true, hkm, r15, k15, l15, r23, k23, l23, cli, ibi, cl1, ib1, cl0, ib0, o', va, vb, eT, eT2, e7, nar_i32, show ((7 : Int32) = 0) = False from eq_false (by decide), show ((7 : Int32) = 1) = False from eq_false (by decide), show ((7 : Int32) = 2) = False from eq_false (by decide), show ((7 : Int32) = 3) = False from eq_false (by decide), show ((7 : Int32) = 4) = False from eq_false (by decide), show ((7 : Int32) = 5) = False from eq_false (by decide), show ((7 : Int32) = 6) = False from eq_false (by decide), show ((7 : Int32) = 7) = True from eq_true rfl, eq_false hc, eq_false hd]
theorem lnAt_tail {m15 m16 : Nat → Int32} {i : Nat} {s : Int32} {r : List Int32} (h : lnAt m15 m16 i (s :: r)) : m15 i = enO s ∧ m16 i = enA s ∧ lnAt m15 m16 (i + 1) r := by
  refine ⟨(h.1 0 (Nat.succ_pos _)).1, (h.1 0 (Nat.succ_pos _)).2, fun j hj => ?_, ?_⟩
  · have := h.1 (j + 1) (Nat.succ_lt_succ hj)
    rw [show i + 1 + j = i + (j + 1) by omega]
    exact this
  · have := h.2
    rw [show i + 1 + r.length = i + (r.length + 1) by omega]
    exact this
theorem two_of {st : List Int32} (h : 2 ≤ st.length) : ∃ b a r, st = b :: a :: r := by
  match st, h with
  | b :: a :: r, _ => exact ⟨b, a, r, rfl⟩
theorem w_eval {fc : Nat → Int32} : ∀ (es st : List Int32) (i : Nat) (h : HS), SMA q am h → okE es st.length → st.length ≤ 32 → StkA (mv q h 23) st → (∀ k, k < 5 → mv q h 22 k = fc k) → lnAt (mv q h 15) (mv q h 16) i es → i + es.length < 13860 → ∀ F, ∃ h', X9_worth_L4 am (F + 1 + es.length) (nI i) (nI st.length) h = some ((ev fc es st).headD 0, h') ∧ FrW q h h' := by
  intro es
  induction es with
  | nil =>
    intro st i h hM hok h32 hst hk hl hi F
    refine ⟨h, ?_, FrW.rf h⟩
    have hl1 : st.length = 1 := hok
    match st, hl1, hst with
    | [v], _, hst =>
      have hkm : kd h am = 11 := hM.1
      have r15 : fr h 1015 am = some (q 15) := (hM.2.1 (15, 201, 13860) (by decide)).1
      have k15 : kd h (q 15) = 201 := (hM.2.1 (15, 201, 13860) (by decide)).2.1
      have l15 : ln h (q 15) = 13860 := (hM.2.1 (15, 201, 13860) (by decide)).2.2
      have r23 : fr h 1023 am = some (q 23) := (hM.2.1 (23, 201, 660) (by decide)).1
      have k23 : kd h (q 23) = 201 := (hM.2.1 (23, 201, 660) (by decide)).2.1
      have l23 : ln h (q 23) = 660 := (hM.2.1 (23, 201, 660) (by decide)).2.2
      have hi' : i < 13860 := by simpa using hi
      have cli : (nI i).toNatClampNeg = i := nI_cl hi' (by omega)
      have ibi : inB (nI i) 13860 = true := inB_nI hi' (by omega)
      have cl0 : (0 : Int32).toNatClampNeg = 0 := by decide
      have ib0 : inB 0 660 = true := by decide
      have o' : ai h (q 15) i = 0 := hl.2
      have v0 : ai h (q 23) 0 = v := hst.1
      show X9_worth_L4 am (F + 1) (nI i) (nI 1) h = some (v, h)
      conv => lhs; unfold X9_worth_L4
      simp only [aN, kA201, kA202, kA203, kA206, kA306, i1n0, i0n1, i0e0, i1e1, gI, gR, pI, pB, pR, xI, xL, yI, yL, vc, kd_sFi, fr_sFi, ln_sFi, ai_sFi, al_sFi, ar_sFi, cs_sFi, sz_sFi, sz_sAi, kd_sAi, fi_sAi, fr_sAi, ln_sAi, al_sAi, ar_sAi, cs_sAi, kd_wz, fi_wz, fr_wz, ln_wz, ai_wz, al_wz, ar_wz, Option.bind_some, if_true, if_false, Nat.reduceAdd, Nat.reduceMul, reduceIte, and_self, true_and, and_true, hkm, r15, k15, l15, r23, k23, l23, cli, ibi, cl0, ib0, o', v0]
  | cons s r ih =>
    intro st i h hM hok h32 hst hk hl hi F
    obtain ⟨l1, l2, l3⟩ := lnAt_tail hl
    have hi' : i + (r.length + 1) < 13860 := hi
    obtain ⟨h0, hlt, h2⟩ := hok
    have eF : F + 1 + (s :: r).length = (F + 1 + r.length) + 1 := rfl
    have go : ∀ (st' : List Int32) (x : Int32) (m : Nat), X9_worth_L4 am (F + 1 + r.length + 1) (nI i) (nI st.length) h = X9_worth_L4 am (F + 1 + r.length) (nI (i + 1)) (nI st'.length) (sAi h (q 23) m x) → StkA (va_up (mv q h 23) m x) st' → okE r st'.length → st'.length ≤ 32 → ev fc (s :: r) st = ev fc r st' → ∃ h', X9_worth_L4 am (F + 1 + (s :: r).length) (nI i) (nI st.length) h = some ((ev fc (s :: r) st).headD 0, h') ∧ FrW q h h' := by
      intro st' x m q1 q2 q3 q4 q5
      obtain ⟨f1, f2⟩ := FrW_23 hM m x
      obtain ⟨h', a1, a2⟩ := ih st' (i + 1) (sAi h (q 23) m x) hM q3 q4 (by rw [f2]; exact q2) (fun k hk5 => by rw [f1.2.2 22 (by decide)]; exact hk k hk5) (by rw [f1.2.2 15 (by decide), f1.2.2 16 (by decide)]; exact l3) (by omega) F
      refine ⟨h', ?_, f1.tr a2⟩
      rw [eF, q1, a1, q5]
    rcases h2 with ⟨a1, a2, a3⟩ | ⟨a1, a2, a3, a4⟩
    · refine go ((if s < 10000 then s else fc (s.toNatClampNeg - 10000)) :: st) _ st.length (w_val hM (by omega) (by omega) h0 a1 l1 l2 hk) ⟨va_up_same _ _ _, StkA_up (Nat.le_refl _) hst⟩ a3 (by show st.length + 1 ≤ 32; omega) ?_
      by_cases hs : s < 10000
      · rw [if_pos hs]; conv => lhs; unfold ev
        rw [if_pos hs]
      · rw [if_neg hs]; conv => lhs; unfold ev
        rw [if_neg hs, if_pos a1]
    · have b1 : ¬ s < 10000 := fun z => a1 (Int32.lt_trans z (by decide))
      have b2 : ¬ s < 10005 := fun z => a1 (Int32.lt_trans z (by decide))
      obtain ⟨b, a, st2, rfl⟩ := two_of a3
      have h32' : st2.length + 1 + 1 ≤ 32 := h32
      refine go (jn s a b :: st2) _ st2.length (w_op hM (by omega) (by omega) a1 a2 l1 hst.2.1 hst.1) ⟨va_up_same _ _ _, StkA_up (Nat.le_refl _) hst.2.2⟩ a4 (by show st2.length + 1 ≤ 32; omega) ?_
      conv => lhs; unfold ev
      rw [if_neg b1, if_neg b2]
end EVAL9
