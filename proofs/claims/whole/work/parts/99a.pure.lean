section LINESIM
variable {ax ao am : Nat} {ad : Nat → Nat → Nat} {n e pO fO q tm : Nat → Nat} {tx : Nat → List (Int32 × List Int32)} {w : Nat} {pn : Nat → Nat} {nw : Nat → Nat → Nat} {fs : Nat → Nat} {ls : Nat → Option Nat} {rs rl pr : Nat → Nat} {tl : Nat} {hx hm : HS}
theorem any_nI (x : Int32) : ∃ d, x = nI d := by
  by_cases h : x < 0
  · refine ⟨(x.toInt + 2 ^ 32).toNat, ?_⟩
    apply Int32.toInt_inj.mp
    have h1 := Int32.le_toInt x
    have h2 := Int32.toInt_lt x
    have h3 := Int32.lt_iff_toInt_lt.mp h
    have h4 : (0 : Int32).toInt = 0 := rfl
    rw [h4] at h3
    show x.toInt = (Int32.ofNat (x.toInt + 2 ^ 32).toNat).toInt
    rw [Int32.toInt_ofNat']
    rw [Int.toNat_of_nonneg (by omega)]
    have hz : (x.toInt + 2 ^ 32 : Int) = x.toInt + ((4294967296 : Nat) : Int) := by omega
    rw [hz]
    show x.toInt = (x.toInt + ((4294967296 : Nat) : Int)).bmod 4294967296
    rw [Int.add_bmod_right]
    exact (Int.bmod_eq_of_le (by omega) (by omega)).symm
  · obtain ⟨j, -, hj⟩ := nI_of h
    exact ⟨j, hj⟩
theorem flat_app (a b : List (Int32 × List Int32)) : flat (a ++ b) = flat a ++ flat b := by
  induction a with
  | nil => rfl
  | cons p a ih =>
    obtain ⟨r, es⟩ := p
    show es ++ (20000 + r) :: flat (a ++ b) = (es ++ (20000 + r) :: flat a) ++ flat b
    rw [ih, List.append_assoc]; rfl
theorem flat_one (r : Int32) (es : List Int32) : flat [(r, es)] = es ++ [20000 + r] := rfl
theorem gE_l {α : Type} {l r : List α} {j : Nat} {x : α} (h : j < l.length) : (l ++ r).getD j x = l.getD j x := by
  rw [List.getD_eq_getElem?_getD, List.getD_eq_getElem?_getD, List.getElem?_append_left h]
theorem gE_r {α : Type} {l : List α} {x y : α} : (l ++ [y]).getD l.length x = y := by
  rw [List.getD_eq_getElem?_getD, List.getElem?_append_right (Nat.le_refl _), Nat.sub_self]; rfl
def LR (am : Nat) (ad : Nat → Nat → Nat) (n q : Nat → Nat) (K : Nat → Int32) (T : Nat) (Ls : List (Int32 × List Int32)) (A : Nat) (hx hm : HS) : Prop :=
  (PX ad n A (K A) 0 hx ∧ CX ad n (flat Ls) hx ∧ cf ad n hx 705 0 = nI Ls.length) ∧
  (mf am hm 7 = nI A ∧ mf am hm 8 = 0 ∧ CM am q (flat Ls) hm ∧ mv q hm 12 20 = nI Ls.length) ∧
  (A ≤ T ∧ (flat Ls).length ≤ A ∧ (0 < Ls.length → (flat Ls).length + 3 ≤ A) ∧ Ls.length ≤ 16) ∧
  (∀ p ∈ Ls, okE p.2 0 ∧ 0 ≤ p.1 ∧ p.1 ≤ 999) ∧ ∀ k, k < Ls.length → mv q hm 13 (320 + k) = (Ls.getD k (0, [])).1 ∧ mv q hm 14 (320 + k) = nI (flat (Ls.take k)).length
theorem tl6F {h : HS} (hS : SXA ax ao ad n e pO fO h) {f : Int32} (hF : FLT ad n f h) (r : Int32) : ∃ h', ((vc h (some (ad 7 0)) 7 (fun b12 => m_X6_write b12 ((20000 : Int32) + r) h)).bind fun h11 => (gI h11 (some (ad 7 0)) 7 5).bind fun x13 => (pI h11 (some (ad 7 0)) 7 5 (x13 + (1 : Int32))).bind fun h14 => some h14) = some h' ∧ FL ax ao ad n e pO fO h h' ∧ FLT ad n f h' := by
  have k7 := (ktok hS).2.2.2.2.2.1
  obtain ⟨h2, b1, b2, b3⟩ := x_writeF hS (20000 + r) hF
  have k72 := (ktok b2.1).2.2.2.2.2.1
  have f705 : fi h2 705 (ad 7 0) = cf ad n h2 705 0 := f7 b2.1 (by decide)
  obtain ⟨c1, c2, c3⟩ := FL_705 b2.1 (cf ad n h2 705 0 + 1)
  refine ⟨sFi h2 705 (ad 7 0) (cf ad n h2 705 0 + 1), ?_, b2.l.tr c1, ?_, b3.2.1, ?_⟩
  · simp only [aN, kA201, kA202, kA203, kA206, kA306, i1n0, i0n1, i0e0, i1e1, gI, gR, pI, pB, pR, xI, xL, yI, yL, vc, kd_sFi, fr_sFi, ln_sFi, ai_sFi, al_sFi, ar_sFi, cs_sFi, sz_sFi, sz_sAi, kd_sAi, fi_sAi, fr_sAi, ln_sAi, al_sAi, ar_sAi, cs_sAi, kd_wz, fi_wz, fr_wz, ln_wz, ai_wz, al_wz, ar_wz, Option.bind_some, if_true, if_false, Nat.reduceAdd, Nat.reduceMul, reduceIte, and_self, true_and, and_true, k7, b1, k72, f705]
  · rw [c3 706 (by decide)]; exact b3.1
  · rw [c3 704 (by decide)]; exact b3.2.2
theorem flt_ne {K P : Nat → Int32} {T A : Nat} {h : HS} (hT : TM q K P T h) (hA : A ≤ T) {k : Nat} (hk : 1 ≤ k) (hk5 : k ≤ 5) : nI k + 16 * P A ≠ 0 ∧ ¬ nI k + 16 * P A ≤ 0 := by
  obtain ⟨y, y1, y2, y3⟩ := flt_val hT hA hk hk5
  rw [y3]
  exact ⟨fun z => by have := (nI_eq (b := 0) (by omega) (by omega)).mp z; omega, nI_ge (a := 0) (by omega) (by omega)⟩
/-- the reference behind the rate's word -/
theorem r_b33 {h : HS} (hM : SMA q am h) {K P : Nat → Int32} {T A nL : Nat} (hT : TM q K P T h) (h7 : mf am h 7 = nI A) (h8 : mf am h 8 = 0) (hA : A + 1 ≤ T) (h12 : mv q h 12 20 = nI nL) (hn : nL < 16) :
    (∀ x : Nat, K (A + 1) = nI x → x ≤ 999 → X9_line_b33 am h = X9_line_b131 am (nI (320 + nL)) (nI x) (nI (320 + nL)) (some (q 13)) (sFi h 1007 am (nI (A + 1)))) ∧
    (∀ k : Nat, (k = 1 ∧ ¬ (¬ K (A + 1) < 0 ∧ K (A + 1) < 10000)) ∨ (k = 4 ∧ ∃ x : Nat, K (A + 1) = nI x ∧ 999 < x ∧ x < 10000) → X9_line_b33 am h = X9_line_b131 am (nI (320 + nL)) 0 (nI (320 + nL)) (some (q 13)) (sFi (sFi h 1007 am (nI (A + 1))) 1008 am (nI k + 16 * P (A + 1)))) := by
  have hkm : kd h am = 11 := hM.1
  have f7 : fi h 1007 am = nI A := h7
  have f8 : fi h 1008 am = 0 := h8
  have r4 : fr h 1004 am = some (q 4) := (hM.2.1 (4, 201, 602) (by decide)).1
  have k4 : kd h (q 4) = 201 := (hM.2.1 (4, 201, 602) (by decide)).2.1
  have l4 : ln h (q 4) = 602 := (hM.2.1 (4, 201, 602) (by decide)).2.2
  have r6 : fr h 1006 am = some (q 6) := (hM.2.1 (6, 204, 602) (by decide)).1
  have k6 : kd h (q 6) = 204 := (hM.2.1 (6, 204, 602) (by decide)).2.1
  have l6 : ln h (q 6) = 602 := (hM.2.1 (6, 204, 602) (by decide)).2.2
  have r12 : fr h 1012 am = some (q 12) := (hM.2.1 (12, 201, 21) (by decide)).1
  have k12 : kd h (q 12) = 201 := (hM.2.1 (12, 201, 21) (by decide)).2.1
  have l12 : ln h (q 12) = 21 := (hM.2.1 (12, 201, 21) (by decide)).2.2
  have r13 : fr h 1013 am = some (q 13) := (hM.2.1 (13, 201, 336) (by decide)).1
  have k13 : kd h (q 13) = 201 := (hM.2.1 (13, 201, 336) (by decide)).2.1
  have l13 : ln h (q 13) = 336 := (hM.2.1 (13, 201, 336) (by decide)).2.2
  have h6 := hT.1
  obtain ⟨d, hd⟩ := any_nI (mf am h 18)
  have hP : PM am A 0 d h := ⟨h7, h8, hd⟩
  obtain ⟨p1, p2, p3⟩ := r_at (q := q) hP (A + 1)
  have hM1 : SMA q am (sFi h 1007 am (nI (A + 1))) := hM
  have hw := fun k => r_wrong hM1 (hT.fr p1) p2 hA (nI k)
  have b20 : inB 20 21 = true := by decide
  have c20 : (20 : Int32).toNatClampNeg = 20 := by decide
  have v12 : ai h (q 12) 20 = nI nL := h12
  have cl : (nI (A + 1)).toNatClampNeg = A + 1 := nI_cl (N := 602) (by omega) (by omega)
  have ib : inB (nI (A + 1)) 602 = true := inB_nI (by omega) (by omega)
  have e1 : nI A + 1 = nI (A + 1) := nI_add A 1
  have e3 : (320 : Int32) + nI nL = nI (320 + nL) := nI_add 320 nL
  have v4 : ai h (q 4) (A + 1) = mv q h 4 (A + 1) := rfl
  obtain ⟨⟨tn, tv⟩, -⟩ := (hT.2.1 (A + 1) hA).1
  have z00 : ((0 : Int32) ≤ 0) = True := eq_true (by decide)
  have n1 : ((1008 : Nat) = 1007) = False := eq_false (by decide)
  refine ⟨fun x hx hx9 => ?_, fun k hk => ?_⟩
  · have h2 : mv q h 4 (A + 1) = 2 := tn.mpr ⟨by rw [hx]; exact nI_pos (by omega), by rw [hx]; exact nI_lt (b := 10000) (by omega) (by omega)⟩
    have hval : al h (q 6) (A + 1) = lN x := (tv h2).trans (by rw [hx]; exact nI_l (by omega))
    have hl : lg_cmp (lN x) 999 ≤ 0 := by
      rw [show (999 : Int64) = lN 999 from rfl, lgc (by omega) (by omega), if_neg (by omega)]
      split <;> decide
    simp only [X9_line_b33, X9_line_b105, aN, kA201, kA202, kA203, kA206, kA306, i1n0, i0n1, i0e0, i1e1, gI, gR, pI, pB, pR, xI, xL, yI, yL, vc, kd_sFi, fr_sFi, ln_sFi, ai_sFi, al_sFi, ar_sFi, cs_sFi, sz_sFi, sz_sAi, kd_sAi, fi_sAi, fr_sAi, ln_sAi, al_sAi, ar_sAi, cs_sAi, kd_wz, fi_wz, fr_wz, ln_wz, ai_wz, al_wz, ar_wz, Option.bind_some, if_true, if_false, Nat.reduceAdd, Nat.reduceMul, reduceIte, and_self, true_and, and_true, hkm, f8, z00, f7, e1, r4, k4, l4, r6, k6, l6, r12, k12, l12, r13, k13, l13, b20, c20, v12, fi_sFi, up2, n1, false_and, cl, ib, v4, h2, hval, hl, e3, lN_i]
  · obtain ⟨hne, hnl⟩ := flt_ne (k := k) hT hA (by omega) (by omega)
    have b105 : X9_line_b105 am (nI (320 + nL)) (sFi (sFi h 1007 am (nI (A + 1))) 1008 am (nI k + 16 * P (A + 1))) = X9_line_b131 am (nI (320 + nL)) 0 (nI (320 + nL)) (some (q 13)) (sFi (sFi h 1007 am (nI (A + 1))) 1008 am (nI k + 16 * P (A + 1))) := by
      have fx : fi (sFi (sFi h 1007 am (nI (A + 1))) 1008 am (nI k + 16 * P (A + 1))) 1008 am = nI k + 16 * P (A + 1) := by rw [fi_sFi, up2_same]
      simp only [X9_line_b105, aN, kA201, kA202, kA203, kA206, kA306, i1n0, i0n1, i0e0, i1e1, gI, gR, pI, pB, pR, xI, xL, yI, yL, vc, kd_sFi, fr_sFi, ln_sFi, ai_sFi, al_sFi, ar_sFi, cs_sFi, sz_sFi, sz_sAi, kd_sAi, fi_sAi, fr_sAi, ln_sAi, al_sAi, ar_sAi, cs_sAi, kd_wz, fi_wz, fr_wz, ln_wz, ai_wz, al_wz, ar_wz, Option.bind_some, if_true, if_false, Nat.reduceAdd, Nat.reduceMul, reduceIte, and_self, true_and, and_true, hkm, fx, hnl, r13, k13, l13]
    rw [← b105]
    rcases hk with ⟨rfl, hk⟩ | ⟨rfl, x, hx, hx9, hx4⟩
    · have h2 : (mv q h 4 (A + 1) = 2) = False := eq_false fun z => hk (tn.mp z)
      have hw1 : m_X9_wrong am 1 (sFi h 1007 am (nI (A + 1))) = some (sFi (sFi h 1007 am (nI (A + 1))) 1008 am (nI 1 + 16 * P (A + 1))) := hw 1
      simp only [X9_line_b33, aN, kA201, kA202, kA203, kA206, kA306, i1n0, i0n1, i0e0, i1e1, gI, gR, pI, pB, pR, xI, xL, yI, yL, vc, kd_sFi, fr_sFi, ln_sFi, ai_sFi, al_sFi, ar_sFi, cs_sFi, sz_sFi, sz_sAi, kd_sAi, fi_sAi, fr_sAi, ln_sAi, al_sAi, ar_sAi, cs_sAi, kd_wz, fi_wz, fr_wz, ln_wz, ai_wz, al_wz, ar_wz, Option.bind_some, if_true, if_false, Nat.reduceAdd, Nat.reduceMul, reduceIte, and_self, true_and, and_true, hkm, f8, z00, f7, e1, r4, k4, l4, r6, k6, l6, r12, k12, l12, b20, c20, v12, fi_sFi, up2, cl, ib, v4, h2, e3, hw1]
    · have h2 : mv q h 4 (A + 1) = 2 := tn.mpr ⟨by rw [hx]; exact nI_pos (by omega), by rw [hx]; exact nI_lt (b := 10000) hx4 (by omega)⟩
      have hval : al h (q 6) (A + 1) = lN x := (tv h2).trans (by rw [hx]; exact nI_l (by omega))
      have hl : ¬ lg_cmp (lN x) 999 ≤ 0 := by
        rw [show (999 : Int64) = lN 999 from rfl, lgc (by omega) (by omega), if_pos (by omega)]
        decide
      have hw1 : m_X9_wrong am 4 (sFi h 1007 am (nI (A + 1))) = some (sFi (sFi h 1007 am (nI (A + 1))) 1008 am (nI 4 + 16 * P (A + 1))) := hw 4
      simp only [X9_line_b33, aN, kA201, kA202, kA203, kA206, kA306, i1n0, i0n1, i0e0, i1e1, gI, gR, pI, pB, pR, xI, xL, yI, yL, vc, kd_sFi, fr_sFi, ln_sFi, ai_sFi, al_sFi, ar_sFi, cs_sFi, sz_sFi, sz_sAi, kd_sAi, fi_sAi, fr_sAi, ln_sAi, al_sAi, ar_sAi, cs_sAi, kd_wz, fi_wz, fr_wz, ln_wz, ai_wz, al_wz, ar_wz, Option.bind_some, if_true, if_false, Nat.reduceAdd, Nat.reduceMul, reduceIte, and_self, true_and, and_true, hkm, f8, z00, f7, e1, r4, k4, l4, r6, k6, l6, r12, k12, l12, b20, c20, v12, fi_sFi, up2, cl, ib, v4, h2, hval, hl, e3, hw1]
theorem r_b131F {h : HS} (hM : SMA q am h) {i c : Nat} (hi : 320 ≤ i) (hi2 : i < 336) (h17 : mf am h 17 = nI c) (hc : c ≤ 600) {f : Int32} (h8 : mf am h 8 = f) (hf : f ≠ 0) (s : Int32) : ∃ h', X9_line_b131 am (nI i) s (nI i) (some (q 13)) h = some h' ∧ F9 am q h h' ∧ mf am h' 8 = f := by
  have hkm : kd h am = 11 := hM.1
  have r13 : fr h 1013 am = some (q 13) := (hM.2.1 (13, 201, 336) (by decide)).1
  have k13 : kd h (q 13) = 201 := (hM.2.1 (13, 201, 336) (by decide)).2.1
  have l13 : ln h (q 13) = 336 := (hM.2.1 (13, 201, 336) (by decide)).2.2
  have cl : (nI i).toNatClampNeg = i := nI_cl (N := 336) hi2 (by omega)
  have ib : inB (nI i) 336 = true := inB_nI hi2 (by omega)
  obtain ⟨w1, w2, w3⟩ := F9_w hM (k := 13) (j := i) (Or.inr (Or.inl ⟨rfl, hi⟩)) s
  obtain ⟨p1, p2, p3⟩ := FM_s (am := am) (q := q) (h := sAi h (q 13) i s) (k := 7) (by decide) (fi h 1007 am + 1)
  have hM2 : SMA q am (sFi (sAi h (q 13) i s) 1007 am (fi h 1007 am + 1)) := hM
  have h82 : mf am (sFi (sAi h (q 13) i s) 1007 am (fi h 1007 am + 1)) 8 = f := (p3 8 (by decide)).trans h8
  obtain ⟨h3, a1, a2, a3⟩ := r_takeWordF hM2 h82 hf
  have hM3 := SMA_same a2.1 hM2
  obtain ⟨h4, b1, b2, b3⟩ := r_rstF hM3 hi hi2 ((a3 17 (by decide)).trans ((p3 17 (by decide)).trans h17)) hc ((a3 8 (by decide)).trans h82) hf
  refine ⟨h4, ?_, ((w1.tr p1.l).tr a2.l).tr b2, b3⟩
  rw [b131_eq]
  simp only [aN, kA201, kA202, kA203, kA206, kA306, i1n0, i0n1, i0e0, i1e1, gI, gR, pI, pB, pR, xI, xL, yI, yL, vc, kd_sFi, fr_sFi, ln_sFi, ai_sFi, al_sFi, ar_sFi, cs_sFi, sz_sFi, sz_sAi, kd_sAi, fi_sAi, fr_sAi, ln_sAi, al_sAi, ar_sAi, cs_sAi, kd_wz, fi_wz, fr_wz, ln_wz, ai_wz, al_wz, ar_wz, Option.bind_some, if_true, if_false, Nat.reduceAdd, Nat.reduceMul, reduceIte, and_self, true_and, and_true, hkm, r13, k13, l13, cl, ib, nar_i32, a1, b1]
end LINESIM
