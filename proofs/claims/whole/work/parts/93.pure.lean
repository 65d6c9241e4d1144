section RD9B
variable {ax ao am : Nat} {ad : Nat → Nat → Nat} {n e pO fO q tm : Nat → Nat} {tx : Nat → List (Int32 × List Int32)} {w : Nat} {pn : Nat → Nat} {nw : Nat → Nat → Nat} {fs : Nat → Nat} {ls : Nat → Option Nat} {rs rl pr : Nat → Nat} {tl : Nat} {hx hm : HS}
theorem i64_32 (x : Int32) : x.toInt64.toInt32 = x := by
  apply Int32.toInt_inj.mp
  rw [Int64.toInt_toInt32, Int32.toInt_toInt64]
  have h1 := Int32.le_toInt x
  have h2 := Int32.toInt_lt x
  exact Int.bmod_eq_of_le (by omega) (by omega)
theorem r_at {h : HS} {A d : Nat} {f : Int32} (hP : PM am A f d h) (B : Nat) : FM am q h (sFi h 1007 am (nI B)) ∧ PM am B f d (sFi h 1007 am (nI B)) ∧ (∀ C, CM am q C h → CM am q C (sFi h 1007 am (nI B))) := by
  obtain ⟨a1, a2, a3⟩ := FM_s (am := am) (q := q) (h := h) (k := 7) (by decide) (nI B)
  exact ⟨a1, ⟨a2, by rw [a3 8 (by decide)]; exact hP.2.1, by rw [a3 18 (by decide)]; exact hP.2.2⟩, fun C hC => ⟨by rw [a3 17 (by decide)]; exact hC.1, hC.2⟩⟩
theorem r_hasSign {h : HS} (hM : SMA q am h) {K P : Nat → Int32} {T A d : Nat} (hT : TM q K P T h) (hP : PM am A 0 d h) (hA : A ≤ T) : m_X9_hasSign am 40 h = if K A = 10022 then some (1, sFi h 1007 am (nI (A + 1))) else some (0, sFi h 1007 am (nI A)) := by
  have hkm : kd h am = 11 := hM.1
  have f7 : fi h 1007 am = nI A := hP.1
  have hs := r_isSign hM hT hP hA (i := 0) (by decide) (c := 40) rfl
  have hs' : m_X9_isSign am 40 h = some (if K A = 10022 then 1 else 0, h) := hs
  have e1 : nI A + 1 = nI (A + 1) := nI_add A 1
  have e0 : nI A + 0 = nI A := Int32.add_zero _
  by_cases hk : K A = 10022
  · rw [if_pos hk] at hs' ⊢
    simp only [m_X9_hasSign, X9_hasSign_b20, aN, kA201, kA202, kA203, kA206, kA306, i1n0, i0n1, i0e0, i1e1, gI, gR, pI, pB, pR, xI, xL, yI, yL, vc, kd_sFi, fr_sFi, ln_sFi, ai_sFi, al_sFi, ar_sFi, cs_sFi, sz_sFi, sz_sAi, kd_sAi, fi_sAi, fr_sAi, ln_sAi, al_sAi, ar_sAi, cs_sAi, kd_wz, fi_wz, fr_wz, ln_wz, ai_wz, al_wz, ar_wz, Option.bind_some, if_true, if_false, Nat.reduceAdd, Nat.reduceMul, reduceIte, and_self, true_and, and_true, hkm, hs', f7, e1, or_true]
  · rw [if_neg hk] at hs' ⊢
    simp only [m_X9_hasSign, X9_hasSign_b20, aN, kA201, kA202, kA203, kA206, kA306, i1n0, i0n1, i0e0, i1e1, gI, gR, pI, pB, pR, xI, xL, yI, yL, vc, kd_sFi, fr_sFi, ln_sFi, ai_sFi, al_sFi, ar_sFi, cs_sFi, sz_sFi, sz_sAi, kd_sAi, fi_sAi, fr_sAi, ln_sAi, al_sAi, ar_sAi, cs_sAi, kd_wz, fi_wz, fr_wz, ln_wz, ai_wz, al_wz, ar_wz, Option.bind_some, if_true, if_false, Nat.reduceAdd, Nat.reduceMul, reduceIte, and_self, true_and, and_true, hkm, hs', f7, e0, true_or]
/-- a token is a value -/
def isV (k : Int32) : Prop := ¬ k < 0 ∧ k < 10005
theorem r_partV {h : HS} (hM : SMA q am h) {K P : Nat → Int32} {T A d : Nat} {C : List Int32} (hT : TM q K P T h) (hP : PM am A 0 d h) (hC : CM am q C h) (hA : A ≤ T) (hl : C.length < 660) (hd : d < 5) (hv : isV (K A)) : ∃ h', m_X9_part am h = some (0, h') ∧ FM am q h h' ∧ PM am (A + 1) 0 d h' ∧ CM am q (C ++ [K A]) h' ∧ ∀ k, (k ≠ 15 ∧ k ≠ 16) → mv q h' k = mv q h k := by
  have hkm : kd h am = 11 := hM.1
  have f7 : fi h 1007 am = nI A := hP.1
  have f8 : fi h 1008 am = 0 := hP.2.1
  have f18 : fi h 1018 am = nI d := hP.2.2
  have r4 : fr h 1004 am = some (q 4) := (hM.2.1 (4, 201, 602) (by decide)).1
  have k4 : kd h (q 4) = 201 := (hM.2.1 (4, 201, 602) (by decide)).2.1
  have l4 : ln h (q 4) = 602 := (hM.2.1 (4, 201, 602) (by decide)).2.2
  have r6 : fr h 1006 am = some (q 6) := (hM.2.1 (6, 204, 602) (by decide)).1
  have k6 : kd h (q 6) = 204 := (hM.2.1 (6, 204, 602) (by decide)).2.1
  have l6 : ln h (q 6) = 602 := (hM.2.1 (6, 204, 602) (by decide)).2.2
  have h6 := hT.1
  have cl : (nI A).toNatClampNeg = A := nI_cl (N := 602) (by omega) (by omega)
  have ib : inB (nI A) 602 = true := inB_nI (by omega) (by omega)
  have v4 : ai h (q 4) A = mv q h 4 A := rfl
  obtain ⟨⟨tn, tv⟩, t0, ts, tw⟩ := (hT.2.1 A hA).1
  have nO : ¬ K A = 10022 := fun z => by rw [z] at hv; exact absurd hv.2 (by decide)
  have hs := r_isSign hM hT hP hA (i := 0) (by decide) (c := 40) rfl
  have hs' : m_X9_isSign am 40 h = some (if K A = 10022 then 1 else 0, h) := hs
  rw [if_neg nO] at hs'
  have hh := r_hasSign hM hT hP hA
  rw [if_neg nO] at hh
  obtain ⟨p1, p2, p3⟩ := r_at (q := q) hP A
  have hM1 : SMA q am (sFi h 1007 am (nI A)) := hM
  obtain ⟨h1, e1, e2, e3, e4, e5⟩ := r_emit hM1 (p3 C hC) hl (K A)
  have f71 : fi h1 1007 am = nI A := (e4 7 (by decide)).trans p2.1
  have pm1 : PM am A 0 d h1 := ⟨f71, (e4 8 (by decide)).trans p2.2.1, (e4 18 (by decide)).trans p2.2.2⟩
  obtain ⟨g1, g2, g3⟩ := r_at (q := q) pm1 (A + 1)
  have k1 := e2.1.1
  have ea : nI A + 1 = nI (A + 1) := nI_add A 1
  have d5 : (nI d = 5) = False := eq_false fun z => by have := (nI_eq (b := 5) (by omega) (by omega)).mp z; omega
  have z00 : ((0 : Int32) ≤ 0) = True := eq_true (by decide)
  have zm : ((0 : Int32) ≤ -1) = False := eq_false (by decide)
  refine ⟨sFi h1 1007 am (nI (A + 1)), ?_, (p1.tr e2).tr g1, g2, g3 _ e3, fun k hk => (e5 k hk)⟩
  by_cases hn : K A < 10000
  · have h2 : mv q h 4 A = 2 := tn.mpr ⟨hv.1, hn⟩
    have hval : al h (q 6) A = (K A).toInt64 := tv h2
    have eo : eO (K A) = 1 := by unfold eO enO; rw [if_neg (Int32.not_le.mpr (Int32.lt_trans hn (by decide))), if_pos hn]
    have ea2 : eA (K A) = K A := by unfold eA enA; rw [if_neg (Int32.not_le.mpr (Int32.lt_trans hn (by decide))), if_pos hn]
    rw [eo, ea2] at e1
    have hpw : m_X9_partWord am h = some (-1, h) := by
      rcases r_partWord hM hT hP hA 5 0 (by decide) FU (by unfold FU; omega) with ⟨k0, a1, a2, a3, a4⟩ | ⟨a1, a2⟩
      · exfalso
        rw [a3] at hn
        have := (nI_ltI (b := 10000) (by omega) (by omega)).mp hn
        omega
      · exact a2
    simp only [m_X9_part, X9_part_b46, X9_part_b59, X9_part_b103, X9_part_b121, aN, kA201, kA202, kA203, kA206, kA306, i1n0, i0n1, i0e0, i1e1, gI, gR, pI, pB, pR, xI, xL, yI, yL, vc, kd_sFi, fr_sFi, ln_sFi, ai_sFi, al_sFi, ar_sFi, cs_sFi, sz_sFi, sz_sAi, kd_sAi, fi_sAi, fr_sAi, ln_sAi, al_sAi, ar_sAi, cs_sAi, kd_wz, fi_wz, fr_wz, ln_wz, ai_wz, al_wz, ar_wz, Option.bind_some, if_true, if_false, Nat.reduceAdd, Nat.reduceMul, reduceIte, and_self, true_and, and_true, hkm, hpw, f8, r4, k4, l4, r6, k6, l6, f7, cl, ib, v4, h2, f18, d5, z00, hh, zm, hval, i64_32, fi_sFi, up2, e1, k1, f71, ea]
  · obtain ⟨j, hj, hje⟩ := nI_of hv.1
    have j1 : j < 10005 := by have := hv.2; rw [hje] at this; exact (nI_ltI (b := 10005) hj (by omega)).mp this
    have j2 : 10000 ≤ j := Nat.not_lt.mp fun z => hn (by rw [hje]; exact (nI_ltI (b := 10000) hj (by omega)).mpr z)
    have h2 : (mv q h 4 A = 2) = False := eq_false fun z => hn (tn.mp z).2
    have eo : eO (K A) = 2 := by unfold eO enO; rw [if_neg (Int32.not_le.mpr (Int32.lt_trans hv.2 (by decide))), if_neg hn, if_pos hv.2]
    have ea2 : eA (K A) = nI (j - 10000) := by
      unfold eA enA; rw [if_neg (Int32.not_le.mpr (Int32.lt_trans hv.2 (by decide))), if_neg hn, if_pos hv.2, hje]; exact nI_sub (b := 10000) j2
    rw [eo, ea2] at e1
    have hpw : m_X9_partWord am h = some (nI (j - 10000), h) := by
      rcases r_partWord hM hT hP hA 5 0 (by decide) FU (by unfold FU; omega) with ⟨k0, a1, a2, a3, a4⟩ | ⟨a1, a2⟩
      · rw [hje] at a3
        have := (nI_eq hj (by omega)).mp a3
        have hk : j - 10000 = k0 := by omega
        rw [hk]; exact a4
      · exact absurd (by rw [hje, show 10000 + (j - 10000) = j by omega]) (a1 (j - 10000) (Nat.zero_le _) (by omega))
    have zk : 0 ≤ nI (j - 10000) := nI_pos' (by omega)
    simp only [m_X9_part, X9_part_b46, X9_part_b59, X9_part_b103, X9_part_b121, aN, kA201, kA202, kA203, kA206, kA306, i1n0, i0n1, i0e0, i1e1, gI, gR, pI, pB, pR, xI, xL, yI, yL, vc, kd_sFi, fr_sFi, ln_sFi, ai_sFi, al_sFi, ar_sFi, cs_sFi, sz_sFi, sz_sAi, kd_sAi, fi_sAi, fr_sAi, ln_sAi, al_sAi, ar_sAi, cs_sAi, kd_wz, fi_wz, fr_wz, ln_wz, ai_wz, al_wz, ar_wz, Option.bind_some, if_true, if_false, Nat.reduceAdd, Nat.reduceMul, reduceIte, and_self, true_and, and_true, hkm, hpw, f8, r4, k4, l4, r6, k6, l6, f7, cl, ib, v4, h2, hs', f18, d5, z00, hh, zk, fi_sFi, up2, e1, k1, f71, ea]
theorem r_opens {h : HS} (hM : SMA q am h) {d : Nat} (hd : d < 7) (f18 : mf am h 18 = nI d) : ∃ h', m_X9_opens am h = some h' ∧ FM am q h h' ∧ (∀ k, mf am h' k = mf am h k) ∧ (∀ k, (k ≠ 19 ∧ k ≠ 20 ∧ k ≠ 21) → mv q h' k = mv q h k) ∧ mv q h' 19 = va_up (mv q h 19) d 0 ∧ mv q h' 20 = va_up (mv q h 20) d 0 ∧ mv q h' 21 = va_up (mv q h 21) d 0 := by
  have hkm : kd h am = 11 := hM.1
  have f18' : fi h 1018 am = nI d := f18
  have r19 : fr h 1019 am = some (q 19) := (hM.2.1 (19, 201, 7) (by decide)).1
  have k19 : kd h (q 19) = 201 := (hM.2.1 (19, 201, 7) (by decide)).2.1
  have l19 : ln h (q 19) = 7 := (hM.2.1 (19, 201, 7) (by decide)).2.2
  have r20 : fr h 1020 am = some (q 20) := (hM.2.1 (20, 201, 7) (by decide)).1
  have k20 : kd h (q 20) = 201 := (hM.2.1 (20, 201, 7) (by decide)).2.1
  have l20 : ln h (q 20) = 7 := (hM.2.1 (20, 201, 7) (by decide)).2.2
  have r21 : fr h 1021 am = some (q 21) := (hM.2.1 (21, 201, 7) (by decide)).1
  have k21 : kd h (q 21) = 201 := (hM.2.1 (21, 201, 7) (by decide)).2.1
  have l21 : ln h (q 21) = 7 := (hM.2.1 (21, 201, 7) (by decide)).2.2
  have cl : (nI d).toNatClampNeg = d := nI_cl hd (by omega)
  have ib : inB (nI d) 7 = true := inB_nI hd (by omega)
  obtain ⟨a1, a2, a3⟩ := FM_w hM (k := 19) (by decide) d 0
  have hM1 : SMA q am (sAi h (q 19) d 0) := hM
  obtain ⟨b1, b2, b3⟩ := FM_w hM1 (k := 20) (by decide) d 0
  have hM2 : SMA q am (sAi (sAi h (q 19) d 0) (q 20) d 0) := hM
  obtain ⟨c1, c2, c3⟩ := FM_w hM2 (k := 21) (by decide) d 0
  refine ⟨sAi (sAi (sAi h (q 19) d 0) (q 20) d 0) (q 21) d 0, ?_, (a1.tr b1).tr c1, fun _ => rfl, fun k hk => ?_, ?_, ?_, ?_⟩
  · simp only [m_X9_opens, aN, kA201, kA202, kA203, kA206, kA306, i1n0, i0n1, i0e0, i1e1, gI, gR, pI, pB, pR, xI, xL, yI, yL, vc, kd_sFi, fr_sFi, ln_sFi, ai_sFi, al_sFi, ar_sFi, cs_sFi, sz_sFi, sz_sAi, kd_sAi, fi_sAi, fr_sAi, ln_sAi, al_sAi, ar_sAi, cs_sAi, kd_wz, fi_wz, fr_wz, ln_wz, ai_wz, al_wz, ar_wz, Option.bind_some, if_true, if_false, Nat.reduceAdd, Nat.reduceMul, reduceIte, and_self, true_and, and_true, hkm, r19, k19, l19, r20, k20, l20, r21, k21, l21, f18', cl, ib, nar_i32]
  · rw [c3 k hk.2.2, b3 k hk.2.1, a3 k hk.1]
  · rw [c3 19 (by decide), b3 19 (by decide), a2]
  · rw [c3 20 (by decide), b2, a3 20 (by decide)]
  · rw [c2, b3 21 (by decide), a3 21 (by decide)]
theorem r_partO {h : HS} (hM : SMA q am h) {K P : Nat → Int32} {T A d : Nat} (hT : TM q K P T h) (hP : PM am A 0 d h) (hA : A ≤ T) (hd : d < 5) (hv : K A = 10022) : ∃ h', m_X9_part am h = some (1, h') ∧ FM am q h h' ∧ PM am (A + 1) 0 (d + 1) h' ∧ (∀ C, CM am q C h → CM am q C h') ∧ (∀ k, (k ≠ 19 ∧ k ≠ 20 ∧ k ≠ 21) → mv q h' k = mv q h k) ∧ mv q h' 19 = va_up (mv q h 19) (d + 1) 0 ∧ mv q h' 20 = va_up (mv q h 20) (d + 1) 0 ∧ mv q h' 21 = va_up (mv q h 21) (d + 1) 0 := by
  have hkm : kd h am = 11 := hM.1
  have f7 : fi h 1007 am = nI A := hP.1
  have f8 : fi h 1008 am = 0 := hP.2.1
  have f18 : fi h 1018 am = nI d := hP.2.2
  have r4 : fr h 1004 am = some (q 4) := (hM.2.1 (4, 201, 602) (by decide)).1
  have k4 : kd h (q 4) = 201 := (hM.2.1 (4, 201, 602) (by decide)).2.1
  have l4 : ln h (q 4) = 602 := (hM.2.1 (4, 201, 602) (by decide)).2.2
  have h6 := hT.1
  have cl : (nI A).toNatClampNeg = A := nI_cl (N := 602) (by omega) (by omega)
  have ib : inB (nI A) 602 = true := inB_nI (by omega) (by omega)
  have v4 : ai h (q 4) A = mv q h 4 A := rfl
  obtain ⟨⟨tn, tv⟩, -⟩ := (hT.2.1 A hA).1
  have h2 : (mv q h 4 A = 2) = False := eq_false fun z => by have := (tn.mp z).2; rw [hv] at this; exact absurd this (by decide)
  have hs := r_isSign hM hT hP hA (i := 0) (by decide) (c := 40) rfl
  have hs' : m_X9_isSign am 40 h = some (if K A = 10022 then 1 else 0, h) := hs
  rw [if_pos hv] at hs'
  have hh := r_hasSign hM hT hP hA
  rw [if_pos hv] at hh
  have hpw : m_X9_partWord am h = some (-1, h) := by
    rcases r_partWord hM hT hP hA 5 0 (by decide) FU (by unfold FU; omega) with ⟨k0, a1, a2, a3, a4⟩ | ⟨a1, a2⟩
    · exfalso
      rw [hv] at a3
      have := (nI_eq (a := 10022) (by omega) (by omega)).mp a3
      omega
    · exact a2
  obtain ⟨p1, p2, p3⟩ := r_at (q := q) hP (A + 1)
  obtain ⟨s1, s2, s3⟩ := FM_s (am := am) (q := q) (h := sFi h 1007 am (nI (A + 1))) (k := 18) (by decide) (nI (d + 1))
  have hM2 : SMA q am (sFi (sFi h 1007 am (nI (A + 1))) 1018 am (nI (d + 1))) := hM
  obtain ⟨h1, o1, o2, o3, o4, o5, o6, o7⟩ := r_opens hM2 (d := d + 1) (by omega) s2
  have d5 : (nI d = 5) = False := eq_false fun z => by have := (nI_eq (b := 5) (by omega) (by omega)).mp z; omega
  have z00 : ((0 : Int32) ≤ 0) = True := eq_true (by decide)
  have ed : nI d + 1 = nI (d + 1) := nI_add d 1
  have n1 : ((1018 : Nat) = 1007) = False := eq_false (by decide)
  refine ⟨h1, ?_, (p1.tr s1).tr o2, ⟨?_, ?_, ?_⟩, fun C hC => ⟨?_, fun j hj => ?_⟩, fun k hk => o4 k hk, o5, o6, o7⟩
  · simp only [m_X9_part, X9_part_b46, X9_part_b59, aN, kA201, kA202, kA203, kA206, kA306, i1n0, i0n1, i0e0, i1e1, gI, gR, pI, pB, pR, xI, xL, yI, yL, vc, kd_sFi, fr_sFi, ln_sFi, ai_sFi, al_sFi, ar_sFi, cs_sFi, sz_sFi, sz_sAi, kd_sAi, fi_sAi, fr_sAi, ln_sAi, al_sAi, ar_sAi, cs_sAi, kd_wz, fi_wz, fr_wz, ln_wz, ai_wz, al_wz, ar_wz, Option.bind_some, if_true, if_false, Nat.reduceAdd, Nat.reduceMul, reduceIte, and_self, true_and, and_true, hkm, hpw, f8, r4, k4, l4, f7, cl, ib, v4, h2, hs', f18, d5, z00, hh, fi_sFi, up2, n1, false_and, ed, o1]
  · rw [o3, s3 7 (by decide)]; exact p2.1
  · rw [o3, s3 8 (by decide)]; exact p2.2.1
  · rw [o3, s2]
  · rw [o3, s3 17 (by decide)]; exact (p3 C hC).1
  · rw [o4 15 (by decide), o4 16 (by decide)]; exact hC.2 j hj
theorem r_partB {h : HS} (hM : SMA q am h) {K P : Nat → Int32} {T A d : Nat} (hT : TM q K P T h) (hP : PM am A 0 d h) (hA : A ≤ T) (hd : d ≤ 5) {k : Nat} (hk : (k = 1 ∧ ¬ isV (K A) ∧ K A ≠ 10022) ∨ (k = 5 ∧ d = 5 ∧ (isV (K A) ∨ K A = 10022))) : m_X9_part am h = some (0, sFi h 1008 am (nI k + 16 * P A)) := by
  have hkm : kd h am = 11 := hM.1
  have f7 : fi h 1007 am = nI A := hP.1
  have f8 : fi h 1008 am = 0 := hP.2.1
  have f18 : fi h 1018 am = nI d := hP.2.2
  have r4 : fr h 1004 am = some (q 4) := (hM.2.1 (4, 201, 602) (by decide)).1
  have k4 : kd h (q 4) = 201 := (hM.2.1 (4, 201, 602) (by decide)).2.1
  have l4 : ln h (q 4) = 602 := (hM.2.1 (4, 201, 602) (by decide)).2.2
  have h6 := hT.1
  have cl : (nI A).toNatClampNeg = A := nI_cl (N := 602) (by omega) (by omega)
  have ib : inB (nI A) 602 = true := inB_nI (by omega) (by omega)
  have v4 : ai h (q 4) A = mv q h 4 A := rfl
  obtain ⟨⟨tn, tv⟩, -⟩ := (hT.2.1 A hA).1
  have hs := r_isSign hM hT hP hA (i := 0) (by decide) (c := 40) rfl
  have hs' : m_X9_isSign am 40 h = some (if K A = 10022 then 1 else 0, h) := hs
  obtain ⟨y, y1, y2, y3⟩ := flt_val hT hA (k := k) (by omega) (by omega)
  have hw := r_wrong hM hT hP hA (nI k)
  rw [y3] at hw ⊢
  have zy : ¬ nI y ≤ 0 := nI_ge (a := 0) (by omega) (by omega)
  have b59 : ∀ l, X9_part_b59 am l (sFi h 1008 am (nI y)) = some (0, sFi h 1008 am (nI y)) := fun l => by
    simp only [X9_part_b59, aN, kA201, kA202, kA203, kA206, kA306, i1n0, i0n1, i0e0, i1e1, gI, gR, pI, pB, pR, xI, xL, yI, yL, vc, kd_sFi, fr_sFi, ln_sFi, ai_sFi, al_sFi, ar_sFi, cs_sFi, sz_sFi, sz_sAi, kd_sAi, fi_sAi, fr_sAi, ln_sAi, al_sAi, ar_sAi, cs_sAi, kd_wz, fi_wz, fr_wz, ln_wz, ai_wz, al_wz, ar_wz, Option.bind_some, if_true, if_false, Nat.reduceAdd, Nat.reduceMul, reduceIte, and_self, true_and, and_true, hkm, fi_sFi, up2, zy]
  rcases hk with ⟨rfl, nv, no⟩ | ⟨rfl, rfl, hvo⟩
  · have h2 : (mv q h 4 A = 2) = False := eq_false fun z => nv ⟨(tn.mp z).1, Int32.lt_trans (tn.mp z).2 (by decide)⟩
    rw [if_neg no] at hs'
    have hpw : m_X9_partWord am h = some (-1, h) := by
      rcases r_partWord hM hT hP hA 5 0 (by decide) FU (by unfold FU; omega) with ⟨k0, a1, a2, a3, a4⟩ | ⟨a1, a2⟩
      · exact absurd ⟨by rw [a3]; exact nI_pos (by omega), by rw [a3]; exact nI_lt (b := 10005) (by omega) (by omega)⟩ nv
      · exact a2
    have zm : ((0 : Int32) ≤ -1) = False := eq_false (by decide)
    have hw' : m_X9_wrong am 1 h = some (sFi h 1008 am (nI y)) := hw
    simp only [m_X9_part, aN, kA201, kA202, kA203, kA206, kA306, i1n0, i0n1, i0e0, i1e1, gI, gR, pI, pB, pR, xI, xL, yI, yL, vc, kd_sFi, fr_sFi, ln_sFi, ai_sFi, al_sFi, ar_sFi, cs_sFi, sz_sFi, sz_sAi, kd_sAi, fi_sAi, fr_sAi, ln_sAi, al_sAi, ar_sAi, cs_sAi, kd_wz, fi_wz, fr_wz, ln_wz, ai_wz, al_wz, ar_wz, Option.bind_some, if_true, if_false, Nat.reduceAdd, Nat.reduceMul, reduceIte, and_self, true_and, and_true, hkm, hpw, f8, r4, k4, l4, f7, cl, ib, v4, h2, hs', zm, hw', b59]
  · have hw' : m_X9_wrong am 5 h = some (sFi h 1008 am (nI y)) := hw
    have d5 : (nI 5 = 5) = True := eq_true rfl
    have b46 : ∀ l, X9_part_b46 am l h = some (0, sFi h 1008 am (nI y)) := fun l => by
      simp only [X9_part_b46, aN, kA201, kA202, kA203, kA206, kA306, i1n0, i0n1, i0e0, i1e1, gI, gR, pI, pB, pR, xI, xL, yI, yL, vc, kd_sFi, fr_sFi, ln_sFi, ai_sFi, al_sFi, ar_sFi, cs_sFi, sz_sFi, sz_sAi, kd_sAi, fi_sAi, fr_sAi, ln_sAi, al_sAi, ar_sAi, cs_sAi, kd_wz, fi_wz, fr_wz, ln_wz, ai_wz, al_wz, ar_wz, Option.bind_some, if_true, if_false, Nat.reduceAdd, Nat.reduceMul, reduceIte, and_self, true_and, and_true, hkm, f18, d5, hw', b59]
    obtain ⟨w, hpw, hw0⟩ : ∃ w, m_X9_partWord am h = some (w, h) ∧ (0 ≤ w ∨ (∀ k0, k0 < 5 → K A ≠ nI (10000 + k0))) := by
      rcases r_partWord hM hT hP hA 5 0 (by decide) FU (by unfold FU; omega) with ⟨k0, a1, a2, a3, a4⟩ | ⟨a1, a2⟩
      · exact ⟨nI k0, a4, Or.inl (nI_pos' (by omega))⟩
      · exact ⟨-1, a2, Or.inr (fun k0 h => a1 k0 (Nat.zero_le _) h)⟩
    by_cases h2 : mv q h 4 A = 2
    · simp only [m_X9_part, aN, kA201, kA202, kA203, kA206, kA306, i1n0, i0n1, i0e0, i1e1, gI, gR, pI, pB, pR, xI, xL, yI, yL, vc, kd_sFi, fr_sFi, ln_sFi, ai_sFi, al_sFi, ar_sFi, cs_sFi, sz_sFi, sz_sAi, kd_sAi, fi_sAi, fr_sAi, ln_sAi, al_sAi, ar_sAi, cs_sAi, kd_wz, fi_wz, fr_wz, ln_wz, ai_wz, al_wz, ar_wz, Option.bind_some, if_true, if_false, Nat.reduceAdd, Nat.reduceMul, reduceIte, and_self, true_and, and_true, hkm, hpw, f8, r4, k4, l4, f7, cl, ib, v4, h2, b46]
    · by_cases no : K A = 10022
      · rw [if_pos no] at hs'
        simp only [m_X9_part, aN, kA201, kA202, kA203, kA206, kA306, i1n0, i0n1, i0e0, i1e1, gI, gR, pI, pB, pR, xI, xL, yI, yL, vc, kd_sFi, fr_sFi, ln_sFi, ai_sFi, al_sFi, ar_sFi, cs_sFi, sz_sFi, sz_sAi, kd_sAi, fi_sAi, fr_sAi, ln_sAi, al_sAi, ar_sAi, cs_sAi, kd_wz, fi_wz, fr_wz, ln_wz, ai_wz, al_wz, ar_wz, Option.bind_some, if_true, if_false, Nat.reduceAdd, Nat.reduceMul, reduceIte, and_self, true_and, and_true, hkm, hpw, f8, r4, k4, l4, f7, cl, ib, v4, h2, hs', b46]
      · rw [if_neg no] at hs'
        have hv := hvo.resolve_right no
        have zw : 0 ≤ w := by
          rcases hw0 with z | z
          · exact z
          · exfalso
            obtain ⟨j, hj, hje⟩ := nI_of hv.1
            have j1 : j < 10005 := by have := hv.2; rw [hje] at this; exact (nI_ltI (b := 10005) hj (by omega)).mp this
            by_cases hn : K A < 10000
            · exact h2 (tn.mpr ⟨hv.1, hn⟩)
            · have j2 : 10000 ≤ j := Nat.not_lt.mp fun z => hn (by rw [hje]; exact (nI_ltI (b := 10000) hj (by omega)).mpr z)
              exact z (j - 10000) (by omega) (by rw [hje, show 10000 + (j - 10000) = j by omega])
        simp only [m_X9_part, aN, kA201, kA202, kA203, kA206, kA306, i1n0, i0n1, i0e0, i1e1, gI, gR, pI, pB, pR, xI, xL, yI, yL, vc, kd_sFi, fr_sFi, ln_sFi, ai_sFi, al_sFi, ar_sFi, cs_sFi, sz_sFi, sz_sAi, kd_sAi, fi_sAi, fr_sAi, ln_sAi, al_sAi, ar_sAi, cs_sAi, kd_wz, fi_wz, fr_wz, ln_wz, ai_wz, al_wz, ar_wz, Option.bind_some, if_true, if_false, Nat.reduceAdd, Nat.reduceMul, reduceIte, and_self, true_and, and_true, hkm, hpw, f8, r4, k4, l4, f7, cl, ib, v4, h2, hs', zw, b46]
end RD9B
