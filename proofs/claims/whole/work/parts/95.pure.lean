/-! both readers, side by side -/
section SIM
variable {ax ao am : Nat} {ad : Nat → Nat → Nat} {n e pO fO q tm : Nat → Nat} {tx : Nat → List (Int32 × List Int32)} {w : Nat} {pn : Nat → Nat} {nw : Nat → Nat → Nat} {fs : Nat → Nat} {ls : Nat → Option Nat} {rs rl pr : Nat → Nat} {tl : Nat} {hx hm : HS}
def okS : List Int32 → Nat → Nat → Prop
  | [], h, h' => h = h'
  | s :: r, h, h' => ¬ s < 0 ∧ s < 20000 ∧ ((s < 10005 ∧ h < 32 ∧ okS r (h + 1) h') ∨ (¬ s < 10010 ∧ s < 10015 ∧ 2 ≤ h ∧ okS r (h - 1) h'))
theorem okS_app : ∀ (a b : List Int32) (h1 h2 h3 : Nat), okS a h1 h2 → okS b h2 h3 → okS (a ++ b) h1 h3
  | [], b, h1, h2, h3, ha, hb => by
    have : h1 = h2 := ha
    subst this; exact hb
  | s :: r, b, h1, h2, h3, ha, hb => by
    obtain ⟨a1, a2, a3⟩ := ha
    refine ⟨a1, a2, ?_⟩
    rcases a3 with ⟨b1, b2, b3⟩ | ⟨b1, b2, b3, b4⟩
    · exact Or.inl ⟨b1, b2, okS_app r b _ _ _ b3 hb⟩
    · exact Or.inr ⟨b1, b2, b3, okS_app r b _ _ _ b4 hb⟩
theorem okS_E : ∀ (a : List Int32) (h : Nat), okS a h 1 → okE a h
  | [], h, ha => ha
  | s :: r, h, ha => by
    obtain ⟨a1, a2, a3⟩ := ha
    refine ⟨a1, a2, ?_⟩
    rcases a3 with ⟨b1, b2, b3⟩ | ⟨b1, b2, b3, b4⟩
    · exact Or.inl ⟨b1, b2, okS_E r _ b3⟩
    · exact Or.inr ⟨b1, b2, b3, okS_E r _ b4⟩
theorem okS_op {s : Int32} (hs : s = 10010 ∨ s = 10011 ∨ s = 10012 ∨ s = 10013 ∨ s = 10014) (h : Nat) : okS [s] (h + 1 + 1) (h + 1) := by
  have key : ¬ s < 0 ∧ s < 20000 ∧ ¬ s < 10010 ∧ s < 10015 := by
    rcases hs with rfl | rfl | rfl | rfl | rfl <;> decide
  exact ⟨key.1, key.2.1, Or.inr ⟨key.2.2.1, key.2.2.2, by omega, rfl⟩⟩
def PRE (ax ao am : Nat) (ad : Nat → Nat → Nat) (n e pO fO q : Nat → Nat) (K P : Nat → Int32) (T d A : Nat) (C : List Int32) (hx hm : HS) : Prop := (SXA ax ao ad n e pO fO hx ∧ TX ad n K P T hx ∧ PX ad n A (K A) 0 hx ∧ CX ad n C hx) ∧ (SMA q am hm ∧ TM q K P T hm ∧ PM am A 0 d hm ∧ CM am q C hm) ∧ A ≤ T ∧ C.length + 3 ≤ A ∧ d ≤ 5
def SOut (am : Nat) (ad : Nat → Nat → Nat) (n q : Nat → Nat) (K P : Nat → Int32) (T d A : Nat) (C : List Int32) (hm : HS) (B : Nat → Nat → HS → Option HS) (L : Nat → Option HS) (fd hB i0 : Nat) (W : HS → Nat → Prop) (hx' : HS) : Prop :=
  (∃ (hm' : HS) (A' : Nat) (cs : List Int32), (PX ad n A' (K A') 0 hx' ∧ CX ad n (C ++ cs) hx') ∧ (PM am A' 0 d hm' ∧ CM am q (C ++ cs) hm' ∧ FM am q hm hm') ∧ (A ≤ A' ∧ A' ≤ T ∧ cs.length + A ≤ A') ∧ (∀ h, h ≤ hB → okS cs (h + i0) (h + 1)) ∧ W hm' A' ∧ ∀ F2, T + 2 ≤ F2 + A → ∃ F1 F2', fd ≤ F1 ∧ T + 2 ≤ F2' + A' ∧ L F2 = B F1 F2' hm') ∨
  (∃ (hm' : HS) (f : Int32) (c : Nat), FLT ad n f hx' ∧ mf am hm' 8 = f ∧ FM am q hm hm' ∧ mf am hm' 17 = nI c ∧ c ≤ 600 ∧ ∀ F2, T + 2 ≤ F2 + A → L F2 = X9_line_b202 am hm')
def WS (q : Nat → Nat) (d : Nat) (hm hm' : HS) : Prop := ∀ i, i < d → mv q hm' 19 i = mv q hm 19 i ∧ mv q hm' 20 i = mv q hm 20 i ∧ mv q hm' 21 i = mv q hm 21 i
theorem WS.tr {d : Nat} {a b c : HS} (h1 : WS q d a b) (h2 : WS q d b c) : WS q d a c := fun i hi => ⟨(h2 i hi).1.trans (h1 i hi).1, (h2 i hi).2.1.trans (h1 i hi).2.1, (h2 i hi).2.2.trans (h1 i hi).2.2⟩
def WA (q : Nat → Nat) (K : Nat → Int32) (d : Nat) (hm hm' : HS) (A' : Nat) : Prop := WS q d hm hm' ∧ mv q hm' 19 d = 0 ∧ mv q hm' 20 d = 0 ∧ mv q hm' 21 d = 0 ∧ K A' ≠ 10014
theorem nF2 {T A F : Nat} (h : T + 2 ≤ F + A) (hA : A ≤ T) : ∃ F', F = F' + 1 + 1 := ⟨F - 2, by omega⟩
theorem sim_part (rA : Nat → Int32 → HS → Option HS) {K P : Nat → Int32} {T d : Nat} (HA : d < 5 → ∀ (A : Nat) (C : List Int32) (hx hm : HS), PRE ax ao am ad n e pO fO q K P T (d + 1) A C hx hm → mv q hm 19 (d + 1) = 0 → mv q hm 20 (d + 1) = 0 → mv q hm 21 (d + 1) = 0 → ∃ hx', rA (ad 7 0) (nI (d + 1)) hx = some hx' ∧ FE ax ao ad n e pO fO hx hx' ∧ SOut am ad n q K P T (d + 1) A C hm (BEA am) (fun F2 => X9_line_L168 am F2 1 hm) (d + 1) (3 * (d + 1)) 0 (WA q K (d + 1) hm) hx')
    (A : Nat) (C : List Int32) (hx hm : HS) (hpre : PRE ax ao am ad n e pO fO q K P T d A C hx hm) : ∃ hx', m_X6_readPart rA (ad 7 0) (nI d) hx = some hx' ∧ FE ax ao ad n e pO fO hx hx' ∧ SOut am ad n q K P T d A C hm (BEH am) (fun F2 => X9_line_L168 am F2 1 hm) (d + 1) (3 * d + 3) 0 (fun hm' A' => WS q (d + 1) hm hm' ∧ A < A') hx' := by
  obtain ⟨⟨hS, hT, hP, hC⟩, ⟨hM, hTm, hPm, hCm⟩, hA, hCA, hd⟩ := hpre
  have hT6 := hT.1
  obtain ⟨n7, n8, n17, n18, n19, k7, -⟩ := ktok hS
  have f704 : fi hx 704 (ad 7 0) = K A := (f7 hS (by decide)).trans hP.2.1
  have lt : K A ≠ 10025 → A < T := fun h => by
    by_cases hq : A = T
    · exact absurd (by rw [hq]; exact hT.2.2.2) h
    · omega
  have e703 : cf ad n hx 703 0 + 1 = nI (A + 1) := by rw [hP.1]; exact nI_add A 1
  have bad : ∀ k : Nat, 1 ≤ k → k ≤ 5 → ((k = 1 ∧ ¬ isV (K A) ∧ K A ≠ 10022) ∨ (k = 5 ∧ d = 5 ∧ (isV (K A) ∨ K A = 10022))) → m_X6_readPart rA (ad 7 0) (nI d) hx = (m_X6_mark (ad 7 0) (nI k) hx).bind (fun h => some h) → ∃ hx', m_X6_readPart rA (ad 7 0) (nI d) hx = some hx' ∧ FE ax ao ad n e pO fO hx hx' ∧ SOut am ad n q K P T d A C hm (BEH am) (fun F2 => X9_line_L168 am F2 1 hm) (d + 1) (3 * d + 3) 0 (fun hm' A' => WS q (d + 1) hm hm' ∧ A < A') hx' := by
    intro k k1 k5 hk hx1
    obtain ⟨hx', a1, a2, a3, a4⟩ := x_mark hS hT hP hA (nI k)
    have hp := r_partB hM hTm hPm hA hd hk
    obtain ⟨y, y1, y2, y3⟩ := flt_val hTm hA k1 k5
    have hy0 : nI y ≠ 0 := fun z => by have := (nI_eq (b := 0) (by omega) (by omega)).mp z; omega
    rw [y3] at a3 hp
    obtain ⟨s1, s2, s3⟩ := FM_s (am := am) (q := q) (h := hm) (k := 8) (by decide) (nI y)
    refine ⟨hx', by rw [hx1, a1]; rfl, a2, Or.inr ⟨sFi hm 1008 am (nI y), nI y, C.length, ⟨a3, hy0, a4⟩, s2, s1, by rw [s3 17 (by decide)]; exact hCm.1, by omega, fun F2 hF2 => ?_⟩⟩
    obtain ⟨F, rfl⟩ := nF2 hF2 hA
    show X9_line_L168 am (F + 1 + 1) 1 hm = _
    rw [l_part0 hM hPm.2.1 hp rfl]
    exact beh_flt (h := sFi hm 1008 am (nI y)) hM s2 hy0 999 F
  by_cases hv : isV (K A)
  · have z0 : ¬ K A < 0 := hv.1
    have z1 : ¬ (10005 : Int32) ≤ K A := Int32.not_le.mpr hv.2
    by_cases hd5 : d < 5
    · have zd : nI d < 5 := nI_lt (b := 5) hd5 (by omega)
      have hAT := lt (fun z => by rw [z] at hv; exact absurd hv.2 (by decide))
      obtain ⟨hx1, a1, a2, a3, a4⟩ := x_go hS hT e703 (by omega)
      obtain ⟨hx2, b1, b2, b3, b4⟩ := x_write a2.1 (a4 C hC) (by omega) (K A)
      obtain ⟨hm1, c1, c2, c3, c4, c5⟩ := r_partV hM hTm hPm hCm hA (by omega) hd5 hv
      have k71 := (ktok a2.1).2.2.2.2.2.1
      refine ⟨hx2, ?_, a2.tr b2, Or.inl ⟨hm1, A + 1, [K A], ⟨?_, b4⟩, ⟨c3, c4, c2⟩, ⟨by omega, by omega, by simp; omega⟩, fun h hh => ?_, ⟨fun i hi => ⟨by rw [c5 19 (by decide)], by rw [c5 20 (by decide)], by rw [c5 21 (by decide)]⟩, by omega⟩, fun F2 hF2 => ?_⟩⟩
      · simp only [m_X6_readPart, X6_readPart_b21, X6_readPart_b39, aN, kA201, kA202, kA203, kA206, kA306, i1n0, i0n1, i0e0, i1e1, gI, gR, pI, pB, pR, xI, xL, yI, yL, vc, kd_sFi, fr_sFi, ln_sFi, ai_sFi, al_sFi, ar_sFi, cs_sFi, sz_sFi, sz_sAi, kd_sAi, fi_sAi, fr_sAi, ln_sAi, al_sAi, ar_sAi, cs_sAi, kd_wz, fi_wz, fr_wz, ln_wz, ai_wz, al_wz, ar_wz, Option.bind_some, if_true, if_false, Nat.reduceAdd, Nat.reduceMul, reduceIte, and_self, true_and, and_true, k7, f704, z0, z1, zd, a1, k71, b1]
      · rw [hP.2.2] at a3; exact b3 _ _ _ a3
      · exact ⟨hv.1, Int32.lt_trans hv.2 (by decide), Or.inl ⟨hv.2, by omega, rfl⟩⟩
      · obtain ⟨F, rfl⟩ := nF2 hF2 hA
        refine ⟨FU, F + 1, by unfold FU; omega, by omega, ?_⟩
        exact l_part0 hM hPm.2.1 c1 c2.1.1 (F + 1)
    · have zd : ¬ nI d < 5 := fun z => by have := (nI_ltI (b := 5) (by omega) (by omega)).mp z; omega
      refine bad 5 (by omega) (by omega) (Or.inr ⟨rfl, by omega, Or.inl hv⟩) ?_
      simp only [m_X6_readPart, X6_readPart_b21, X6_readPart_b39, aN, kA201, kA202, kA203, kA206, kA306, i1n0, i0n1, i0e0, i1e1, gI, gR, pI, pB, pR, xI, xL, yI, yL, vc, kd_sFi, fr_sFi, ln_sFi, ai_sFi, al_sFi, ar_sFi, cs_sFi, sz_sFi, sz_sAi, kd_sAi, fi_sAi, fr_sAi, ln_sAi, al_sAi, ar_sAi, cs_sAi, kd_wz, fi_wz, fr_wz, ln_wz, ai_wz, al_wz, ar_wz, Option.bind_some, if_true, if_false, Nat.reduceAdd, Nat.reduceMul, reduceIte, and_self, true_and, and_true, k7, f704, z0, z1, zd]
      rfl
  · by_cases ho : K A = 10022
    · have z0 : ¬ (10022 : Int32) < 0 := by decide
      have z1 : (10005 : Int32) ≤ 10022 := by decide
      by_cases hd5 : d < 5
      · have zd : nI d < 5 := nI_lt (b := 5) hd5 (by omega)
        have hAT := lt (by rw [ho]; decide)
        obtain ⟨hx1, a1, a2, a3, a4⟩ := x_go hS hT e703 (by omega)
        obtain ⟨hm1, c1, c2, c3, c4, c5, c6, c7, c8⟩ := r_partO hM hTm hPm hA hd5 ho
        have hM1 := SMA_same c2.1 hM
        rw [hP.2.2] at a3
        have hpre1 : PRE ax ao am ad n e pO fO q K P T (d + 1) (A + 1) C hx1 hm1 := ⟨⟨a2.1, hT.fr a2, a3, a4 C hC⟩, ⟨hM1, hTm.fr c2, c3, c4 C hCm⟩, by omega, by omega, by omega⟩
        obtain ⟨hx2, b1, b2, b3⟩ := HA hd5 (A + 1) C hx1 hm1 hpre1 (by rw [c6, va_up_same]) (by rw [c7, va_up_same]) (by rw [c8, va_up_same])
        have k71 := (ktok a2.1).2.2.2.2.2.1
        have k72 := (ktok b2.1).2.2.2.2.2.1
        have ed : nI d + 1 = nI (d + 1) := nI_add d 1
        have w1 : WS q (d + 1) hm hm1 := fun i hi => ⟨by rw [c6, va_upN _ _ (by omega)], by rw [c7, va_upN _ _ (by omega)], by rw [c8, va_upN _ _ (by omega)]⟩
        rcases b3 with ⟨hm2, A2, cs, ⟨u1, u2⟩, ⟨u3, u4, u5⟩, ⟨u6, u7, u8⟩, u9, ⟨u10, u11, u12, u13, u14⟩, u15⟩ | ⟨hm2, f, c, u1, u2, u3, u4, u5, u6⟩
        · have hM2 := SMA_same u5.1 hM1
          have hT2 := (hTm.fr c2).fr u5
          have hTx2 := (hT.fr a2).fr b2
          obtain ⟨hm3, v1, v2, v3, v4, v5, v6⟩ := bea_close hM2 hT2 u3 u7 (by omega) u14
          have f7042 : fi hx2 704 (ad 7 0) = K A2 := (f7 b2.1 (by decide)).trans u1.2.1
          have hlen : (C ++ cs).length = C.length + cs.length := List.length_append
          by_cases hcl : K A2 = 10023
          · have hA2T : A2 < T := by
              by_cases hq : A2 = T
              · rw [hq, hT.2.2.2] at hcl; exact absurd hcl (by decide)
              · omega
            have e7032 : cf ad n hx2 703 0 + 1 = nI (A2 + 1) := by rw [u1.1]; exact nI_add A2 1
            obtain ⟨hx3, g1, g2, g3, g4⟩ := x_go b2.1 hTx2 e7032 (by omega)
            rw [u1.2.2] at g3
            refine ⟨hx3, ?_, (a2.tr b2).tr g2, Or.inl ⟨hm3, A2 + 1, cs, ⟨g3, g4 _ u2⟩, ⟨v5 hcl, v4 _ u4, (c2.tr u5).tr v2⟩, ⟨by omega, by omega, by omega⟩, fun h hh => u9 h (by omega), ⟨(w1.tr u10).tr (fun i hi => ⟨by rw [v3], by rw [v3], by rw [v3]⟩), by omega⟩, fun F2 hF2 => ?_⟩⟩
            · simp only [m_X6_readPart, X6_readPart_b20, X6_readPart_b21, X6_readPart_b39, aN, kA201, kA202, kA203, kA206, kA306, i1n0, i0n1, i0e0, i1e1, gI, gR, pI, pB, pR, xI, xL, yI, yL, vc, kd_sFi, fr_sFi, ln_sFi, ai_sFi, al_sFi, ar_sFi, cs_sFi, sz_sFi, sz_sAi, kd_sAi, fi_sAi, fr_sAi, ln_sAi, al_sAi, ar_sAi, cs_sAi, kd_wz, fi_wz, fr_wz, ln_wz, ai_wz, al_wz, ar_wz, Option.bind_some, if_true, if_false, Nat.reduceAdd, Nat.reduceMul, reduceIte, and_self, true_and, and_true, k7, f704, z0, z1, ho, zd, a1, k71, ed, b1, k72, f7042, hcl, g1]
            · obtain ⟨F, rfl⟩ := nF2 hF2 hA
              obtain ⟨F1, F2', i1, i2, i3⟩ := u15 (F + 1) (by omega)
              refine ⟨F1, F2', i1, by omega, ?_⟩
              show X9_line_L168 am (F + 1 + 1) 1 hm = _
              rw [l_part1 hM hPm.2.1 c1, ← v1]; exact i3
          · obtain ⟨hx3, g1, g2, g3, g4⟩ := x_mark b2.1 hTx2 u1 u7 1
            obtain ⟨y, y1, y2, y3⟩ := flt_val hT2 u7 (k := 1) (by omega) (by omega)
            have y3' : 1 + 16 * P A2 = nI y := y3
            have hy0 : nI y ≠ 0 := fun z => by have := (nI_eq (b := 0) (by omega) (by omega)).mp z; omega
            have v6' := v6 hcl
            rw [y3'] at g3 v6'
            refine ⟨hx3, ?_, (a2.tr b2).tr g2, Or.inr ⟨hm3, nI y, (C ++ cs).length, ⟨g3, hy0, g4⟩, v6', (c2.tr u5).tr v2, (v4 _ u4).1, by omega, fun F2 hF2 => ?_⟩⟩
            · simp only [m_X6_readPart, X6_readPart_b20, X6_readPart_b21, X6_readPart_b39, aN, kA201, kA202, kA203, kA206, kA306, i1n0, i0n1, i0e0, i1e1, gI, gR, pI, pB, pR, xI, xL, yI, yL, vc, kd_sFi, fr_sFi, ln_sFi, ai_sFi, al_sFi, ar_sFi, cs_sFi, sz_sFi, sz_sAi, kd_sAi, fi_sAi, fr_sAi, ln_sAi, al_sAi, ar_sAi, cs_sAi, kd_wz, fi_wz, fr_wz, ln_wz, ai_wz, al_wz, ar_wz, Option.bind_some, if_true, if_false, Nat.reduceAdd, Nat.reduceMul, reduceIte, and_self, true_and, and_true, k7, f704, z0, z1, ho, zd, a1, k71, ed, b1, k72, f7042, hcl, g1]
            · obtain ⟨F, rfl⟩ := nF2 hF2 hA
              obtain ⟨F1, F2', i1, i2, i3⟩ := u15 (F + 1) (by omega)
              obtain ⟨F1, rfl⟩ := nF1 (x := 0) (N := F1) (by omega)
              obtain ⟨F2', rfl⟩ := nF1 (x := 0) (N := F2') (by omega)
              show X9_line_L168 am (F + 1 + 1) 1 hm = _
              rw [l_part1 hM hPm.2.1 c1]
              exact i3.trans ((v1 _ _).trans (beh_flt (SMA_same v2.1 hM2) v6' hy0 F1 F2'))
        · have f7042 : fi hx2 704 (ad 7 0) = 10026 := (f7 b2.1 (by decide)).trans u1.2.2
          have zc : ((10026 : Int32) = 10023) = False := eq_false (by decide)
          obtain ⟨hx3, g1, g2, g3⟩ := x_markF b2.1 u1 1
          refine ⟨hx3, ?_, (a2.tr b2).tr g2, Or.inr ⟨hm2, f, c, g3, u2, c2.tr u3, u4, u5, fun F2 hF2 => ?_⟩⟩
          · simp only [m_X6_readPart, X6_readPart_b20, X6_readPart_b21, X6_readPart_b39, aN, kA201, kA202, kA203, kA206, kA306, i1n0, i0n1, i0e0, i1e1, gI, gR, pI, pB, pR, xI, xL, yI, yL, vc, kd_sFi, fr_sFi, ln_sFi, ai_sFi, al_sFi, ar_sFi, cs_sFi, sz_sFi, sz_sAi, kd_sAi, fi_sAi, fr_sAi, ln_sAi, al_sAi, ar_sAi, cs_sAi, kd_wz, fi_wz, fr_wz, ln_wz, ai_wz, al_wz, ar_wz, Option.bind_some, if_true, if_false, Nat.reduceAdd, Nat.reduceMul, reduceIte, and_self, true_and, and_true, k7, f704, z0, z1, ho, zd, a1, k71, ed, b1, k72, f7042, zc, g1]
          · obtain ⟨F, rfl⟩ := nF2 hF2 hA
            show X9_line_L168 am (F + 1 + 1) 1 hm = _
            rw [l_part1 hM hPm.2.1 c1]
            exact u6 (F + 1) (by omega)
      · have zd : ¬ nI d < 5 := fun z => by have := (nI_ltI (b := 5) (by omega) (by omega)).mp z; omega
        refine bad 5 (by omega) (by omega) (Or.inr ⟨rfl, by omega, Or.inr ho⟩) ?_
        simp only [m_X6_readPart, X6_readPart_b20, X6_readPart_b21, X6_readPart_b39, aN, kA201, kA202, kA203, kA206, kA306, i1n0, i0n1, i0e0, i1e1, gI, gR, pI, pB, pR, xI, xL, yI, yL, vc, kd_sFi, fr_sFi, ln_sFi, ai_sFi, al_sFi, ar_sFi, cs_sFi, sz_sFi, sz_sAi, kd_sAi, fi_sAi, fr_sAi, ln_sAi, al_sAi, ar_sAi, cs_sAi, kd_wz, fi_wz, fr_wz, ln_wz, ai_wz, al_wz, ar_wz, Option.bind_some, if_true, if_false, Nat.reduceAdd, Nat.reduceMul, reduceIte, and_self, true_and, and_true, k7, f704, z0, z1, ho, zd]
        rfl
    · refine bad 1 (by omega) (by omega) (Or.inl ⟨rfl, hv, ho⟩) ?_
      by_cases z0 : K A < 0
      · simp only [m_X6_readPart, X6_readPart_b20, X6_readPart_b21, aN, kA201, kA202, kA203, kA206, kA306, i1n0, i0n1, i0e0, i1e1, gI, gR, pI, pB, pR, xI, xL, yI, yL, vc, kd_sFi, fr_sFi, ln_sFi, ai_sFi, al_sFi, ar_sFi, cs_sFi, sz_sFi, sz_sAi, kd_sAi, fi_sAi, fr_sAi, ln_sAi, al_sAi, ar_sAi, cs_sAi, kd_wz, fi_wz, fr_wz, ln_wz, ai_wz, al_wz, ar_wz, Option.bind_some, if_true, if_false, Nat.reduceAdd, Nat.reduceMul, reduceIte, and_self, true_and, and_true, k7, f704, z0, ho]
        rfl
      · have z1 : (10005 : Int32) ≤ K A := Classical.byContradiction fun z => hv ⟨z0, Int32.not_le.mp z⟩
        simp only [m_X6_readPart, X6_readPart_b20, X6_readPart_b21, aN, kA201, kA202, kA203, kA206, kA306, i1n0, i0n1, i0e0, i1e1, gI, gR, pI, pB, pR, xI, xL, yI, yL, vc, kd_sFi, fr_sFi, ln_sFi, ai_sFi, al_sFi, ar_sFi, cs_sFi, sz_sFi, sz_sAi, kd_sAi, fi_sAi, fr_sAi, ln_sAi, al_sAi, ar_sAi, cs_sAi, kd_wz, fi_wz, fr_wz, ln_wz, ai_wz, al_wz, ar_wz, Option.bind_some, if_true, if_false, Nat.reduceAdd, Nat.reduceMul, reduceIte, and_self, true_and, and_true, k7, f704, z0, z1, ho]
        rfl
end SIM
