section SIM2
variable {ax ao am : Nat} {ad : Nat → Nat → Nat} {n e pO fO q tm : Nat → Nat} {tx : Nat → List (Int32 × List Int32)} {w : Nat} {pn : Nat → Nat} {nw : Nat → Nat → Nat} {fs : Nat → Nat} {ls : Nat → Option Nat} {rs rl pr : Nat → Nat} {tl : Nat} {hx hm : HS}
def SOutL (am : Nat) (ad : Nat → Nat → Nat) (n q : Nat → Nat) (K P : Nat → Int32) (T d A : Nat) (C : List Int32) (hm : HS) (B L : Nat → Nat → HS → Option HS) (hB : Nat) (W : HS → Nat → Prop) (hx' : HS) : Prop :=
  (∃ (hm' : HS) (A' : Nat) (cs : List Int32), (PX ad n A' (K A') 0 hx' ∧ CX ad n (C ++ cs) hx') ∧ (PM am A' 0 d hm' ∧ CM am q (C ++ cs) hm' ∧ FM am q hm hm') ∧ (A ≤ A' ∧ A' ≤ T ∧ cs.length + A ≤ A') ∧ (∀ h, h ≤ hB → okS cs (h + 1) (h + 1)) ∧ W hm' A' ∧ ∀ Fa F2, d ≤ Fa → T + 2 ≤ F2 + A → ∃ F1 F2', d ≤ F1 ∧ T + 2 ≤ F2' + A' ∧ L Fa F2 hm = B F1 F2' hm') ∨
  (∃ (hm' : HS) (f : Int32) (c : Nat), FLT ad n f hx' ∧ mf am hm' 8 = f ∧ FM am q hm hm' ∧ mf am hm' 17 = nI c ∧ c ≤ 600 ∧ ∀ Fa F2, d ≤ Fa → T + 2 ≤ F2 + A → L Fa F2 hm = X9_line_b202 am hm')
def WSum (q : Nat → Nat) (K : Nat → Int32) (d : Nat) (hm hm' : HS) (A' : Nat) : Prop := WS q d hm hm' ∧ mv q hm' 19 d = 0 ∧ mv q hm' 20 d = mv q hm 20 d ∧ mv q hm' 21 d = mv q hm 21 d ∧ K A' ≠ 10010 ∧ K A' ≠ 10011
def WTst (q : Nat → Nat) (d : Nat) (hm hm' : HS) (_A' : Nat) : Prop := WS q d hm hm' ∧ mv q hm' 19 d = 0 ∧ mv q hm' 20 d = 0 ∧ mv q hm' 21 d = mv q hm 21 d
def PartH (ax ao am : Nat) (ad : Nat → Nat → Nat) (n e pO fO q : Nat → Nat) (K P : Nat → Int32) (T d : Nat) (rA : Nat → Int32 → HS → Option HS) : Prop := ∀ (A : Nat) (C : List Int32) (hx hm : HS), PRE ax ao am ad n e pO fO q K P T d A C hx hm → ∃ hx', m_X6_readPart rA (ad 7 0) (nI d) hx = some hx' ∧ FE ax ao ad n e pO fO hx hx' ∧ SOut am ad n q K P T d A C hm (BEH am) (fun F2 => X9_line_L168 am F2 1 hm) (d + 1) (3 * d + 3) 0 (fun hm' A' => WS q (d + 1) hm hm' ∧ A < A') hx'
def SumH (ax ao am : Nat) (ad : Nat → Nat → Nat) (n e pO fO q : Nat → Nat) (K P : Nat → Int32) (T d : Nat) (rA : Nat → Int32 → HS → Option HS) : Prop := ∀ (A : Nat) (C : List Int32) (hx hm : HS), PRE ax ao am ad n e pO fO q K P T d A C hx hm → mv q hm 19 d = 0 → ∃ hx', m_X6_readSum rA (ad 7 0) (nI d) hx = some hx' ∧ FE ax ao ad n e pO fO hx hx' ∧ SOut am ad n q K P T d A C hm (BES am) (fun F2 => X9_line_L168 am F2 1 hm) d (3 * d + 2) 0 (fun hm' A' => WSum q K d hm hm' A' ∧ A < A') hx'
def TstH (ax ao am : Nat) (ad : Nat → Nat → Nat) (n e pO fO q : Nat → Nat) (K P : Nat → Int32) (T d : Nat) (rA : Nat → Int32 → HS → Option HS) : Prop := ∀ (A : Nat) (C : List Int32) (hx hm : HS), PRE ax ao am ad n e pO fO q K P T d A C hx hm → mv q hm 19 d = 0 → mv q hm 20 d = 0 → ∃ hx', m_X6_readTest rA (ad 7 0) (nI d) hx = some hx' ∧ FE ax ao ad n e pO fO hx hx' ∧ SOut am ad n q K P T d A C hm (BET am) (fun F2 => X9_line_L168 am F2 1 hm) d (3 * d + 1) 0 (fun hm' A' => WTst q d hm hm' A' ∧ A < A') hx'
theorem lt_end {K P : Nat → Int32} {T A : Nat} (hT : TX ad n K P T hx) (hA : A ≤ T) (hk : K A ≠ 10025) : A < T := by
  by_cases hq : A = T
  · exact absurd (by rw [hq]; exact hT.2.2.2) hk
  · omega
theorem sim_sumL {K P : Nat → Int32} {T d : Nat} {rA : Nat → Int32 → HS → Option HS} (HP : PartH ax ao am ad n e pO fO q K P T d rA) : ∀ (m A i : Nat) (C : List Int32) (hx hm : HS), T - A ≤ m → PRE ax ao am ad n e pO fO q K P T d A C hx hm → mv q hm 19 d = 0 → i + 3 ≤ A → ∀ F, m < F → ∃ hx', X6_readSum_L7 rA (ad 7 0) F (nI d) (nI i) hx = some hx' ∧ FE ax ao ad n e pO fO hx hx' ∧ SOutL am ad n q K P T d A C hm (BES am) (BES am) (3 * d + 2) (WSum q K d hm) hx' := by
  intro m
  induction m with
  | zero =>
    intro A i C hx hm hm0 hpre h19 hi F hF
    obtain ⟨F, rfl⟩ := nF1 hF
    obtain ⟨⟨hS, hT, hP, hC⟩, ⟨hM, hTm, hPm, hCm⟩, hA, hCA, hd⟩ := hpre
    have hAT : A = T := by omega
    obtain ⟨n7, n8, n17, n18, n19, k7, -⟩ := ktok hS
    have hK : K A = 10025 := by rw [hAT]; exact hT.2.2.2
    have f704 : fi hx 704 (ad 7 0) = 10025 := ((f7 hS (by decide)).trans hP.2.1).trans hK
    have hT6 := hT.1
    have z0 : ¬ (600 : Int32) ≤ nI i := nI_ge (b := 600) (by omega) (by omega)
    have z1 : ((10025 : Int32) = 10010) = False := eq_false (by decide)
    have z2 : ((10025 : Int32) = 10011) = False := eq_false (by decide)
    refine ⟨hx, ?_, FE.rf hS, Or.inl ⟨hm, A, [], ⟨hP, by rw [List.append_nil]; exact hC⟩, ⟨hPm, by rw [List.append_nil]; exact hCm, FM.rf _⟩, ⟨Nat.le_refl _, hA, by simp⟩, fun h _ => rfl, ⟨fun _ _ => ⟨rfl, rfl, rfl⟩, h19, rfl, rfl, by rw [hK]; decide, by rw [hK]; decide⟩, fun Fa F2 h1 h2 => ⟨Fa, F2, h1, h2, rfl⟩⟩⟩
    conv => lhs; unfold X6_readSum_L7
    simp only [aN, kA201, kA202, kA203, kA206, kA306, i1n0, i0n1, i0e0, i1e1, gI, gR, pI, pB, pR, xI, xL, yI, yL, vc, kd_sFi, fr_sFi, ln_sFi, ai_sFi, al_sFi, ar_sFi, cs_sFi, sz_sFi, sz_sAi, kd_sAi, fi_sAi, fr_sAi, ln_sAi, al_sAi, ar_sAi, cs_sAi, kd_wz, fi_wz, fr_wz, ln_wz, ai_wz, al_wz, ar_wz, Option.bind_some, if_true, if_false, Nat.reduceAdd, Nat.reduceMul, reduceIte, and_self, true_and, and_true, z0, k7, f704, z1, z2]
  | succ m ih =>
    intro A i C hx hm hm0 hpre h19 hi F hF
    obtain ⟨F, rfl⟩ := nF1 (x := m + 1) hF
    obtain ⟨⟨hS, hT, hP, hC⟩, ⟨hM, hTm, hPm, hCm⟩, hA, hCA, hd⟩ := hpre
    obtain ⟨n7, n8, n17, n18, n19, k7, -⟩ := ktok hS
    have f704 : fi hx 704 (ad 7 0) = K A := (f7 hS (by decide)).trans hP.2.1
    have hT6 := hT.1
    have z0 : ¬ (600 : Int32) ≤ nI i := nI_ge (b := 600) (by omega) (by omega)
    by_cases hk : K A = 10010 ∨ K A = 10011
    · have hAT := lt_end hT hA (by rcases hk with h | h <;> rw [h] <;> decide)
      have e703 : cf ad n hx 703 0 + 1 = nI (A + 1) := by rw [hP.1]; exact nI_add A 1
      obtain ⟨hx1, a1, a2, a3, a4⟩ := x_go hS hT e703 (by omega)
      rw [hP.2.2] at a3
      obtain ⟨w1, w2, w3, w4, w5⟩ := r_wait hM hPm (k := 19) (by decide) (eO (K A))
      obtain ⟨hm1, hhm1⟩ : ∃ x, x = sFi (sAi hm (q 19) d (eO (K A))) 1007 am (nI (A + 1)) := ⟨_, rfl⟩
      have hb := bes_plus hM hTm hPm hA (by omega) hk
      rw [← hhm1] at w1 w2 w3 w4 w5 hb
      have hM1 := SMA_same w1.1 hM
      have k71 := (ktok a2.1).2.2.2.2.2.1
      have e7 : nI i + 1 = nI (i + 1) := nI_add i 1
      have hop : K A = 10010 ∨ K A = 10011 ∨ K A = 10012 ∨ K A = 10013 ∨ K A = 10014 := by rcases hk with h | h; exact Or.inl h; exact Or.inr (Or.inl h)
      have eo0 : eO (K A) ≠ 0 := by rcases hk with h | h <;> rw [h] <;> decide
      have ea0 : eA (K A) = 0 := by rcases hk with h | h <;> rw [h] <;> decide
      obtain ⟨hx2, b1, b2, b3⟩ := HP (A + 1) C hx1 hm1 ⟨⟨a2.1, hT.fr a2, a3, a4 C hC⟩, ⟨hM1, hTm.fr w1, w2, w3 C hCm⟩, by omega, by omega, hd⟩
      have k72 := (ktok b2.1).2.2.2.2.2.1
      have ws1 : WS q d hm hm1 := fun j hj => ⟨by rw [w4, va_upN _ _ (by omega)], by rw [w5 20 (by decide)], by rw [w5 21 (by decide)]⟩
      have cls : ∀ hx3, m_X6_write (ad 7 0) (K A) hx2 = some hx3 → X6_readSum_L7 rA (ad 7 0) (F + 1) (nI d) (nI i) hx = X6_readSum_L7 rA (ad 7 0) F (nI d) (nI (i + 1)) hx3 := fun hx3 hw => by
        conv => lhs; unfold X6_readSum_L7
        rcases hk with h | h
        · rw [h] at f704 hw
          simp only [X6_readSum_b34, aN, kA201, kA202, kA203, kA206, kA306, i1n0, i0n1, i0e0, i1e1, gI, gR, pI, pB, pR, xI, xL, yI, yL, vc, kd_sFi, fr_sFi, ln_sFi, ai_sFi, al_sFi, ar_sFi, cs_sFi, sz_sFi, sz_sAi, kd_sAi, fi_sAi, fr_sAi, ln_sAi, al_sAi, ar_sAi, cs_sAi, kd_wz, fi_wz, fr_wz, ln_wz, ai_wz, al_wz, ar_wz, Option.bind_some, if_true, if_false, Nat.reduceAdd, Nat.reduceMul, reduceIte, and_self, true_and, and_true, z0, k7, f704, a1, k71, b1, k72, hw, e7]
        · have z1 : ((10011 : Int32) = 10010) = False := eq_false (by decide)
          rw [h] at f704 hw
          simp only [X6_readSum_b34, aN, kA201, kA202, kA203, kA206, kA306, i1n0, i0n1, i0e0, i1e1, gI, gR, pI, pB, pR, xI, xL, yI, yL, vc, kd_sFi, fr_sFi, ln_sFi, ai_sFi, al_sFi, ar_sFi, cs_sFi, sz_sFi, sz_sAi, kd_sAi, fi_sAi, fr_sAi, ln_sAi, al_sAi, ar_sAi, cs_sAi, kd_wz, fi_wz, fr_wz, ln_wz, ai_wz, al_wz, ar_wz, Option.bind_some, if_true, if_false, Nat.reduceAdd, Nat.reduceMul, reduceIte, and_self, true_and, and_true, z0, k7, f704, z1, a1, k71, b1, k72, hw, e7]
      rcases b3 with ⟨hm2, A2, cs, ⟨u1, u2⟩, ⟨u3, u4, u5⟩, ⟨u6, u7, u8⟩, u9, ⟨u10, u11⟩, u15⟩ | ⟨hm2, f, c, u1, u2, u3, u4, u5, u6⟩
      · have hlen : (C ++ cs).length = C.length + cs.length := List.length_append
        have hM2 := SMA_same u5.1 hM1
        obtain ⟨hx3, c1, c2, c3, c4⟩ := x_write b2.1 u2 (by omega) (K A)
        have g19 : mv q hm2 19 d = eO (K A) := by rw [(u10 d (by omega)).1, w4, va_up_same]
        obtain ⟨hm3, v1, v2, v3, v4, v5, v6, v7⟩ := beh_1 hM2 u3 u4 (by omega) (by omega) g19 eo0 ea0
        have hM3 := SMA_same v2.1 hM2
        have hlen2 : (C ++ cs ++ [K A]).length = C.length + cs.length + 1 := by rw [List.length_append, hlen]; rfl
        obtain ⟨hx', o1, o2, o3⟩ := ih A2 (i + 1) (C ++ cs ++ [K A]) hx3 hm3 (by omega) ⟨⟨c2.1, ((hT.fr a2).fr b2).fr c2, c3 _ _ _ u1, c4⟩, ⟨hM3, ((hTm.fr w1).fr u5).fr v2, v3, v4⟩, u7, by omega, hd⟩ (by rw [v5, va_up_same]) (by omega) F (by omega)
        have ws2 : WS q d hm1 hm3 := fun j hj => by
          obtain ⟨y1, y2, y3⟩ := u10 j (by omega)
          exact ⟨by rw [v5, va_upN _ _ (by omega), y1], by rw [v6, y2], by rw [v7, y3]⟩
        have s20 : mv q hm3 20 d = mv q hm 20 d := by rw [v6, (u10 d (by omega)).2.1, w5 20 (by decide)]
        have s21 : mv q hm3 21 d = mv q hm 21 d := by rw [v7, (u10 d (by omega)).2.2, w5 21 (by decide)]
        refine ⟨hx', (cls hx3 c1).trans o1, ((a2.tr b2).tr c2).tr o2, ?_⟩
        rcases o3 with ⟨hm4, A4, cs4, ⟨x1, x2⟩, ⟨x3, x4, x5⟩, ⟨x6, x7, x8⟩, x9, ⟨x10, x11, x12, x13, x14, x15⟩, x16⟩ | ⟨hm4, f, c, x1, x2, x3, x4, x5, x6⟩
        · left
          have eC : C ++ cs ++ [K A] ++ cs4 = C ++ (cs ++ [K A] ++ cs4) := by simp only [List.append_assoc]
          rw [eC] at x2 x4
          have hl4 : (cs ++ [K A] ++ cs4).length = cs.length + 1 + cs4.length := by rw [List.length_append, List.length_append]; rfl
          refine ⟨hm4, A4, cs ++ [K A] ++ cs4, ⟨x1, x2⟩, ⟨x3, x4, ((w1.tr u5).tr v2).tr x5⟩, ⟨by omega, x7, by omega⟩, fun h hh => ?_, ⟨(ws1.tr ws2).tr x10, x11, x12.trans s20, x13.trans s21, x14, x15⟩, fun Fa F2 h1 h2 => ?_⟩
          · exact okS_app _ _ _ _ _ (okS_app _ _ _ _ _ (u9 (h + 1) (by omega)) (okS_op hop h)) (x9 h hh)
          · obtain ⟨F1, F2', i1, i2, i3⟩ := u15 F2 (by omega)
            obtain ⟨F1, rfl⟩ := nF1 (x := d) i1
            obtain ⟨G1, G2, j1, j2, j3⟩ := x16 F1 F2' (by omega) (by omega)
            exact ⟨G1, G2, j1, j2, (hb Fa F2).trans (i3.trans ((v1 F1 F2').trans j3))⟩
        · right
          refine ⟨hm4, f, c, x1, x2, ((w1.tr u5).tr v2).tr x3, x4, x5, fun Fa F2 h1 h2 => ?_⟩
          obtain ⟨F1, F2', i1, i2, i3⟩ := u15 F2 (by omega)
          obtain ⟨F1, rfl⟩ := nF1 (x := d) i1
          exact (hb Fa F2).trans (i3.trans ((v1 F1 F2').trans (x6 F1 F2' (by omega) (by omega))))
      · obtain ⟨hx3, c1, c2, c3⟩ := x_writeF b2.1 (K A) u1
        obtain ⟨F, rfl⟩ := nF1 (x := 0) (N := F) (by omega)
        refine ⟨hx3, (cls hx3 c1).trans (x_sumLF rA c2.1 c3 _ _ F), (a2.tr b2).tr c2, Or.inr ⟨hm2, f, c, c3, u2, w1.tr u3, u4, u5, fun Fa F2 h1 h2 => (hb Fa F2).trans (u6 F2 (by omega))⟩⟩
    · have z1 : ¬ K A = 10010 := fun z => hk (Or.inl z)
      have z2 : ¬ K A = 10011 := fun z => hk (Or.inr z)
      refine ⟨hx, ?_, FE.rf hS, Or.inl ⟨hm, A, [], ⟨hP, by rw [List.append_nil]; exact hC⟩, ⟨hPm, by rw [List.append_nil]; exact hCm, FM.rf _⟩, ⟨Nat.le_refl _, hA, by simp⟩, fun h _ => rfl, ⟨fun _ _ => ⟨rfl, rfl, rfl⟩, h19, rfl, rfl, z1, z2⟩, fun Fa F2 h1 h2 => ⟨Fa, F2, h1, h2, rfl⟩⟩⟩
      conv => lhs; unfold X6_readSum_L7
      simp only [aN, kA201, kA202, kA203, kA206, kA306, i1n0, i0n1, i0e0, i1e1, gI, gR, pI, pB, pR, xI, xL, yI, yL, vc, kd_sFi, fr_sFi, ln_sFi, ai_sFi, al_sFi, ar_sFi, cs_sFi, sz_sFi, sz_sAi, kd_sAi, fi_sAi, fr_sAi, ln_sAi, al_sAi, ar_sAi, cs_sAi, kd_wz, fi_wz, fr_wz, ln_wz, ai_wz, al_wz, ar_wz, Option.bind_some, if_true, if_false, Nat.reduceAdd, Nat.reduceMul, reduceIte, and_self, true_and, and_true, z0, k7, f704, z1, z2]
theorem sim_sum {K P : Nat → Int32} {T d : Nat} {rA : Nat → Int32 → HS → Option HS} (HP : PartH ax ao am ad n e pO fO q K P T d rA) : SumH ax ao am ad n e pO fO q K P T d rA := by
  intro A C hx hm hpre h19
  obtain ⟨hx1, b1, b2, b3⟩ := HP A C hx hm hpre
  obtain ⟨⟨hS, hT, hP, hC⟩, ⟨hM, hTm, hPm, hCm⟩, hA, hCA, hd⟩ := hpre
  have hT6 := hT.1
  have k7 := (ktok hS).2.2.2.2.2.1
  have cls : m_X6_readSum rA (ad 7 0) (nI d) hx = X6_readSum_L7 rA (ad 7 0) FU (nI d) (nI 0) hx1 := by
    simp only [m_X6_readSum, aN, kA201, kA202, kA203, kA206, kA306, i1n0, i0n1, i0e0, i1e1, gI, gR, pI, pB, pR, xI, xL, yI, yL, vc, kd_sFi, fr_sFi, ln_sFi, ai_sFi, al_sFi, ar_sFi, cs_sFi, sz_sFi, sz_sAi, kd_sAi, fi_sAi, fr_sAi, ln_sAi, al_sAi, ar_sAi, cs_sAi, kd_wz, fi_wz, fr_wz, ln_wz, ai_wz, al_wz, ar_wz, Option.bind_some, if_true, if_false, Nat.reduceAdd, Nat.reduceMul, reduceIte, and_self, true_and, and_true, k7, b1]
    rfl
  rcases b3 with ⟨hm2, A2, cs, ⟨u1, u2⟩, ⟨u3, u4, u5⟩, ⟨u6, u7, u8⟩, u9, ⟨u10, u11⟩, u15⟩ | ⟨hm2, f, c, u1, u2, u3, u4, u5, u6⟩
  · have hlen : (C ++ cs).length = C.length + cs.length := List.length_append
    have hM2 := SMA_same u5.1 hM
    have g19 : mv q hm2 19 d = 0 := by rw [(u10 d (by omega)).1]; exact h19
    obtain ⟨hx', o1, o2, o3⟩ := sim_sumL HP T A2 0 (C ++ cs) hx1 hm2 (by omega) ⟨⟨b2.1, hT.fr b2, u1, u2⟩, ⟨hM2, hTm.fr u5, u3, u4⟩, u7, by omega, hd⟩ g19 (by omega) FU (by unfold FU; omega)
    have ws : WS q d hm hm2 := fun j hj => u10 j (by omega)
    refine ⟨hx', cls.trans o1, b2.tr o2, ?_⟩
    rcases o3 with ⟨hm4, A4, cs4, ⟨x1, x2⟩, ⟨x3, x4, x5⟩, ⟨x6, x7, x8⟩, x9, ⟨x10, x11, x12, x13, x14, x15⟩, x16⟩ | ⟨hm4, f, c, x1, x2, x3, x4, x5, x6⟩
    · left
      have eC : C ++ cs ++ cs4 = C ++ (cs ++ cs4) := List.append_assoc _ _ _
      rw [eC] at x2 x4
      have hl4 : (cs ++ cs4).length = cs.length + cs4.length := List.length_append
      refine ⟨hm4, A4, cs ++ cs4, ⟨x1, x2⟩, ⟨x3, x4, u5.tr x5⟩, ⟨by omega, x7, by omega⟩, fun h hh => ?_, ⟨⟨ws.tr x10, x11, x12.trans (u10 d (by omega)).2.1, x13.trans (u10 d (by omega)).2.2, x14, x15⟩, by omega⟩, fun F2 h2 => ?_⟩
      · exact okS_app _ _ _ _ _ (u9 h (by omega)) (x9 h hh)
      · obtain ⟨F1, F2', i1, i2, i3⟩ := u15 F2 h2
        obtain ⟨F1, rfl⟩ := nF1 (x := d) i1
        obtain ⟨G1, G2, j1, j2, j3⟩ := x16 F1 F2' (by omega) i2
        exact ⟨G1, G2, j1, j2, i3.trans ((beh_0 hM2 u3 (by omega) g19 F1 F2').trans j3)⟩
    · right
      refine ⟨hm4, f, c, x1, x2, u5.tr x3, x4, x5, fun F2 h2 => ?_⟩
      obtain ⟨F1, F2', i1, i2, i3⟩ := u15 F2 h2
      obtain ⟨F1, rfl⟩ := nF1 (x := d) i1
      exact i3.trans ((beh_0 hM2 u3 (by omega) g19 F1 F2').trans (x6 F1 F2' (by omega) i2))
  · have hfu : FU = 999 + 1 := rfl
    refine ⟨hx1, cls.trans (by rw [hfu]; exact x_sumLF rA b2.1 u1 _ _ 999), b2, Or.inr ⟨hm2, f, c, u1, u2, u3, u4, u5, u6⟩⟩
theorem sim_test {K P : Nat → Int32} {T d : Nat} {rA : Nat → Int32 → HS → Option HS} (HS1 : SumH ax ao am ad n e pO fO q K P T d rA) : TstH ax ao am ad n e pO fO q K P T d rA := by
  intro A C hx hm hpre h19 h20
  obtain ⟨hx1, b1, b2, b3⟩ := HS1 A C hx hm hpre h19
  obtain ⟨⟨hS, hT, hP, hC⟩, ⟨hM, hTm, hPm, hCm⟩, hA, hCA, hd⟩ := hpre
  have hT6 := hT.1
  have k7 := (ktok hS).2.2.2.2.2.1
  have k71 := (ktok b2.1).2.2.2.2.2.1
  rcases b3 with ⟨hm2, A2, cs, ⟨u1, u2⟩, ⟨u3, u4, u5⟩, ⟨u6, u7, u8⟩, u9, ⟨⟨u10, u11, u12, u13, u14, u16⟩, u17⟩, u15⟩ | ⟨hm2, f, c, u1, u2, u3, u4, u5, u6⟩
  · have hlen : (C ++ cs).length = C.length + cs.length := List.length_append
    have hM2 := SMA_same u5.1 hM
    have hTx1 := hT.fr b2
    have hT2 := hTm.fr u5
    have g20 : mv q hm2 20 d = 0 := u12.trans h20
    have f704 : fi hx1 704 (ad 7 0) = K A2 := (f7 b2.1 (by decide)).trans u1.2.1
    by_cases hk : K A2 = 10012 ∨ K A2 = 10013
    · have hA2T := lt_end hTx1 u7 (by rcases hk with h | h <;> rw [h] <;> decide)
      have e703 : cf ad n hx1 703 0 + 1 = nI (A2 + 1) := by rw [u1.1]; exact nI_add A2 1
      obtain ⟨hx2, a1, a2, a3, a4⟩ := x_go b2.1 hTx1 e703 (by omega)
      rw [u1.2.2] at a3
      obtain ⟨w1, w2, w3, w4, w5⟩ := r_wait hM2 u3 (k := 20) (by decide) (eO (K A2))
      obtain ⟨hm3, hhm3⟩ : ∃ x, x = sFi (sAi hm2 (q 20) d (eO (K A2))) 1007 am (nI (A2 + 1)) := ⟨_, rfl⟩
      have hb := bes_sg hM2 hT2 u3 u7 (by omega) hk g20
      rw [← hhm3] at w1 w2 w3 w4 w5 hb
      have hM3 := SMA_same w1.1 hM2
      have hT3 := hT2.fr w1
      have hop : K A2 = 10010 ∨ K A2 = 10011 ∨ K A2 = 10012 ∨ K A2 = 10013 ∨ K A2 = 10014 := by rcases hk with h | h; exact Or.inr (Or.inr (Or.inl h)); exact Or.inr (Or.inr (Or.inr (Or.inl h)))
      have eo0 : eO (K A2) ≠ 0 := by rcases hk with h | h <;> rw [h] <;> decide
      have ea0 : eA (K A2) = 0 := by rcases hk with h | h <;> rw [h] <;> decide
      have k72 := (ktok a2.1).2.2.2.2.2.1
      obtain ⟨hx3, c1, c2, c3⟩ := HS1 (A2 + 1) (C ++ cs) hx2 hm3 ⟨⟨a2.1, hTx1.fr a2, a3, a4 _ u2⟩, ⟨hM3, hT3, w2, w3 _ u4⟩, by omega, by omega, hd⟩ (by rw [w5 19 (by decide)]; exact u11)
      have k73 := (ktok c2.1).2.2.2.2.2.1
      have ws3 : WS q d hm2 hm3 := fun j hj => ⟨by rw [w5 19 (by decide)], by rw [w4, va_upN _ _ (by omega)], by rw [w5 21 (by decide)]⟩
      have cls : ∀ hx4, m_X6_write (ad 7 0) (K A2) hx3 = some hx4 → m_X6_readTest rA (ad 7 0) (nI d) hx = some hx4 := fun hx4 hw => by
        rcases hk with h | h
        · rw [h] at f704 hw
          simp only [m_X6_readTest, X6_readTest_b24, aN, kA201, kA202, kA203, kA206, kA306, i1n0, i0n1, i0e0, i1e1, gI, gR, pI, pB, pR, xI, xL, yI, yL, vc, kd_sFi, fr_sFi, ln_sFi, ai_sFi, al_sFi, ar_sFi, cs_sFi, sz_sFi, sz_sAi, kd_sAi, fi_sAi, fr_sAi, ln_sAi, al_sAi, ar_sAi, cs_sAi, kd_wz, fi_wz, fr_wz, ln_wz, ai_wz, al_wz, ar_wz, Option.bind_some, if_true, if_false, Nat.reduceAdd, Nat.reduceMul, reduceIte, and_self, true_and, and_true, k7, b1, k71, f704, a1, k72, c1, k73, hw]
        · have z1 : ((10013 : Int32) = 10012) = False := eq_false (by decide)
          rw [h] at f704 hw
          simp only [m_X6_readTest, X6_readTest_b24, aN, kA201, kA202, kA203, kA206, kA306, i1n0, i0n1, i0e0, i1e1, gI, gR, pI, pB, pR, xI, xL, yI, yL, vc, kd_sFi, fr_sFi, ln_sFi, ai_sFi, al_sFi, ar_sFi, cs_sFi, sz_sFi, sz_sAi, kd_sAi, fi_sAi, fr_sAi, ln_sAi, al_sAi, ar_sAi, cs_sAi, kd_wz, fi_wz, fr_wz, ln_wz, ai_wz, al_wz, ar_wz, Option.bind_some, if_true, if_false, Nat.reduceAdd, Nat.reduceMul, reduceIte, and_self, true_and, and_true, k7, b1, k71, f704, z1, a1, k72, c1, k73, hw]
      rcases c3 with ⟨hm4, A4, cs4, ⟨x1, x2⟩, ⟨x3, x4, x5⟩, ⟨x6, x7, x8⟩, x9, ⟨⟨x10, x11, x12, x13, x14, x15⟩, x17⟩, x16⟩ | ⟨hm4, f, c, x1, x2, x3, x4, x5, x6⟩
      · have hlen4 : (C ++ cs ++ cs4).length = C.length + cs.length + cs4.length := by rw [List.length_append, hlen]
        have hM4 := SMA_same x5.1 hM3
        have hT4 := hT3.fr x5
        obtain ⟨hx4, y1, y2, y3, y4⟩ := x_write c2.1 x2 (by omega) (K A2)
        have g20' : mv q hm4 20 d = eO (K A2) := by rw [x12, w4, va_up_same]
        obtain ⟨hm5, v1, v2, v3, v4, v5, v6, v7⟩ := bes_em hM4 hT4 x3 x4 (by omega) x7 (by omega) x14 x15 g20' eo0 ea0
        have eC : C ++ cs ++ cs4 ++ [K A2] = C ++ (cs ++ cs4 ++ [K A2]) := by simp only [List.append_assoc]
        rw [eC] at y4 v4
        have hl4 : (cs ++ cs4 ++ [K A2]).length = cs.length + cs4.length + 1 := by rw [List.length_append, List.length_append]; rfl
        refine ⟨hx4, cls hx4 y1, ((b2.tr a2).tr c2).tr y2, Or.inl ⟨hm5, A4, cs ++ cs4 ++ [K A2], ⟨y3 _ _ _ x1, y4⟩, ⟨v3, v4, ((u5.tr w1).tr x5).tr v2⟩, ⟨by omega, x7, by omega⟩, fun h hh => ?_, ⟨⟨((u10.tr ws3).tr x10).tr (fun j hj => ⟨by rw [v5], by rw [v6, va_upN _ _ (by omega)], by rw [v7]⟩), by rw [v5]; exact x11, by rw [v6, va_up_same], by rw [v7, x13, w5 21 (by decide)]; exact u13⟩, by omega⟩, fun F2 h2 => ?_⟩⟩
        · exact okS_app _ _ _ _ _ (okS_app _ _ _ _ _ (u9 h (by omega)) (x9 (h + 1) (by omega))) (okS_op hop h)
        · obtain ⟨F1, F2', i1, i2, i3⟩ := u15 F2 h2
          obtain ⟨G1, G2, j1, j2, j3⟩ := x16 F2' (by omega)
          exact ⟨G1, G2, j1, j2, i3.trans ((hb F1 F2').trans (j3.trans (v1 G1 G2)))⟩
      · obtain ⟨hx4, y1, y2, y3⟩ := x_writeF c2.1 (K A2) x1
        refine ⟨hx4, cls hx4 y1, ((b2.tr a2).tr c2).tr y2, Or.inr ⟨hm4, f, c, y3, x2, (u5.tr w1).tr x3, x4, x5, fun F2 h2 => ?_⟩⟩
        obtain ⟨F1, F2', i1, i2, i3⟩ := u15 F2 h2
        exact i3.trans ((hb F1 F2').trans (x6 F2' (by omega)))
    · have z1 : ¬ K A2 = 10012 := fun z => hk (Or.inl z)
      have z2 : ¬ K A2 = 10013 := fun z => hk (Or.inr z)
      refine ⟨hx1, ?_, b2, Or.inl ⟨hm2, A2, cs, ⟨u1, u2⟩, ⟨u3, u4, u5⟩, ⟨u6, u7, u8⟩, fun h hh => u9 h (by omega), ⟨⟨u10, u11, g20, u13⟩, u17⟩, fun F2 h2 => ?_⟩⟩
      · simp only [m_X6_readTest, aN, kA201, kA202, kA203, kA206, kA306, i1n0, i0n1, i0e0, i1e1, gI, gR, pI, pB, pR, xI, xL, yI, yL, vc, kd_sFi, fr_sFi, ln_sFi, ai_sFi, al_sFi, ar_sFi, cs_sFi, sz_sFi, sz_sAi, kd_sAi, fi_sAi, fr_sAi, ln_sAi, al_sAi, ar_sAi, cs_sAi, kd_wz, fi_wz, fr_wz, ln_wz, ai_wz, al_wz, ar_wz, Option.bind_some, if_true, if_false, Nat.reduceAdd, Nat.reduceMul, reduceIte, and_self, true_and, and_true, k7, b1, k71, f704, z1, z2]
      · obtain ⟨F1, F2', i1, i2, i3⟩ := u15 F2 h2
        exact ⟨F1, F2', i1, i2, i3.trans (bes_t hM2 hT2 u3 u7 (by omega) u14 u16 z1 z2 g20 F1 F2')⟩
  · have f704 : fi hx1 704 (ad 7 0) = 10026 := (f7 b2.1 (by decide)).trans u1.2.2
    have z1 : ((10026 : Int32) = 10012) = False := eq_false (by decide)
    have z2 : ((10026 : Int32) = 10013) = False := eq_false (by decide)
    refine ⟨hx1, ?_, b2, Or.inr ⟨hm2, f, c, u1, u2, u3, u4, u5, u6⟩⟩
    simp only [m_X6_readTest, aN, kA201, kA202, kA203, kA206, kA306, i1n0, i0n1, i0e0, i1e1, gI, gR, pI, pB, pR, xI, xL, yI, yL, vc, kd_sFi, fr_sFi, ln_sFi, ai_sFi, al_sFi, ar_sFi, cs_sFi, sz_sFi, sz_sAi, kd_sAi, fi_sAi, fr_sAi, ln_sAi, al_sAi, ar_sAi, cs_sAi, kd_wz, fi_wz, fr_wz, ln_wz, ai_wz, al_wz, ar_wz, Option.bind_some, if_true, if_false, Nat.reduceAdd, Nat.reduceMul, reduceIte, and_self, true_and, and_true, k7, b1, k71, f704, z1, z2]
end SIM2
