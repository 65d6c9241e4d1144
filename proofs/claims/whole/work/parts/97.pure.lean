section SIM3
variable {ax ao am : Nat} {ad : Nat → Nat → Nat} {n e pO fO q tm : Nat → Nat} {tx : Nat → List (Int32 × List Int32)} {w : Nat} {pn : Nat → Nat} {nw : Nat → Nat → Nat} {fs : Nat → Nat} {ls : Nat → Option Nat} {rs rl pr : Nat → Nat} {tl : Nat} {hx hm : HS}
def AndH (ax ao am : Nat) (ad : Nat → Nat → Nat) (n e pO fO q : Nat → Nat) (K P : Nat → Int32) (T d : Nat) (rA : Nat → Int32 → HS → Option HS) : Prop := ∀ (A : Nat) (C : List Int32) (hx hm : HS), PRE ax ao am ad n e pO fO q K P T d A C hx hm → mv q hm 19 d = 0 → mv q hm 20 d = 0 → mv q hm 21 d = 0 → ∃ hx', m_X6_readAnds rA (ad 7 0) (nI d) hx = some hx' ∧ FE ax ao ad n e pO fO hx hx' ∧ SOut am ad n q K P T d A C hm (BEA am) (fun F2 => X9_line_L168 am F2 1 hm) d (3 * d) 0 (WA q K d hm) hx'
theorem sim_andL {K P : Nat → Int32} {T d : Nat} {rA : Nat → Int32 → HS → Option HS} (HP : TstH ax ao am ad n e pO fO q K P T d rA) : ∀ (m A i : Nat) (C : List Int32) (hx hm : HS), T - A ≤ m → PRE ax ao am ad n e pO fO q K P T d A C hx hm → mv q hm 19 d = 0 → mv q hm 20 d = 0 → mv q hm 21 d = 0 → i + 3 ≤ A → ∀ F, m < F → ∃ hx', X6_readAnds_L7 rA (ad 7 0) F (nI d) (nI i) hx = some hx' ∧ FE ax ao ad n e pO fO hx hx' ∧ SOutL am ad n q K P T d A C hm (BEA am) (BEA am) (3 * d) (WA q K d hm) hx' := by
  intro m
  induction m with
  | zero =>
    intro A i C hx hm hm0 hpre h19 h20 h21 hi F hF
    obtain ⟨F, rfl⟩ := nF1 hF
    obtain ⟨⟨hS, hT, hP, hC⟩, ⟨hM, hTm, hPm, hCm⟩, hA, hCA, hd⟩ := hpre
    have hAT : A = T := by omega
    obtain ⟨n7, n8, n17, n18, n19, k7, -⟩ := ktok hS
    have hK : K A = 10025 := by rw [hAT]; exact hT.2.2.2
    have f704 : fi hx 704 (ad 7 0) = 10025 := ((f7 hS (by decide)).trans hP.2.1).trans hK
    have hT6 := hT.1
    have z0 : ¬ (600 : Int32) ≤ nI i := nI_ge (b := 600) (by omega) (by omega)
    have z1 : ((10025 : Int32) = 10014) = False := eq_false (by decide)
    refine ⟨hx, ?_, FE.rf hS, Or.inl ⟨hm, A, [], ⟨hP, by rw [List.append_nil]; exact hC⟩, ⟨hPm, by rw [List.append_nil]; exact hCm, FM.rf _⟩, ⟨Nat.le_refl _, hA, by simp⟩, fun h _ => rfl, ⟨fun _ _ => ⟨rfl, rfl, rfl⟩, h19, h20, h21, by rw [hK]; decide⟩, fun Fa F2 h1 h2 => ⟨Fa, F2, h1, h2, rfl⟩⟩⟩
    conv => lhs; unfold X6_readAnds_L7
    simp only [aN, kA201, kA202, kA203, kA206, kA306, i1n0, i0n1, i0e0, i1e1, gI, gR, pI, pB, pR, xI, xL, yI, yL, vc, kd_sFi, fr_sFi, ln_sFi, ai_sFi, al_sFi, ar_sFi, cs_sFi, sz_sFi, sz_sAi, kd_sAi, fi_sAi, fr_sAi, ln_sAi, al_sAi, ar_sAi, cs_sAi, kd_wz, fi_wz, fr_wz, ln_wz, ai_wz, al_wz, ar_wz, Option.bind_some, if_true, if_false, Nat.reduceAdd, Nat.reduceMul, reduceIte, and_self, true_and, and_true, z0, k7, f704, z1]
  | succ m ih =>
    intro A i C hx hm hm0 hpre h19 h20 h21 hi F hF
    obtain ⟨F, rfl⟩ := nF1 (x := m + 1) hF
    obtain ⟨⟨hS, hT, hP, hC⟩, ⟨hM, hTm, hPm, hCm⟩, hA, hCA, hd⟩ := hpre
    obtain ⟨n7, n8, n17, n18, n19, k7, -⟩ := ktok hS
    have f704 : fi hx 704 (ad 7 0) = K A := (f7 hS (by decide)).trans hP.2.1
    have hT6 := hT.1
    have z0 : ¬ (600 : Int32) ≤ nI i := nI_ge (b := 600) (by omega) (by omega)
    by_cases hk : K A = 10014
    · have hAT := lt_end hT hA (by rw [hk]; decide)
      have e703 : cf ad n hx 703 0 + 1 = nI (A + 1) := by rw [hP.1]; exact nI_add A 1
      obtain ⟨hx1, a1, a2, a3, a4⟩ := x_go hS hT e703 (by omega)
      rw [hP.2.2] at a3
      obtain ⟨w1, w2, w3, w4, w5⟩ := r_wait hM hPm (k := 21) (by decide) 7
      obtain ⟨hm1, hhm1⟩ : ∃ x, x = sFi (sAi hm (q 21) d 7) 1007 am (nI (A + 1)) := ⟨_, rfl⟩
      have hb := bea_and hM hTm hPm hA (by omega) hk
      rw [← hhm1] at w1 w2 w3 w4 w5 hb
      have hM1 := SMA_same w1.1 hM
      have k71 := (ktok a2.1).2.2.2.2.2.1
      have e7 : nI i + 1 = nI (i + 1) := nI_add i 1
      obtain ⟨hx2, b1, b2, b3⟩ := HP (A + 1) C hx1 hm1 ⟨⟨a2.1, hT.fr a2, a3, a4 C hC⟩, ⟨hM1, hTm.fr w1, w2, w3 C hCm⟩, by omega, by omega, hd⟩ (by rw [w5 19 (by decide)]; exact h19) (by rw [w5 20 (by decide)]; exact h20)
      have k72 := (ktok b2.1).2.2.2.2.2.1
      have ws1 : WS q d hm hm1 := fun j hj => ⟨by rw [w5 19 (by decide)], by rw [w5 20 (by decide)], by rw [w4, va_upN _ _ (by omega)]⟩
      have cls : ∀ hx3, m_X6_write (ad 7 0) 10014 hx2 = some hx3 → X6_readAnds_L7 rA (ad 7 0) (F + 1) (nI d) (nI i) hx = X6_readAnds_L7 rA (ad 7 0) F (nI d) (nI (i + 1)) hx3 := fun hx3 hw => by
        conv => lhs; unfold X6_readAnds_L7
        rw [hk] at f704
        simp only [aN, kA201, kA202, kA203, kA206, kA306, i1n0, i0n1, i0e0, i1e1, gI, gR, pI, pB, pR, xI, xL, yI, yL, vc, kd_sFi, fr_sFi, ln_sFi, ai_sFi, al_sFi, ar_sFi, cs_sFi, sz_sFi, sz_sAi, kd_sAi, fi_sAi, fr_sAi, ln_sAi, al_sAi, ar_sAi, cs_sAi, kd_wz, fi_wz, fr_wz, ln_wz, ai_wz, al_wz, ar_wz, Option.bind_some, if_true, if_false, Nat.reduceAdd, Nat.reduceMul, reduceIte, and_self, true_and, and_true, z0, k7, f704, a1, k71, b1, k72, hw, e7]
      rcases b3 with ⟨hm2, A2, cs, ⟨u1, u2⟩, ⟨u3, u4, u5⟩, ⟨u6, u7, u8⟩, u9, ⟨⟨u10, u11, u12, u13⟩, u14⟩, u15⟩ | ⟨hm2, f, c, u1, u2, u3, u4, u5, u6⟩
      · have hlen : (C ++ cs).length = C.length + cs.length := List.length_append
        have hM2 := SMA_same u5.1 hM1
        obtain ⟨hx3, c1, c2, c3, c4⟩ := x_write b2.1 u2 (by omega) 10014
        have g21 : mv q hm2 21 d = 7 := by rw [u13, w4, va_up_same]
        obtain ⟨hm3, v1, v2, v3, v4, v5, v6, v7⟩ := bet_1 hM2 u3 u4 (by omega) (by omega) g21
        have hM3 := SMA_same v2.1 hM2
        have hlen2 : (C ++ cs ++ [10014]).length = C.length + cs.length + 1 := by rw [List.length_append, hlen]; rfl
        obtain ⟨hx', o1, o2, o3⟩ := ih A2 (i + 1) (C ++ cs ++ [10014]) hx3 hm3 (by omega) ⟨⟨c2.1, ((hT.fr a2).fr b2).fr c2, c3 _ _ _ u1, c4⟩, ⟨hM3, ((hTm.fr w1).fr u5).fr v2, v3, v4⟩, u7, by omega, hd⟩ (by rw [v5]; exact u11) (by rw [v6]; exact u12) (by rw [v7, va_up_same]) (by omega) F (by omega)
        have ws2 : WS q d hm1 hm3 := fun j hj => by
          obtain ⟨y1, y2, y3⟩ := u10 j (by omega)
          exact ⟨by rw [v5, y1], by rw [v6, y2], by rw [v7, va_upN _ _ (by omega), y3]⟩
        refine ⟨hx', (cls hx3 c1).trans o1, ((a2.tr b2).tr c2).tr o2, ?_⟩
        rcases o3 with ⟨hm4, A4, cs4, ⟨x1, x2⟩, ⟨x3, x4, x5⟩, ⟨x6, x7, x8⟩, x9, ⟨x10, x11, x12, x13, x14⟩, x16⟩ | ⟨hm4, f, c, x1, x2, x3, x4, x5, x6⟩
        · left
          have eC : C ++ cs ++ [10014] ++ cs4 = C ++ (cs ++ [10014] ++ cs4) := by simp only [List.append_assoc]
          rw [eC] at x2 x4
          have hl4 : (cs ++ [10014] ++ cs4).length = cs.length + 1 + cs4.length := by rw [List.length_append, List.length_append]; rfl
          refine ⟨hm4, A4, cs ++ [10014] ++ cs4, ⟨x1, x2⟩, ⟨x3, x4, ((w1.tr u5).tr v2).tr x5⟩, ⟨by omega, x7, by omega⟩, fun h hh => ?_, ⟨(ws1.tr ws2).tr x10, x11, x12, x13, x14⟩, fun Fa F2 h1 h2 => ?_⟩
          · exact okS_app _ _ _ _ _ (okS_app _ _ _ _ _ (u9 (h + 1) (by omega)) (okS_op (Or.inr (Or.inr (Or.inr (Or.inr rfl)))) h)) (x9 h hh)
          · obtain ⟨F1, F2', i1, i2, i3⟩ := u15 F2 (by omega)
            obtain ⟨G1, G2, j1, j2, j3⟩ := x16 F1 F2' (by omega) (by omega)
            exact ⟨G1, G2, j1, j2, (hb Fa F2).trans (i3.trans ((v1 F1 F2').trans j3))⟩
        · right
          refine ⟨hm4, f, c, x1, x2, ((w1.tr u5).tr v2).tr x3, x4, x5, fun Fa F2 h1 h2 => ?_⟩
          obtain ⟨F1, F2', i1, i2, i3⟩ := u15 F2 (by omega)
          exact (hb Fa F2).trans (i3.trans ((v1 F1 F2').trans (x6 F1 F2' (by omega) (by omega))))
      · obtain ⟨hx3, c1, c2, c3⟩ := x_writeF b2.1 10014 u1
        obtain ⟨F, rfl⟩ := nF1 (x := 0) (N := F) (by omega)
        refine ⟨hx3, (cls hx3 c1).trans (x_andLF rA c2.1 c3 _ _ F), (a2.tr b2).tr c2, Or.inr ⟨hm2, f, c, c3, u2, w1.tr u3, u4, u5, fun Fa F2 h1 h2 => (hb Fa F2).trans (u6 F2 (by omega))⟩⟩
    · refine ⟨hx, ?_, FE.rf hS, Or.inl ⟨hm, A, [], ⟨hP, by rw [List.append_nil]; exact hC⟩, ⟨hPm, by rw [List.append_nil]; exact hCm, FM.rf _⟩, ⟨Nat.le_refl _, hA, by simp⟩, fun h _ => rfl, ⟨fun _ _ => ⟨rfl, rfl, rfl⟩, h19, h20, h21, hk⟩, fun Fa F2 h1 h2 => ⟨Fa, F2, h1, h2, rfl⟩⟩⟩
      conv => lhs; unfold X6_readAnds_L7
      simp only [aN, kA201, kA202, kA203, kA206, kA306, i1n0, i0n1, i0e0, i1e1, gI, gR, pI, pB, pR, xI, xL, yI, yL, vc, kd_sFi, fr_sFi, ln_sFi, ai_sFi, al_sFi, ar_sFi, cs_sFi, sz_sFi, sz_sAi, kd_sAi, fi_sAi, fr_sAi, ln_sAi, al_sAi, ar_sAi, cs_sAi, kd_wz, fi_wz, fr_wz, ln_wz, ai_wz, al_wz, ar_wz, Option.bind_some, if_true, if_false, Nat.reduceAdd, Nat.reduceMul, reduceIte, and_self, true_and, and_true, z0, k7, f704, hk]
theorem sim_and {K P : Nat → Int32} {T d : Nat} {rA : Nat → Int32 → HS → Option HS} (HP : TstH ax ao am ad n e pO fO q K P T d rA) : AndH ax ao am ad n e pO fO q K P T d rA := by
  intro A C hx hm hpre h19 h20 h21
  obtain ⟨hx1, b1, b2, b3⟩ := HP A C hx hm hpre h19 h20
  obtain ⟨⟨hS, hT, hP, hC⟩, ⟨hM, hTm, hPm, hCm⟩, hA, hCA, hd⟩ := hpre
  have hT6 := hT.1
  have k7 := (ktok hS).2.2.2.2.2.1
  have cls : m_X6_readAnds rA (ad 7 0) (nI d) hx = X6_readAnds_L7 rA (ad 7 0) FU (nI d) (nI 0) hx1 := by
    simp only [m_X6_readAnds, aN, kA201, kA202, kA203, kA206, kA306, i1n0, i0n1, i0e0, i1e1, gI, gR, pI, pB, pR, xI, xL, yI, yL, vc, kd_sFi, fr_sFi, ln_sFi, ai_sFi, al_sFi, ar_sFi, cs_sFi, sz_sFi, sz_sAi, kd_sAi, fi_sAi, fr_sAi, ln_sAi, al_sAi, ar_sAi, cs_sAi, kd_wz, fi_wz, fr_wz, ln_wz, ai_wz, al_wz, ar_wz, Option.bind_some, if_true, if_false, Nat.reduceAdd, Nat.reduceMul, reduceIte, and_self, true_and, and_true, k7, b1]
    rfl
  rcases b3 with ⟨hm2, A2, cs, ⟨u1, u2⟩, ⟨u3, u4, u5⟩, ⟨u6, u7, u8⟩, u9, ⟨⟨u10, u11, u12, u13⟩, u14⟩, u15⟩ | ⟨hm2, f, c, u1, u2, u3, u4, u5, u6⟩
  · have hlen : (C ++ cs).length = C.length + cs.length := List.length_append
    have hM2 := SMA_same u5.1 hM
    have g21 : mv q hm2 21 d = 0 := u13.trans h21
    obtain ⟨hx', o1, o2, o3⟩ := sim_andL HP T A2 0 (C ++ cs) hx1 hm2 (by omega) ⟨⟨b2.1, hT.fr b2, u1, u2⟩, ⟨hM2, hTm.fr u5, u3, u4⟩, u7, by omega, hd⟩ u11 u12 g21 (by omega) FU (by unfold FU; omega)
    refine ⟨hx', cls.trans o1, b2.tr o2, ?_⟩
    rcases o3 with ⟨hm4, A4, cs4, ⟨x1, x2⟩, ⟨x3, x4, x5⟩, ⟨x6, x7, x8⟩, x9, ⟨x10, x11, x12, x13, x14⟩, x16⟩ | ⟨hm4, f, c, x1, x2, x3, x4, x5, x6⟩
    · left
      have eC : C ++ cs ++ cs4 = C ++ (cs ++ cs4) := List.append_assoc _ _ _
      rw [eC] at x2 x4
      have hl4 : (cs ++ cs4).length = cs.length + cs4.length := List.length_append
      refine ⟨hm4, A4, cs ++ cs4, ⟨x1, x2⟩, ⟨x3, x4, u5.tr x5⟩, ⟨by omega, x7, by omega⟩, fun h hh => ?_, ⟨u10.tr x10, x11, x12, x13, x14⟩, fun F2 h2 => ?_⟩
      · exact okS_app _ _ _ _ _ (u9 h (by omega)) (x9 h hh)
      · obtain ⟨F1, F2', i1, i2, i3⟩ := u15 F2 h2
        obtain ⟨G1, G2, j1, j2, j3⟩ := x16 F1 F2' i1 i2
        exact ⟨G1, G2, j1, j2, i3.trans ((bet_0 hM2 u3 (by omega) g21 F1 F2').trans j3)⟩
    · right
      refine ⟨hm4, f, c, x1, x2, u5.tr x3, x4, x5, fun F2 h2 => ?_⟩
      obtain ⟨F1, F2', i1, i2, i3⟩ := u15 F2 h2
      exact i3.trans ((bet_0 hM2 u3 (by omega) g21 F1 F2').trans (x6 F1 F2' i1 i2))
  · have hfu : FU = 999 + 1 := rfl
    refine ⟨hx1, cls.trans (by rw [hfu]; exact x_andLF rA b2.1 u1 _ _ 999), b2, Or.inr ⟨hm2, f, c, u1, u2, u3, u4, u5, u6⟩⟩
theorem sim_all {K P : Nat → Int32} {T : Nat} : ∀ (k d : Nat), d + k = 5 → AndH ax ao am ad n e pO fO q K P T d (raD k) := by
  intro k
  induction k with
  | zero =>
    intro d hd
    exact sim_and (sim_test (sim_sum (fun A C hx hm hpre => sim_part (raD 0) (fun h => absurd h (by omega)) A C hx hm hpre)))
  | succ k ih =>
    intro d hd
    exact sim_and (sim_test (sim_sum (fun A C hx hm hpre => sim_part (raD (k + 1)) (fun _ A C hx hm hpre h1 h2 h3 => ih (d + 1) (by omega) A C hx hm hpre h1 h2 h3) A C hx hm hpre)))
end SIM3
