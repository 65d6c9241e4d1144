section LINESIM2
variable {ax ao am : Nat} {ad : Nat → Nat → Nat} {n e pO fO q tm : Nat → Nat} {tx : Nat → List (Int32 × List Int32)} {w : Nat} {pn : Nat → Nat} {nw : Nat → Nat → Nat} {fs : Nat → Nat} {ls : Nat → Option Nat} {rs rl pr : Nat → Nat} {tl : Nat} {hx hm : HS}
theorem line_sim {K P : Nat → Int32} {T A : Nat} {Ls : List (Int32 × List Int32)} (hS : SXA ax ao ad n e pO fO hx) (hT : TX ad n K P T hx) (hM : SMA q am hm) (hTm : TM q K P T hm) (hL : LR am ad n q K T Ls A hx hm) : ∃ hx' hm', m_X6_readLine (ad 7 0) hx = some hx' ∧ m_X9_line am hm = some hm' ∧ FL ax ao ad n e pO fO hx hx' ∧ F9 am q hm hm' ∧ ((∃ A' r es, LR am ad n q K T (Ls ++ [(r, es)]) A' hx' hm' ∧ A < A') ∨ ∃ f, FLT ad n f hx' ∧ mf am hm' 8 = f) := by
  obtain ⟨⟨hP, hC, h705⟩, ⟨h7, h8, hCm, h12⟩, ⟨hA, hCA, hCA3, hL16⟩, hok, hln⟩ := hL
  have hT6 := hT.1
  obtain ⟨d0, hd0⟩ := any_nI (mf am hm 18)
  have hPm : PM am A 0 d0 hm := ⟨h7, h8, hd0⟩
  have k7 := (ktok hS).2.2.2.2.2.1
  have hkm : kd hm am = 11 := hM.1
  have f704 : fi hx 704 (ad 7 0) = K A := (f7 hS (by decide)).trans hP.2.1
  have f705 : fi hx 705 (ad 7 0) = nI Ls.length := (f7 hS (by decide)).trans h705
  have sw : m_X9_isWord am 0 hm = some (if K A = 10020 then 1 else 0, hm) := r_isWord hM hTm hPm hA (i := 0) (by decide)
  have x17 : mf am hm 17 = nI (flat Ls).length := hCm.1
  -- a fault at the line's first token
  have early : ∀ k : Nat, 1 ≤ k → k ≤ 5 → (∃ hx1, FE ax ao ad n e pO fO hx hx1 ∧ cf ad n hx1 706 0 = nI k + 16 * P A ∧ cf ad n hx1 704 0 = 10026 ∧ ((m_X6_readLine (ad 7 0) hx = X6_readLine_b24 (ad 7 0) hx1) ∨ m_X6_readLine (ad 7 0) hx = tl2 (ad 7 0) hx1)) → m_X9_line am hm = X9_line_b33 am (sFi hm 1008 am (nI k + 16 * P A)) → ∃ hx' hm', m_X6_readLine (ad 7 0) hx = some hx' ∧ m_X9_line am hm = some hm' ∧ FL ax ao ad n e pO fO hx hx' ∧ F9 am q hm hm' ∧ ((∃ A' r es, LR am ad n q K T (Ls ++ [(r, es)]) A' hx' hm' ∧ A < A') ∨ ∃ f, FLT ad n f hx' ∧ mf am hm' 8 = f) := by
    rintro k k1 k5 ⟨hx1, a1, a2, a3, a4⟩ hm1
    obtain ⟨hne, hnl⟩ := flt_ne (k := k) hTm hA k1 k5
    have hF : FLT ad n (nI k + 16 * P A) hx1 := ⟨a2, hne, a3⟩
    obtain ⟨s1, s2, s3⟩ := FM_s (am := am) (q := q) (h := hm) (k := 8) (by decide) (nI k + 16 * P A)
    have b33 : X9_line_b33 am (sFi hm 1008 am (nI k + 16 * P A)) = some (sFi hm 1008 am (nI k + 16 * P A)) := by
      have fx : fi (sFi hm 1008 am (nI k + 16 * P A)) 1008 am = nI k + 16 * P A := by rw [fi_sFi, up2_same]
      simp only [X9_line_b33, aN, kA201, kA202, kA203, kA206, kA306, i1n0, i0n1, i0e0, i1e1, gI, gR, pI, pB, pR, xI, xL, yI, yL, vc, kd_sFi, fr_sFi, ln_sFi, ai_sFi, al_sFi, ar_sFi, cs_sFi, sz_sFi, sz_sAi, kd_sAi, fi_sAi, fr_sAi, ln_sAi, al_sAi, ar_sAi, cs_sAi, kd_wz, fi_wz, fr_wz, ln_wz, ai_wz, al_wz, ar_wz, Option.bind_some, if_true, if_false, Nat.reduceAdd, Nat.reduceMul, reduceIte, and_self, true_and, and_true, hkm, fx, hnl]
    have fin : ∃ hx', m_X6_readLine (ad 7 0) hx = some hx' ∧ FL ax ao ad n e pO fO hx hx' ∧ FLT ad n (nI k + 16 * P A) hx' := by
      rcases a4 with a4 | a4
      · obtain ⟨hx2, b1, b2, b3⟩ := x_takeF a1.1 hF 10020 (by decide)
        obtain ⟨hx3, c1, c2, c3⟩ := tl2F b2.1 b3
        have k71 := (ktok a1.1).2.2.2.2.2.1
        refine ⟨hx3, ?_, (a1.tr b2).l.tr c2, c3⟩
        rw [a4, b24_eq]
        simp only [aN, kA201, kA202, kA203, kA206, kA306, i1n0, i0n1, i0e0, i1e1, gI, gR, pI, pB, pR, xI, xL, yI, yL, vc, kd_sFi, fr_sFi, ln_sFi, ai_sFi, al_sFi, ar_sFi, cs_sFi, sz_sFi, sz_sAi, kd_sAi, fi_sAi, fr_sAi, ln_sAi, al_sAi, ar_sAi, cs_sAi, kd_wz, fi_wz, fr_wz, ln_wz, ai_wz, al_wz, ar_wz, Option.bind_some, if_true, if_false, Nat.reduceAdd, Nat.reduceMul, reduceIte, and_self, true_and, and_true, k71, b1, c1]
      · obtain ⟨hx3, c1, c2, c3⟩ := tl2F a1.1 hF
        exact ⟨hx3, a4.trans c1, a1.l.tr c2, c3⟩
    obtain ⟨hx', c1, c2, c3⟩ := fin
    exact ⟨hx', _, c1, hm1.trans b33, c2, s1.l, Or.inr ⟨_, c3, s2⟩⟩
  by_cases hk : K A = 10020
  · rw [if_pos hk] at sw
    rw [hk] at f704
    have b20 : inB 20 21 = true := by decide
    have c20 : (20 : Int32).toNatClampNeg = 20 := by decide
    have r12 : fr hm 1012 am = some (q 12) := (hM.2.1 (12, 201, 21) (by decide)).1
    have k12 : kd hm (q 12) = 201 := (hM.2.1 (12, 201, 21) (by decide)).2.1
    have l12 : ln hm (q 12) = 21 := (hM.2.1 (12, 201, 21) (by decide)).2.2
    have v12 : ai hm (q 12) 20 = nI Ls.length := h12
    by_cases h16 : Ls.length < 16
    · have zc : nI Ls.length < 16 := nI_lt (b := 16) h16 (by omega)
      have zr : (nI Ls.length = 16) = False := eq_false fun z => by have := (nI_eq (b := 16) (by omega) (by omega)).mp z; omega
      have hml : m_X9_line am hm = X9_line_b33 am hm := by
        simp only [m_X9_line, aN, kA201, kA202, kA203, kA206, kA306, i1n0, i0n1, i0e0, i1e1, gI, gR, pI, pB, pR, xI, xL, yI, yL, vc, kd_sFi, fr_sFi, ln_sFi, ai_sFi, al_sFi, ar_sFi, cs_sFi, sz_sFi, sz_sAi, kd_sAi, fi_sAi, fr_sAi, ln_sAi, al_sAi, ar_sAi, cs_sAi, kd_wz, fi_wz, fr_wz, ln_wz, ai_wz, al_wz, ar_wz, Option.bind_some, if_true, if_false, Nat.reduceAdd, Nat.reduceMul, reduceIte, and_self, true_and, and_true, hkm, sw, r12, k12, l12, b20, c20, v12, zr]
      obtain ⟨hx1, a1, a2, a3, a4, a5⟩ := (x_take hS hT hP hA (k := 10020) (by decide)).1 hk
      have hcl : m_X6_readLine (ad 7 0) hx = tl2 (ad 7 0) hx1 := by
        have : m_X6_readLine (ad 7 0) hx = X6_readLine_b24 (ad 7 0) hx := by
          simp only [m_X6_readLine, aN, kA201, kA202, kA203, kA206, kA306, i1n0, i0n1, i0e0, i1e1, gI, gR, pI, pB, pR, xI, xL, yI, yL, vc, kd_sFi, fr_sFi, ln_sFi, ai_sFi, al_sFi, ar_sFi, cs_sFi, sz_sFi, sz_sAi, kd_sAi, fi_sAi, fr_sAi, ln_sAi, al_sAi, ar_sAi, cs_sAi, kd_wz, fi_wz, fr_wz, ln_wz, ai_wz, al_wz, ar_wz, Option.bind_some, if_true, if_false, Nat.reduceAdd, Nat.reduceMul, reduceIte, and_self, true_and, and_true, k7, f704, f705, zc]
        rw [this, b24_eq]
        simp only [aN, kA201, kA202, kA203, kA206, kA306, i1n0, i0n1, i0e0, i1e1, gI, gR, pI, pB, pR, xI, xL, yI, yL, vc, kd_sFi, fr_sFi, ln_sFi, ai_sFi, al_sFi, ar_sFi, cs_sFi, sz_sFi, sz_sAi, kd_sAi, fi_sAi, fr_sAi, ln_sAi, al_sAi, ar_sAi, cs_sAi, kd_wz, fi_wz, fr_wz, ln_wz, ai_wz, al_wz, ar_wz, Option.bind_some, if_true, if_false, Nat.reduceAdd, Nat.reduceMul, reduceIte, and_self, true_and, and_true, k7, a1]
      have hT1 := hT.fr a2
      have k71 := (ktok a2.1).2.2.2.2.2.1
      have f7041 : fi hx1 704 (ad 7 0) = K (A + 1) := (f7 a2.1 (by decide)).trans a4.2.1
      obtain ⟨rb1, rb2⟩ := r_b33 hM hTm h7 h8 (by omega) h12 h16
      obtain ⟨p1, p2, p3⟩ := r_at (q := q) hPm (A + 1)
      have hi1 : 320 ≤ 320 + Ls.length := by omega
      have hi2 : 320 + Ls.length < 336 := by omega
      -- a fault at the rate
      have rate : ∀ k : Nat, 1 ≤ k → k ≤ 5 → ((k = 1 ∧ ¬ (¬ K (A + 1) < 0 ∧ K (A + 1) < 10000)) ∨ (k = 4 ∧ ∃ x : Nat, K (A + 1) = nI x ∧ 999 < x ∧ x < 10000)) → (∀ h', m_X6_mark (ad 7 0) (nI k) hx1 = some h' → m_X6_takeRate (ad 7 0) hx1 = some (0, h')) → ∃ hx' hm', m_X6_readLine (ad 7 0) hx = some hx' ∧ m_X9_line am hm = some hm' ∧ FL ax ao ad n e pO fO hx hx' ∧ F9 am q hm hm' ∧ ((∃ A' r es, LR am ad n q K T (Ls ++ [(r, es)]) A' hx' hm' ∧ A < A') ∨ ∃ f, FLT ad n f hx' ∧ mf am hm' 8 = f) := by
        intro k k1 k5 hkk htr
        obtain ⟨hne, hnl⟩ := flt_ne (k := k) hTm (show A + 1 ≤ T by omega) k1 k5
        obtain ⟨hx2, b1, b2, b3, b4⟩ := x_mark a2.1 hT1 a4 (by omega) (nI k)
        obtain ⟨hx3, c1, c2, c3⟩ := tl3F b2.1 ⟨b3, hne, b4⟩ 0
        obtain ⟨s1, s2, s3⟩ := FM_s (am := am) (q := q) (h := sFi hm 1007 am (nI (A + 1))) (k := 8) (by decide) (nI k + 16 * P (A + 1))
        have hM2 : SMA q am (sFi (sFi hm 1007 am (nI (A + 1))) 1008 am (nI k + 16 * P (A + 1))) := hM
        obtain ⟨hm2, d1, d2, d3⟩ := r_b131F hM2 hi1 hi2 ((s3 17 (by decide)).trans (p3 _ hCm).1) (by omega) s2 hne 0
        refine ⟨hx3, hm2, ?_, ?_, (a2.tr b2).l.tr c2, (p1.l.tr s1.l).tr d2, Or.inr ⟨_, c3, d3⟩⟩
        · rw [hcl]
          simp only [tl2, aN, kA201, kA202, kA203, kA206, kA306, i1n0, i0n1, i0e0, i1e1, gI, gR, pI, pB, pR, xI, xL, yI, yL, vc, kd_sFi, fr_sFi, ln_sFi, ai_sFi, al_sFi, ar_sFi, cs_sFi, sz_sFi, sz_sAi, kd_sAi, fi_sAi, fr_sAi, ln_sAi, al_sAi, ar_sAi, cs_sAi, kd_wz, fi_wz, fr_wz, ln_wz, ai_wz, al_wz, ar_wz, Option.bind_some, if_true, if_false, Nat.reduceAdd, Nat.reduceMul, reduceIte, and_self, true_and, and_true, k71, htr hx2 b1, c1]
        · rw [hml, rb2 k hkk, d1]
      by_cases hnum : ¬ K (A + 1) < 0 ∧ K (A + 1) < 10000
      · obtain ⟨x, hx31, hxe⟩ := nI_of hnum.1
        have hx4 : x < 10000 := by have := hnum.2; rw [hxe] at this; exact (nI_ltI (b := 10000) hx31 (by omega)).mp this
        have z0 := hnum.1
        have z1 : ¬ (9999 : Int32) < K (A + 1) := by rw [hxe]; exact fun z => by have := (nI_ltI (a := 9999) (by omega) hx31).mp z; omega
        by_cases hx9 : x ≤ 999
        · have z2 : K (A + 1) ≤ 999 := by rw [hxe]; exact nI_le (b := 999) hx9 (by omega)
          have hAT1 : A + 1 < T := lt_end hT (by omega) (fun z => by rw [z] at hnum; exact absurd hnum.2 (by decide))
          have e703 : cf ad n hx1 703 0 + 1 = nI (A + 1 + 1) := by rw [a4.1]; exact nI_add (A + 1) 1
          obtain ⟨hx2, b1, b2, b3, b4⟩ := x_go a2.1 hT1 e703 (by omega)
          rw [a4.2.2] at b3
          have htr : m_X6_takeRate (ad 7 0) hx1 = some (K (A + 1), hx2) := by
            simp only [m_X6_takeRate, e_within, aN, kA201, kA202, kA203, kA206, kA306, i1n0, i0n1, i0e0, i1e1, gI, gR, pI, pB, pR, xI, xL, yI, yL, vc, kd_sFi, fr_sFi, ln_sFi, ai_sFi, al_sFi, ar_sFi, cs_sFi, sz_sFi, sz_sAi, kd_sAi, fi_sAi, fr_sAi, ln_sAi, al_sAi, ar_sAi, cs_sAi, kd_wz, fi_wz, fr_wz, ln_wz, ai_wz, al_wz, ar_wz, Option.bind_some, if_true, if_false, Nat.reduceAdd, Nat.reduceMul, reduceIte, and_self, true_and, and_true, k71, f7041, z0, z1, z2, b1]
          have hcl2 : m_X6_readLine (ad 7 0) hx = tl3 (ad 7 0) (nI x) hx2 := by
            rw [hcl]
            simp only [tl2, aN, kA201, kA202, kA203, kA206, kA306, i1n0, i0n1, i0e0, i1e1, gI, gR, pI, pB, pR, xI, xL, yI, yL, vc, kd_sFi, fr_sFi, ln_sFi, ai_sFi, al_sFi, ar_sFi, cs_sFi, sz_sFi, sz_sAi, kd_sAi, fi_sAi, fr_sAi, ln_sAi, al_sAi, ar_sAi, cs_sAi, kd_wz, fi_wz, fr_wz, ln_wz, ai_wz, al_wz, ar_wz, Option.bind_some, if_true, if_false, Nat.reduceAdd, Nat.reduceMul, reduceIte, and_self, true_and, and_true, k71, htr, hxe]
          have hT2 := hT1.fr b2
          have k72 := (ktok b2.1).2.2.2.2.2.1
          -- the reference: the rate is laid down
          obtain ⟨w1, w2, w3⟩ := F9_w (h := sFi hm 1007 am (nI (A + 1))) hM (k := 13) (j := 320 + Ls.length) (Or.inr (Or.inl ⟨rfl, hi1⟩)) (nI x)
          have pmA : PM am (A + 1) 0 d0 (sAi (sFi hm 1007 am (nI (A + 1))) (q 13) (320 + Ls.length) (nI x)) := p2
          obtain ⟨g1, g2, g3⟩ := r_at (q := q) pmA (A + 1 + 1)
          obtain ⟨hm2, hhm2⟩ : ∃ z, z = sFi (sAi (sFi hm 1007 am (nI (A + 1))) (q 13) (320 + Ls.length) (nI x)) 1007 am (nI (A + 1 + 1)) := ⟨_, rfl⟩
          rw [← hhm2] at g1 g2 g3
          have hM2 : SMA q am hm2 := by rw [hhm2]; exact hM
          have fr2 : F9 am q hm hm2 := (p1.l.tr w1).tr g1.l
          have hTm2 := hTm.frl fr2
          have hC2 : CM am q (flat Ls) hm2 := g3 _ ⟨(p3 _ hCm).1, fun j hj => by rw [w3 15 (by decide), w3 16 (by decide)]; exact (p3 _ hCm).2 j hj⟩
          have m13 : mv q hm2 13 = va_up (mv q hm 13) (320 + Ls.length) (nI x) := by rw [hhm2]; exact w2
          have mo2 : ∀ k, k ≠ 13 → mv q hm2 k = mv q hm k := fun k hk => by rw [hhm2]; exact w3 k hk
          have hb131 : ∀ h4, m_X9_takeWord am 1 hm2 = some h4 → m_X9_line am hm = rst am (nI (320 + Ls.length)) h4 := fun h4 ht => by
            rw [hml, rb1 x hxe hx9, b131_eq]
            have r13 : kd hm (q 13) = 201 := (hM.2.1 (13, 201, 336) (by decide)).2.1
            have l13 : ln hm (q 13) = 336 := (hM.2.1 (13, 201, 336) (by decide)).2.2
            have cl : (nI (320 + Ls.length)).toNatClampNeg = 320 + Ls.length := nI_cl (N := 336) hi2 (by omega)
            have ib : inB (nI (320 + Ls.length)) 336 = true := inB_nI hi2 (by omega)
            have e1 : nI (A + 1) + 1 = nI (A + 1 + 1) := nI_add (A + 1) 1
            rw [hhm2] at ht
            simp only [aN, kA201, kA202, kA203, kA206, kA306, i1n0, i0n1, i0e0, i1e1, gI, gR, pI, pB, pR, xI, xL, yI, yL, vc, kd_sFi, fr_sFi, ln_sFi, ai_sFi, al_sFi, ar_sFi, cs_sFi, sz_sFi, sz_sAi, kd_sAi, fi_sAi, fr_sAi, ln_sAi, al_sAi, ar_sAi, cs_sAi, kd_wz, fi_wz, fr_wz, ln_wz, ai_wz, al_wz, ar_wz, Option.bind_some, if_true, if_false, Nat.reduceAdd, Nat.reduceMul, reduceIte, and_self, true_and, and_true, r13, l13, cl, ib, nar_i32, hkm, fi_sFi, up2, e1, ht]
          obtain ⟨tw1, tw2⟩ := r_takeWord hM2 hTm2 g2 (show A + 1 + 1 ≤ T by omega)
          by_cases hw : K (A + 1 + 1) = 10021
          · obtain ⟨hx3, c1, c2, c3, c4, c5⟩ := (x_take b2.1 hT2 b3 (by omega) (k := 10021) (by decide)).1 hw
            have hcl3 : m_X6_readLine (ad 7 0) hx = tl4 (ad 7 0) (nI x) hx3 := by
              rw [hcl2]
              simp only [tl3, aN, kA201, kA202, kA203, kA206, kA306, i1n0, i0n1, i0e0, i1e1, gI, gR, pI, pB, pR, xI, xL, yI, yL, vc, kd_sFi, fr_sFi, ln_sFi, ai_sFi, al_sFi, ar_sFi, cs_sFi, sz_sFi, sz_sAi, kd_sAi, fi_sAi, fr_sAi, ln_sAi, al_sAi, ar_sAi, cs_sAi, kd_wz, fi_wz, fr_wz, ln_wz, ai_wz, al_wz, ar_wz, Option.bind_some, if_true, if_false, Nat.reduceAdd, Nat.reduceMul, reduceIte, and_self, true_and, and_true, k72, c1]
            obtain ⟨y1, y2, y3⟩ := r_at (q := q) g2 (A + 1 + 1 + 1)
            have hM3 : SMA q am (sFi hm2 1007 am (nI (A + 1 + 1 + 1))) := hM2
            obtain ⟨hm4, z1', z2', z3', z4', z5', z6', z7', z8', z9'⟩ := r_rst hM3 hi1 hi2 (y3 _ hC2).1
            have hM4 := SMA_same z2'.1 hM3
            have fr4 : F9 am q hm hm4 := (fr2.tr y1.l).tr z2'
            have hTm4 := hTm.frl fr4
            have pm4 : PM am (A + 1 + 1 + 1) 0 0 hm4 := ⟨(z3' 7 (by decide)).trans y2.1, (z3' 8 (by decide)).trans y2.2.1, z4'⟩
            have hC4 : CM am q (flat Ls) hm4 := ⟨(z3' 17 (by decide)).trans (y3 _ hC2).1, fun j hj => by rw [z9' 15 (by decide), z9' 16 (by decide)]; exact (y3 _ hC2).2 j hj⟩
            have k73 := (ktok c2.1).2.2.2.2.2.1
            have hT3 := hT2.fr c2
            have hpre : PRE ax ao am ad n e pO fO q K P T 0 (A + 1 + 1 + 1) (flat Ls) hx3 hm4 := ⟨⟨c2.1, hT3, c4, c5 _ (b4 _ (a5 _ hC))⟩, ⟨hM4, hTm4, pm4, hC4⟩, by omega, by omega, by omega⟩
            obtain ⟨hx4, o1, o2, o3⟩ := sim_all (ax := ax) (ao := ao) (am := am) (ad := ad) (n := n) (e := e) (pO := pO) (fO := fO) (q := q) (K := K) (P := P) (T := T) 5 0 rfl (A + 1 + 1 + 1) (flat Ls) hx3 hm4 hpre z6' z7' z8'
            have o1' : raD 6 (ad 7 0) 0 hx3 = some hx4 := o1
            have k74 := (ktok o2.1).2.2.2.2.2.1
            have hcl4 : m_X6_readLine (ad 7 0) hx = tl5 (ad 7 0) (nI x) hx4 := by
              rw [hcl3]
              simp only [tl4, aN, kA201, kA202, kA203, kA206, kA306, i1n0, i0n1, i0e0, i1e1, gI, gR, pI, pB, pR, xI, xL, yI, yL, vc, kd_sFi, fr_sFi, ln_sFi, ai_sFi, al_sFi, ar_sFi, cs_sFi, sz_sFi, sz_sAi, kd_sAi, fi_sAi, fr_sAi, ln_sAi, al_sAi, ar_sAi, cs_sAi, kd_wz, fi_wz, fr_wz, ln_wz, ai_wz, al_wz, ar_wz, Option.bind_some, if_true, if_false, Nat.reduceAdd, Nat.reduceMul, reduceIte, and_self, true_and, and_true, k73, o1']
            have hmr : m_X9_line am hm = X9_line_L168 am FU 1 hm4 := (hb131 _ (tw1 hw)).trans z1'
            have frx : FL ax ao ad n e pO fO hx hx4 := (((a2.tr b2).tr c2).tr o2).l
            have m12 : mv q hm4 12 20 = nI Ls.length := by rw [z9' 12 (by decide)]; show mv q hm2 12 20 = _; rw [mo2 12 (by decide)]; exact h12
            rcases o3 with ⟨hm5, A5, es, ⟨u1, u2⟩, ⟨u3, u4, u5⟩, ⟨u6, u7, u8⟩, u9, ⟨u10, u11, u12, u13, u14⟩, u15⟩ | ⟨hm5, f, c, u1, u2, u3, u4, u5, u6⟩
            · obtain ⟨F1, F2', i1, i2, i3⟩ := u15 FU (by unfold FU; omega)
              obtain ⟨F2', rfl⟩ := nF1 (x := 0) (N := F2') (by omega)
              have hM5 := SMA_same u5.1 hM4
              have hTm5 := hTm4.fr u5
              have hT4 := hT3.fr o2
              have hmr5 : m_X9_line am hm = X9_line_b202 am hm5 := hmr.trans (i3.trans (bea_end hM5 hTm5 u3 u7 u14 F1 F2'))
              have hlen : (flat Ls ++ es).length = (flat Ls).length + es.length := List.length_append
              have m125 : mv q hm5 12 20 = nI Ls.length := by rw [u5.2.2.1 12 (by decide)]; exact m12
              have hs20 : (20000 : Int32) ≤ 20000 + nI x := by rw [show (20000 : Int32) = nI 20000 from rfl, nI_add]; exact nI_le (by omega) (by omega)
              obtain ⟨hm6, v1, v2, v3, v4⟩ := r_b202 hM5 hTm5 u3 u4 (by omega) u7 m125 hs20
              by_cases hse : K A5 = 10024
              · obtain ⟨hx5, g1', g2', g3', g4', g5'⟩ := (x_take o2.1 hT4 u1 u7 (k := 10024) (by decide)).1 hse
                obtain ⟨hx6, j1, j2, j3, j4⟩ := x_write g2'.1 (g5' _ u2) (by omega) (20000 + nI x)
                have k75 := (ktok g2'.1).2.2.2.2.2.1
                have k76 := (ktok j2.1).2.2.2.2.2.1
                have c705 : cf ad n hx6 705 0 = nI Ls.length := by
                  rw [((((a2.tr b2).tr c2).tr o2).tr (g2'.tr j2)).2.2.1 705 (by decide)]; exact h705
                have f7056 : fi hx6 705 (ad 7 0) = nI Ls.length := (f7 j2.1 (by decide)).trans c705
                obtain ⟨l1, l2, l3⟩ := FL_705 j2.1 (nI (Ls.length + 1))
                obtain ⟨r1, r2, r3, r4, r5⟩ := v3 hse
                have en : nI Ls.length + 1 = nI (Ls.length + 1) := nI_add _ 1
                have hllen : (Ls ++ [(nI x, es)]).length = Ls.length + 1 := by rw [List.length_append]; rfl
                have hfl : flat (Ls ++ [(nI x, es)]) = flat Ls ++ es ++ [20000 + nI x] := by rw [flat_app, flat_one, List.append_assoc]
                have hfln : (flat (Ls ++ [(nI x, es)])).length = (flat Ls).length + es.length + 1 := by rw [hfl, List.length_append, hlen]; rfl
                refine ⟨sFi hx6 705 (ad 7 0) (nI (Ls.length + 1)), hm6, ?_, hmr5.trans v1, (frx.tr (g2'.tr j2).l).tr l1, (fr4.tr u5.l).tr v2, Or.inl ⟨A5 + 1, nI x, es, ⟨⟨⟨?_, ?_, ?_⟩, ⟨?_, ?_⟩, ?_⟩, ⟨r1.1, r1.2.1, ?_, ?_⟩, ⟨by omega, by omega, fun _ => by omega, by omega⟩, fun p hp => ?_, fun k hk' => ?_⟩, by omega⟩⟩
                · rw [hcl4]
                  simp only [tl5, aN, kA201, kA202, kA203, kA206, kA306, i1n0, i0n1, i0e0, i1e1, gI, gR, pI, pB, pR, xI, xL, yI, yL, vc, kd_sFi, fr_sFi, ln_sFi, ai_sFi, al_sFi, ar_sFi, cs_sFi, sz_sFi, sz_sAi, kd_sAi, fi_sAi, fr_sAi, ln_sAi, al_sAi, ar_sAi, cs_sAi, kd_wz, fi_wz, fr_wz, ln_wz, ai_wz, al_wz, ar_wz, Option.bind_some, if_true, if_false, Nat.reduceAdd, Nat.reduceMul, reduceIte, and_self, true_and, and_true, k74, g1', k75, j1, k76, f7056, en]
                · rw [l3 703 (by decide)]; exact (j3 _ _ _ g4').1
                · rw [l3 704 (by decide)]; exact (j3 _ _ _ g4').2.1
                · rw [l3 706 (by decide)]; exact (j3 _ _ _ g4').2.2
                · rw [l3 702 (by decide), hfl]; exact j4.1
                · rw [hfl]; exact j4.2
                · rw [l2, hllen]
                · rw [hfl]; exact r2
                · rw [r3, hllen]
                · rcases List.mem_append.mp hp with h | h
                  · exact hok p h
                  · have : p = (nI x, es) := by simpa using h
                    subst this
                    exact ⟨okS_E _ _ (u9 0 (by omega)), nI_pos' (by omega), nI_le (b := 999) hx9 (by omega)⟩
                · rw [r4, r5, u5.2.2.1 13 (by decide), u5.2.2.1 14 (by decide), z5', z9' 13 (by decide)]
                  have q13 : mv q (sFi hm2 1007 am (nI (A + 1 + 1 + 1))) 13 = va_up (mv q hm 13) (320 + Ls.length) (nI x) := m13
                  have q14 : mv q (sFi hm2 1007 am (nI (A + 1 + 1 + 1))) 14 = mv q hm 14 := mo2 14 (by decide)
                  rw [q13, q14]
                  rw [hllen] at hk'
                  by_cases hkl : k = Ls.length
                  · subst hkl
                    rw [va_up_same, va_up_same, gE_r, List.take_left']
                    · exact ⟨rfl, rfl⟩
                    · rfl
                  · have hkl' : k < Ls.length := by omega
                    rw [va_upN _ _ (by omega), va_upN _ _ (by omega), gE_l hkl', List.take_append_of_le_length (by omega)]
                    exact hln k hkl'
              · obtain ⟨hne, hnl⟩ := flt_ne (k := 1) hTm5 u7 (by omega) (by omega)
                have hne' : 1 + 16 * P A5 ≠ 0 := hne
                obtain ⟨hx5, g1', g2', g3', g4'⟩ := (x_take o2.1 hT4 u1 u7 (k := 10024) (by decide)).2 hse
                have hF5 : FLT ad n (1 + 16 * P A5) hx5 := ⟨g3', hne', g4'⟩
                obtain ⟨hx6, j1, j2, j3⟩ := tl6F g2'.1 hF5 (nI x)
                refine ⟨hx6, hm6, ?_, hmr5.trans v1, (frx.tr g2'.l).tr j2, (fr4.tr u5.l).tr v2, Or.inr ⟨_, j3, v4 hse⟩⟩
                rw [hcl4, ← j1]
                simp only [tl5, vc, k74, if_true, Nat.reduceAdd, g1', Option.bind_some]
            · have hM5 := SMA_same u3.1 hM4
              obtain ⟨hm6, v1, v2, v3⟩ := r_b202F hM5 u2 u1.2.1 u4 u5
              obtain ⟨hx5, j1, j2, j3⟩ := tl5F o2.1 u1 (nI x)
              exact ⟨hx5, hm6, hcl4.trans j1, hmr.trans ((u6 FU (by unfold FU; omega)).trans v1), frx.tr j2, (fr4.tr u3.l).tr v2, Or.inr ⟨f, j3, v3⟩⟩
          · obtain ⟨hne, hnl⟩ := flt_ne (k := 1) hTm (show A + 1 + 1 ≤ T by omega) (by omega) (by omega)
            have hne' : 1 + 16 * P (A + 1 + 1) ≠ 0 := hne
            obtain ⟨hx3, c1, c2, c3, c4⟩ := (x_take b2.1 hT2 b3 (by omega) (k := 10021) (by decide)).2 hw
            have hF3 : FLT ad n (1 + 16 * P (A + 1 + 1)) hx3 := ⟨c3, hne', c4⟩
            obtain ⟨hx4, j1, j2, j3⟩ := tl4F c2.1 hF3 (nI x)
            obtain ⟨y1, y2, y3⟩ := r_at (q := q) g2 (A + 1 + 1)
            obtain ⟨s1, s2, s3⟩ := FM_s (am := am) (q := q) (h := sFi hm2 1007 am (nI (A + 1 + 1))) (k := 8) (by decide) (1 + 16 * P (A + 1 + 1))
            have hM3 : SMA q am (sFi (sFi hm2 1007 am (nI (A + 1 + 1))) 1008 am (1 + 16 * P (A + 1 + 1))) := hM2
            obtain ⟨hm4, v1, v2, v3⟩ := r_rstF hM3 hi1 hi2 ((s3 17 (by decide)).trans (y3 _ hC2).1) (by omega) s2 hne'
            refine ⟨hx4, hm4, ?_, (hb131 _ (tw2 hw)).trans v1, ((a2.tr b2).tr c2).l.tr j2, ((fr2.tr y1.l).tr s1.l).tr v2, Or.inr ⟨_, j3, v3⟩⟩
            rw [hcl2]
            simp only [tl3, aN, kA201, kA202, kA203, kA206, kA306, i1n0, i0n1, i0e0, i1e1, gI, gR, pI, pB, pR, xI, xL, yI, yL, vc, kd_sFi, fr_sFi, ln_sFi, ai_sFi, al_sFi, ar_sFi, cs_sFi, sz_sFi, sz_sAi, kd_sAi, fi_sAi, fr_sAi, ln_sAi, al_sAi, ar_sAi, cs_sAi, kd_wz, fi_wz, fr_wz, ln_wz, ai_wz, al_wz, ar_wz, Option.bind_some, if_true, if_false, Nat.reduceAdd, Nat.reduceMul, reduceIte, and_self, true_and, and_true, k72, c1, j1]
        · refine rate 4 (by omega) (by omega) (Or.inr ⟨rfl, x, hxe, by omega, hx4⟩) (fun h' hm' => ?_)
          have z2 : ¬ K (A + 1) ≤ 999 := by rw [hxe]; exact nI_ge (a := 999) (by omega) hx31
          have hm'' : m_X6_mark (ad 7 0) 4 hx1 = some h' := hm'
          simp only [m_X6_takeRate, e_within, aN, kA201, kA202, kA203, kA206, kA306, i1n0, i0n1, i0e0, i1e1, gI, gR, pI, pB, pR, xI, xL, yI, yL, vc, kd_sFi, fr_sFi, ln_sFi, ai_sFi, al_sFi, ar_sFi, cs_sFi, sz_sFi, sz_sAi, kd_sAi, fi_sAi, fr_sAi, ln_sAi, al_sAi, ar_sAi, cs_sAi, kd_wz, fi_wz, fr_wz, ln_wz, ai_wz, al_wz, ar_wz, Option.bind_some, if_true, if_false, Nat.reduceAdd, Nat.reduceMul, reduceIte, and_self, true_and, and_true, k71, f7041, z0, z1, z2, hm'']
      · refine rate 1 (by omega) (by omega) (Or.inl ⟨rfl, hnum⟩) (fun h' hm' => ?_)
        have hm'' : m_X6_mark (ad 7 0) 1 hx1 = some h' := hm'
        by_cases z0 : K (A + 1) < 0
        · simp only [m_X6_takeRate, e_within, aN, kA201, kA202, kA203, kA206, kA306, i1n0, i0n1, i0e0, i1e1, gI, gR, pI, pB, pR, xI, xL, yI, yL, vc, kd_sFi, fr_sFi, ln_sFi, ai_sFi, al_sFi, ar_sFi, cs_sFi, sz_sFi, sz_sAi, kd_sAi, fi_sAi, fr_sAi, ln_sAi, al_sAi, ar_sAi, cs_sAi, kd_wz, fi_wz, fr_wz, ln_wz, ai_wz, al_wz, ar_wz, Option.bind_some, if_true, if_false, Nat.reduceAdd, Nat.reduceMul, reduceIte, and_self, true_and, and_true, k71, f7041, z0, hm'']
        · have z1 : (9999 : Int32) < K (A + 1) := by
            have h1 : (10000 : Int32) ≤ K (A + 1) := Int32.not_lt.mp fun z => hnum ⟨z0, z⟩
            exact Int32.lt_of_lt_of_le (by decide) h1
          simp only [m_X6_takeRate, e_within, aN, kA201, kA202, kA203, kA206, kA306, i1n0, i0n1, i0e0, i1e1, gI, gR, pI, pB, pR, xI, xL, yI, yL, vc, kd_sFi, fr_sFi, ln_sFi, ai_sFi, al_sFi, ar_sFi, cs_sFi, sz_sFi, sz_sAi, kd_sAi, fi_sAi, fr_sAi, ln_sAi, al_sAi, ar_sAi, cs_sAi, kd_wz, fi_wz, fr_wz, ln_wz, ai_wz, al_wz, ar_wz, Option.bind_some, if_true, if_false, Nat.reduceAdd, Nat.reduceMul, reduceIte, and_self, true_and, and_true, k71, f7041, z0, z1, hm'']
    · have h16' : Ls.length = 16 := by omega
      have zc : ¬ nI Ls.length < 16 := by rw [h16']; decide
      have zr : (nI Ls.length = 16) = True := eq_true (by rw [h16']; rfl)
      obtain ⟨hx1, b1, b2, b3, b4⟩ := x_mark hS hT hP hA 5
      have hw : m_X9_wrong am 5 hm = some (sFi hm 1008 am (5 + 16 * P A)) := r_wrong hM hTm hPm hA 5
      refine early 5 (by omega) (by omega) ⟨hx1, b2, b3, b4, Or.inl ?_⟩ ?_
      · simp only [m_X6_readLine, aN, kA201, kA202, kA203, kA206, kA306, i1n0, i0n1, i0e0, i1e1, gI, gR, pI, pB, pR, xI, xL, yI, yL, vc, kd_sFi, fr_sFi, ln_sFi, ai_sFi, al_sFi, ar_sFi, cs_sFi, sz_sFi, sz_sAi, kd_sAi, fi_sAi, fr_sAi, ln_sAi, al_sAi, ar_sAi, cs_sAi, kd_wz, fi_wz, fr_wz, ln_wz, ai_wz, al_wz, ar_wz, Option.bind_some, if_true, if_false, Nat.reduceAdd, Nat.reduceMul, reduceIte, and_self, true_and, and_true, k7, f704, f705, zc, b1]
      · simp only [m_X9_line, aN, kA201, kA202, kA203, kA206, kA306, i1n0, i0n1, i0e0, i1e1, gI, gR, pI, pB, pR, xI, xL, yI, yL, vc, kd_sFi, fr_sFi, ln_sFi, ai_sFi, al_sFi, ar_sFi, cs_sFi, sz_sFi, sz_sAi, kd_sAi, fi_sAi, fr_sAi, ln_sAi, al_sAi, ar_sAi, cs_sAi, kd_wz, fi_wz, fr_wz, ln_wz, ai_wz, al_wz, ar_wz, Option.bind_some, if_true, if_false, Nat.reduceAdd, Nat.reduceMul, reduceIte, and_self, true_and, and_true, hkm, sw, r12, k12, l12, b20, c20, v12, zr, hw]
        rfl
  · rw [if_neg hk] at sw
    obtain ⟨hx1, b1, b2, b3, b4⟩ := (x_take hS hT hP hA (k := 10020) (by decide)).2 hk
    have hw : m_X9_wrong am 1 hm = some (sFi hm 1008 am (1 + 16 * P A)) := r_wrong hM hTm hPm hA 1
    refine early 1 (by omega) (by omega) ⟨hx1, b2, b3, b4, Or.inr ?_⟩ ?_
    · have : m_X6_readLine (ad 7 0) hx = X6_readLine_b24 (ad 7 0) hx := by
        simp only [m_X6_readLine, aN, kA201, kA202, kA203, kA206, kA306, i1n0, i0n1, i0e0, i1e1, gI, gR, pI, pB, pR, xI, xL, yI, yL, vc, kd_sFi, fr_sFi, ln_sFi, ai_sFi, al_sFi, ar_sFi, cs_sFi, sz_sFi, sz_sAi, kd_sAi, fi_sAi, fr_sAi, ln_sAi, al_sAi, ar_sAi, cs_sAi, kd_wz, fi_wz, fr_wz, ln_wz, ai_wz, al_wz, ar_wz, Option.bind_some, if_true, if_false, Nat.reduceAdd, Nat.reduceMul, reduceIte, and_self, true_and, and_true, k7, f704, hk]
      rw [this, b24_eq]
      simp only [aN, kA201, kA202, kA203, kA206, kA306, i1n0, i0n1, i0e0, i1e1, gI, gR, pI, pB, pR, xI, xL, yI, yL, vc, kd_sFi, fr_sFi, ln_sFi, ai_sFi, al_sFi, ar_sFi, cs_sFi, sz_sFi, sz_sAi, kd_sAi, fi_sAi, fr_sAi, ln_sAi, al_sAi, ar_sAi, cs_sAi, kd_wz, fi_wz, fr_wz, ln_wz, ai_wz, al_wz, ar_wz, Option.bind_some, if_true, if_false, Nat.reduceAdd, Nat.reduceMul, reduceIte, and_self, true_and, and_true, k7, b1]
    · simp only [m_X9_line, aN, kA201, kA202, kA203, kA206, kA306, i1n0, i0n1, i0e0, i1e1, gI, gR, pI, pB, pR, xI, xL, yI, yL, vc, kd_sFi, fr_sFi, ln_sFi, ai_sFi, al_sFi, ar_sFi, cs_sFi, sz_sFi, sz_sAi, kd_sAi, fi_sAi, fr_sAi, ln_sAi, al_sAi, ar_sAi, cs_sAi, kd_wz, fi_wz, fr_wz, ln_wz, ai_wz, al_wz, ar_wz, Option.bind_some, if_true, if_false, Nat.reduceAdd, Nat.reduceMul, reduceIte, and_self, true_and, and_true, hkm, sw, hw]
      rfl
end LINESIM2
