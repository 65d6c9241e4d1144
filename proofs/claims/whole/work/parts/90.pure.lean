section TOK3
variable {ax ao am : Nat} {ad : Nat → Nat → Nat} {n e pO fO q tm : Nat → Nat} {tx : Nat → List (Int32 × List Int32)} {w : Nat} {pn : Nat → Nat} {nw : Nat → Nat → Nat} {fs : Nat → Nat} {ls : Nat → Option Nat} {rs rl pr : Nat → Nat} {tl : Nat} {hx hm : HS}
theorem x_addNumber {h : HS} (hS : SXA ax ao ad n e pO fO h) {sg : Nat → Nat} (hT : TpX ad n sg tl h) {st E T : Nat} (h802 : cf ad n h 802 0 = nI T) (hT6 : T < 601) (hst : st ≤ E) (hE : E ≤ tl) (hd : ∀ j, st ≤ j → j < E → isD (sg j)) (hx : E = tl ∨ ¬ isD (sg E)) : ∃ h', m_X7_addNumber (ad 8 0) (some (ad 6 0)) (nI st) h = some (nI E, h') ∧ FrT ax ao ad n e pO fO h h' ∧ cf ad n h' 802 0 = nI (T + 1) ∧ cv ad n h' 17 0 = va_up (cv ad n h 17 0) T (if E - st ≤ 4 then nI (nvl sg st (E - st)) else 10026) ∧ cv ad n h' 18 0 = va_up (cv ad n h 18 0) T (nI st) := by
  have ht6 := hT.1
  have hn := x_num hS hT hE hd hx (E - st) st (by omega) (Nat.le_refl _) FU (by unfold FU; omega)
  rw [Nat.sub_self] at hn
  have hn' : m_X7_addNumber (ad 8 0) (some (ad 6 0)) (nI st) h = X7_addNumber_b53 (ad 8 0) (nI st) (nI E) (nI (nvl sg st (min 4 (E - st)))) h := hn
  obtain ⟨n7, n8, n17, n18, n19, k7, k8, -⟩ := ktok hS
  have es : nI E - nI st = nI (E - st) := nI_sub hst
  by_cases h4 : E - st ≤ 4
  · rw [if_pos h4]
    have e4 : nI (E - st) ≤ 4 := nI_le (b := 4) h4 (by omega)
    obtain ⟨h', a1, a2, a3, a4, a5⟩ := e_addT hS h802 hT6 (nI (nvl sg st (E - st))) (nI st)
    refine ⟨h', ?_, a2, a3, a4, a5⟩
    rw [hn', show min 4 (E - st) = E - st by omega]
    simp only [X7_addNumber_b53, X7_addNumber_b69, aN, kA201, kA202, kA203, kA206, kA306, i1n0, i0n1, i0e0, i1e1, gI, gR, pI, pB, pR, xI, xL, yI, yL, vc, kd_sFi, fr_sFi, ln_sFi, ai_sFi, al_sFi, ar_sFi, cs_sFi, sz_sFi, sz_sAi, kd_sAi, fi_sAi, fr_sAi, ln_sAi, al_sAi, ar_sAi, cs_sAi, kd_wz, fi_wz, fr_wz, ln_wz, ai_wz, al_wz, ar_wz, Option.bind_some, if_true, if_false, Nat.reduceAdd, Nat.reduceMul, reduceIte, and_self, true_and, and_true, es, e4, k8, a1]
  · rw [if_neg h4]
    have e4 : ¬ nI (E - st) ≤ 4 := nI_ge (a := 4) (by omega) (by omega)
    obtain ⟨h', a1, a2, a3, a4, a5⟩ := e_addT hS h802 hT6 10026 (nI st)
    refine ⟨h', ?_, a2, a3, a4, a5⟩
    rw [hn']
    simp only [X7_addNumber_b53, X7_addNumber_b69, aN, kA201, kA202, kA203, kA206, kA306, i1n0, i0n1, i0e0, i1e1, gI, gR, pI, pB, pR, xI, xL, yI, yL, vc, kd_sFi, fr_sFi, ln_sFi, ai_sFi, al_sFi, ar_sFi, cs_sFi, sz_sFi, sz_sAi, kd_sAi, fi_sAi, fr_sAi, ln_sAi, al_sAi, ar_sAi, cs_sAi, kd_wz, fi_wz, fr_wz, ln_wz, ai_wz, al_wz, ar_wz, Option.bind_some, if_true, if_false, Nat.reduceAdd, Nat.reduceMul, reduceIte, and_self, true_and, and_true, es, e4, k8, a1]
theorem x_addWord {h : HS} (hS : SXA ax ao ad n e pO fO h) {sg : Nat → Nat} (hT : TpX ad n sg tl h) {st E T : Nat} (h802 : cf ad n h 802 0 = nI T) (hT6 : T < 601) (hst : st ≤ E) (hE : E ≤ tl) (hd : ∀ j, st ≤ j → j < E → isL (sg j)) (hx : E = tl ∨ ¬ isL (sg E)) : ∃ h' K, m_X7_addWord (ad 8 0) (some (ad 6 0)) (nI st) h = some (nI E, h') ∧ FrT ax ao ad n e pO fO h h' ∧ cf ad n h' 802 0 = nI (T + 1) ∧ cv ad n h' 17 0 = va_up (cv ad n h 17 0) T K ∧ cv ad n h' 18 0 = va_up (cv ad n h 18 0) T (nI st) ∧ TokR K (if E - st ≤ 9 then 1 else 4) (lN (hvl sg st (min 9 (E - st)))) := by
  have ht6 := hT.1
  have hn := x_word hS hT hE hd hx (E - st) st (by omega) (Nat.le_refl _) FU (by unfold FU; omega)
  have hn' : m_X7_addWord (ad 8 0) (some (ad 6 0)) (nI st) h = X7_addWord_b27 (ad 8 0) (some (ad 6 0)) (nI st) (nI E) h := hn
  obtain ⟨n7, n8, n17, n18, n19, k7, k8, -⟩ := ktok hS
  have es : nI E - nI st = nI (E - st) := nI_sub hst
  by_cases h4 : E - st ≤ 9
  · rw [if_pos h4, show min 9 (E - st) = E - st by omega]
    have e4 : nI (E - st) ≤ 9 := nI_le (b := 9) h4 (by omega)
    obtain ⟨K, b1, b2, b3⟩ := e_wordKind hS hT hst hE hd
    obtain ⟨h', a1, a2, a3, a4, a5⟩ := e_addT hS h802 hT6 K (nI st)
    refine ⟨h', K, ?_, a2, a3, a4, a5, TokR_word ?_ b2 b3⟩
    · rw [hn']
      simp only [X7_addWord_b27, X7_addWord_b48, aN, kA201, kA202, kA203, kA206, kA306, i1n0, i0n1, i0e0, i1e1, gI, gR, pI, pB, pR, xI, xL, yI, yL, vc, kd_sFi, fr_sFi, ln_sFi, ai_sFi, al_sFi, ar_sFi, cs_sFi, sz_sFi, sz_sAi, kd_sAi, fi_sAi, fr_sAi, ln_sAi, al_sAi, ar_sAi, cs_sAi, kd_wz, fi_wz, fr_wz, ln_wz, ai_wz, al_wz, ar_wz, Option.bind_some, if_true, if_false, Nat.reduceAdd, Nat.reduceMul, reduceIte, and_self, true_and, and_true, es, e4, b1, k8, a1]
    · have h1 := hvl_lt (sg := sg) (st := st) (E - st) (fun j hj => hd (st + j) (by omega) (by omega))
      have h2 : 37 ^ (E - st) ≤ 37 ^ 9 := Nat.pow_le_pow_right (by decide) h4
      have h3 : 37 ^ 9 < 2 ^ 63 := by decide
      omega
  · rw [if_neg h4]
    have e4 : ¬ nI (E - st) ≤ 9 := nI_ge (a := 9) (by omega) (by omega)
    obtain ⟨h', a1, a2, a3, a4, a5⟩ := e_addT hS h802 hT6 10026 (nI st)
    refine ⟨h', 10026, ?_, a2, a3, a4, a5, TokR_bad _⟩
    rw [hn']
    simp only [X7_addWord_b27, X7_addWord_b48, aN, kA201, kA202, kA203, kA206, kA306, i1n0, i0n1, i0e0, i1e1, gI, gR, pI, pB, pR, xI, xL, yI, yL, vc, kd_sFi, fr_sFi, ln_sFi, ai_sFi, al_sFi, ar_sFi, cs_sFi, sz_sFi, sz_sAi, kd_sAi, fi_sAi, fr_sAi, ln_sAi, al_sAi, ar_sAi, cs_sAi, kd_wz, fi_wz, fr_wz, ln_wz, ai_wz, al_wz, ar_wz, Option.bind_some, if_true, if_false, Nat.reduceAdd, Nat.reduceMul, reduceIte, and_self, true_and, and_true, es, e4, k8, a1]
def FrV (am : Nat) (q : Nat → Nat) (h h' : HS) : Prop := (kd h' = kd h ∧ fr h' = fr h ∧ ln h' = ln h ∧ ar h' = ar h ∧ sz h' = sz h ∧ cs h' = cs h) ∧ (∀ k, (k ≠ 7 ∧ k ≠ 8) → mf am h' k = mf am h k) ∧ (∀ k, (k ≠ 4 ∧ k ≠ 5) → mv q h' k = mv q h k) ∧ ∀ k, k ≠ 6 → ml q h' k = ml q h k
theorem FrU.v {a b c : HS} (h1 : FrU q a b) (h2 : FrV am q b c) : FrV am q a c := by
  obtain ⟨⟨a1, a2, a3, a4, a5, a6⟩, a7, a8, a9⟩ := h1
  obtain ⟨⟨b1, b2, b3, b4, b5, b6⟩, b7, b8, b9⟩ := h2
  exact ⟨⟨b1.trans a1, b2.trans a2, b3.trans a3, b4.trans a4, b5.trans a5, b6.trans a6⟩, fun k hk => (b7 k hk).trans (by unfold mf; rw [a7]), fun k hk => (b8 k hk).trans (a8 k hk), fun k hk => (b9 k hk).trans (a9 k hk)⟩
theorem scan_sim {sg : Nat → Nat} : ∀ (r p it T : Nat) (hx hm : HS), tl - p ≤ r → p ≤ tl → it ≤ p → T ≤ p → SXA ax ao ad n e pO fO hx → TpX ad n sg tl hx → SMA q am hm → Tp9 am q sg tl hm → cf ad n hx 802 0 = nI T → TKf (cv ad n hx 17 0) (cv ad n hx 18 0) (mv q hm 4) (mv q hm 5) (ml q hm 6) T → ∀ F, r < F → ∀ F', r < F' → ∃ T' hx' hm', X7_scan_L9 (ad 8 0) F (some (ad 6 0)) (nI p) (nI it) hx = some hx' ∧ X9_cutAll_L17 am F' (nI T) (nI p) hm = some hm' ∧ T' ≤ tl ∧ FrT ax ao ad n e pO fO hx hx' ∧ FrV am q hm hm' ∧ cf ad n hx' 802 0 = nI (T' + 1) ∧ TKf (cv ad n hx' 17 0) (cv ad n hx' 18 0) (mv q hm' 4) (mv q hm' 5) (ml q hm' 6) (T' + 1) ∧ cv ad n hx' 17 0 T' = 10025 ∧ mf am hm' 7 = 0 ∧ mf am hm' 8 = 0 := by
  intro r
  induction r with
  | zero =>
    intro p it T hx hm hr hp hit hT hS hTx hM hTm h802 hTK F hF F' hF'
    obtain ⟨F, rfl⟩ := nF1 hF
    obtain ⟨F', rfl⟩ := nF1 hF'
    have ht6 := hTx.1
    have hpl : p = tl := by omega
    subst hpl
    obtain ⟨n6, n16, k6, r600, k16, l16, -⟩ := ktape hS
    obtain ⟨n7, n8, n17, n18, n19, k7, k8, -⟩ := ktok hS
    have f601 : fi hx 601 (ad 6 0) = nI p := by rw [cf_at (g := 601) (n := n) (t := 6) (by decide) n6]; exact hTx.2.1
    obtain ⟨hx', a1, a2, a3, a4, a5⟩ := e_addT hS h802 (by omega) 10025 (nI p)
    have hkm : kd hm am = 11 := hM.1
    have f3 : fi hm 1003 am = nI p := hTm.2.1
    have r4 : fr hm 1004 am = some (q 4) := (hM.2.1 (4, 201, 602) (by decide)).1
    have k4 : kd hm (q 4) = 201 := (hM.2.1 (4, 201, 602) (by decide)).2.1
    have l4 : ln hm (q 4) = 602 := (hM.2.1 (4, 201, 602) (by decide)).2.2
    have r5 : fr hm 1005 am = some (q 5) := (hM.2.1 (5, 201, 602) (by decide)).1
    have k5 : kd hm (q 5) = 201 := (hM.2.1 (5, 201, 602) (by decide)).2.1
    have l5 : ln hm (q 5) = 602 := (hM.2.1 (5, 201, 602) (by decide)).2.2
    have clT : (nI T).toNatClampNeg = T := nI_cl (N := 602) (by omega) (by omega)
    have ibT : inB (nI T) 602 = true := inB_nI (by omega) (by omega)
    have e1 : nI p ≤ nI p := Int32.le_refl _
    have em : mv q (sFi (sFi (sAi (sAi hm (q 4) T 0) (q 5) T (nI p)) 1007 am 0) 1008 am 0) = up2 (up2 (mv q hm) 4 T 0) 5 T (nI p) := by
      show mv q (sAi (sAi hm (q 4) T 0) (q 5) T (nI p)) = _
      rw [mv_sAi hM.2.2, mv_sAi hM.2.2]
    have m4 : mv q (sFi (sFi (sAi (sAi hm (q 4) T 0) (q 5) T (nI p)) 1007 am 0) 1008 am 0) 4 = va_up (mv q hm 4) T 0 := by rw [em, up2_ne1' (by decide), up2_va]
    have m5 : mv q (sFi (sFi (sAi (sAi hm (q 4) T 0) (q 5) T (nI p)) 1007 am 0) 1008 am 0) 5 = va_up (mv q hm 5) T (nI p) := by rw [em, up2_va, up2_ne1' (by decide)]
    have ef : mf am (sFi (sFi (sAi (sAi hm (q 4) T 0) (q 5) T (nI p)) 1007 am 0) 1008 am 0) = va_up (va_up (mf am hm) 7 0) 8 0 := by
      rw [mf_sFi (k := 8) rfl, mf_sFi (k := 7) rfl]; rfl
    refine ⟨T, hx', sFi (sFi (sAi (sAi hm (q 4) T 0) (q 5) T (nI p)) 1007 am 0) 1008 am 0, ?_, ?_, hT, a2, ⟨⟨rfl, rfl, rfl, rfl, rfl, rfl⟩, fun k hk => ?_, fun k hk => ?_, fun _ _ => rfl⟩, a3, ?_, ?_, ?_, ?_⟩
    · conv => lhs; unfold X7_scan_L9
      by_cases hi : it = 600
      · have e2 : (600 : Int32) ≤ nI it := by rw [hi]; decide
        simp only [X7_scan_b100, aN, kA201, kA202, kA203, kA206, kA306, i1n0, i0n1, i0e0, i1e1, gI, gR, pI, pB, pR, xI, xL, yI, yL, vc, kd_sFi, fr_sFi, ln_sFi, ai_sFi, al_sFi, ar_sFi, cs_sFi, sz_sFi, sz_sAi, kd_sAi, fi_sAi, fr_sAi, ln_sAi, al_sAi, ar_sAi, cs_sAi, kd_wz, fi_wz, fr_wz, ln_wz, ai_wz, al_wz, ar_wz, Option.bind_some, if_true, if_false, Nat.reduceAdd, Nat.reduceMul, reduceIte, and_self, true_and, and_true, e2, k6, f601, k8, a1]
      · have e2 : ¬ (600 : Int32) ≤ nI it := nI_ge (b := 600) (by omega) (by omega)
        simp only [X7_scan_b100, aN, kA201, kA202, kA203, kA206, kA306, i1n0, i0n1, i0e0, i1e1, gI, gR, pI, pB, pR, xI, xL, yI, yL, vc, kd_sFi, fr_sFi, ln_sFi, ai_sFi, al_sFi, ar_sFi, cs_sFi, sz_sFi, sz_sAi, kd_sAi, fi_sAi, fr_sAi, ln_sAi, al_sAi, ar_sAi, cs_sAi, kd_wz, fi_wz, fr_wz, ln_wz, ai_wz, al_wz, ar_wz, Option.bind_some, if_true, if_false, Nat.reduceAdd, Nat.reduceMul, reduceIte, and_self, true_and, and_true, e2, k6, f601, e1, k8, a1]
    · conv => lhs; unfold X9_cutAll_L17
      simp only [aN, kA201, kA202, kA203, kA206, kA306, i1n0, i0n1, i0e0, i1e1, gI, gR, pI, pB, pR, xI, xL, yI, yL, vc, kd_sFi, fr_sFi, ln_sFi, ai_sFi, al_sFi, ar_sFi, cs_sFi, sz_sFi, sz_sAi, kd_sAi, fi_sAi, fr_sAi, ln_sAi, al_sAi, ar_sAi, cs_sAi, kd_wz, fi_wz, fr_wz, ln_wz, ai_wz, al_wz, ar_wz, Option.bind_some, if_true, if_false, Nat.reduceAdd, Nat.reduceMul, reduceIte, and_self, true_and, and_true, hkm, f3, e1, r4, k4, l4, r5, k5, l5, clT, ibT, nar_i32]
    · rw [ef, va_upN _ _ hk.2, va_upN _ _ hk.1]
    · rw [em, up2_ne1' hk.2, up2_ne1' hk.1]
    · have hm6 : ml q (sFi (sFi (sAi (sAi hm (q 4) T 0) (q 5) T (nI p)) 1007 am 0) 1008 am 0) 6 = va_up (ml q hm 6) T (ml q hm 6 T) := by
        funext j
        by_cases hj : j = T
        · subst hj; rw [va_up_same]; rfl
        · rw [va_upN _ _ hj]; rfl
      rw [a4, a5, m4, m5, hm6]
      exact hTK.add (TokR_end _) ht6
    · rw [a4, va_up_same]
    · rw [ef, va_upN _ _ (by decide), va_up_same]
    · rw [ef, va_up_same]
  | succ r ih =>
    intro p it T hx hm hr hp hit hT hS hTx hM hTm h802 hTK F hF F' hF'
    by_cases hpl : p = tl
    · exact ih p it T hx hm (by omega) hp hit hT hS hTx hM hTm h802 hTK F (by omega) F' (by omega)
    obtain ⟨F, rfl⟩ := nF1 (x := r + 1) hF
    obtain ⟨F', rfl⟩ := nF1 (x := r + 1) hF'
    have ht6 := hTx.1
    have hplt : p < tl := by omega
    obtain ⟨n6, n16, k6, r600, k16, l16, -⟩ := ktape hS
    obtain ⟨n7, n8, n17, n18, n19, k7, k8, -⟩ := ktok hS
    have f601 : fi hx 601 (ad 6 0) = nI tl := by rw [cf_at (g := 601) (n := n) (t := 6) (by decide) n6]; exact hTx.2.1
    have hs := e_signAt hS hTx hplt
    have h126 := (hTx.2.2 p hplt).2
    have e1 : ¬ nI tl ≤ nI p := nI_ge hplt (by omega)
    have e2 : ¬ (600 : Int32) ≤ nI it := nI_ge (b := 600) (by omega) (by omega)
    have e7 : nI p + 1 = nI (p + 1) := nI_add p 1
    have e8 : nI it + 1 = nI (it + 1) := nI_add it 1
    have eL := e_isL (x := sg p) (by omega) hx
    have eD := e_isD (x := sg p) (by omega) hx
    by_cases hb : sg p = 10 ∨ sg p = 32
    · obtain ⟨T', hx', hm', o1, o2, o3⟩ := ih (p + 1) (it + 1) T hx hm (by omega) (by omega) (by omega) (by omega) hS hTx hM hTm h802 hTK F (by omega) F' (by omega)
      rw [if_neg (by omega)] at eL eD
      have hkm : kd hm am = 11 := hM.1
      have f3 : fi hm 1003 am = nI tl := hTm.2.1
      have r1 : fr hm 1001 am = some (q 1) := (hM.2.1 (1, 201, 600) (by decide)).1
      have k1 : kd hm (q 1) = 201 := (hM.2.1 (1, 201, 600) (by decide)).2.1
      have l1 : ln hm (q 1) = 600 := (hM.2.1 (1, 201, 600) (by decide)).2.2
      have v1 : ai hm (q 1) p = nI (sg p) := (hTm.2.2 p hplt).1
      have cl : (nI p).toNatClampNeg = p := nI_cl (N := 600) (by omega) (by omega)
      have ib : inB (nI p) 600 = true := inB_nI (by omega) (by omega)
      refine ⟨T', hx', hm', ?_, ?_, o3⟩
      · rw [← o1]
        conv => lhs; unfold X7_scan_L9
        rcases hb with hb | hb
        · have z : (nI (sg p) = 10) = True := eq_true (by rw [hb]; rfl)
          simp only [X7_scan_b91, X7_scan_b94, aN, kA201, kA202, kA203, kA206, kA306, i1n0, i0n1, i0e0, i1e1, gI, gR, pI, pB, pR, xI, xL, yI, yL, vc, kd_sFi, fr_sFi, ln_sFi, ai_sFi, al_sFi, ar_sFi, cs_sFi, sz_sFi, sz_sAi, kd_sAi, fi_sAi, fr_sAi, ln_sAi, al_sAi, ar_sAi, cs_sAi, kd_wz, fi_wz, fr_wz, ln_wz, ai_wz, al_wz, ar_wz, Option.bind_some, if_true, if_false, Nat.reduceAdd, Nat.reduceMul, reduceIte, and_self, true_and, and_true, e1, e2, k6, f601, hs, eD, eL, z, e7, e8]
        · have z1 : (nI (sg p) = 10) = False := eq_false (by rw [hb]; decide)
          have z : (nI (sg p) = 32) = True := eq_true (by rw [hb]; rfl)
          simp only [X7_scan_b91, X7_scan_b94, aN, kA201, kA202, kA203, kA206, kA306, i1n0, i0n1, i0e0, i1e1, gI, gR, pI, pB, pR, xI, xL, yI, yL, vc, kd_sFi, fr_sFi, ln_sFi, ai_sFi, al_sFi, ar_sFi, cs_sFi, sz_sFi, sz_sAi, kd_sAi, fi_sAi, fr_sAi, ln_sAi, al_sAi, ar_sAi, cs_sAi, kd_wz, fi_wz, fr_wz, ln_wz, ai_wz, al_wz, ar_wz, Option.bind_some, if_true, if_false, Nat.reduceAdd, Nat.reduceMul, reduceIte, and_self, true_and, and_true, e1, e2, k6, f601, hs, eD, eL, z1, z, e7, e8]
      · rw [← o2]
        conv => lhs; unfold X9_cutAll_L17
        rcases hb with hb | hb
        · have z : (nI (sg p) = 10) = True := eq_true (by rw [hb]; rfl)
          simp only [X9_cutAll_b44, aN, kA201, kA202, kA203, kA206, kA306, i1n0, i0n1, i0e0, i1e1, gI, gR, pI, pB, pR, xI, xL, yI, yL, vc, kd_sFi, fr_sFi, ln_sFi, ai_sFi, al_sFi, ar_sFi, cs_sFi, sz_sFi, sz_sAi, kd_sAi, fi_sAi, fr_sAi, ln_sAi, al_sAi, ar_sAi, cs_sAi, kd_wz, fi_wz, fr_wz, ln_wz, ai_wz, al_wz, ar_wz, Option.bind_some, if_true, if_false, Nat.reduceAdd, Nat.reduceMul, reduceIte, and_self, true_and, and_true, hkm, f3, e1, r1, k1, l1, cl, ib, v1, z, e7]
        · have z1 : (nI (sg p) = 10) = False := eq_false (by rw [hb]; decide)
          have z : (nI (sg p) = 32) = True := eq_true (by rw [hb]; rfl)
          simp only [X9_cutAll_b44, aN, kA201, kA202, kA203, kA206, kA306, i1n0, i0n1, i0e0, i1e1, gI, gR, pI, pB, pR, xI, xL, yI, yL, vc, kd_sFi, fr_sFi, ln_sFi, ai_sFi, al_sFi, ar_sFi, cs_sFi, sz_sFi, sz_sAi, kd_sAi, fi_sAi, fr_sAi, ln_sAi, al_sAi, ar_sAi, cs_sAi, kd_wz, fi_wz, fr_wz, ln_wz, ai_wz, al_wz, ar_wz, Option.bind_some, if_true, if_false, Nat.reduceAdd, Nat.reduceMul, reduceIte, and_self, true_and, and_true, hkm, f3, e1, r1, k1, l1, cl, ib, v1, z1, z, e7]
    · have h10 : sg p ≠ 10 := fun z => hb (Or.inl z)
      have h32 : sg p ≠ 32 := fun z => hb (Or.inr z)
      obtain ⟨w1, w2, w3⟩ := w_tok hM hTm (F := F') hplt (show T < 602 by omega) h10 h32
      have fin : ∀ (E : Nat) (K s : Int32) (v : Int64) (hx1 : HS), p < E → E ≤ tl → X7_scan_L9 (ad 8 0) (F + 1) (some (ad 6 0)) (nI p) (nI it) hx = X7_scan_L9 (ad 8 0) F (some (ad 6 0)) (nI E) (nI (it + 1)) hx1 → FrT ax ao ad n e pO fO hx hx1 → cf ad n hx1 802 0 = nI (T + 1) → cv ad n hx1 17 0 = va_up (cv ad n hx 17 0) T K → cv ad n hx1 18 0 = va_up (cv ad n hx 18 0) T (nI p) → TokR K s v → X9_cutAll_L17 am (F' + 1) (nI T) (nI p) hm = X9_cutAll_L17 am F' (nI (T + 1)) (nI E) (hT9 q hm T (nI p) s v) → ∃ T' hx' hm', X7_scan_L9 (ad 8 0) (F + 1) (some (ad 6 0)) (nI p) (nI it) hx = some hx' ∧ X9_cutAll_L17 am (F' + 1) (nI T) (nI p) hm = some hm' ∧ T' ≤ tl ∧ FrT ax ao ad n e pO fO hx hx' ∧ FrV am q hm hm' ∧ cf ad n hx' 802 0 = nI (T' + 1) ∧ TKf (cv ad n hx' 17 0) (cv ad n hx' 18 0) (mv q hm' 4) (mv q hm' 5) (ml q hm' 6) (T' + 1) ∧ cv ad n hx' 17 0 T' = 10025 ∧ mf am hm' 7 = 0 ∧ mf am hm' 8 = 0 := by
        intro E K s v hx1 hpE hEt a1 a2 a3 a4 a5 a6 a7
        obtain ⟨u1, u2, u3, u4⟩ := hT9_fr hM T (nI p) s v
        obtain ⟨T', hx', hm', o1, o2, o3, o4, o5, o6⟩ := ih E (it + 1) (T + 1) hx1 (hT9 q hm T (nI p) s v) (by omega) hEt (by omega) (by omega) a2.1 (hTx.fr a2) (u1.sma hM) (hTm.fr u1) a3 (by rw [a4, a5, u2, u3, u4]; exact hTK.add a6 (by omega)) F (by omega) F' (by omega)
        exact ⟨T', hx', hm', a1.trans o1, a7.trans o2, o3, a2.tr o4, u1.v o5, o6⟩
      by_cases hl : isL (sg p)
      · obtain ⟨E, r1, r2, r3, r4⟩ := run_end (fun j => isL (sg j)) (tl - p) p tl (by omega)
        have hpE : p < E := by
          by_cases hq : E = p
          · subst hq; rcases r4 with z | z; omega; exact absurd hl z
          · omega
        rw [if_pos hl] at eL
        have hnd : ¬ (48 ≤ sg p ∧ sg p ≤ 57) := fun z => by have := hl.1; omega
        rw [if_neg hnd] at eD
        obtain ⟨hx1, K, b1, b2, b3, b4, b5, b6⟩ := x_addWord hS hTx h802 (by omega) (Nat.le_of_lt hpE) r2 r3 r4
        refine fin E K _ _ hx1 hpE r2 ?_ b2 b3 b4 b5 b6 (w1 E hl hpE r2 r3 r4)
        conv => lhs; unfold X7_scan_L9
        simp only [X7_scan_b94, aN, kA201, kA202, kA203, kA206, kA306, i1n0, i0n1, i0e0, i1e1, gI, gR, pI, pB, pR, xI, xL, yI, yL, vc, kd_sFi, fr_sFi, ln_sFi, ai_sFi, al_sFi, ar_sFi, cs_sFi, sz_sFi, sz_sAi, kd_sAi, fi_sAi, fr_sAi, ln_sAi, al_sAi, ar_sAi, cs_sAi, kd_wz, fi_wz, fr_wz, ln_wz, ai_wz, al_wz, ar_wz, Option.bind_some, if_true, if_false, Nat.reduceAdd, Nat.reduceMul, reduceIte, and_self, true_and, and_true, e1, e2, k6, f601, hs, eD, eL, k8, b1, e8]
      · rw [if_neg hl] at eL
        by_cases hd : isD (sg p)
        · obtain ⟨E, r1, r2, r3, r4⟩ := run_end (fun j => isD (sg j)) (tl - p) p tl (by omega)
          have hpE : p < E := by
            by_cases hq : E = p
            · subst hq; rcases r4 with z | z; omega; exact absurd hd z
            · omega
          rw [if_pos hd] at eD
          obtain ⟨hx1, b1, b2, b3, b4, b5⟩ := x_addNumber hS hTx h802 (by omega) (Nat.le_of_lt hpE) r2 r3 r4
          refine fin E _ _ _ hx1 hpE r2 ?_ b2 b3 b4 b5 ?_ (w2 E hd hpE r2 r3 r4)
          · conv => lhs; unfold X7_scan_L9
            simp only [X7_scan_b94, aN, kA201, kA202, kA203, kA206, kA306, i1n0, i0n1, i0e0, i1e1, gI, gR, pI, pB, pR, xI, xL, yI, yL, vc, kd_sFi, fr_sFi, ln_sFi, ai_sFi, al_sFi, ar_sFi, cs_sFi, sz_sFi, sz_sAi, kd_sAi, fi_sAi, fr_sAi, ln_sAi, al_sAi, ar_sAi, cs_sAi, kd_wz, fi_wz, fr_wz, ln_wz, ai_wz, al_wz, ar_wz, Option.bind_some, if_true, if_false, Nat.reduceAdd, Nat.reduceMul, reduceIte, and_self, true_and, and_true, e1, e2, k6, f601, hs, eD, k8, b1, e8]
          · by_cases h4 : E - p ≤ 4
            · rw [if_pos h4, if_pos h4, show min 4 (E - p) = E - p by omega]
              refine TokR_num ?_
              have h1 := nvl_lt (sg := sg) (st := p) (E - p) (fun j hj => r3 (p + j) (by omega) (by omega))
              have h2 : 10 ^ (E - p) ≤ 10 ^ 4 := Nat.pow_le_pow_right (by decide) h4
              omega
            · rw [if_neg h4, if_neg h4]; exact TokR_bad _
        · rw [if_neg hd] at eD
          obtain ⟨hx1, b1, b2, b3, b4, b5⟩ := e_addT hS h802 (by omega) (skG (nI (sg p))) (nI p)
          refine fin (p + 1) _ _ _ hx1 (by omega) (by omega) ?_ b2 b3 b4 b5 (TokR_sign _) (w3 hl hd)
          have z1 : (nI (sg p) = 10) = False := eq_false fun z => h10 ((nI_eq (b := 10) (by omega) (by omega)).mp z)
          have z2 : (nI (sg p) = 32) = False := eq_false fun z => h32 ((nI_eq (b := 32) (by omega) (by omega)).mp z)
          conv => lhs; unfold X7_scan_L9
          simp only [X7_scan_b91, X7_scan_b94, aN, kA201, kA202, kA203, kA206, kA306, i1n0, i0n1, i0e0, i1e1, gI, gR, pI, pB, pR, xI, xL, yI, yL, vc, kd_sFi, fr_sFi, ln_sFi, ai_sFi, al_sFi, ar_sFi, cs_sFi, sz_sFi, sz_sAi, kd_sAi, fi_sAi, fr_sAi, ln_sAi, al_sAi, ar_sAi, cs_sAi, kd_wz, fi_wz, fr_wz, ln_wz, ai_wz, al_wz, ar_wz, Option.bind_some, if_true, if_false, Nat.reduceAdd, Nat.reduceMul, reduceIte, and_self, true_and, and_true, e1, e2, k6, f601, hs, eD, eL, z1, z2, e_signKind, k8, b1, e7, e8]
end TOK3
