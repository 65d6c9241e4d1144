/-! the class's reader -/
section RDX
variable {ax ao am : Nat} {ad : Nat → Nat → Nat} {n e pO fO q tm : Nat → Nat} {tx : Nat → List (Int32 × List Int32)} {w : Nat} {pn : Nat → Nat} {nw : Nat → Nat → Nat} {fs : Nat → Nat} {ls : Nat → Option Nat} {rs rl pr : Nat → Nat} {tl : Nat} {hx hm : HS}
def TX (ad : Nat → Nat → Nat) (n : Nat → Nat) (K P : Nat → Int32) (T : Nat) (h : HS) : Prop := T ≤ 600 ∧ cf ad n h 802 0 = nI (T + 1) ∧ (∀ i, i ≤ T → cv ad n h 17 0 i = K i ∧ cv ad n h 18 0 i = P i) ∧ K T = 10025
def FE (ax ao : Nat) (ad : Nat → Nat → Nat) (n e pO fO : Nat → Nat) (h h' : HS) : Prop := SXA ax ao ad n e pO fO h' ∧ SameS h h' ∧ (∀ g, (g ≠ 702 ∧ g ≠ 703 ∧ g ≠ 704 ∧ g ≠ 706) → cf ad n h' g = cf ad n h g) ∧ ∀ t, t ≠ 19 → cv ad n h' t = cv ad n h t
theorem FE.rf {h : HS} (hS : SXA ax ao ad n e pO fO h) : FE ax ao ad n e pO fO h h := ⟨hS, SameS.rf h, fun _ _ => rfl, fun _ _ => rfl⟩
theorem FE.tr {a b c : HS} (h1 : FE ax ao ad n e pO fO a b) (h2 : FE ax ao ad n e pO fO b c) : FE ax ao ad n e pO fO a c := ⟨h2.1, h1.2.1.tr h2.2.1, fun g hg => (h2.2.2.1 g hg).trans (h1.2.2.1 g hg), fun t ht => (h2.2.2.2 t ht).trans (h1.2.2.2 t ht)⟩
theorem TX.fr {h h' : HS} {K P : Nat → Int32} {T : Nat} (hT : TX ad n K P T h) (hf : FE ax ao ad n e pO fO h h') : TX ad n K P T h' := ⟨hT.1, by rw [hf.2.2.1 802 (by decide)]; exact hT.2.1, by rw [hf.2.2.2 17 (by decide), hf.2.2.2 18 (by decide)]; exact hT.2.2.1, hT.2.2.2⟩
def PX (ad : Nat → Nat → Nat) (n : Nat → Nat) (A : Nat) (tk f : Int32) (h : HS) : Prop := cf ad n h 703 0 = nI A ∧ cf ad n h 704 0 = tk ∧ cf ad n h 706 0 = f
def CX (ad : Nat → Nat → Nat) (n : Nat → Nat) (C : List Int32) (h : HS) : Prop := cf ad n h 702 0 = nI C.length ∧ ∀ j, j < C.length → cv ad n h 19 0 j = C.getD j 0
def FLT (ad : Nat → Nat → Nat) (n : Nat → Nat) (f : Int32) (h : HS) : Prop := cf ad n h 706 0 = f ∧ f ≠ 0 ∧ cf ad n h 704 0 = 10026
theorem f7 {h : HS} (hS : SXA ax ao ad n e pO fO h) {g : Nat} (hg : g / 100 = 7) : fi h g (ad 7 0) = cf ad n h g 0 := cf_at (n := n) (t := 7) hg (ktok hS).1
theorem FE_s7 {h : HS} (hS : SXA ax ao ad n e pO fO h) {g : Nat} (hg : g = 702 ∨ g = 703 ∨ g = 704 ∨ g = 706) (x : Int32) : FE ax ao ad n e pO fO h (sFi h g (ad 7 0) x) ∧ cf ad n (sFi h g (ad 7 0) x) g 0 = x ∧ (∀ g', g' ≠ g → cf ad n (sFi h g (ad 7 0) x) g' = cf ad n h g') ∧ cv ad n (sFi h g (ad 7 0) x) = cv ad n h := by
  have hg7 : g / 100 = 7 := by omega
  have e1 : cf ad n (sFi h g (ad 7 0) x) = up2 (cf ad n h) g 0 x := cf_sFi hS.2.1 (t := 7) hg7 (ktok hS).1
  refine ⟨⟨SXA_sFi (by omega) (by omega) hS, ⟨rfl, rfl, rfl, rfl, rfl, rfl, rfl⟩, fun g' hg' => ?_, fun _ _ => rfl⟩, ?_, fun g' hg' => ?_, rfl⟩
  · rw [e1, up2_ne1' (by omega)]
  · rw [e1, up2_same]
  · rw [e1, up2_ne1' hg']
theorem x_go {h : HS} (hS : SXA ax ao ad n e pO fO h) {K P : Nat → Int32} {T B : Nat} (hT : TX ad n K P T h) (hA : cf ad n h 703 0 + 1 = nI B) (hB : B ≤ T) : ∃ h', m_X6_goOn (ad 7 0) h = some h' ∧ FE ax ao ad n e pO fO h h' ∧ PX ad n B (K B) (cf ad n h 706 0) h' ∧ (∀ C, CX ad n C h → CX ad n C h') := by
  obtain ⟨n7, n8, n17, n18, n19, k7, k8, r700, r701, r800, r801, k17, l17, k18, l18, k19, l19, -⟩ := ktok hS
  obtain ⟨t1, t2, t3, t4⟩ := hT
  have f703 : fi h 703 (ad 7 0) = cf ad n h 703 0 := f7 hS (by decide)
  have f802 : fi h 802 (ad 8 0) = nI (T + 1) := by rw [cf_at (g := 802) (n := n) (t := 8) (by decide) n8]; exact t2
  have e0 : ¬ nI B < 0 := nI_pos (by omega)
  have e1 : ¬ nI (T + 1) ≤ nI B := nI_ge (by omega) (by omega)
  have e2 : ¬ nI 601 ≤ nI B := nI_ge (by omega) (by omega)
  have cl : (nI B).toNatClampNeg = B := nI_cl (N := 601) (by omega) (by omega)
  have ib : inB (nI B) 601 = true := inB_nI (by omega) (by omega)
  have v17 : ai h (ad 17 0) B = K B := by rw [cv_at (n := n) n17]; exact (t3 B hB).1
  have n1 : ((802 : Nat) = 703) = False := eq_false (by decide)
  obtain ⟨a1, a2, a3, a4⟩ := FE_s7 hS (g := 703) (by decide) (nI B)
  obtain ⟨b1, b2, b3, b4⟩ := FE_s7 a1.1 (g := 704) (by decide) (K B)
  refine ⟨sFi (sFi h 703 (ad 7 0) (nI B)) 704 (ad 7 0) (K B), ?_, a1.tr b1, ⟨?_, b2, ?_⟩, fun C hC => ⟨?_, hC.2⟩⟩
  · simp only [m_X6_goOn, X6_goOn_b51, X6_goOn_b75, aN, kA201, kA202, kA203, kA206, kA306, i1n0, i0n1, i0e0, i1e1, gI, gR, pI, pB, pR, xI, xL, yI, yL, vc, kd_sFi, fr_sFi, ln_sFi, ai_sFi, al_sFi, ar_sFi, cs_sFi, sz_sFi, sz_sAi, kd_sAi, fi_sAi, fr_sAi, ln_sAi, al_sAi, ar_sAi, cs_sAi, kd_wz, fi_wz, fr_wz, ln_wz, ai_wz, al_wz, ar_wz, Option.bind_some, if_true, if_false, Nat.reduceAdd, Nat.reduceMul, reduceIte, and_self, true_and, and_true, k7, k8, f703, hA, fi_sFi, up2, n1, false_and, r700, r800, k17, l17, f802, e0, e1, e2, cl, ib, v17]
  · rw [b3 703 (by decide)]; exact a2
  · rw [b3 706 (by decide), a3 706 (by decide)]
  · rw [b3 702 (by decide), a3 702 (by decide)]; exact hC.1
theorem x_mark {h : HS} (hS : SXA ax ao ad n e pO fO h) {K P : Nat → Int32} {T A : Nat} {tk : Int32} (hT : TX ad n K P T h) (hP : PX ad n A tk 0 h) (hA : A ≤ T) (k : Int32) : ∃ h', m_X6_mark (ad 7 0) k h = some h' ∧ FE ax ao ad n e pO fO h h' ∧ cf ad n h' 706 0 = k + 16 * P A ∧ cf ad n h' 704 0 = 10026 := by
  obtain ⟨n7, n8, n17, n18, n19, k7, k8, r700, r701, r800, r801, k17, l17, k18, l18, k19, l19, -⟩ := ktok hS
  obtain ⟨t1, t2, t3, t4⟩ := hT
  have f703 : fi h 703 (ad 7 0) = nI A := (f7 hS (by decide)).trans hP.1
  have f706 : fi h 706 (ad 7 0) = 0 := (f7 hS (by decide)).trans hP.2.2
  have f802 : fi h 802 (ad 8 0) = nI (T + 1) := by rw [cf_at (g := 802) (n := n) (t := 8) (by decide) n8]; exact t2
  have e0 : ¬ nI A < 0 := nI_pos (by omega)
  have e1 : ¬ nI (T + 1) ≤ nI A := nI_ge (by omega) (by omega)
  have e2 : ¬ nI 601 ≤ nI A := nI_ge (by omega) (by omega)
  have cl : (nI A).toNatClampNeg = A := nI_cl (N := 601) (by omega) (by omega)
  have ib : inB (nI A) 601 = true := inB_nI (by omega) (by omega)
  have v18 : ai h (ad 18 0) A = P A := by rw [cv_at (n := n) n18]; exact (t3 A hA).2
  obtain ⟨a1, a2, a3, a4⟩ := FE_s7 hS (g := 706) (by decide) (k + 16 * P A)
  obtain ⟨b1, b2, b3, b4⟩ := FE_s7 a1.1 (g := 704) (by decide) 10026
  refine ⟨sFi (sFi h 706 (ad 7 0) (k + 16 * P A)) 704 (ad 7 0) 10026, ?_, a1.tr b1, ?_, b2⟩
  · simp only [m_X6_mark, X6_mark_b48, X6_mark_b73, X6_mark_b78, aN, kA201, kA202, kA203, kA206, kA306, i1n0, i0n1, i0e0, i1e1, gI, gR, pI, pB, pR, xI, xL, yI, yL, vc, kd_sFi, fr_sFi, ln_sFi, ai_sFi, al_sFi, ar_sFi, cs_sFi, sz_sFi, sz_sAi, kd_sAi, fi_sAi, fr_sAi, ln_sAi, al_sAi, ar_sAi, cs_sAi, kd_wz, fi_wz, fr_wz, ln_wz, ai_wz, al_wz, ar_wz, Option.bind_some, if_true, if_false, Nat.reduceAdd, Nat.reduceMul, reduceIte, and_self, true_and, and_true, k7, k8, f703, f706, r700, r801, k18, l18, f802, e0, e1, e2, cl, ib, v18]
  · rw [b3 706 (by decide)]; exact a2
theorem x_markF {h : HS} (hS : SXA ax ao ad n e pO fO h) {f : Int32} (hF : FLT ad n f h) (k : Int32) : ∃ h', m_X6_mark (ad 7 0) k h = some h' ∧ FE ax ao ad n e pO fO h h' ∧ FLT ad n f h' := by
  obtain ⟨n7, n8, n17, n18, n19, k7, -⟩ := ktok hS
  have f706 : fi h 706 (ad 7 0) = f := (f7 hS (by decide)).trans hF.1
  have z : (f = 0) = False := eq_false hF.2.1
  obtain ⟨b1, b2, b3, b4⟩ := FE_s7 hS (g := 704) (by decide) 10026
  refine ⟨sFi h 704 (ad 7 0) 10026, ?_, b1, ?_, hF.2.1, b2⟩
  · simp only [m_X6_mark, X6_mark_b78, aN, kA201, kA202, kA203, kA206, kA306, i1n0, i0n1, i0e0, i1e1, gI, gR, pI, pB, pR, xI, xL, yI, yL, vc, kd_sFi, fr_sFi, ln_sFi, ai_sFi, al_sFi, ar_sFi, cs_sFi, sz_sFi, sz_sAi, kd_sAi, fi_sAi, fr_sAi, ln_sAi, al_sAi, ar_sAi, cs_sAi, kd_wz, fi_wz, fr_wz, ln_wz, ai_wz, al_wz, ar_wz, Option.bind_some, if_true, if_false, Nat.reduceAdd, Nat.reduceMul, reduceIte, and_self, true_and, and_true, k7, f706, z]
  · rw [b3 706 (by decide)]; exact hF.1
theorem x_write {h : HS} (hS : SXA ax ao ad n e pO fO h) {C : List Int32} (hC : CX ad n C h) (hl : C.length < 600) (s : Int32) : ∃ h', m_X6_write (ad 7 0) s h = some h' ∧ FE ax ao ad n e pO fO h h' ∧ (∀ A tk f, PX ad n A tk f h → PX ad n A tk f h') ∧ CX ad n (C ++ [s]) h' := by
  obtain ⟨n7, n8, n17, n18, n19, k7, k8, r700, r701, r800, r801, k17, l17, k18, l18, k19, l19, -⟩ := ktok hS
  have f702 : fi h 702 (ad 7 0) = nI C.length := (f7 hS (by decide)).trans hC.1
  have e0 : ¬ nI C.length < 0 := nI_pos (by omega)
  have e1 : ¬ nI 600 ≤ nI C.length := nI_ge hl (by omega)
  have cl : (nI C.length).toNatClampNeg = C.length := nI_cl hl (by omega)
  have ib : inB (nI C.length) 600 = true := inB_nI hl (by omega)
  have e2 : nI C.length + 1 = nI (C.length + 1) := nI_add _ 1
  have hS1 : SXA ax ao ad n e pO fO (sAi h (ad 19 0) C.length s) := SXA_sAi (by rw [k19]; decide) hS
  have v1 : cv ad n (sAi h (ad 19 0) C.length s) = up3 (cv ad n h) 19 0 C.length s := cv_sAi hS.2.1 n19
  have fe1 : FE ax ao ad n e pO fO h (sAi h (ad 19 0) C.length s) := ⟨hS1, ⟨rfl, rfl, rfl, rfl, rfl, rfl, rfl⟩, fun _ _ => rfl, fun t ht => by rw [v1]; funext i j; exact up3_ne1 _ _ _ _ _ ht⟩
  obtain ⟨b1, b2, b3, b4⟩ := FE_s7 hS1 (g := 702) (by decide) (nI (C.length + 1))
  refine ⟨sFi (sAi h (ad 19 0) C.length s) 702 (ad 7 0) (nI (C.length + 1)), ?_, fe1.tr b1, fun A tk f hp => ⟨?_, ?_, ?_⟩, ?_, fun j hj => ?_⟩
  · simp only [m_X6_write, aN, kA201, kA202, kA203, kA206, kA306, i1n0, i0n1, i0e0, i1e1, gI, gR, pI, pB, pR, xI, xL, yI, yL, vc, kd_sFi, fr_sFi, ln_sFi, ai_sFi, al_sFi, ar_sFi, cs_sFi, sz_sFi, sz_sAi, kd_sAi, fi_sAi, fr_sAi, ln_sAi, al_sAi, ar_sAi, cs_sAi, kd_wz, fi_wz, fr_wz, ln_wz, ai_wz, al_wz, ar_wz, Option.bind_some, if_true, if_false, Nat.reduceAdd, Nat.reduceMul, reduceIte, and_self, true_and, and_true, k7, r701, k19, l19, f702, e0, e1, cl, ib, nar_i32, e2]
  · rw [b3 703 (by decide)]; exact hp.1
  · rw [b3 704 (by decide)]; exact hp.2.1
  · rw [b3 706 (by decide)]; exact hp.2.2
  · rw [b2, List.length_append]; rfl
  · rw [b4, v1]
    rw [List.length_append] at hj
    have hj' : j < C.length + 1 := hj
    by_cases hjc : j = C.length
    · subst hjc
      rw [up3_same, show C.length = C.length + 0 from rfl, gD_r]; rfl
    · rw [up3_ne3 _ _ _ _ _ hjc, gD_l (by omega)]; exact hC.2 j (by omega)
theorem x_writeF {h : HS} (hS : SXA ax ao ad n e pO fO h) (s : Int32) {f : Int32} (hF : FLT ad n f h) : ∃ h', m_X6_write (ad 7 0) s h = some h' ∧ FE ax ao ad n e pO fO h h' ∧ FLT ad n f h' := by
  obtain ⟨n7, n8, n17, n18, n19, k7, k8, r700, r701, r800, r801, k17, l17, k18, l18, k19, l19, -⟩ := ktok hS
  have f702 : fi h 702 (ad 7 0) = cf ad n h 702 0 := f7 hS (by decide)
  by_cases h0 : cf ad n h 702 0 < 0
  · refine ⟨h, ?_, FE.rf hS, hF⟩
    simp only [m_X6_write, aN, kA201, kA202, kA203, kA206, kA306, i1n0, i0n1, i0e0, i1e1, gI, gR, pI, pB, pR, xI, xL, yI, yL, vc, kd_sFi, fr_sFi, ln_sFi, ai_sFi, al_sFi, ar_sFi, cs_sFi, sz_sFi, sz_sAi, kd_sAi, fi_sAi, fr_sAi, ln_sAi, al_sAi, ar_sAi, cs_sAi, kd_wz, fi_wz, fr_wz, ln_wz, ai_wz, al_wz, ar_wz, Option.bind_some, if_true, if_false, Nat.reduceAdd, Nat.reduceMul, reduceIte, and_self, true_and, and_true, k7, f702, h0]
  · by_cases h1 : nI 600 ≤ cf ad n h 702 0
    · refine ⟨h, ?_, FE.rf hS, hF⟩
      simp only [m_X6_write, aN, kA201, kA202, kA203, kA206, kA306, i1n0, i0n1, i0e0, i1e1, gI, gR, pI, pB, pR, xI, xL, yI, yL, vc, kd_sFi, fr_sFi, ln_sFi, ai_sFi, al_sFi, ar_sFi, cs_sFi, sz_sFi, sz_sAi, kd_sAi, fi_sAi, fr_sAi, ln_sAi, al_sAi, ar_sAi, cs_sAi, kd_wz, fi_wz, fr_wz, ln_wz, ai_wz, al_wz, ar_wz, Option.bind_some, if_true, if_false, Nat.reduceAdd, Nat.reduceMul, reduceIte, and_self, true_and, and_true, k7, f702, h0, r701, k19, l19, h1]
    · obtain ⟨j, hj, hje⟩ := nI_of h0
      have hj6 : j < 600 := by
        by_cases z : j < 600
        · exact z
        · exact absurd (by rw [hje]; exact nI_le (by omega) hj) h1
      rw [hje] at h0 h1
      rw [hje] at f702
      have cl : (nI j).toNatClampNeg = j := nI_cl hj6 (by omega)
      have ib : inB (nI j) 600 = true := inB_nI hj6 (by omega)
      have e2 : nI j + 1 = nI (j + 1) := nI_add _ 1
      have hS1 : SXA ax ao ad n e pO fO (sAi h (ad 19 0) j s) := SXA_sAi (by rw [k19]; decide) hS
      have v1 : cv ad n (sAi h (ad 19 0) j s) = up3 (cv ad n h) 19 0 j s := cv_sAi hS.2.1 n19
      have fe1 : FE ax ao ad n e pO fO h (sAi h (ad 19 0) j s) := ⟨hS1, ⟨rfl, rfl, rfl, rfl, rfl, rfl, rfl⟩, fun _ _ => rfl, fun t ht => by rw [v1]; funext i j; exact up3_ne1 _ _ _ _ _ ht⟩
      obtain ⟨b1, b2, b3, b4⟩ := FE_s7 hS1 (g := 702) (by decide) (nI (j + 1))
      refine ⟨sFi (sAi h (ad 19 0) j s) 702 (ad 7 0) (nI (j + 1)), ?_, fe1.tr b1, ?_, hF.2.1, ?_⟩
      · simp only [m_X6_write, aN, kA201, kA202, kA203, kA206, kA306, i1n0, i0n1, i0e0, i1e1, gI, gR, pI, pB, pR, xI, xL, yI, yL, vc, kd_sFi, fr_sFi, ln_sFi, ai_sFi, al_sFi, ar_sFi, cs_sFi, sz_sFi, sz_sAi, kd_sAi, fi_sAi, fr_sAi, ln_sAi, al_sAi, ar_sAi, cs_sAi, kd_wz, fi_wz, fr_wz, ln_wz, ai_wz, al_wz, ar_wz, Option.bind_some, if_true, if_false, Nat.reduceAdd, Nat.reduceMul, reduceIte, and_self, true_and, and_true, k7, r701, k19, l19, f702, h0, h1, cl, ib, nar_i32, e2]
      · rw [b3 706 (by decide)]; exact hF.1
      · rw [b3 704 (by decide)]; exact hF.2.2
theorem x_takeF {h : HS} (hS : SXA ax ao ad n e pO fO h) {f : Int32} (hF : FLT ad n f h) (k : Int32) (hk : k ≠ 10026) : ∃ h', m_X6_take (ad 7 0) k h = some h' ∧ FE ax ao ad n e pO fO h h' ∧ FLT ad n f h' := by
  obtain ⟨n7, n8, n17, n18, n19, k7, -⟩ := ktok hS
  have f704 : fi h 704 (ad 7 0) = 10026 := (f7 hS (by decide)).trans hF.2.2
  have z : ((10026 : Int32) = k) = False := eq_false (fun y => hk y.symm)
  obtain ⟨h', a1, a2, a3⟩ := x_markF hS hF 1
  refine ⟨h', ?_, a2, a3⟩
  simp only [m_X6_take, aN, kA201, kA202, kA203, kA206, kA306, i1n0, i0n1, i0e0, i1e1, gI, gR, pI, pB, pR, xI, xL, yI, yL, vc, kd_sFi, fr_sFi, ln_sFi, ai_sFi, al_sFi, ar_sFi, cs_sFi, sz_sFi, sz_sAi, kd_sAi, fi_sAi, fr_sAi, ln_sAi, al_sAi, ar_sAi, cs_sAi, kd_wz, fi_wz, fr_wz, ln_wz, ai_wz, al_wz, ar_wz, Option.bind_some, if_true, if_false, Nat.reduceAdd, Nat.reduceMul, reduceIte, and_self, true_and, and_true, k7, f704, z, a1]
theorem x_partF (rA : Nat → Int32 → HS → Option HS) {h : HS} (hS : SXA ax ao ad n e pO fO h) {f : Int32} (hF : FLT ad n f h) (d : Int32) : ∃ h', m_X6_readPart rA (ad 7 0) d h = some h' ∧ FE ax ao ad n e pO fO h h' ∧ FLT ad n f h' := by
  obtain ⟨n7, n8, n17, n18, n19, k7, -⟩ := ktok hS
  have f704 : fi h 704 (ad 7 0) = 10026 := (f7 hS (by decide)).trans hF.2.2
  have z0 : ¬ (10026 : Int32) < 0 := by decide
  have z1 : (10005 : Int32) ≤ 10026 := by decide
  have z2 : ((10026 : Int32) = 10022) = False := eq_false (by decide)
  obtain ⟨h', a1, a2, a3⟩ := x_markF hS hF 1
  refine ⟨h', ?_, a2, a3⟩
  simp only [m_X6_readPart, X6_readPart_b20, X6_readPart_b21, aN, kA201, kA202, kA203, kA206, kA306, i1n0, i0n1, i0e0, i1e1, gI, gR, pI, pB, pR, xI, xL, yI, yL, vc, kd_sFi, fr_sFi, ln_sFi, ai_sFi, al_sFi, ar_sFi, cs_sFi, sz_sFi, sz_sAi, kd_sAi, fi_sAi, fr_sAi, ln_sAi, al_sAi, ar_sAi, cs_sAi, kd_wz, fi_wz, fr_wz, ln_wz, ai_wz, al_wz, ar_wz, Option.bind_some, if_true, if_false, Nat.reduceAdd, Nat.reduceMul, reduceIte, and_self, true_and, and_true, k7, f704, z0, z1, z2, a1]
theorem x_sumLF (rA : Nat → Int32 → HS → Option HS) {h : HS} (hS : SXA ax ao ad n e pO fO h) {f : Int32} (hF : FLT ad n f h) (d i : Int32) (F : Nat) : X6_readSum_L7 rA (ad 7 0) (F + 1) d i h = some h := by
  obtain ⟨n7, n8, n17, n18, n19, k7, -⟩ := ktok hS
  have f704 : fi h 704 (ad 7 0) = 10026 := (f7 hS (by decide)).trans hF.2.2
  have z1 : ((10026 : Int32) = 10010) = False := eq_false (by decide)
  have z2 : ((10026 : Int32) = 10011) = False := eq_false (by decide)
  conv => lhs; unfold X6_readSum_L7
  by_cases hi : (600 : Int32) ≤ i
  · simp only [hi, if_true]
  · simp only [aN, kA201, kA202, kA203, kA206, kA306, i1n0, i0n1, i0e0, i1e1, gI, gR, pI, pB, pR, xI, xL, yI, yL, vc, kd_sFi, fr_sFi, ln_sFi, ai_sFi, al_sFi, ar_sFi, cs_sFi, sz_sFi, sz_sAi, kd_sAi, fi_sAi, fr_sAi, ln_sAi, al_sAi, ar_sAi, cs_sAi, kd_wz, fi_wz, fr_wz, ln_wz, ai_wz, al_wz, ar_wz, Option.bind_some, if_true, if_false, Nat.reduceAdd, Nat.reduceMul, reduceIte, and_self, true_and, and_true, hi, k7, f704, z1, z2]
theorem x_sumF (rA : Nat → Int32 → HS → Option HS) {h : HS} (hS : SXA ax ao ad n e pO fO h) {f : Int32} (hF : FLT ad n f h) (d : Int32) : ∃ h', m_X6_readSum rA (ad 7 0) d h = some h' ∧ FE ax ao ad n e pO fO h h' ∧ FLT ad n f h' := by
  obtain ⟨n7, n8, n17, n18, n19, k7, -⟩ := ktok hS
  obtain ⟨h', a1, a2, a3⟩ := x_partF rA hS hF d
  refine ⟨h', ?_, a2, a3⟩
  have hfu : FU = 999 + 1 := rfl
  simp only [m_X6_readSum, aN, kA201, kA202, kA203, kA206, kA306, i1n0, i0n1, i0e0, i1e1, gI, gR, pI, pB, pR, xI, xL, yI, yL, vc, kd_sFi, fr_sFi, ln_sFi, ai_sFi, al_sFi, ar_sFi, cs_sFi, sz_sFi, sz_sAi, kd_sAi, fi_sAi, fr_sAi, ln_sAi, al_sAi, ar_sAi, cs_sAi, kd_wz, fi_wz, fr_wz, ln_wz, ai_wz, al_wz, ar_wz, Option.bind_some, if_true, if_false, Nat.reduceAdd, Nat.reduceMul, reduceIte, and_self, true_and, and_true, k7, a1]
  rw [hfu, x_sumLF rA a2.1 a3]
theorem x_testF (rA : Nat → Int32 → HS → Option HS) {h : HS} (hS : SXA ax ao ad n e pO fO h) {f : Int32} (hF : FLT ad n f h) (d : Int32) : ∃ h', m_X6_readTest rA (ad 7 0) d h = some h' ∧ FE ax ao ad n e pO fO h h' ∧ FLT ad n f h' := by
  obtain ⟨n7, n8, n17, n18, n19, k7, -⟩ := ktok hS
  obtain ⟨h', a1, a2, a3⟩ := x_sumF rA hS hF d
  have f704 : fi h' 704 (ad 7 0) = 10026 := (f7 a2.1 (by decide)).trans a3.2.2
  have k7' := (ktok a2.1).2.2.2.2.2.1
  have z1 : ((10026 : Int32) = 10012) = False := eq_false (by decide)
  have z2 : ((10026 : Int32) = 10013) = False := eq_false (by decide)
  refine ⟨h', ?_, a2, a3⟩
  simp only [m_X6_readTest, aN, kA201, kA202, kA203, kA206, kA306, i1n0, i0n1, i0e0, i1e1, gI, gR, pI, pB, pR, xI, xL, yI, yL, vc, kd_sFi, fr_sFi, ln_sFi, ai_sFi, al_sFi, ar_sFi, cs_sFi, sz_sFi, sz_sAi, kd_sAi, fi_sAi, fr_sAi, ln_sAi, al_sAi, ar_sAi, cs_sAi, kd_wz, fi_wz, fr_wz, ln_wz, ai_wz, al_wz, ar_wz, Option.bind_some, if_true, if_false, Nat.reduceAdd, Nat.reduceMul, reduceIte, and_self, true_and, and_true, k7, a1, k7', f704, z1, z2]
theorem x_andLF (rA : Nat → Int32 → HS → Option HS) {h : HS} (hS : SXA ax ao ad n e pO fO h) {f : Int32} (hF : FLT ad n f h) (d i : Int32) (F : Nat) : X6_readAnds_L7 rA (ad 7 0) (F + 1) d i h = some h := by
  obtain ⟨n7, n8, n17, n18, n19, k7, -⟩ := ktok hS
  have f704 : fi h 704 (ad 7 0) = 10026 := (f7 hS (by decide)).trans hF.2.2
  have z1 : ((10026 : Int32) = 10014) = False := eq_false (by decide)
  conv => lhs; unfold X6_readAnds_L7
  by_cases hi : (600 : Int32) ≤ i
  · simp only [hi, if_true]
  · simp only [aN, kA201, kA202, kA203, kA206, kA306, i1n0, i0n1, i0e0, i1e1, gI, gR, pI, pB, pR, xI, xL, yI, yL, vc, kd_sFi, fr_sFi, ln_sFi, ai_sFi, al_sFi, ar_sFi, cs_sFi, sz_sFi, sz_sAi, kd_sAi, fi_sAi, fr_sAi, ln_sAi, al_sAi, ar_sAi, cs_sAi, kd_wz, fi_wz, fr_wz, ln_wz, ai_wz, al_wz, ar_wz, Option.bind_some, if_true, if_false, Nat.reduceAdd, Nat.reduceMul, reduceIte, and_self, true_and, and_true, hi, k7, f704, z1]
theorem x_andF (rA : Nat → Int32 → HS → Option HS) {h : HS} (hS : SXA ax ao ad n e pO fO h) {f : Int32} (hF : FLT ad n f h) (d : Int32) : ∃ h', m_X6_readAnds rA (ad 7 0) d h = some h' ∧ FE ax ao ad n e pO fO h h' ∧ FLT ad n f h' := by
  obtain ⟨n7, n8, n17, n18, n19, k7, -⟩ := ktok hS
  obtain ⟨h', a1, a2, a3⟩ := x_testF rA hS hF d
  refine ⟨h', ?_, a2, a3⟩
  have hfu : FU = 999 + 1 := rfl
  simp only [m_X6_readAnds, aN, kA201, kA202, kA203, kA206, kA306, i1n0, i0n1, i0e0, i1e1, gI, gR, pI, pB, pR, xI, xL, yI, yL, vc, kd_sFi, fr_sFi, ln_sFi, ai_sFi, al_sFi, ar_sFi, cs_sFi, sz_sFi, sz_sAi, kd_sAi, fi_sAi, fr_sAi, ln_sAi, al_sAi, ar_sAi, cs_sAi, kd_wz, fi_wz, fr_wz, ln_wz, ai_wz, al_wz, ar_wz, Option.bind_some, if_true, if_false, Nat.reduceAdd, Nat.reduceMul, reduceIte, and_self, true_and, and_true, k7, a1]
  rw [hfu, x_andLF rA a2.1 a3]
end RDX
