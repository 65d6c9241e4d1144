/-! a line -/
section LINEX
variable {ax ao am : Nat} {ad : Nat → Nat → Nat} {n e pO fO q tm : Nat → Nat} {tx : Nat → List (Int32 × List Int32)} {w : Nat} {pn : Nat → Nat} {nw : Nat → Nat → Nat} {fs : Nat → Nat} {ls : Nat → Option Nat} {rs rl pr : Nat → Nat} {tl : Nat} {hx hm : HS}
def FL (ax ao : Nat) (ad : Nat → Nat → Nat) (n e pO fO : Nat → Nat) (h h' : HS) : Prop := SXA ax ao ad n e pO fO h' ∧ SameS h h' ∧ (∀ g, (g ≠ 702 ∧ g ≠ 703 ∧ g ≠ 704 ∧ g ≠ 705 ∧ g ≠ 706) → cf ad n h' g = cf ad n h g) ∧ ∀ t, t ≠ 19 → cv ad n h' t = cv ad n h t
theorem FL.rf {h : HS} (hS : SXA ax ao ad n e pO fO h) : FL ax ao ad n e pO fO h h := ⟨hS, SameS.rf h, fun _ _ => rfl, fun _ _ => rfl⟩
theorem FL.tr {a b c : HS} (h1 : FL ax ao ad n e pO fO a b) (h2 : FL ax ao ad n e pO fO b c) : FL ax ao ad n e pO fO a c := ⟨h2.1, h1.2.1.tr h2.2.1, fun g hg => (h2.2.2.1 g hg).trans (h1.2.2.1 g hg), fun t ht => (h2.2.2.2 t ht).trans (h1.2.2.2 t ht)⟩
theorem FE.l {a b : HS} (h : FE ax ao ad n e pO fO a b) : FL ax ao ad n e pO fO a b := ⟨h.1, h.2.1, fun g hg => h.2.2.1 g ⟨hg.1, hg.2.1, hg.2.2.1, hg.2.2.2.2⟩, h.2.2.2⟩
theorem TX.frl {h h' : HS} {K P : Nat → Int32} {T : Nat} (hT : TX ad n K P T h) (hf : FL ax ao ad n e pO fO h h') : TX ad n K P T h' := ⟨hT.1, by rw [hf.2.2.1 802 (by decide)]; exact hT.2.1, by rw [hf.2.2.2 17 (by decide), hf.2.2.2 18 (by decide)]; exact hT.2.2.1, hT.2.2.2⟩
def tl5 (th : Nat) (r : Int32) (h : HS) : Option HS := (vc h (some th) 7 (fun b10 => m_X6_take b10 (10024 : Int32) h)).bind fun h9 => (vc h9 (some th) 7 (fun b12 => m_X6_write b12 ((20000 : Int32) + r) h9)).bind fun h11 => (gI h11 (some th) 7 5).bind fun x13 => (pI h11 (some th) 7 5 (x13 + (1 : Int32))).bind fun h14 => some h14
def tl4 (th : Nat) (r : Int32) (h : HS) : Option HS := (vc h (some th) 7 (fun b8 => raD 6 b8 (0 : Int32) h)).bind (tl5 th r)
def tl3 (th : Nat) (r : Int32) (h : HS) : Option HS := (vc h (some th) 7 (fun b6 => m_X6_take b6 (10021 : Int32) h)).bind (tl4 th r)
def tl2 (th : Nat) (h : HS) : Option HS := (vc h (some th) 7 (fun b4 => m_X6_takeRate b4 h)).bind fun q3 => tl3 th q3.1 q3.2
theorem b24_eq (th : Nat) (h : HS) : X6_readLine_b24 th h = (vc h (some th) 7 (fun b2 => m_X6_take b2 (10020 : Int32) h)).bind (tl2 th) := rfl
theorem FL_705 {h : HS} (hS : SXA ax ao ad n e pO fO h) (x : Int32) : FL ax ao ad n e pO fO h (sFi h 705 (ad 7 0) x) ∧ cf ad n (sFi h 705 (ad 7 0) x) 705 0 = x ∧ ∀ g, g ≠ 705 → cf ad n (sFi h 705 (ad 7 0) x) g = cf ad n h g := by
  have e1 : cf ad n (sFi h 705 (ad 7 0) x) = up2 (cf ad n h) 705 0 x := cf_sFi hS.2.1 (t := 7) (by decide) (ktok hS).1
  refine ⟨⟨SXA_sFi (by decide) (by decide) hS, ⟨rfl, rfl, rfl, rfl, rfl, rfl, rfl⟩, fun g hg => ?_, fun _ _ => rfl⟩, ?_, fun g hg => ?_⟩
  · rw [e1, up2_ne1' (by omega)]
  · rw [e1, up2_same]
  · rw [e1, up2_ne1' hg]
theorem tl5F {h : HS} (hS : SXA ax ao ad n e pO fO h) {f : Int32} (hF : FLT ad n f h) (r : Int32) : ∃ h', tl5 (ad 7 0) r h = some h' ∧ FL ax ao ad n e pO fO h h' ∧ FLT ad n f h' := by
  have k7 := (ktok hS).2.2.2.2.2.1
  obtain ⟨h1, a1, a2, a3⟩ := x_takeF hS hF 10024 (by decide)
  have k71 := (ktok a2.1).2.2.2.2.2.1
  obtain ⟨h2, b1, b2, b3⟩ := x_writeF a2.1 (20000 + r) a3
  have k72 := (ktok b2.1).2.2.2.2.2.1
  have f705 : fi h2 705 (ad 7 0) = cf ad n h2 705 0 := f7 b2.1 (by decide)
  obtain ⟨c1, c2, c3⟩ := FL_705 b2.1 (cf ad n h2 705 0 + 1)
  refine ⟨sFi h2 705 (ad 7 0) (cf ad n h2 705 0 + 1), ?_, (a2.tr b2).l.tr c1, ?_, b3.2.1, ?_⟩
  · simp only [tl5, aN, kA201, kA202, kA203, kA206, kA306, i1n0, i0n1, i0e0, i1e1, gI, gR, pI, pB, pR, xI, xL, yI, yL, vc, kd_sFi, fr_sFi, ln_sFi, ai_sFi, al_sFi, ar_sFi, cs_sFi, sz_sFi, sz_sAi, kd_sAi, fi_sAi, fr_sAi, ln_sAi, al_sAi, ar_sAi, cs_sAi, kd_wz, fi_wz, fr_wz, ln_wz, ai_wz, al_wz, ar_wz, Option.bind_some, if_true, if_false, Nat.reduceAdd, Nat.reduceMul, reduceIte, and_self, true_and, and_true, k7, a1, k71, b1, k72, f705]
  · rw [c3 706 (by decide)]; exact b3.1
  · rw [c3 704 (by decide)]; exact b3.2.2
theorem tl4F {h : HS} (hS : SXA ax ao ad n e pO fO h) {f : Int32} (hF : FLT ad n f h) (r : Int32) : ∃ h', tl4 (ad 7 0) r h = some h' ∧ FL ax ao ad n e pO fO h h' ∧ FLT ad n f h' := by
  have k7 := (ktok hS).2.2.2.2.2.1
  obtain ⟨h1, a1, a2, a3⟩ := x_andF (raD 5) hS hF 0
  have a1' : raD 6 (ad 7 0) 0 h = some h1 := a1
  obtain ⟨h2, b1, b2, b3⟩ := tl5F a2.1 a3 r
  refine ⟨h2, ?_, a2.l.tr b2, b3⟩
  simp only [tl4, aN, kA201, kA202, kA203, kA206, kA306, i1n0, i0n1, i0e0, i1e1, gI, gR, pI, pB, pR, xI, xL, yI, yL, vc, kd_sFi, fr_sFi, ln_sFi, ai_sFi, al_sFi, ar_sFi, cs_sFi, sz_sFi, sz_sAi, kd_sAi, fi_sAi, fr_sAi, ln_sAi, al_sAi, ar_sAi, cs_sAi, kd_wz, fi_wz, fr_wz, ln_wz, ai_wz, al_wz, ar_wz, Option.bind_some, if_true, if_false, Nat.reduceAdd, Nat.reduceMul, reduceIte, and_self, true_and, and_true, k7, a1', b1]
theorem tl3F {h : HS} (hS : SXA ax ao ad n e pO fO h) {f : Int32} (hF : FLT ad n f h) (r : Int32) : ∃ h', tl3 (ad 7 0) r h = some h' ∧ FL ax ao ad n e pO fO h h' ∧ FLT ad n f h' := by
  have k7 := (ktok hS).2.2.2.2.2.1
  obtain ⟨h1, a1, a2, a3⟩ := x_takeF hS hF 10021 (by decide)
  obtain ⟨h2, b1, b2, b3⟩ := tl4F a2.1 a3 r
  refine ⟨h2, ?_, a2.l.tr b2, b3⟩
  simp only [tl3, aN, kA201, kA202, kA203, kA206, kA306, i1n0, i0n1, i0e0, i1e1, gI, gR, pI, pB, pR, xI, xL, yI, yL, vc, kd_sFi, fr_sFi, ln_sFi, ai_sFi, al_sFi, ar_sFi, cs_sFi, sz_sFi, sz_sAi, kd_sAi, fi_sAi, fr_sAi, ln_sAi, al_sAi, ar_sAi, cs_sAi, kd_wz, fi_wz, fr_wz, ln_wz, ai_wz, al_wz, ar_wz, Option.bind_some, if_true, if_false, Nat.reduceAdd, Nat.reduceMul, reduceIte, and_self, true_and, and_true, k7, a1, b1]
theorem tl2F {h : HS} (hS : SXA ax ao ad n e pO fO h) {f : Int32} (hF : FLT ad n f h) : ∃ h', tl2 (ad 7 0) h = some h' ∧ FL ax ao ad n e pO fO h h' ∧ FLT ad n f h' := by
  have k7 := (ktok hS).2.2.2.2.2.1
  have f704 : fi h 704 (ad 7 0) = 10026 := (f7 hS (by decide)).trans hF.2.2
  obtain ⟨h1, a1, a2, a3⟩ := x_markF hS hF 1
  obtain ⟨h2, b1, b2, b3⟩ := tl3F a2.1 a3 0
  have z0 : ¬ (10026 : Int32) < 0 := by decide
  have z1 : (9999 : Int32) < 10026 := by decide
  refine ⟨h2, ?_, a2.l.tr b2, b3⟩
  simp only [tl2, m_X6_takeRate, e_within, aN, kA201, kA202, kA203, kA206, kA306, i1n0, i0n1, i0e0, i1e1, gI, gR, pI, pB, pR, xI, xL, yI, yL, vc, kd_sFi, fr_sFi, ln_sFi, ai_sFi, al_sFi, ar_sFi, cs_sFi, sz_sFi, sz_sAi, kd_sAi, fi_sAi, fr_sAi, ln_sAi, al_sAi, ar_sAi, cs_sAi, kd_wz, fi_wz, fr_wz, ln_wz, ai_wz, al_wz, ar_wz, Option.bind_some, if_true, if_false, Nat.reduceAdd, Nat.reduceMul, reduceIte, and_self, true_and, and_true, k7, f704, z0, z1, a1, b1]
theorem x_take {h : HS} (hS : SXA ax ao ad n e pO fO h) {K P : Nat → Int32} {T A : Nat} (hT : TX ad n K P T h) (hP : PX ad n A (K A) 0 h) (hA : A ≤ T) {k : Int32} (hk : k ≠ 10025) : (K A = k → ∃ h', m_X6_take (ad 7 0) k h = some h' ∧ FE ax ao ad n e pO fO h h' ∧ A < T ∧ PX ad n (A + 1) (K (A + 1)) 0 h' ∧ ∀ C, CX ad n C h → CX ad n C h') ∧ (K A ≠ k → ∃ h', m_X6_take (ad 7 0) k h = some h' ∧ FE ax ao ad n e pO fO h h' ∧ cf ad n h' 706 0 = 1 + 16 * P A ∧ cf ad n h' 704 0 = 10026) := by
  have k7 := (ktok hS).2.2.2.2.2.1
  have f704 : fi h 704 (ad 7 0) = K A := (f7 hS (by decide)).trans hP.2.1
  refine ⟨fun hq => ?_, fun hq => ?_⟩
  · have hAT := lt_end hT hA (by rw [hq]; exact hk)
    have e703 : cf ad n h 703 0 + 1 = nI (A + 1) := by rw [hP.1]; exact nI_add A 1
    obtain ⟨h', a1, a2, a3, a4⟩ := x_go hS hT e703 (by omega)
    rw [hP.2.2] at a3
    refine ⟨h', ?_, a2, hAT, a3, a4⟩
    simp only [m_X6_take, aN, kA201, kA202, kA203, kA206, kA306, i1n0, i0n1, i0e0, i1e1, gI, gR, pI, pB, pR, xI, xL, yI, yL, vc, kd_sFi, fr_sFi, ln_sFi, ai_sFi, al_sFi, ar_sFi, cs_sFi, sz_sFi, sz_sAi, kd_sAi, fi_sAi, fr_sAi, ln_sAi, al_sAi, ar_sAi, cs_sAi, kd_wz, fi_wz, fr_wz, ln_wz, ai_wz, al_wz, ar_wz, Option.bind_some, if_true, if_false, Nat.reduceAdd, Nat.reduceMul, reduceIte, and_self, true_and, and_true, k7, f704, hq, a1]
  · obtain ⟨h', a1, a2, a3, a4⟩ := x_mark hS hT hP hA 1
    refine ⟨h', ?_, a2, a3, a4⟩
    simp only [m_X6_take, aN, kA201, kA202, kA203, kA206, kA306, i1n0, i0n1, i0e0, i1e1, gI, gR, pI, pB, pR, xI, xL, yI, yL, vc, kd_sFi, fr_sFi, ln_sFi, ai_sFi, al_sFi, ar_sFi, cs_sFi, sz_sFi, sz_sAi, kd_sAi, fi_sAi, fr_sAi, ln_sAi, al_sAi, ar_sAi, cs_sAi, kd_wz, fi_wz, fr_wz, ln_wz, ai_wz, al_wz, ar_wz, Option.bind_some, if_true, if_false, Nat.reduceAdd, Nat.reduceMul, reduceIte, and_self, true_and, and_true, k7, f704, hq, a1]
end LINEX
