section TOK2
variable {ax ao am : Nat} {ad : Nat → Nat → Nat} {n e pO fO q tm : Nat → Nat} {tx : Nat → List (Int32 × List Int32)} {w : Nat} {pn : Nat → Nat} {nw : Nat → Nat → Nat} {fs : Nat → Nat} {ls : Nat → Option Nat} {rs rl pr : Nat → Nat} {tl : Nat} {hx hm : HS}
def TKf (K P s p : Nat → Int32) (v : Nat → Int64) (T : Nat) : Prop := ∀ i, i < T → TokR (K i) (s i) (v i) ∧ P i = p i ∧ ∃ x, x ≤ 600 ∧ p i = nI x
theorem TKf.add {K P s p : Nat → Int32} {v : Nat → Int64} {T : Nat} (h : TKf K P s p v T) {k s0 : Int32} {v0 : Int64} {x : Nat} (hk : TokR k s0 v0) (hx : x ≤ 600) : TKf (va_up K T k) (va_up P T (nI x)) (va_up s T s0) (va_up p T (nI x)) (va_up v T v0) (T + 1) := by
  intro i hi
  by_cases hiT : i = T
  · subst hiT
    rw [va_up_same, va_up_same, va_up_same, va_up_same, va_up_same]
    exact ⟨hk, rfl, x, hx, rfl⟩
  · rw [va_upN _ _ hiT, va_upN _ _ hiT, va_upN _ _ hiT, va_upN _ _ hiT, va_upN _ _ hiT]
    exact h i (by omega)
theorem w_b265 {h : HS} (hM : SMA q am h) (go : Int32 → Int32 → HS → Option HS) {T : Nat} (hT : T < 602) (k : Int32) (v : Int64) : X9_cutAll_b265 am go (nI T) k v h = go (nI (T + 1)) k (sAl h (q 6) T v) := by
  have hkm : kd h am = 11 := hM.1
  have r6 : fr h 1006 am = some (q 6) := (hM.2.1 (6, 204, 602) (by decide)).1
  have k6 : kd h (q 6) = 204 := (hM.2.1 (6, 204, 602) (by decide)).2.1
  have l6 : ln h (q 6) = 602 := (hM.2.1 (6, 204, 602) (by decide)).2.2
  have cl : (nI T).toNatClampNeg = T := nI_cl hT (by omega)
  have ib : inB (nI T) 602 = true := inB_nI hT (by omega)
  have e2 : nI T + 1 = nI (T + 1) := nI_add T 1
  simp only [X9_cutAll_b265, aN, kA201, kA202, kA203, kA206, kA306, i1n0, i0n1, i0e0, i1e1, gI, gR, pI, pB, pR, xI, xL, yI, yL, vc, kd_sFi, fr_sFi, ln_sFi, ai_sFi, al_sFi, ar_sFi, cs_sFi, sz_sFi, sz_sAi, kd_sAi, fi_sAi, fr_sAi, ln_sAi, al_sAi, ar_sAi, cs_sAi, kd_wz, fi_wz, fr_wz, ln_wz, ai_wz, al_wz, ar_wz, Option.bind_some, if_true, if_false, Nat.reduceAdd, Nat.reduceMul, reduceIte, and_self, true_and, and_true, hkm, r6, k6, l6, cl, ib, e2]
theorem w_y4 {h : HS} (hM : SMA q am h) {T : Nat} (hT : T < 602) (s : Int32) : yI 201 h (some (q 4)) (nI T) s = some (sAi h (q 4) T s) := by
  have r4 : fr h 1004 am = some (q 4) := (hM.2.1 (4, 201, 602) (by decide)).1
  have k4 : kd h (q 4) = 201 := (hM.2.1 (4, 201, 602) (by decide)).2.1
  have l4 : ln h (q 4) = 602 := (hM.2.1 (4, 201, 602) (by decide)).2.2
  have cl : (nI T).toNatClampNeg = T := nI_cl hT (by omega)
  have ib : inB (nI T) 602 = true := inB_nI hT (by omega)
  simp only [aN, kA201, kA202, kA203, kA206, kA306, i1n0, i0n1, i0e0, i1e1, gI, gR, pI, pB, pR, xI, xL, yI, yL, vc, kd_sFi, fr_sFi, ln_sFi, ai_sFi, al_sFi, ar_sFi, cs_sFi, sz_sFi, sz_sAi, kd_sAi, fi_sAi, fr_sAi, ln_sAi, al_sAi, ar_sAi, cs_sAi, kd_wz, fi_wz, fr_wz, ln_wz, ai_wz, al_wz, ar_wz, Option.bind_some, if_true, if_false, Nat.reduceAdd, Nat.reduceMul, reduceIte, and_self, true_and, and_true, r4, k4, l4, cl, ib, nar_i32]
theorem w_b218 {h : HS} (hM : SMA q am h) (go : Int32 → Int32 → HS → Option HS) {T p E : Nat} (hT : T < 602) (hE : p ≤ E) (hE6 : E ≤ 600) (v : Int64) : X9_cutAll_b218 am go (nI T) (nI E) (nI p) v h = go (nI (T + 1)) (nI E) (sAl (sAi h (q 4) T (if E - p ≤ 4 then 2 else 4)) (q 6) T v) := by
  have hkm : kd h am = 11 := hM.1
  have r4 : fr h 1004 am = some (q 4) := (hM.2.1 (4, 201, 602) (by decide)).1
  have k4 : kd h (q 4) = 201 := (hM.2.1 (4, 201, 602) (by decide)).2.1
  have l4 : ln h (q 4) = 602 := (hM.2.1 (4, 201, 602) (by decide)).2.2
  have es : nI E - nI p = nI (E - p) := nI_sub hE
  by_cases h4 : E - p ≤ 4
  · have e4 : nI (E - p) ≤ 4 := nI_le (b := 4) h4 (by omega)
    rw [if_pos h4, ← w_b265 (h := sAi h (q 4) T 2) hM go hT]
    simp only [X9_cutAll_b218, X9_cutAll_b236, aN, kA201, kA202, kA203, kA206, kA306, i1n0, i0n1, i0e0, i1e1, gI, gR, pI, pB, pR, xI, xL, vc, kd_sFi, fr_sFi, ln_sFi, ai_sFi, al_sFi, ar_sFi, cs_sFi, sz_sFi, sz_sAi, kd_sAi, fi_sAi, fr_sAi, ln_sAi, al_sAi, ar_sAi, cs_sAi, kd_wz, fi_wz, fr_wz, ln_wz, ai_wz, al_wz, ar_wz, Option.bind_some, if_true, if_false, Nat.reduceAdd, Nat.reduceMul, reduceIte, and_self, true_and, and_true, hkm, r4, k4, l4, es, e4, w_y4 hM hT]
  · have e4 : ¬ nI (E - p) ≤ 4 := nI_ge (a := 4) (by omega) (by omega)
    rw [if_neg h4, ← w_b265 (h := sAi h (q 4) T 4) hM go hT]
    simp only [X9_cutAll_b218, X9_cutAll_b236, aN, kA201, kA202, kA203, kA206, kA306, i1n0, i0n1, i0e0, i1e1, gI, gR, pI, pB, pR, xI, xL, vc, kd_sFi, fr_sFi, ln_sFi, ai_sFi, al_sFi, ar_sFi, cs_sFi, sz_sFi, sz_sAi, kd_sAi, fi_sAi, fr_sAi, ln_sAi, al_sAi, ar_sAi, cs_sAi, kd_wz, fi_wz, fr_wz, ln_wz, ai_wz, al_wz, ar_wz, Option.bind_some, if_true, if_false, Nat.reduceAdd, Nat.reduceMul, reduceIte, and_self, true_and, and_true, hkm, r4, k4, l4, es, e4, w_y4 hM hT]
theorem w_b129 {h : HS} (hM : SMA q am h) (go : Int32 → Int32 → HS → Option HS) {T p E : Nat} (hT : T < 602) (hE : p ≤ E) (hE6 : E ≤ 600) (v : Int64) : X9_cutAll_b129 am go (nI T) (nI E) (nI p) v h = go (nI (T + 1)) (nI E) (sAl (sAi h (q 4) T (if E - p ≤ 9 then 1 else 4)) (q 6) T v) := by
  have hkm : kd h am = 11 := hM.1
  have r4 : fr h 1004 am = some (q 4) := (hM.2.1 (4, 201, 602) (by decide)).1
  have k4 : kd h (q 4) = 201 := (hM.2.1 (4, 201, 602) (by decide)).2.1
  have l4 : ln h (q 4) = 602 := (hM.2.1 (4, 201, 602) (by decide)).2.2
  have es : nI E - nI p = nI (E - p) := nI_sub hE
  by_cases h4 : E - p ≤ 9
  · have e4 : nI (E - p) ≤ 9 := nI_le (b := 9) h4 (by omega)
    rw [if_pos h4, ← w_b265 (h := sAi h (q 4) T 1) hM go hT]
    simp only [X9_cutAll_b129, X9_cutAll_b148, aN, kA201, kA202, kA203, kA206, kA306, i1n0, i0n1, i0e0, i1e1, gI, gR, pI, pB, pR, xI, xL, vc, kd_sFi, fr_sFi, ln_sFi, ai_sFi, al_sFi, ar_sFi, cs_sFi, sz_sFi, sz_sAi, kd_sAi, fi_sAi, fr_sAi, ln_sAi, al_sAi, ar_sAi, cs_sAi, kd_wz, fi_wz, fr_wz, ln_wz, ai_wz, al_wz, ar_wz, Option.bind_some, if_true, if_false, Nat.reduceAdd, Nat.reduceMul, reduceIte, and_self, true_and, and_true, hkm, r4, k4, l4, es, e4, w_y4 hM hT]
  · have e4 : ¬ nI (E - p) ≤ 9 := nI_ge (a := 9) (by omega) (by omega)
    rw [if_neg h4, ← w_b265 (h := sAi h (q 4) T 4) hM go hT]
    simp only [X9_cutAll_b129, X9_cutAll_b148, aN, kA201, kA202, kA203, kA206, kA306, i1n0, i0n1, i0e0, i1e1, gI, gR, pI, pB, pR, xI, xL, vc, kd_sFi, fr_sFi, ln_sFi, ai_sFi, al_sFi, ar_sFi, cs_sFi, sz_sFi, sz_sAi, kd_sAi, fi_sAi, fr_sAi, ln_sAi, al_sAi, ar_sAi, cs_sAi, kd_wz, fi_wz, fr_wz, ln_wz, ai_wz, al_wz, ar_wz, Option.bind_some, if_true, if_false, Nat.reduceAdd, Nat.reduceMul, reduceIte, and_self, true_and, and_true, hkm, r4, k4, l4, es, e4, w_y4 hM hT]
theorem w_b261 {h : HS} (hM : SMA q am h) (go : Int32 → Int32 → HS → Option HS) {T p : Nat} (hT : T < 602) (s : Int32) (v : Int64) : X9_cutAll_b261 am go (nI T) (nI p) v s (nI T) (some (q 4)) h = go (nI (T + 1)) (nI (p + 1)) (sAl (sAi h (q 4) T s) (q 6) T v) := by
  have e7 : nI p + 1 = nI (p + 1) := nI_add p 1
  rw [← w_b265 (h := sAi h (q 4) T s) hM go hT]
  simp only [X9_cutAll_b261, w_y4 hM hT, Option.bind_some, e7]
/-- a token by the reference, at p -/
theorem w_tok {h : HS} (hM : SMA q am h) {sg : Nat → Nat} (hTp : Tp9 am q sg tl h) {p T F : Nat} (hp : p < tl) (hT : T < 602) (h10 : sg p ≠ 10) (h32 : sg p ≠ 32) :
    (∀ E, isL (sg p) → p < E → E ≤ tl → (∀ j, p ≤ j → j < E → isL (sg j)) → (E = tl ∨ ¬ isL (sg E)) → X9_cutAll_L17 am (F + 1) (nI T) (nI p) h = X9_cutAll_L17 am F (nI (T + 1)) (nI E) (hT9 q h T (nI p) (if E - p ≤ 9 then 1 else 4) (lN (hvl sg p (min 9 (E - p)))))) ∧
    (∀ E, isD (sg p) → p < E → E ≤ tl → (∀ j, p ≤ j → j < E → isD (sg j)) → (E = tl ∨ ¬ isD (sg E)) → X9_cutAll_L17 am (F + 1) (nI T) (nI p) h = X9_cutAll_L17 am F (nI (T + 1)) (nI E) (hT9 q h T (nI p) (if E - p ≤ 4 then 2 else 4) (lN (nvl sg p (min 4 (E - p)))))) ∧
    (¬ isL (sg p) → ¬ isD (sg p) → X9_cutAll_L17 am (F + 1) (nI T) (nI p) h = X9_cutAll_L17 am F (nI (T + 1)) (nI (p + 1)) (hT9 q h T (nI p) (if ssG (nI (sg p)) = 0 then 4 else 3) (nI (sg p)).toInt64)) := by
  have ht6 := hTp.1
  have hkm : kd h am = 11 := hM.1
  have f3 : fi h 1003 am = nI tl := hTp.2.1
  have r1 : fr h 1001 am = some (q 1) := (hM.2.1 (1, 201, 600) (by decide)).1
  have k1 : kd h (q 1) = 201 := (hM.2.1 (1, 201, 600) (by decide)).2.1
  have l1 : ln h (q 1) = 600 := (hM.2.1 (1, 201, 600) (by decide)).2.2
  have r4 : fr h 1004 am = some (q 4) := (hM.2.1 (4, 201, 602) (by decide)).1
  have k4 : kd h (q 4) = 201 := (hM.2.1 (4, 201, 602) (by decide)).2.1
  have l4 : ln h (q 4) = 602 := (hM.2.1 (4, 201, 602) (by decide)).2.2
  have r5 : fr h 1005 am = some (q 5) := (hM.2.1 (5, 201, 602) (by decide)).1
  have k5 : kd h (q 5) = 201 := (hM.2.1 (5, 201, 602) (by decide)).2.1
  have l5 : ln h (q 5) = 602 := (hM.2.1 (5, 201, 602) (by decide)).2.2
  obtain ⟨v1, h126⟩ := hTp.2.2 p hp
  have hs : ai h (q 1) p = nI (sg p) := v1
  have cl : (nI p).toNatClampNeg = p := nI_cl (N := 600) (by omega) (by omega)
  have ib : inB (nI p) 600 = true := inB_nI (by omega) (by omega)
  have clT : (nI T).toNatClampNeg = T := nI_cl hT (by omega)
  have ibT : inB (nI T) 602 = true := inB_nI hT (by omega)
  have e1 : ¬ nI tl ≤ nI p := nI_ge hp (by omega)
  have n10 : (nI (sg p) = 10) = False := eq_false fun z => h10 ((nI_eq (b := 10) (by omega) (by omega)).mp z)
  have n32 : (nI (sg p) = 32) = False := eq_false fun z => h32 ((nI_eq (b := 32) (by omega) (by omega)).mp z)
  have hM1 : SMA q am (sAi h (q 5) T (nI p)) := hM
  have e5 : mv q (sAi h (q 5) T (nI p)) = up2 (mv q h) 5 T (nI p) := mv_sAi hM.2.2
  have hT1 : Tp9 am q sg tl (sAi h (q 5) T (nI p)) := ⟨hTp.1, hTp.2.1, by rw [e5, up2_ne1' (by decide)]; exact hTp.2.2⟩
  have eL := e_isL9 (x := sg p) (by omega) (sAi h (q 5) T (nI p))
  have eD := e_isD9 (x := sg p) (by omega) (sAi h (q 5) T (nI p))
  refine ⟨fun E hl hpE hE hd hx => ?_, fun E hl hpE hE hd hx => ?_, fun hl hdg => ?_⟩
  · rw [if_pos hl] at eL
    have hw := w_word (T := T) (X9_cutAll_L17 am F) hM1 hT1 hE hd hx (E - p) p (by omega) (Nat.le_refl _) FU (by unfold FU; omega)
    rw [Nat.sub_self, w_b129 hM1 _ hT (by omega) (by omega)] at hw
    have hw' : X9_cutAll_L70 am (X9_cutAll_L17 am F) FU (nI T) (nI p) (nI p) 0 (sAi h (q 5) T (nI p)) = X9_cutAll_L17 am F (nI (T + 1)) (nI E) (hT9 q h T (nI p) (if E - p ≤ 9 then 1 else 4) (lN (hvl sg p (min 9 (E - p))))) := hw
    rw [← hw']
    conv => lhs; unfold X9_cutAll_L17
    simp only [aN, kA201, kA202, kA203, kA206, kA306, i1n0, i0n1, i0e0, i1e1, gI, gR, pI, pB, pR, xI, xL, yI, yL, vc, kd_sFi, fr_sFi, ln_sFi, ai_sFi, al_sFi, ar_sFi, cs_sFi, sz_sFi, sz_sAi, kd_sAi, fi_sAi, fr_sAi, ln_sAi, al_sAi, ar_sAi, cs_sAi, kd_wz, fi_wz, fr_wz, ln_wz, ai_wz, al_wz, ar_wz, Option.bind_some, if_true, if_false, Nat.reduceAdd, Nat.reduceMul, reduceIte, and_self, true_and, and_true, hkm, f3, e1, r1, k1, l1, r4, k4, l4, r5, k5, l5, cl, ib, clT, ibT, hs, n10, n32, nar_i32, eL]
  · have hnl : ¬ (97 ≤ sg p ∧ sg p ≤ 122) := fun z => by have := hl.2; omega
    rw [if_neg hnl] at eL
    rw [if_pos hl] at eD
    have hw := w_num (T := T) (X9_cutAll_L17 am F) hM1 hT1 hE hd hx (E - p) p (by omega) (Nat.le_refl _) FU (by unfold FU; omega)
    rw [Nat.sub_self, w_b218 hM1 _ hT (by omega) (by omega)] at hw
    have hw' : X9_cutAll_L159 am (X9_cutAll_L17 am F) FU (nI T) (nI p) (nI p) 0 (sAi h (q 5) T (nI p)) = X9_cutAll_L17 am F (nI (T + 1)) (nI E) (hT9 q h T (nI p) (if E - p ≤ 4 then 2 else 4) (lN (nvl sg p (min 4 (E - p))))) := hw
    rw [← hw']
    conv => lhs; unfold X9_cutAll_L17
    simp only [aN, kA201, kA202, kA203, kA206, kA306, i1n0, i0n1, i0e0, i1e1, gI, gR, pI, pB, pR, xI, xL, yI, yL, vc, kd_sFi, fr_sFi, ln_sFi, ai_sFi, al_sFi, ar_sFi, cs_sFi, sz_sFi, sz_sAi, kd_sAi, fi_sAi, fr_sAi, ln_sAi, al_sAi, ar_sAi, cs_sAi, kd_wz, fi_wz, fr_wz, ln_wz, ai_wz, al_wz, ar_wz, Option.bind_some, if_true, if_false, Nat.reduceAdd, Nat.reduceMul, reduceIte, and_self, true_and, and_true, hkm, f3, e1, r1, k1, l1, r4, k4, l4, r5, k5, l5, cl, ib, clT, ibT, hs, n10, n32, nar_i32, eL, eD]
  · rw [if_neg hl] at eL
    rw [if_neg hdg] at eD
    have hb := fun s v => w_b261 (p := p) hM1 (X9_cutAll_L17 am F) hT s v
    show _ = X9_cutAll_L17 am F (nI (T + 1)) (nI (p + 1)) (sAl (sAi (sAi h (q 5) T (nI p)) (q 4) T (if ssG (nI (sg p)) = 0 then 4 else 3)) (q 6) T (nI (sg p)).toInt64)
    rw [← hb]
    conv => lhs; unfold X9_cutAll_L17
    by_cases hz : ssG (nI (sg p)) = 0
    · simp only [aN, kA201, kA202, kA203, kA206, kA306, i1n0, i0n1, i0e0, i1e1, gI, gR, pI, pB, pR, xI, xL, yI, yL, vc, kd_sFi, fr_sFi, ln_sFi, ai_sFi, al_sFi, ar_sFi, cs_sFi, sz_sFi, sz_sAi, kd_sAi, fi_sAi, fr_sAi, ln_sAi, al_sAi, ar_sAi, cs_sAi, kd_wz, fi_wz, fr_wz, ln_wz, ai_wz, al_wz, ar_wz, Option.bind_some, if_true, if_false, Nat.reduceAdd, Nat.reduceMul, reduceIte, and_self, true_and, and_true, hkm, f3, e1, r1, k1, l1, r4, k4, l4, r5, k5, l5, cl, ib, clT, ibT, hs, n10, n32, nar_i32, eL, eD, e_isSignOf, hz]
    · simp only [aN, kA201, kA202, kA203, kA206, kA306, i1n0, i0n1, i0e0, i1e1, gI, gR, pI, pB, pR, xI, xL, yI, yL, vc, kd_sFi, fr_sFi, ln_sFi, ai_sFi, al_sFi, ar_sFi, cs_sFi, sz_sFi, sz_sAi, kd_sAi, fi_sAi, fr_sAi, ln_sAi, al_sAi, ar_sAi, cs_sAi, kd_wz, fi_wz, fr_wz, ln_wz, ai_wz, al_wz, ar_wz, Option.bind_some, if_true, if_false, Nat.reduceAdd, Nat.reduceMul, reduceIte, and_self, true_and, and_true, hkm, f3, e1, r1, k1, l1, r4, k4, l4, r5, k5, l5, cl, ib, clT, ibT, hs, n10, n32, nar_i32, eL, eD, e_isSignOf, hz]
end TOK2
