section SHARE4
variable {ax ao am : Nat} {ad : Nat → Nat → Nat} {n e pO fO q tm : Nat → Nat} {tx : Nat → List (Int32 × List Int32)} {w : Nat} {pn : Nat → Nat} {nw : Nat → Nat → Nat} {fs : Nat → Nat} {ls : Nat → Option Nat} {rs rl pr : Nat → Nat} {tl : Nat} {hx hm : HS}
def FrS (q : Nat → Nat) (h h' : HS) : Prop := SameS h h' ∧ (∀ k, (k ≠ 52 ∧ k ≠ 53) → mv q h' k = mv q h k) ∧ fi h' = fi h
theorem FrS.tr {a b c : HS} (h1 : FrS q a b) (h2 : FrS q b c) : FrS q a c := ⟨h1.1.tr h2.1, fun k hk => (h2.2.1 k hk).trans (h1.2.1 k hk), h2.2.2.trans h1.2.2⟩
theorem sh_mem {h : HS} (hM : SMA q am h) (k : Nat) (x y : Int32) : mv q (sAi (sAi h (q 53) k x) (q 52) k y) 53 = va_up (mv q h 53) k x ∧ mv q (sAi (sAi h (q 53) k x) (q 52) k y) 52 = va_up (mv q h 52) k y ∧ FrS q h (sAi (sAi h (q 53) k x) (q 52) k y) ∧ SMA q am (sAi (sAi h (q 53) k x) (q 52) k y) := by
  have hq : ∀ k k', q k = q k' → k = k' := hM.2.2
  have em : mv q (sAi (sAi h (q 53) k x) (q 52) k y) = up2 (up2 (mv q h) 53 k x) 52 k y := by rw [mv_sAi hq, mv_sAi hq]
  refine ⟨?_, ?_, ⟨SameS_sAi (SameS_sAi (SameS.rf h)), fun k' hk => ?_, rfl⟩, hM⟩
  · rw [em]; funext i; simp [up2, va_up]
  · rw [em]; funext i; simp [up2, va_up]
  · rw [em]; funext i; simp [up2, hk.1, hk.2]
theorem sh_pick {r0 r1 r2 : Nat} (h0 : r0 < 1000) (h1 : r1 < 1000) (h2 : r2 < 1000) {a : Nat} (ha : a < 3) (r : Nat → Nat) (e0 : r 0 = r0) (e1 : r 1 = r1) (e2 : r 2 = r2) :
    (plc r a < 1 ↔ a = pk3 (nI r0) (nI r1) (nI r2)) ∧
    (plc r a < 2 ↔ (a = pk3 (nI r0) (nI r1) (nI r2) ∨ a = pk3 (va_up (fun k => nI (r k)) (pk3 (nI r0) (nI r1) (nI r2)) (-1) 0) (va_up (fun k => nI (r k)) (pk3 (nI r0) (nI r1) (nI r2)) (-1) 1) (va_up (fun k => nI (r k)) (pk3 (nI r0) (nI r1) (nI r2)) (-1) 2))) ∧
    pk3 (nI r0) (nI r1) (nI r2) ≠ pk3 (va_up (fun k => nI (r k)) (pk3 (nI r0) (nI r1) (nI r2)) (-1) 0) (va_up (fun k => nI (r k)) (pk3 (nI r0) (nI r1) (nI r2)) (-1) 1) (va_up (fun k => nI (r k)) (pk3 (nI r0) (nI r1) (nI r2)) (-1) 2) := by
  have l10 : nI r1 ≤ nI r0 ↔ r1 ≤ r0 := nI_leI (by omega) (by omega)
  have l20 : nI r2 ≤ nI r0 ↔ r2 ≤ r0 := nI_leI (by omega) (by omega)
  have l21 : nI r2 ≤ nI r1 ↔ r2 ≤ r1 := nI_leI (by omega) (by omega)
  have neg : ∀ x : Nat, x < 1000 → ¬ nI x ≤ -1 := fun x hx => Int32.not_le.mpr (Int32.lt_of_lt_of_le (by decide) (nI_pos' (by omega)))
  have pos : ∀ x : Nat, x < 1000 → (-1 : Int32) ≤ nI x := fun x hx => Int32.le_of_lt (Int32.lt_of_lt_of_le (by decide) (nI_pos' (by omega)))
  have n0 := neg r0 h0
  have n1 := neg r1 h1
  have n2 := neg r2 h2
  have p0 := pos r0 h0
  have p1 := pos r1 h1
  have p2 := pos r2 h2
  have nn : (-1 : Int32) ≤ -1 := by decide
  rcases (show a = 0 ∨ a = 1 ∨ a = 2 by omega) with rfl | rfl | rfl <;>
  by_cases g1 : r1 ≤ r0 <;> by_cases g2 : r2 ≤ r0 <;> by_cases g3 : r2 ≤ r1 <;>
  simp [pk3, va_up, plc, plc1, e0, e1, e2, l10, l20, l21, n0, n1, n2, p0, p1, p2, nn, g1, g2, g3] <;> (try split) <;> (try split) <;> (try split) <;> (try simp) <;> omega
theorem sh_L160 {h : HS} (hM : SMA q am h) {a l F : Nat} (ha : a < 3) (hl : l < 3) {C r : Nat → Nat} (hr : ∀ k, k < 3 → r k < 1000) (h53 : ∀ k, k < 3 → mv q h 53 k = nI (C k)) (h52 : ∀ k, k < 3 → mv q h 52 k = nI (r k)) : ∃ h', X9_share_L160 am (F + 1 + 1 + 1) (nI a) (nI l) h = some (nI (C a + (if plc r a < l then 1 else 0)), h') ∧ FrS q h h' := by
  obtain ⟨P1, P2, P3⟩ := sh_pick (hr 0 (by decide)) (hr 1 (by decide)) (hr 2 (by decide)) ha r rfl rfl rfl
  have q0 := h52 0 (by decide)
  have q1 := h52 1 (by decide)
  have q2 := h52 2 (by decide)
  have pl := pk3_lt (nI (r 0)) (nI (r 1)) (nI (r 2))
  have e1 : ∀ x, nI x + 1 = nI (x + 1) := fun x => nI_add x 1
  rcases (show l = 0 ∨ l = 1 ∨ l = 2 by omega) with rfl | rfl | rfl
  · refine ⟨h, ?_, SameS.rf h, fun _ _ => rfl, rfl⟩
    rw [sh_end hM ha, h53 a ha, if_neg (by omega), Nat.add_zero]
  · rw [sh_round hM (by decide), q0, q1, q2]
    obtain ⟨m1, m2, m3, m4⟩ := sh_mem hM (pk3 (nI (r 0)) (nI (r 1)) (nI (r 2))) (mv q h 53 (pk3 (nI (r 0)) (nI (r 1)) (nI (r 2))) + 1) (-1)
    refine ⟨_, ?_, m3⟩
    rw [sh_end m4 ha, m1]
    by_cases hp : plc r a < 1
    · rw [if_pos hp]
      have := P1.mp hp
      rw [← this, va_up_same, h53 a ha, e1]
    · rw [if_neg hp, Nat.add_zero, va_upN _ _ (fun z => hp (P1.mpr z)), h53 a ha]
  · rw [sh_round hM (by decide), q0, q1, q2]
    obtain ⟨m1, m2, m3, m4⟩ := sh_mem hM (pk3 (nI (r 0)) (nI (r 1)) (nI (r 2))) (mv q h 53 (pk3 (nI (r 0)) (nI (r 1)) (nI (r 2))) + 1) (-1)
    rw [sh_round m4 (by decide)]
    have w0 : mv q (sAi (sAi h (q 53) (pk3 (nI (r 0)) (nI (r 1)) (nI (r 2))) (mv q h 53 (pk3 (nI (r 0)) (nI (r 1)) (nI (r 2))) + 1)) (q 52) (pk3 (nI (r 0)) (nI (r 1)) (nI (r 2))) (-1)) 52 = va_up (mv q h 52) (pk3 (nI (r 0)) (nI (r 1)) (nI (r 2))) (-1) := m2
    have w1 : ∀ j, j < 3 → va_up (mv q h 52) (pk3 (nI (r 0)) (nI (r 1)) (nI (r 2))) (-1) j = va_up (fun k => nI (r k)) (pk3 (nI (r 0)) (nI (r 1)) (nI (r 2))) (-1) j := fun j hj => by
      by_cases hjp : j = pk3 (nI (r 0)) (nI (r 1)) (nI (r 2))
      · rw [hjp, va_up_same, va_up_same]
      · rw [va_upN _ _ hjp, va_upN _ _ hjp]; exact h52 j hj
    rw [w0, w1 0 (by decide), w1 1 (by decide), w1 2 (by decide)]
    obtain ⟨o1, o2, o3, o4⟩ := sh_mem m4 (pk3 (va_up (fun k => nI (r k)) (pk3 (nI (r 0)) (nI (r 1)) (nI (r 2))) (-1) 0) (va_up (fun k => nI (r k)) (pk3 (nI (r 0)) (nI (r 1)) (nI (r 2))) (-1) 1) (va_up (fun k => nI (r k)) (pk3 (nI (r 0)) (nI (r 1)) (nI (r 2))) (-1) 2)) (mv q (sAi (sAi h (q 53) (pk3 (nI (r 0)) (nI (r 1)) (nI (r 2))) (mv q h 53 (pk3 (nI (r 0)) (nI (r 1)) (nI (r 2))) + 1)) (q 52) (pk3 (nI (r 0)) (nI (r 1)) (nI (r 2))) (-1)) 53 (pk3 (va_up (fun k => nI (r k)) (pk3 (nI (r 0)) (nI (r 1)) (nI (r 2))) (-1) 0) (va_up (fun k => nI (r k)) (pk3 (nI (r 0)) (nI (r 1)) (nI (r 2))) (-1) 1) (va_up (fun k => nI (r k)) (pk3 (nI (r 0)) (nI (r 1)) (nI (r 2))) (-1) 2)) + 1) (-1)
    refine ⟨_, ?_, m3.tr o3⟩
    rw [sh_end o4 ha, o1, m1]
    by_cases hp : plc r a < 2
    · rw [if_pos hp]
      rcases P2.mp hp with z | z
      · rw [va_upN _ _ (fun y => P3 (z.symm.trans y)), ← z, va_up_same, h53 a ha, e1]
      · rw [← z, va_up_same, va_upN _ _ (fun y => P3 (y.symm.trans z)), h53 a ha, e1]
    · rw [if_neg hp, Nat.add_zero, va_upN _ _ (fun z => hp (P2.mpr (Or.inr z))), va_upN _ _ (fun z => hp (P2.mpr (Or.inl z))), h53 a ha]
theorem e_share9L {h : HS} (hM : SMA q am h) {f a I : Nat} {s : Nat → Nat} (hf : f < 10) (ha : a < 3) (hI : I < 2 ^ 31) (h28 : ∀ k, k < 3 → mv q h 28 (3 * f + k) = nI (s k)) (hs : ∀ k, k < 3 → s k ≤ 100) (hp : 1 ≤ s 0 + s 1 + s 2) (F : Nat) : ∃ h', X9_share_L84 am (F + 1 + 1 + 1 + 1) (nI f) (nI a) (nI (s 0 + s 1 + s 2)) (nI I) (lN I) (nI 0) h = some (nI (I * s a / (s 0 + s 1 + s 2) + (if plc (fun k => I * s k % (s 0 + s 1 + s 2)) a < I - (I * s 0 / (s 0 + s 1 + s 2) + I * s 1 / (s 0 + s 1 + s 2) + I * s 2 / (s 0 + s 1 + s 2)) then 1 else 0)), h') ∧ FrS q h h' := by
  have lf := left_facts (I := I) (S := s 0 + s 1 + s 2) rfl (by omega)
  have b0 := hs 0 (by decide)
  have b1 := hs 1 (by decide)
  have b2 := hs 2 (by decide)
  have hrr : ∀ k, k < 3 → I * s k % (s 0 + s 1 + s 2) < 1000 := fun k _ => by
    have := Nat.mod_lt (I * s k) (show s 0 + s 1 + s 2 > 0 by omega)
    omega
  obtain ⟨C, hC⟩ : ∃ C : Nat → Nat, C = fun k => I * s k / (s 0 + s 1 + s 2) := ⟨_, rfl⟩
  obtain ⟨R, hR⟩ : ∃ R : Nat → Nat, R = fun k => I * s k % (s 0 + s 1 + s 2) := ⟨_, rfl⟩
  have hCk : ∀ k, C k = I * s k / (s 0 + s 1 + s 2) := fun k => by rw [hC]
  have hRk : ∀ k, R k = I * s k % (s 0 + s 1 + s 2) := fun k => by rw [hR]
  rw [← hCk 0, ← hCk 1, ← hCk 2] at lf ⊢
  rw [← hCk a, ← hR]
  obtain ⟨m1, m2, m3, m4⟩ := sh_mem hM 0 (nI (C 0)) (nI (R 0))
  obtain ⟨n1, n2, n3, n4⟩ := sh_mem m4 1 (nI (C 1)) (nI (R 1))
  obtain ⟨o1, o2, o3, o4⟩ := sh_mem n4 2 (nI (C 2)) (nI (R 2))
  rw [sh_step hM hf (k := 0) (by decide) (h28 0 (by decide)) (hs 0 (by decide)) hI (by omega) (by omega) (hCk 0) (hRk 0) (by omega)]
  rw [sh_step m4 hf (k := 1) (by decide) (by rw [m3.2.1 28 (by decide)]; exact h28 1 (by decide)) (hs 1 (by decide)) hI (by omega) (by omega) (hCk 1) (hRk 1) (by omega)]
  rw [sh_step n4 hf (k := 2) (by decide) (by rw [n3.2.1 28 (by decide), m3.2.1 28 (by decide)]; exact h28 2 (by decide)) (hs 2 (by decide)) hI (by omega) (by omega) (hCk 2) (hRk 2) (by omega)]
  have l3 : (3 : Int32) ≤ nI 3 := by decide
  have hfu : FU = 997 + 1 + 1 + 1 := rfl
  have hll : I - C 0 - C 1 - C 2 = I - (C 0 + C 1 + C 2) := by omega
  rw [X9_share_L84]
  simp only [l3, if_true, hfu, hll]
  obtain ⟨h', q1, q2⟩ := sh_L160 o4 ha lf.2 (C := C) (r := R) (F := 997) (fun k hk => by rw [hRk]; exact hrr k hk) (fun k hk => by
      rw [o1, n1, m1]
      rcases (show k = 0 ∨ k = 1 ∨ k = 2 by omega) with rfl | rfl | rfl <;> simp [va_up]) (fun k hk => by
      rw [o2, n2, m2]
      rcases (show k = 0 ∨ k = 1 ∨ k = 2 by omega) with rfl | rfl | rfl <;> simp [va_up])
  exact ⟨h', q1, (m3.tr (n3.tr o3)).tr q2⟩
theorem op_share (a b : Int32) : StI (PP ax am ao) (m_X8_share ax a b) (m_X9_share am a b) := by
  rintro hx hm ⟨ad, n, e, pO, fO, q, tm, tx, w, pn, nw, fs, ls, rs, rl, pr, tl, hS, hM, hN, hF, hP, hC, hB, hT, hX, hW⟩
  have hka := kax hS
  have hkm : kd hm am = 11 := hM.1
  have hn := n_le hS
  have hI := hS.2.1
  have hq : ∀ k k', q k = q k' → k = k' := hM.2.2
  have hw : w ≤ 200 := hN.1
  have f909 : fi hx 909 ax = nI w := by
    have h1 := hN.2.1
    rw [← cf_at (g := 909) (n := n) (t := 9) (by decide) (by rw [hS.1.2.2.2.2.2.1]; decide), hS.2.2.2.2.1.1] at h1
    exact h1
  have i24 : fi hm 1024 am = nI w := hN.2.2.1
  have h25 : mf am hm 25 = nI (n 2) := hN.2.2.2.1
  have h34 : mf am hm 34 = nI (n 3) := hN.2.2.2.2.1
  have h39 : mf am hm 39 = nI (n 1) := hN.2.2.2.2.2.1
  have r28 : fr hm 1028 am = some (q 28) := (hM.2.1 (28, 201, 30) (by decide)).1
  have k28 : kd hm (q 28) = 201 := (hM.2.1 (28, 201, 30) (by decide)).2.1
  have l28 : ln hm (q 28) = 30 := (hM.2.1 (28, 201, 30) (by decide)).2.2
  have r33 : fr hm 1033 am = some (q 33) := (hM.2.1 (33, 201, 10) (by decide)).1
  have k33 : kd hm (q 33) = 201 := (hM.2.1 (33, 201, 10) (by decide)).2.1
  have l33 : ln hm (q 33) = 10 := (hM.2.1 (33, 201, 10) (by decide)).2.2
  rcases idx a (n 2) (by omega) with ⟨f, hf, rfl⟩ | ho
  · have kj : kd hx (ad 2 f) = 3 := k0 hS hf
    have e1 := e_isFeature_in (hm := sFi (wz hm (sz hx)) 1000 am 0) hkm h25 (by omega) hf
    by_cases hb : Wi b 0 2
    · obtain ⟨t, rfl, ht⟩ := nI_val (b := 2) hb (by omega)
      obtain ⟨a1, a2, a3, a4, ⟨s0, s1, s2, z0, z1, z2, y0, y1, y2, yp⟩, a6, a7, a8, a9, a10, a11, a12, a13, a14, a15⟩ := hF.1 f hf
      obtain ⟨s, hs⟩ : ∃ s : Nat → Nat, s = fun k => if k = 0 then s0 else if k = 1 then s1 else s2 := ⟨_, rfl⟩
      have hs0 : s 0 = s0 := by rw [hs]; rfl
      have hs1 : s 1 = s1 := by rw [hs]; rfl
      have hs2 : s 2 = s2 := by rw [hs]; rfl
      have h28 : ∀ k, k < 3 → mv q hm 28 (3 * f + k) = nI (s k) := fun k hk => by
        rcases (show k = 0 ∨ k = 1 ∨ k = 2 by omega) with rfl | rfl | rfl
        · rw [hs0]; exact z0
        · rw [hs1]; exact z1
        · rw [hs2]; exact z2
      have hle : ∀ k, k < 3 → s k ≤ 100 := fun k hk => by
        rcases (show k = 0 ∨ k = 1 ∨ k = 2 by omega) with rfl | rfl | rfl <;> omega
      have cl : (nI f).toNatClampNeg = f := nI_cl hf (by omega)
      have ib : inB (nI f) 10 = true := inB_nI (by omega) (by omega)
      have e0 : (3 : Int32) * nI f = nI (3 * f) := nI_mul 3 f
      have e1' : nI (3 * f) + 1 = nI (3 * f + 1) := nI_add _ 1
      have e2' : nI (3 * f) + 2 = nI (3 * f + 2) := nI_add _ 2
      have c0 : (nI (3 * f)).toNatClampNeg = 3 * f := nI_cl (N := 30) (by omega) (by omega)
      have c1 : (nI (3 * f + 1)).toNatClampNeg = 3 * f + 1 := nI_cl (N := 30) (by omega) (by omega)
      have c2 : (nI (3 * f + 2)).toNatClampNeg = 3 * f + 2 := nI_cl (N := 30) (by omega) (by omega)
      have b0 : inB (nI (3 * f)) 30 = true := inB_nI (by omega) (by omega)
      have b1 : inB (nI (3 * f + 1)) 30 = true := inB_nI (by omega) (by omega)
      have b2 : inB (nI (3 * f + 2)) 30 = true := inB_nI (by omega) (by omega)
      have v0 : ai hm (q 28) (3 * f) = nI (s 0) := h28 0 (by decide)
      have v1 : ai hm (q 28) (3 * f + 1) = nI (s 1) := h28 1 (by decide)
      have v2 : ai hm (q 28) (3 * f + 2) = nI (s 2) := h28 2 (by decide)
      have hfu : FU = 996 + 1 + 1 + 1 + 1 := rfl
      have fin : ∀ r hm', m_X8_share ax (nI f) (nI t) hx = some (r, hx) → m_X9_share am (nI f) (nI t) (wz hm (sz hx)) = some (r, hm') → FrS q (sFi (wz hm (sz hx)) 1000 am 0) hm' → ∃ r hx' hm', m_X8_share ax (nI f) (nI t) hx = some (r, hx') ∧ m_X9_share am (nI f) (nI t) (wz hm (sz hx')) = some (r, hm') ∧ sz hm' = sz hx' ∧ PP ax am ao hx' hm' := by
        intro r hm' h1 h2 h3
        refine ⟨r, hx, hm', h1, h2, h3.1.2.2.2.2.2.1, ad, n, e, pO, fO, q, tm, tx, w, pn, nw, fs, ls, rs, rl, pr, tl, ?_⟩
        have mo : ∀ k, (k ≠ 52 ∧ k ≠ 53) → mv q hm' k = mv q hm k := fun k hk => h3.2.1 k hk
        have io : ∀ k, k ≠ 0 → mf am hm' k = mf am hm k := fun k hk => by
          unfold mf
          rw [h3.2.2, fi_sFi, up2_ne1 _ _ _ _ (by omega)]; rfl
        unfold PQ
        simp only [io 10 (by decide), io 11 (by decide), io 24 (by decide), io 25 (by decide), io 34 (by decide), io 39 (by decide), io 2 (by decide), mo 26 (by decide), mo 27 (by decide), mo 28 (by decide), mo 29 (by decide), mo 30 (by decide), mo 31 (by decide), mo 32 (by decide), mo 33 (by decide), mo 35 (by decide), mo 36 (by decide), mo 37 (by decide), mo 38 (by decide), mo 40 (by decide), mo 41 (by decide), mo 42 (by decide), mo 43 (by decide), mo 44 (by decide), mo 45 (by decide), mo 46 (by decide), mo 47 (by decide), mo 48 (by decide), mo 49 (by decide), mo 50 (by decide), mo 51 (by decide), mo 1 (by decide), mo 12 (by decide), mo 13 (by decide), mo 14 (by decide), mo 15 (by decide), mo 16 (by decide)]
        have hW' : ml q hm' 9 = ml q hm 9 := congrFun (ml_same h3.1) 9
        rw [hW']
        exact ⟨hS, SMA_same h3.1 hM, hN, hF, hP, hC, hB, hT, hX, hW⟩
      by_cases hinc : 0 < mv q hm 33 f
      · obtain ⟨I, hI31, hIe⟩ := nI_of (show ¬ mv q hm 33 f < 0 from fun z => absurd (Int32.lt_trans hinc z) (by decide))
        have hIp : 0 < I := by
          rw [hIe] at hinc
          exact (nI_ltI (a := 0) (b := I) (by omega) hI31).mp hinc
        have hSh : ShF ad n hx f I s := ⟨hf, by rw [a12, hIe], hI31, fun j hj => by rw [a4 j hj]; exact h28 j hj, hle, by omega⟩
        have hcoin := e_coins hS hSh hIp (a := t) (by omega)
        obtain ⟨hm', q1, q2⟩ := e_share9L (h := sFi (wz hm (sz hx)) 1000 am 0) (f := f) (a := t) (I := I) (s := s) hM (by omega) (by omega) hI31 h28 hle (by omega) 996
        refine fin (nI (I * s t / (s 0 + s 1 + s 2) + (if plc (fun k => I * s k % (s 0 + s 1 + s 2)) t < I - (I * s 0 / (s 0 + s 1 + s 2) + I * s 1 / (s 0 + s 1 + s 2) + I * s 2 / (s 0 + s 1 + s 2)) then 1 else 0))) hm' ?_ ?_ q2
        · simp only [m_X8_share, hka, e_featureAt_in hS hf, e_within, wi_pos hb, aN, kA201, kA202, kA203, kA206, kA306, i1n0, i0n1, i0e0, i1e1, gI, gR, pI, pB, pR, xI, xL, yI, yL, vc, kd_sFi, fr_sFi, ln_sFi, ai_sFi, al_sFi, ar_sFi, cs_sFi, sz_sFi, sz_sAi, kd_sAi, fi_sAi, fr_sAi, ln_sAi, al_sAi, ar_sAi, cs_sAi, kd_wz, fi_wz, fr_wz, ln_wz, ai_wz, al_wz, ar_wz, Option.bind_some, if_true, if_false, Nat.reduceAdd, Nat.reduceMul, reduceIte, and_self, true_and, and_true, reduceCtorEq, kj, hcoin]
        · have m33 : ai hm (q 33) f = nI I := hIe
          have hge : 0 ≤ nI I := nI_pos' hI31
          have tI : (nI I).toInt64 = lN I := nI_l hI31
          simp only [m_X9_share, X9_share_b74, aN, kA201, kA202, kA203, kA206, kA306, i1n0, i0n1, i0e0, i1e1, gI, gR, pI, pB, pR, xI, xL, yI, yL, vc, kd_sFi, fr_sFi, ln_sFi, ai_sFi, al_sFi, ar_sFi, cs_sFi, sz_sFi, sz_sAi, kd_sAi, fi_sAi, fr_sAi, ln_sAi, al_sAi, ar_sAi, cs_sAi, kd_wz, fi_wz, fr_wz, ln_wz, ai_wz, al_wz, ar_wz, Option.bind_some, if_true, if_false, Nat.reduceAdd, Nat.reduceMul, reduceIte, and_self, true_and, and_true, hkm, e1, e_within9, wi_pos hb, r28, k28, l28, r33, k33, l33, e0, e1', e2', c0, c1, c2, b0, b1, b2, v0, v1, v2, cl, ib, m33, hge, tI, nI_add]
          rw [hfu]
          exact q1
      · have h208 : fi hx 208 (ad 2 f) = mv q hm 33 f := by rw [cf_at (g := 208) (n := n) (t := 2) (by decide) hf]; exact a12
        have hcoin : m_X1_coinsOf (ad 2 f) (nI t) hx = some (0, hx) := by
          simp only [m_X1_coinsOf, aN, kA201, kA202, kA203, kA206, kA306, i1n0, i0n1, i0e0, i1e1, gI, gR, pI, pB, pR, xI, xL, yI, yL, vc, kd_sFi, fr_sFi, ln_sFi, ai_sFi, al_sFi, ar_sFi, cs_sFi, sz_sFi, sz_sAi, kd_sAi, fi_sAi, fr_sAi, ln_sAi, al_sAi, ar_sAi, cs_sAi, kd_wz, fi_wz, fr_wz, ln_wz, ai_wz, al_wz, ar_wz, Option.bind_some, if_true, if_false, Nat.reduceAdd, Nat.reduceMul, reduceIte, and_self, true_and, and_true, kj, h208, hinc]
        obtain ⟨hm', q1, q2⟩ := e_share9L (h := sFi (wz hm (sz hx)) 1000 am 0) (f := f) (a := t) (I := 0) (s := s) hM (by omega) (by omega) (by omega) h28 hle (by omega) 996
        have hz : (0 * s t / (s 0 + s 1 + s 2) + (if plc (fun k => 0 * s k % (s 0 + s 1 + s 2)) t < 0 - (0 * s 0 / (s 0 + s 1 + s 2) + 0 * s 1 / (s 0 + s 1 + s 2) + 0 * s 2 / (s 0 + s 1 + s 2)) then 1 else 0)) = 0 := by
          rw [Nat.zero_mul, Nat.zero_div, if_neg (by rw [Nat.zero_sub]; exact Nat.not_lt_zero _)]
        rw [hz] at q1
        refine fin 0 hm' ?_ ?_ q2
        · simp only [m_X8_share, hka, e_featureAt_in hS hf, e_within, wi_pos hb, aN, kA201, kA202, kA203, kA206, kA306, i1n0, i0n1, i0e0, i1e1, gI, gR, pI, pB, pR, xI, xL, yI, yL, vc, kd_sFi, fr_sFi, ln_sFi, ai_sFi, al_sFi, ar_sFi, cs_sFi, sz_sFi, sz_sAi, kd_sAi, fi_sAi, fr_sAi, ln_sAi, al_sAi, ar_sAi, cs_sAi, kd_wz, fi_wz, fr_wz, ln_wz, ai_wz, al_wz, ar_wz, Option.bind_some, if_true, if_false, Nat.reduceAdd, Nat.reduceMul, reduceIte, and_self, true_and, and_true, reduceCtorEq, kj, hcoin]
        · have m33 : ai hm (q 33) f = mv q hm 33 f := rfl
          by_cases hge : 0 ≤ mv q hm 33 f
          · have hz0 : mv q hm 33 f = 0 := Int32.le_antisymm (Int32.not_lt.mp hinc) hge
            rw [hz0] at m33
            simp only [m_X9_share, X9_share_b74, aN, kA201, kA202, kA203, kA206, kA306, i1n0, i0n1, i0e0, i1e1, gI, gR, pI, pB, pR, xI, xL, yI, yL, vc, kd_sFi, fr_sFi, ln_sFi, ai_sFi, al_sFi, ar_sFi, cs_sFi, sz_sFi, sz_sAi, kd_sAi, fi_sAi, fr_sAi, ln_sAi, al_sAi, ar_sAi, cs_sAi, kd_wz, fi_wz, fr_wz, ln_wz, ai_wz, al_wz, ar_wz, Option.bind_some, if_true, if_false, Nat.reduceAdd, Nat.reduceMul, reduceIte, and_self, true_and, and_true, hkm, e1, e_within9, wi_pos hb, r28, k28, l28, r33, k33, l33, e0, e1', e2', c0, c1, c2, b0, b1, b2, v0, v1, v2, cl, ib, m33, Int32.le_refl, nI_add]
            rw [hfu]
            exact q1
          · simp only [m_X9_share, X9_share_b74, aN, kA201, kA202, kA203, kA206, kA306, i1n0, i0n1, i0e0, i1e1, gI, gR, pI, pB, pR, xI, xL, yI, yL, vc, kd_sFi, fr_sFi, ln_sFi, ai_sFi, al_sFi, ar_sFi, cs_sFi, sz_sFi, sz_sAi, kd_sAi, fi_sAi, fr_sAi, ln_sAi, al_sAi, ar_sAi, cs_sAi, kd_wz, fi_wz, fr_wz, ln_wz, ai_wz, al_wz, ar_wz, Option.bind_some, if_true, if_false, Nat.reduceAdd, Nat.reduceMul, reduceIte, and_self, true_and, and_true, hkm, e1, e_within9, wi_pos hb, r28, k28, l28, r33, k33, l33, e0, e1', e2', c0, c1, c2, b0, b1, b2, v0, v1, v2, cl, ib, m33, hge, nI_add]
            rw [hfu]
            exact q1
    · refine ⟨-1, hx, sFi (wz hm (sz hx)) 1000 am 0, ?_, ?_, rfl, ad, n, e, pO, fO, q, tm, tx, w, pn, nw, fs, ls, rs, rl, pr, tl, hS, hM, hN, hF, hP, hC, hB, hT, hX, hW⟩
      · simp only [m_X8_share, hka, e_featureAt_in hS hf, e_within, wi_neg hb, aN, kA201, kA202, kA203, kA206, kA306, i1n0, i0n1, i0e0, i1e1, gI, gR, pI, pB, pR, xI, xL, yI, yL, vc, kd_sFi, fr_sFi, ln_sFi, ai_sFi, al_sFi, ar_sFi, cs_sFi, sz_sFi, sz_sAi, kd_sAi, fi_sAi, fr_sAi, ln_sAi, al_sAi, ar_sAi, cs_sAi, kd_wz, fi_wz, fr_wz, ln_wz, ai_wz, al_wz, ar_wz, Option.bind_some, if_true, if_false, Nat.reduceAdd, Nat.reduceMul, reduceIte, and_self, true_and, and_true, reduceCtorEq]
      · simp only [m_X9_share, aN, kA201, kA202, kA203, kA206, kA306, i1n0, i0n1, i0e0, i1e1, gI, gR, pI, pB, pR, xI, xL, yI, yL, vc, kd_sFi, fr_sFi, ln_sFi, ai_sFi, al_sFi, ar_sFi, cs_sFi, sz_sFi, sz_sAi, kd_sAi, fi_sAi, fr_sAi, ln_sAi, al_sAi, ar_sAi, cs_sAi, kd_wz, fi_wz, fr_wz, ln_wz, ai_wz, al_wz, ar_wz, Option.bind_some, if_true, if_false, Nat.reduceAdd, Nat.reduceMul, reduceIte, and_self, true_and, and_true, hkm, e1, e_within9, wi_neg hb]
  · refine ⟨-1, hx, sFi (wz hm (sz hx)) 1000 am 0, ?_, ?_, rfl, ad, n, e, pO, fO, q, tm, tx, w, pn, nw, fs, ls, rs, rl, pr, tl, hS, hM, hN, hF, hP, hC, hB, hT, hX, hW⟩
    · simp only [m_X8_share, hka, e_featureAt_out hS ho, aN, kA201, kA202, kA203, kA206, kA306, i1n0, i0n1, i0e0, i1e1, gI, gR, pI, pB, pR, xI, xL, yI, yL, vc, kd_sFi, fr_sFi, ln_sFi, ai_sFi, al_sFi, ar_sFi, cs_sFi, sz_sFi, sz_sAi, kd_sAi, fi_sAi, fr_sAi, ln_sAi, al_sAi, ar_sAi, cs_sAi, kd_wz, fi_wz, fr_wz, ln_wz, ai_wz, al_wz, ar_wz, Option.bind_some, if_true, if_false, Nat.reduceAdd, Nat.reduceMul, reduceIte, and_self, true_and, and_true]
    · have := e_isFeature_out (hm := sFi (wz hm (sz hx)) 1000 am 0) hkm h25 ho
      simp only [m_X9_share, aN, kA201, kA202, kA203, kA206, kA306, i1n0, i0n1, i0e0, i1e1, gI, gR, pI, pB, pR, xI, xL, yI, yL, vc, kd_sFi, fr_sFi, ln_sFi, ai_sFi, al_sFi, ar_sFi, cs_sFi, sz_sFi, sz_sAi, kd_sAi, fi_sAi, fr_sAi, ln_sAi, al_sAi, ar_sAi, cs_sAi, kd_wz, fi_wz, fr_wz, ln_wz, ai_wz, al_wz, ar_wz, Option.bind_some, if_true, if_false, Nat.reduceAdd, Nat.reduceMul, reduceIte, and_self, true_and, and_true, hkm, this]
end SHARE4
