/-! a list grows -/
theorem kd_sAr (h : HS) (a i : Nat) (x : Option Nat) : kd (sAr h a i x) = kd h := rfl
theorem fi_sAr (h : HS) (a i : Nat) (x : Option Nat) : fi (sAr h a i x) = fi h := rfl
theorem fr_sAr (h : HS) (a i : Nat) (x : Option Nat) : fr (sAr h a i x) = fr h := rfl
theorem ln_sAr (h : HS) (a i : Nat) (x : Option Nat) : ln (sAr h a i x) = ln h := rfl
theorem kd_sFr (h : HS) (a i : Nat) (x : Option Nat) : kd (sFr h a i x) = kd h := rfl
theorem fi_sFr (h : HS) (a i : Nat) (x : Option Nat) : fi (sFr h a i x) = fi h := rfl
theorem ln_sFr (h : HS) (a i : Nat) (x : Option Nat) : ln (sFr h a i x) = ln h := rfl
theorem ar_sFr (h : HS) (a i : Nat) (x : Option Nat) : ar (sFr h a i x) = ar h := rfl
theorem sz_sFr (h : HS) (a i : Nat) (x : Option Nat) : sz (sFr h a i x) = sz h := rfl
theorem cs_sFr (h : HS) (a i : Nat) (x : Option Nat) : cs (sFr h a i x) = cs h := rfl
theorem kd_sRr (h : HS) (a : Nat) (f : Nat → Option Nat) : kd (sRr h a f) = kd h := rfl
theorem ln_sRr (h : HS) (a : Nat) (f : Nat → Option Nat) : ln (sRr h a f) = ln h := rfl
theorem fi_sRr (h : HS) (a : Nat) (f : Nat → Option Nat) : fi (sRr h a f) = fi h := rfl
theorem fr_sRr (h : HS) (a : Nat) (f : Nat → Option Nat) : fr (sRr h a f) = fr h := rfl
def AddOk (h h' : HS) (L el N x : Nat) : Prop :=
  (sz h' = sz h ∨ sz h' = sz h + 1) ∧ cs h' = cs h ∧ (∀ a, a < sz h → kd h' a = kd h a ∧ ln h' a = ln h a ∧ ai h' a = ai h a ∧ al h' a = al h a) ∧ (∀ g a, ¬ (a = L ∧ (g = 0 ∨ g = 2)) → fi h' g a = fi h g a) ∧ fi h' 2 L = nI (N + 1) ∧ (∀ g a, ¬ (a = L ∧ g = 1) → fr h' g a = fr h g a) ∧ (∀ a, a < sz h → a ≠ el → ar h' a = ar h a) ∧
  ∃ el', fr h' 1 L = some el' ∧ kd h' el' = 206 ∧ N + 1 ≤ ln h' el' ∧ ln h' el' ∈ [10, 15, 22, 33, 49, 73] ∧ (∀ j, j < N → ar h' el' j = ar h el j) ∧ ar h' el' N = some x ∧ (el' = el ∨ el' = sz h) ∧ el' < sz h'
theorem e_add_room {h : HS} {L el N x : Nat} (hk : kd h L = 1) (h1 : fr h 1 L = some el) (h2 : fi h 2 L = nI N) (hN : N < 60) (hel : kd h el = 206) (hl : ln h el ∈ [10, 15, 22, 33, 49, 73]) (hr : N < ln h el) (hx : elO (kd h x) = true) (hz : el < sz h) : ∃ h', m_Jx4a65c_add_9ea2d L (some x) h = some (1, h') ∧ AddOk h h' L el N x := by
  have hl2 : ln h el ≤ 80 := by
    simp only [List.mem_cons, List.mem_nil_iff, or_false] at hl; omega
  have e1 : ¬ nI N = nI (ln h el) := fun z => by have := (nI_eq (by omega) (by omega)).mp z; omega
  have cl : (nI N).toNatClampNeg = N := nI_cl (N := 80) (by omega) (by omega)
  have ib : inB (nI N) (ln h el) = true := inB_nI hr (by omega)
  have e2 : nI N + 1 = nI (N + 1) := nI_add N 1
  have h20 : fi (sFi h 0 L (fi h 0 L + 1)) 2 L = nI N := h2
  refine ⟨sFi (sAr (sFi h 0 L (fi h 0 L + 1)) el N (some x)) 2 L (nI (N + 1)), ?_, Or.inl rfl, rfl, fun a ha => ⟨rfl, rfl, rfl, rfl⟩, fun g a hga => ?_, up2_same _ _ _ _, fun g a _ => rfl, fun a ha hne => ?_, el, h1, hel, hr, hl, fun j hj => ?_, ?_, Or.inl rfl, hz⟩
  · simp only [m_Jx4a65c_add_9ea2d, m_Jx4a65c_add_72be8, Jx4a65c_add_72be8_b11, yO, aN, kA201, kA202, kA203, kA206, kA306, i1n0, i0n1, i0e0, i1e1, gI, gR, pI, pB, pR, xI, xL, yI, yL, vc, kd_sFi, fr_sFi, ln_sFi, ai_sFi, al_sFi, ar_sFi, cs_sFi, sz_sFi, sz_sAi, kd_sAi, fi_sAi, fr_sAi, ln_sAi, al_sAi, ar_sAi, cs_sAi, kd_wz, fi_wz, fr_wz, ln_wz, ai_wz, al_wz, ar_wz, Option.bind_some, if_true, if_false, Nat.reduceAdd, Nat.reduceMul, reduceIte, and_self, true_and, and_true, hk, h1, h20, hel, kA206, e1, ib, cl, hx, e2, kd_sAr, Nat.mul_zero, Nat.zero_add]
  · by_cases ha : a = L
    · have hg : g ≠ 0 ∧ g ≠ 2 := ⟨fun z => hga ⟨ha, Or.inl z⟩, fun z => hga ⟨ha, Or.inr z⟩⟩
      rw [fi_sFi, up2_ne1 _ _ _ _ hg.2, fi_sAr, fi_sFi, up2_ne1 _ _ _ _ hg.1]
    · rw [fi_sFi, up2_ne2 _ _ _ _ ha, fi_sAr, fi_sFi, up2_ne2 _ _ _ _ ha]
  · funext j
    exact up2_ne1 _ _ _ _ hne
  · exact up2_ne2 _ _ _ _ (by omega)
  · exact up2_same _ _ _ _
theorem e_add_first {h : HS} {L x : Nat} (hk : kd h L = 1) (h1 : fr h 1 L = some (cs h 0)) (h2 : fi h 2 L = nI 0) (hc : kd h (cs h 0) = 306) (hl : ln h (cs h 0) = 0) (hx : elO (kd h x) = true) (hLz : L < sz h) (hxz : x < sz h) : ∃ h', m_Jx4a65c_add_9ea2d L (some x) h = some (1, h') ∧ AddOk h h' L (cs h 0) 0 x := by
  have h20 : fi (sFi h 0 L (fi h 0 L + 1)) 2 L = nI 0 := h2
  have e1 : (0 : Int32) < nI 0 ↔ False := by decide
  have e2 : nI 0 + 1 = 1 := rfl
  have e3 : (if (10 : Int32) < 1 then (1 : Int32) else 10) = nI 10 := by decide
  have ib : inB (nI 10) 81 = true := by decide
  have cl : (nI 10).toNatClampNeg = 10 := by decide
  have kA : kd (nA (sFi h 0 L (fi h 0 L + 1)) 206 10) L = 1 := by
    show va_up (kd h) (sz h) 206 L = 1
    rw [va_upN _ _ (by omega)]; exact hk
  have kS : kd (nA (sFi h 0 L (fi h 0 L + 1)) 206 10) (sz h) = 206 := va_up_same _ _ _
  have lS : ln (nA (sFi h 0 L (fi h 0 L + 1)) 206 10) (sz h) = 10 := va_up_same _ _ _
  have kx : kd (nA (sFi h 0 L (fi h 0 L + 1)) 206 10) x = kd h x := by
    show va_up (kd h) (sz h) 206 x = _
    exact va_upN _ _ (by omega)
  have szA : sz (sFi h 0 L (fi h 0 L + 1)) = sz h := rfl
  have ib0 : inB (nI 0) 10 = true := by decide
  have cl0 : (nI 0).toNatClampNeg = 0 := by decide
  refine ⟨sFi (sAr (sFr (nA (sFi h 0 L (fi h 0 L + 1)) 206 10) 1 L (some (sz h))) (sz h) 0 (some x)) 2 L 1, ?_, Or.inr rfl, rfl, fun a ha => ⟨va_upN _ _ (by omega), va_upN _ _ (by omega), va_upN _ _ (by omega), va_upN _ _ (by omega)⟩, fun g a hga => ?_, up2_same _ _ _ _, fun g a hga => ?_, fun a ha hne => ?_, sz h, up2_same _ _ _ _, kS, ?_, ?_, fun j hj => absurd hj (Nat.not_lt_zero _), up2_same _ _ _ _, Or.inr rfl, ?_⟩
  · simp only [m_Jx4a65c_add_9ea2d, m_Jx4a65c_add_72be8, Jx4a65c_add_72be8_b11, m_Jx4a65c_grow_d5877, m_Jx4a65c_grow_92f84, nwA, yO, aN, kA201, kA202, kA203, kA206, kA306, i1n0, i0n1, i0e0, i1e1, gI, gR, pI, pB, pR, xI, xL, yI, yL, vc, kd_sFi, fr_sFi, ln_sFi, ai_sFi, al_sFi, ar_sFi, cs_sFi, sz_sFi, sz_sAi, kd_sAi, fi_sAi, fr_sAi, ln_sAi, al_sAi, ar_sAi, cs_sAi, kd_wz, fi_wz, fr_wz, ln_wz, ai_wz, al_wz, ar_wz, Option.bind_some, if_true, if_false, Nat.reduceAdd, Nat.reduceMul, reduceIte, and_self, true_and, and_true, hk, h1, h20, hc, hl, kA306, e1, e2, e3, ib, cl, Nat.mul_zero, Nat.zero_add, kA, szA, kd_sFr, kS, lS, ln_sFr, ib0, cl0, kx, hx, kd_sAr]
  · by_cases ha : a = L
    · have hg : g ≠ 0 ∧ g ≠ 2 := ⟨fun z => hga ⟨ha, Or.inl z⟩, fun z => hga ⟨ha, Or.inr z⟩⟩
      rw [fi_sFi, up2_ne1 _ _ _ _ hg.2, fi_sAr, fi_sFr]
      exact up2_ne1 _ _ _ _ hg.1
    · rw [fi_sFi, up2_ne2 _ _ _ _ ha, fi_sAr, fi_sFr]
      exact up2_ne2 _ _ _ _ ha
  · show up2 (fr h) 1 L (some (sz h)) g a = fr h g a
    simp only [up2]
    rw [if_neg (fun z => hga ⟨z.2, z.1⟩)]
  · have hne2 : a ≠ sz h := by omega
    funext j
    show up2 (va_up (ar h) (sz h) (fun _ => none)) (sz h) 0 (some x) a j = ar h a j
    rw [up2_ne1 _ _ _ _ hne2, va_upN _ _ hne2]
  · show 0 + 1 ≤ ln (nA (sFi h 0 L (fi h 0 L + 1)) 206 10) (sz h)
    rw [lS]; decide
  · show ln (nA (sFi h 0 L (fi h 0 L + 1)) 206 10) (sz h) ∈ _
    rw [lS]; decide
  · show sz h < sz h + 1
    omega
theorem e_add_full {h : HS} {L el N x : Nat} (hk : kd h L = 1) (h1 : fr h 1 L = some el) (h2 : fi h 2 L = nI N) (hN : N < 60) (hel : kd h el = 206) (hl : ln h el ∈ [10, 15, 22, 33, 49, 73]) (hr : N = ln h el) (hx : elO (kd h x) = true) (hLz : L < sz h) (hxz : x < sz h) (hez : el < sz h) (hall : ∀ j, j < N → ∃ b, ar h el j = some b ∧ elO (kd h b) = true ∧ b < sz h) : ∃ h', m_Jx4a65c_add_9ea2d L (some x) h = some (1, h') ∧ AddOk h h' L el N x := by
  have h20 : fi (sFi h 0 L (fi h 0 L + 1)) 2 L = nI N := h2
  have hLe : L ≠ el := fun z => by rw [z, hel] at hk; cases hk
  obtain ⟨C, hC1, hC2, hC4, hC5⟩ : ∃ C : Nat, C ∈ [10, 15, 22, 33, 49, 73] ∧ N + 1 ≤ C ∧ C ≤ 80 ∧ nI N + (if nI (N + 1) - nI N < nI N >>> ((1 : Int32) &&& 31) then nI N >>> ((1 : Int32) &&& 31) else nI (N + 1) - nI N) = nI C := by
    simp only [List.mem_cons, List.mem_nil_iff, or_false] at hl
    rw [← hr] at hl
    rcases hl with rfl | rfl | rfl | rfl | rfl | rfl
    · exact ⟨15, by decide, by decide, by decide, by decide⟩
    · exact ⟨22, by decide, by decide, by decide, by decide⟩
    · exact ⟨33, by decide, by decide, by decide, by decide⟩
    · exact ⟨49, by decide, by decide, by decide, by decide⟩
    · exact ⟨73, by decide, by decide, by decide, by decide⟩
    · omega
  have hN0 : 0 < N := by
    simp only [List.mem_cons, List.mem_nil_iff, or_false] at hl
    omega
  have g1 : (0 : Int32) < nI N := nI_lt (a := 0) hN0 (by omega)
  have g2 : ¬ nI C ≤ 0 := nI_nle (by omega) (by omega)
  have g3 : ¬ (2147483639 : Int32) < nI C := nI_nlt (a := 2147483639) (by omega) (by omega)
  have ib : inB (nI C) 81 = true := inB_nI (by omega) (by omega)
  have cl : (nI C).toNatClampNeg = C := nI_cl (N := 81) (by omega) (by omega)
  have clN : (nI N).toNatClampNeg = N := nI_cl (N := 81) (by omega) (by omega)
  have g4 : ¬ nI C < nI N := nI_nlt (by omega) (by omega)
  have kL : kd (nA (sFi h 0 L (fi h 0 L + 1)) 206 C) L = 1 := by
    show va_up (kd h) (sz h) 206 L = 1
    rw [va_upN _ _ (by omega)]; exact hk
  have kE : kd (nA (sFi h 0 L (fi h 0 L + 1)) 206 C) el = 206 := by
    show va_up (kd h) (sz h) 206 el = 206
    rw [va_upN _ _ (by omega)]; exact hel
  have lE : ln (nA (sFi h 0 L (fi h 0 L + 1)) 206 C) el = N := by
    show va_up (ln h) (sz h) C el = N
    rw [va_upN _ _ (by omega)]; exact hr.symm
  have kS : kd (nA (sFi h 0 L (fi h 0 L + 1)) 206 C) (sz h) = 206 := va_up_same _ _ _
  have lS : ln (nA (sFi h 0 L (fi h 0 L + 1)) 206 C) (sz h) = C := va_up_same _ _ _
  have kx : kd (nA (sFi h 0 L (fi h 0 L + 1)) 206 C) x = kd h x := by
    show va_up (kd h) (sz h) 206 x = _
    exact va_upN _ _ (by omega)
  have szA : sz (sFi h 0 L (fi h 0 L + 1)) = sz h := rfl
  have arE : ar (nA (sFi h 0 L (fi h 0 L + 1)) 206 C) el = ar h el := by
    show va_up (ar h) (sz h) _ el = _
    exact va_upN _ _ (by omega)
  have eall : (List.range N).all (fun i => elN (nA (sFi h 0 L (fi h 0 L + 1)) 206 C) (ar (nA (sFi h 0 L (fi h 0 L + 1)) 206 C) el (0 + i))) = true := by
    rw [List.all_eq_true]
    intro j hj
    have hj2 : j < N := List.mem_range.mp hj
    rw [arE, Nat.zero_add]
    obtain ⟨b, h3, h4, h5⟩ := hall j hj2
    rw [h3]
    show elO (va_up (kd h) (sz h) 206 b) = true
    rw [va_upN _ _ (by omega)]; exact h4
  have eall' : (List.range N).all (fun i => elN (nA (sFi h 0 L (fi h 0 L + 1)) 206 C) (ar h el i)) = true := by
    have := eall
    rw [arE] at this
    simp only [Nat.zero_add] at this
    exact this
  have g5 : (0 : Int32).toNatClampNeg = 0 := by decide
  have g6 : (0 : Int32) ≤ 0 := by decide
  have g7 : (0 : Int32) ≤ nI N := nI_pos' (by omega)
  have g8 : N ≤ C := by omega
  have g9 : N ≤ N := Nat.le_refl N
  have ibN : inB (nI N) C = true := inB_nI (by omega) (by omega)
  have e2 : nI N + 1 = nI (N + 1) := nI_add N 1
  have hkx : elO (kd h x) = true := hx
  refine ⟨sFi (sAr (sFr (sRr (nA (sFi h 0 L (fi h 0 L + 1)) 206 C) (sz h) (va_cpy (ar h el) (ar (nA (sFi h 0 L (fi h 0 L + 1)) 206 C) (sz h)) 0 0 N)) 1 L (some (sz h))) (sz h) N (some x)) 2 L (nI (N + 1)), ?_, Or.inr rfl, rfl, fun a ha => ⟨va_upN _ _ (by omega), va_upN _ _ (by omega), va_upN _ _ (by omega), va_upN _ _ (by omega)⟩, fun g a hga => ?_, up2_same _ _ _ _, fun g a hga => ?_, fun a ha hne => ?_, sz h, up2_same _ _ _ _, kS, ?_, ?_, fun j hj => ?_, up2_same _ _ _ _, Or.inr rfl, ?_⟩
  · simp only [m_Jx4a65c_add_9ea2d, m_Jx4a65c_add_72be8, Jx4a65c_add_72be8_b11, m_Jx4a65c_grow_d5877, m_Jx4a65c_grow_92f84, Jx4a65c_grow_92f84_b20, m_J8_newLength_cabcc, m_J7_copyOf_1904c, m_J7_copyOf_6403c, J7_copyOf_6403c_b24, nwA, yO, cpR, aN, kA201, kA202, kA203, kA206, kA306, i1n0, i0n1, i0e0, i1e1, gI, gR, pI, pB, pR, xI, xL, yI, yL, vc, kd_sFi, fr_sFi, ln_sFi, ai_sFi, al_sFi, ar_sFi, cs_sFi, sz_sFi, sz_sAi, kd_sAi, fi_sAi, fr_sAi, ln_sAi, al_sAi, ar_sAi, cs_sAi, kd_wz, fi_wz, fr_wz, ln_wz, ai_wz, al_wz, ar_wz, Option.bind_some, if_true, if_false, Nat.reduceAdd, Nat.reduceMul, reduceIte, and_self, true_and, and_true, hk, h1, h20, hel, ← hr, kA206, g1, hC5, g2, g3, ib, cl, clN, g4, Nat.mul_zero, Nat.zero_add, kL, kE, lE, szA, kd_sFr, kd_sRr, kS, lS, ln_sFr, ln_sRr, kx, hx, kd_sAr, g5, g6, g7, g8, g9, eall', ibN, e2, arE]

  · by_cases ha : a = L
    · have hg : g ≠ 0 ∧ g ≠ 2 := ⟨fun z => hga ⟨ha, Or.inl z⟩, fun z => hga ⟨ha, Or.inr z⟩⟩
      rw [fi_sFi, up2_ne1 _ _ _ _ hg.2, fi_sAr, fi_sFr, fi_sRr]
      exact up2_ne1 _ _ _ _ hg.1
    · rw [fi_sFi, up2_ne2 _ _ _ _ ha, fi_sAr, fi_sFr, fi_sRr]
      exact up2_ne2 _ _ _ _ ha
  · show up2 (fr h) 1 L (some (sz h)) g a = fr h g a
    simp only [up2]
    rw [if_neg (fun z => hga ⟨z.2, z.1⟩)]
  · have hne2 : a ≠ sz h := by omega
    funext j
    show up2 (va_up (va_up (ar h) (sz h) (fun _ => none)) (sz h) _) (sz h) N (some x) a j = ar h a j
    rw [up2_ne1 _ _ _ _ hne2, va_upN _ _ hne2, va_upN _ _ hne2]
  · show N + 1 ≤ ln (nA (sFi h 0 L (fi h 0 L + 1)) 206 C) (sz h)
    rw [lS]; exact hC2
  · show ln (nA (sFi h 0 L (fi h 0 L + 1)) 206 C) (sz h) ∈ _
    rw [lS]; exact hC1
  · show up2 (va_up (va_up (ar h) (sz h) (fun _ => none)) (sz h) (va_cpy (ar h el) (ar (nA (sFi h 0 L (fi h 0 L + 1)) 206 C) (sz h)) 0 0 N)) (sz h) N (some x) (sz h) j = ar h el j
    rw [up2_ne2 _ _ _ _ (by omega), va_up_same]
    simp only [va_cpy]
    rw [if_pos (by omega)]
    congr 1
    omega
  · show sz h < sz h + 1
    omega
