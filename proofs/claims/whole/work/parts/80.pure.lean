section WKL2
variable {ax ao am : Nat} {ad : Nat → Nat → Nat} {n e pO fO q tm : Nat → Nat} {tx : Nat → List (Int32 × List Int32)} {w : Nat} {pn : Nat → Nat} {nw : Nat → Nat → Nat} {fs : Nat → Nat} {ls : Nat → Option Nat} {rs rl pr : Nat → Nat} {tl : Nat} {hx hm : HS}
def WC (ax ao am : Nat) (ad : Nat → Nat → Nat) (n e pO fO q : Nat → Nat) (w : Nat) (pn : Nat → Nat) (nw : Nat → Nat → Nat) (pn' : Nat → Nat) (nw' : Nat → Nat → Nat) (fs : Nat → Nat) (ls : Nat → Option Nat) (c : Nat) (hx0 hm0 : HS) (rs rl pr : Nat → Nat) (hx hm : HS) : Prop :=
  (SXA ax ao ad n e pO fO hx ∧ SameS hx0 hx ∧ (∀ g, (g ≠ 105 ∧ g ≠ 106 ∧ g ≠ 107) → cf ad n hx g = cf ad n hx0 g) ∧ ∀ t, (t ≠ 11 ∧ t ≠ 14) → cv ad n hx t = cv ad n hx0 t) ∧
  (SMA q am hm ∧ SameS hm0 hm ∧ fi hm = fi hm0 ∧ ∀ k, (k ≠ 44 ∧ k ≠ 45 ∧ k ≠ 46 ∧ k ≠ 47 ∧ k ≠ 48) → mv q hm k = mv q hm0 k) ∧
  (∀ c', c' < c → c' < n 1 → LNc (w + 1) pn' nw' pO fO fs ls rs rl pr ad n q hx hm c') ∧ (∀ c', c ≤ c' → c' < n 1 → LNc w pn nw pO fO fs ls rs rl pr ad n q hx hm c') ∧
  (∀ c', n 1 ≤ c' → c' < 60 → mv q hm 45 c' = 0 ∧ mv q hm 46 c' = 0 ∧ (∀ k, k < 202 → mv q hm 47 (202 * c' + k) = 0) ∧ ∀ m, m < 51 → mv q hm 48 (51 * c' + m) = 0) ∧
  ∀ c' m, m < 51 → m ≠ w / 4 → mv q hm 48 (51 * c' + m) = mv q hm0 48 (51 * c' + m)
theorem sA46 {h : HS} (hM : SMA q am h) (c : Nat) : mv q (sAi h (q 46) c 0) 46 = va_up (mv q h 46) c 0 ∧ ∀ k, k ≠ 46 → mv q (sAi h (q 46) c 0) k = mv q h k := by
  have e1 : mv q (sAi h (q 46) c 0) = up2 (mv q h) 46 c 0 := mv_sAi hM.2.2
  exact ⟨by rw [e1, up2_va], fun k hk => by rw [e1, up2_ne1' hk]⟩
theorem wc_idle {c : Nat} {pn' : Nat → Nat} {nw' : Nat → Nat → Nat} {gF : Nat → Nat} {hx0 hm0 : HS} (hw : w + 1 ≤ 200) (hc : c < n 1) (hn : n 1 ≤ 60) (hF : FT n w pn nw pn' nw' gF (cf ad n hx0 206) (cf ad n hx0 207) (mv q hm0 31) (mv q hm0 32)) (hW : WC ax ao am ad n e pO fO q w pn nw pn' nw' fs ls c hx0 hm0 rs rl pr hx hm) (hr : ¬ rn (fs c) (ls c) (w + 1)) : WC ax ao am ad n e pO fO q w pn nw pn' nw' fs ls (c + 1) hx0 hm0 rs rl pr hx (sAi hm (q 46) c 0) := by
  obtain ⟨⟨a1, a2, a3, a4⟩, ⟨b1, b2, b3, b4⟩, h1, h2, h3, h4⟩ := hW
  obtain ⟨m46, mo⟩ := sA46 b1 c
  have hfl : ∀ c', c' < n 1 → pn (fO c') ≤ 200 ∧ pn' (fO c') ≤ 200 := fun c' hc' => by
    obtain ⟨-, -, -, -, z5, z6⟩ := crf a1 hc'
    obtain ⟨-, ⟨f4, f5, f6⟩, -⟩ := hF (fO c') z6
    omega
  have cgo : ∀ w0 pn0 nw0 c', c' ≠ c → pn0 (fO c') ≤ 200 → LNc w0 pn0 nw0 pO fO fs ls rs rl pr ad n q hx hm c' → LNc w0 pn0 nw0 pO fO fs ls rs rl pr ad n q hx (sAi hm (q 46) c 0) c' := fun w0 pn0 nw0 c' hcc hp hl => hl.cg hp (fun _ => rfl) rfl rfl (fun k k1 k2 => by
    by_cases hk : k = 46
    · subst hk; rw [m46, va_upN _ _ hcc]
    · rw [mo k hk]) (fun k _ => by rw [mo 47 (by decide)]) (fun m _ => by rw [mo 48 (by decide)]) ⟨rfl, rfl, rfl⟩
  refine ⟨⟨a1, a2, a3, a4⟩, ⟨b1, b2.tr ⟨rfl, rfl, rfl, rfl, rfl, rfl, rfl⟩, b3, fun k hk => by rw [mo k hk.2.2.1]; exact b4 k hk⟩, fun c' k1 k2 => ?_, fun c' k1 k2 => cgo _ _ _ c' (by omega) (hfl c' k2).1 (h2 c' (by omega) k2), fun c' k1 k2 => ?_, fun c' m k1 k2 => by rw [mo 48 (by decide)]; exact h4 c' m k1 k2⟩
  · by_cases hcc : c' = c
    · subst hcc
      obtain ⟨-, -, -, -, z5, z6⟩ := crf a1 hc
      obtain ⟨-, ⟨f4, f5, f6⟩, f7, f8, f9, f10, f11⟩ := hF (fO c') z6
      obtain ⟨⟨s1, s2, s3, s4, s5, s6, s7, s8, s9⟩, ⟨⟨z, t1, t2⟩, t3⟩, hMd, he, hf⟩ := h2 c' (Nat.le_refl _) k2
      unfold LNc
      rw [m46, va_up_same, mo 40 (by decide), mo 41 (by decide), mo 42 (by decide), mo 43 (by decide), mo 44 (by decide), mo 45 (by decide), mo 47 (by decide), mo 48 (by decide), mo 50 (by decide)]
      refine ⟨⟨s1, s2, s3, s4, s5, by omega, s7, s8, s9⟩, miss_next (by omega) t1 t2, ?_, he, hf⟩
      by_cases hg : gF (fO c') = 0
      · rw [show pn' (fO c') = pn (fO c') by omega]; exact recv0 hMd f8
      · rw [show pn' (fO c') = pn (fO c') + 1 by omega]; exact recvI hMd hr f8 (f9 (by omega))
    · exact cgo _ _ _ c' hcc (hfl c' k2).2 (h1 c' (by omega) k2)
  · obtain ⟨y1, y2, y3, y4⟩ := h3 c' k1 k2
    rw [m46, va_upN _ _ (by omega), mo 45 (by decide), mo 47 (by decide), mo 48 (by decide)]
    exact ⟨y1, y2, y3, y4⟩
theorem wc_run {c : Nat} {pn' : Nat → Nat} {nw' : Nat → Nat → Nat} {gF : Nat → Nat} {hx0 hm0 : HS} (hw : w + 1 ≤ 200) (hc : c < n 1) (hn : n 1 ≤ 60) (hn2 : n 2 ≤ 10) (h24 : mf am hm0 24 = nI (w + 1)) (hF : FT n w pn nw pn' nw' gF (cf ad n hx0 206) (cf ad n hx0 207) (mv q hm0 31) (mv q hm0 32)) (hW : WC ax ao am ad n e pO fO q w pn nw pn' nw' fs ls c hx0 hm0 rs rl pr hx hm) (hr : rn (fs c) (ls c) (w + 1)) : ∃ hx1 hx2 hm2 rs' rl' pr', m_X0_receive (ad 1 c) (nI (w + 1)) hx = some hx1 ∧ SameS hx hx1 ∧ (∀ g j, (g ≠ 105 ∧ g ≠ 106) ∨ j ≠ c → cf ad n hx1 g j = cf ad n hx g j) ∧ m_X0_print (ad 1 c) (nI (w / 4)) hx1 = some hx2 ∧ m_X9_runs am (nI c) hm = some hm2 ∧ SameS hm hm2 ∧ WC ax ao am ad n e pO fO q w pn nw pn' nw' fs ls (c + 1) hx0 hm0 rs' rl' pr' hx2 (sAi hm2 (q 46) c 0) := by
  obtain ⟨⟨a1, a2, a3, a4⟩, ⟨b1, b2, b3, b4⟩, h1, h2, h3, h4⟩ := hW
  have hFh : FT n w pn nw pn' nw' gF (cf ad n hx 206) (cf ad n hx 207) (mv q hm 31) (mv q hm 32) := by
    rw [a3 206 (by decide), a3 207 (by decide), b4 31 (by decide), b4 32 (by decide)]; exact hF
  have h24' : mf am hm 24 = nI (w + 1) := by unfold mf; rw [b3]; exact h24
  have hfl : ∀ c', c' < n 1 → pn (fO c') ≤ 200 ∧ pn' (fO c') ≤ 200 := fun c' hc' => by
    obtain ⟨-, -, -, -, z5, z6⟩ := crf a1 hc'
    obtain ⟨-, ⟨f4, f5, f6⟩, -⟩ := hF (fO c') z6
    omega
  obtain ⟨hx1, hm1, S, R, r1, r2, r3, r4, ⟨x1, x2, x3, x4⟩, y1, y2, y3, y4, y5⟩ := wc_mid a1 b1 hw hc hn hn2 h24' hFh (h2 c (Nat.le_refl _) hc) hr
  obtain ⟨-, -, -, -, z5, z6⟩ := crf a1 hc
  obtain ⟨⟨f1, f2, f3⟩, ⟨f4, f5, f6⟩, f7, f8, f9, f10, f11⟩ := hFh (fO c) z6
  obtain ⟨⟨s1, s2, s3, s4, s5, s6, s7, s8, s9⟩, ⟨⟨z, t1, t2⟩, t3⟩, hMd, he, hf⟩ := h2 c (Nat.le_refl _) hc
  have hR : R ≤ 200 := by
    by_cases h0 : 0 < R
    · have := r4 h0; have := r3.1.2.2.2.2.2.2.1 h0; have := hfl c hc; omega
    · omega
  have hM1 := SMA_same y1 b1
  obtain ⟨hx2, p1, p2, p3, p4, p5, p6, p7⟩ := e_print x1 (m := w / 4) (P := pr c) (R := R) (g := gF (fO c)) hc (by omega) r3.1.2.1 r3.1.1 hR r3.1.2.2.2.1 (by rw [x3 207 _ (Or.inl (by decide))]; exact f3) f5
  have hmo : (w + 1 - 1) / 4 = w / 4 := by rw [Nat.add_sub_cancel]
  obtain ⟨hm2, o1, o2, o3, o4, o5, o6, o7⟩ := w_b100 hM1 (c := c) (f := fO c) (N := pn' (fO c)) (u := w + 1) (P := pr c) (R := R) (S := S) (g := gF (fO c)) (v := cv ad n hx1 11 c) (by omega) (by omega) (hfl c hc).2 (by omega) hw f5 (by unfold mf; rw [y2]; exact h24') (by rw [y3 41 (by decide)]; exact s2) (by rw [y3 31 (by decide)]; exact f2) r3.1.2.2.2.2.2.1 r3.1.2.2.1 r3.1.2.2.2.1 (fun h0 => (r3.1.2.2.2.2.2.2.1 h0).1) r4 (fun i hi => (r3.2.1 i hi).1.symm) (fun K k1 k2 => by
    rw [y3 32 (by decide), f7 K k1 k2]
    by_cases hK : K ≤ pn (fO c)
    · rw [f8 K hK]
      have := f10 K k1 hK
      refine ⟨fun z => absurd z (nI_ge (by omega) (by omega)), fun z => by omega⟩
    · have hK1 : K = pn (fO c) + 1 := by omega
      rw [hK1, f9 (by omega)]
      exact ⟨fun _ => by omega, fun _ => Int32.le_refl _⟩)
  rw [hmo] at o7
  obtain ⟨d, hd⟩ : ∃ d, d = dP (gF (fO c)) (pr c) R (cv ad n hx1 11 c) := ⟨_, rfl⟩
  have hpr := prn r3 (gF (fO c))
  rw [← hd] at p5 p7 o5 o6 o7 hpr
  have hM2 := SMA_same o2 hM1
  obtain ⟨m46, mo⟩ := sA46 hM2 c
  have cx : ∀ g j, (g ≠ 105 ∧ g ≠ 106 ∧ g ≠ 107) ∨ j ≠ c → cf ad n hx2 g j = cf ad n hx g j := fun g j hgj => by
    by_cases h7 : g = 107
    · subst h7
      rcases hgj with h | h
      · exact absurd rfl h.2.2
      · rw [p5, va_upN _ _ h]; exact x3 107 j (Or.inr h)
    · rw [p4 g h7]
      exact x3 g j (by rcases hgj with h | h; exact Or.inl ⟨h.1, h.2.1⟩; exact Or.inr h)
  have c107 : cf ad n hx2 107 c = nI (pr c + d) := by rw [p5, va_up_same]
  have c105 : cf ad n hx2 105 c = cf ad n hx1 105 c := by rw [p4 105 (by decide)]
  have c106 : cf ad n hx2 106 c = cf ad n hx1 106 c := by rw [p4 106 (by decide)]
  have vx : ∀ t i, (t ≠ 11 ∧ t ≠ 14) ∨ i ≠ c → cv ad n hx2 t i = cv ad n hx t i := fun t i hti => by
    by_cases h14 : t = 14
    · subst h14
      rcases hti with h | h
      · exact absurd rfl h.2
      · funext j
        rw [p7, if_neg (fun z => h z.1), x4 14 i (Or.inr h)]
    · rw [p6 t h14]
      exact x4 t i (by rcases hti with h | h; exact Or.inl h.1; exact Or.inr h)
  have v11 : cv ad n hx2 11 c = cv ad n hx1 11 c := by rw [p6 11 (by decide)]
  have v14 : ∀ m, cv ad n hx2 14 c m = if m = w / 4 then cv ad n hx 14 c m + nI d else cv ad n hx 14 c m := fun m => by
    rw [p7, x4 14 c (Or.inl (by decide))]
    by_cases hm4 : m = w / 4
    · subst hm4; rw [if_pos ⟨rfl, rfl⟩, if_pos rfl]
    · rw [if_neg (fun z => hm4 z.2), if_neg hm4]
  have e44 : mv q hm2 44 = va_up (mv q hm1 44) c (if R = 0 then -1 else nI (S + (pr c + d))) := o5
  have e45 : mv q hm2 45 = va_up (mv q hm 45) c (nI (pr c + d)) := by rw [o6, y3 45 (by decide)]
  have e47 : mv q hm2 47 = mv q hm1 47 := o4 47 (by decide)
  have e48 : mv q hm2 48 = va_up (mv q hm 48) (51 * c + w / 4) (mv q hm 48 (51 * c + w / 4) + nI d) := by rw [o7, y3 48 (by decide)]
  have eo : ∀ k, (k ≠ 44 ∧ k ≠ 45 ∧ k ≠ 47 ∧ k ≠ 48) → mv q hm2 k = mv q hm k := fun k hk => by rw [o4 k ⟨hk.1, hk.2.1, hk.2.2.2⟩, y3 k ⟨hk.1, hk.2.2.1⟩]
  have cgo : ∀ w0 pn0 nw0 c', c' ≠ c → pn0 (fO c') ≤ 200 → LNc w0 pn0 nw0 pO fO fs ls rs rl pr ad n q hx hm c' → LNc w0 pn0 nw0 pO fO fs ls (va_up rs c S) (va_up rl c R) (va_up pr c (pr c + d)) ad n q hx2 (sAi hm2 (q 46) c 0) c' := fun w0 pn0 nw0 c' hcc hp hl => hl.cg hp (fun g => cx g c' (Or.inr hcc)) (vx 11 c' (Or.inr hcc)) (vx 14 c' (Or.inr hcc)) (fun k k1 k2 => by
    by_cases hk : k = 46
    · subst hk; rw [m46, va_upN _ _ hcc, eo 46 (by decide)]
    · rw [mo k hk]
      by_cases hk4 : k = 44
      · subst hk4; rw [e44, va_upN _ _ hcc, y4 c' hcc]
      · by_cases hk5 : k = 45
        · subst hk5; rw [e45, va_upN _ _ hcc]
        · rw [eo k ⟨hk4, hk5, k1, k2⟩]) (fun k hk => by rw [mo 47 (by decide), e47]; exact y5 _ (fun k' hk' => by omega)) (fun m hm5 => by rw [mo 48 (by decide), e48, va_upN _ _ (by omega)]) ⟨va_upN _ _ hcc, va_upN _ _ hcc, va_upN _ _ hcc⟩
  refine ⟨hx1, hx2, hm2, va_up rs c S, va_up rl c R, va_up pr c (pr c + d), r1, x2, x3, p1, r2.trans o1, y1.tr o2, ⟨p2, (a2.tr x2).tr p3, fun g hg => ?_, fun t ht => ?_⟩, ⟨hM2, ((b2.tr y1).tr o2).tr ⟨rfl, rfl, rfl, rfl, rfl, rfl, rfl⟩, (o3.trans y2).trans b3, fun k hk => ?_⟩, fun c' k1 k2 => ?_, fun c' k1 k2 => cgo _ _ _ c' (by omega) (hfl c' k2).1 (h2 c' (by omega) k2), fun c' k1 k2 => ?_, fun c' m k1 k2 => ?_⟩
  · rw [← a3 g hg]; funext j; exact cx g j (Or.inl hg)
  · rw [← a4 t ht]; funext i; exact vx t i (Or.inl ht)
  · rw [mo k hk.2.2.1, eo k ⟨hk.1, hk.2.1, hk.2.2.2.1, hk.2.2.2.2⟩]; exact b4 k hk
  · by_cases hcc : c' = c
    · subst hcc
      unfold LNc
      rw [m46, va_up_same, va_up_same, va_up_same, va_up_same, mo 40 (by decide), mo 41 (by decide), mo 42 (by decide), mo 43 (by decide), mo 44 (by decide), mo 45 (by decide), mo 47 (by decide), mo 48 (by decide), mo 50 (by decide), eo 40 (by decide), eo 41 (by decide), eo 42 (by decide), eo 43 (by decide), eo 50 (by decide), e44, va_up_same, e45, va_up_same, e47, c105, c106, c107, v11, cx 102 c' (Or.inl (by decide)), cx 103 c' (Or.inl (by decide)), cx 104 c' (Or.inl (by decide)), cx 108 c' (Or.inl (by decide))]
      refine ⟨⟨s1, s2, s3, s4, s5, by omega, s7, s8, s9⟩, miss_next (by omega) t1 t2, hpr, fun m hm5 => ?_, hf⟩
      show cv ad n hx2 14 c' m = mv q hm2 48 (51 * c' + m)
      rw [v14, e48]
      have e0 : cv ad n hx 14 c' m = mv q hm 48 (51 * c' + m) := he m hm5
      by_cases hm4 : m = w / 4
      · subst hm4; rw [if_pos rfl, va_up_same, e0]
      · rw [if_neg hm4, va_upN _ _ (by omega), e0]
    · exact cgo _ _ _ c' hcc (hfl c' k2).2 (h1 c' (by omega) k2)
  · obtain ⟨u1, u2, u3, u4⟩ := h3 c' k1 k2
    have hcc : c' ≠ c := by omega
    rw [m46, va_upN _ _ hcc, mo 45 (by decide), mo 47 (by decide), mo 48 (by decide), e45, va_upN _ _ hcc, eo 46 (by decide), e47]
    refine ⟨u1, u2, fun k hk => ?_, fun m hm5 => ?_⟩
    · rw [y5 _ (fun k' hk' => by omega)]; exact u3 k hk
    · rw [e48, va_upN _ _ (by omega)]; exact u4 m hm5
  · rw [mo 48 (by decide), e48, va_upN _ _ (by omega)]; exact h4 c' m k1 k2
end WKL2
