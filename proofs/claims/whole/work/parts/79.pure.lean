/-! a week: the contracts, side by side -/
section WKL
variable {ax ao am : Nat} {ad : Nat → Nat → Nat} {n e pO fO q tm : Nat → Nat} {tx : Nat → List (Int32 × List Int32)} {w : Nat} {pn : Nat → Nat} {nw : Nat → Nat → Nat} {fs : Nat → Nat} {ls : Nat → Option Nat} {rs rl pr : Nat → Nat} {tl : Nat} {hx hm : HS}
def LNc (w : Nat) (pn : Nat → Nat) (nw : Nat → Nat → Nat) (pO fO fs : Nat → Nat) (ls : Nat → Option Nat) (rs rl pr : Nat → Nat) (ad : Nat → Nat → Nat) (n q : Nat → Nat) (hx hm : HS) (c : Nat) : Prop := RCl w (pn (fO c)) (nw (fO c)) (pO c) (fO c) (fs c) (ls c) (rs c) (rl c) (pr c) (cf ad n hx 102 c) (cf ad n hx 103 c) (cf ad n hx 104 c) (cf ad n hx 105 c) (cf ad n hx 106 c) (cf ad n hx 107 c) (cf ad n hx 108 c) (cv ad n hx 11 c) (cv ad n hx 14 c) (mv q hm 40 c) (mv q hm 41 c) (mv q hm 42 c) (mv q hm 43 c) (mv q hm 44 c) (mv q hm 45 c) (mv q hm 46 c) (fun k => mv q hm 47 (202 * c + k)) (fun m => mv q hm 48 (51 * c + m)) (mv q hm 50 c)
theorem LNc.cg {hx' hm' : HS} {rs' rl' pr' : Nat → Nat} {c : Nat} (h : LNc w pn nw pO fO fs ls rs rl pr ad n q hx hm c) (hN : pn (fO c) ≤ 200) (e1 : ∀ g, cf ad n hx' g c = cf ad n hx g c) (e2 : cv ad n hx' 11 c = cv ad n hx 11 c) (e3 : cv ad n hx' 14 c = cv ad n hx 14 c) (e4 : ∀ k, k ≠ 47 → k ≠ 48 → mv q hm' k c = mv q hm k c) (e5 : ∀ k, k < 202 → mv q hm' 47 (202 * c + k) = mv q hm 47 (202 * c + k)) (e6 : ∀ m, m < 51 → mv q hm' 48 (51 * c + m) = mv q hm 48 (51 * c + m)) (e7 : rs' c = rs c ∧ rl' c = rl c ∧ pr' c = pr c) : LNc w pn nw pO fO fs ls rs' rl' pr' ad n q hx' hm' c := by
  unfold LNc at h ⊢
  rw [e7.1, e7.2.1, e7.2.2, e1, e1, e1, e1, e1, e1, e1, e2, e3, e4 40 (by decide) (by decide), e4 41 (by decide) (by decide), e4 42 (by decide) (by decide), e4 43 (by decide) (by decide), e4 44 (by decide) (by decide), e4 45 (by decide) (by decide), e4 46 (by decide) (by decide), e4 50 (by decide) (by decide)]
  obtain ⟨a, b, c1, d, f⟩ := h
  exact ⟨a, b, c1.cg hN e5, fun m hm5 => by show _ = mv q hm' 48 (51 * c + m); rw [e6 m (by omega)]; exact d m hm5, f⟩
/-- the features behind their new panels -/
def FT (n : Nat → Nat) (w : Nat) (pn : Nat → Nat) (nw : Nat → Nat → Nat) (pn' : Nat → Nat) (nw' : Nat → Nat → Nat) (gF : Nat → Nat) (c206 c207 : Nat → Int32) (m31 m32 : Nat → Int32) : Prop := ∀ f, f < n 2 → (c206 f = nI (pn' f) ∧ m31 f = nI (pn' f) ∧ c207 f = nI (gF f)) ∧ (pn' f = pn f + gF f ∧ gF f ≤ 1 ∧ pn f ≤ w) ∧ (∀ k, 1 ≤ k → k ≤ pn' f → m32 (202 * f + k) = nI (nw' f k)) ∧ (∀ k, k ≤ pn f → nw' f k = nw f k) ∧ (gF f = 1 → nw' f (pn f + 1) = w + 1) ∧ (∀ k, 1 ≤ k → k ≤ pn f → nw f k ≤ w) ∧ ∀ k k', 1 ≤ k → k < k' → k' ≤ pn f → nw f k < nw f k'
theorem wc_mid {c : Nat} {pn' : Nat → Nat} {nw' : Nat → Nat → Nat} {gF : Nat → Nat} (hS : SXA ax ao ad n e pO fO hx) (hM : SMA q am hm) (hw : w + 1 ≤ 200) (hc : c < n 1) (hn : n 1 ≤ 60) (hn2 : n 2 ≤ 10) (h24 : mf am hm 24 = nI (w + 1)) (hF : FT n w pn nw pn' nw' gF (cf ad n hx 206) (cf ad n hx 207) (mv q hm 31) (mv q hm 32)) (hL : LNc w pn nw pO fO fs ls rs rl pr ad n q hx hm c) (hr : rn (fs c) (ls c) (w + 1)) : ∃ hx1 hm1 S R, m_X0_receive (ad 1 c) (nI (w + 1)) hx = some hx1 ∧ m_X9_runs am (nI c) hm = X9_runs_b100 am (nI c) hm1 ∧ RCm (pn' (fO c)) (nw' (fO c)) (fs c) (ls c) S R (pr c) (cf ad n hx1 105 c) (cf ad n hx1 106 c) (cf ad n hx1 107 c) (cv ad n hx1 11 c) (mv q hm1 44 c) (mv q hm1 45 c) (fun k => mv q hm1 47 (202 * c + k)) ∧ (0 < R → S + R = pn' (fO c) + 1) ∧ (SXA ax ao ad n e pO fO hx1 ∧ SameS hx hx1 ∧ (∀ g j, (g ≠ 105 ∧ g ≠ 106) ∨ j ≠ c → cf ad n hx1 g j = cf ad n hx g j) ∧ ∀ t i, t ≠ 11 ∨ i ≠ c → cv ad n hx1 t i = cv ad n hx t i) ∧ (SameS hm hm1 ∧ fi hm1 = fi hm ∧ (∀ k, (k ≠ 44 ∧ k ≠ 47) → mv q hm1 k = mv q hm k) ∧ (∀ j, j ≠ c → mv q hm1 44 j = mv q hm 44 j) ∧ ∀ j, (∀ k, k < 202 → j ≠ 202 * c + k) → mv q hm1 47 j = mv q hm 47 j) := by
  obtain ⟨-, -, -, -, z5, z6⟩ := crf hS hc
  obtain ⟨⟨f1, f2, f3⟩, ⟨f4, f5, f6⟩, f7, f8, f9, f10, f11⟩ := hF (fO c) z6
  obtain ⟨⟨a1, a2, a3, a4, a5, a6, a7, a8, a9⟩, ⟨⟨z, b1, b2⟩, b3⟩, hMd, -, -⟩ := hL
  have hcon := run_cont hMd hr f10 f11
  have h106 : cf ad n hx 106 c = nI (rl c) := hMd.1.1
  have hrl : rl c ≤ pn (fO c) := by
    by_cases h0 : 0 < rl c
    · have := hMd.1.2.2.2.2.2.2.1 h0; omega
    · omega
  by_cases hg : gF (fO c) = 0
  · have h207 : cf ad n hx 207 (fO c) = 0 := by rw [f3, hg]; rfl
    have ep : pn' (fO c) = pn (fO c) := by omega
    refine ⟨hx, hm, rs c, rl c, e_receive0 hS hc _ h207, w_runs0 hM (by omega) (by omega) (show pn' (fO c) ≤ 201 by omega) h24 a2 f2 ?_, ?_, ?_, ⟨hS, SameS.rf _, fun _ _ _ => rfl, fun _ _ _ => rfl⟩, SameS.rf _, rfl, fun _ _ => rfl, fun _ _ => rfl, fun _ _ => rfl⟩
    · by_cases h0 : pn' (fO c) = 0
      · exact Or.inl h0
      · right
        rw [f7 _ (by omega) (Nat.le_refl _), f8 _ (by omega)]
        have := f10 (pn' (fO c)) (by omega) (by omega)
        intro y
        have := (nI_eq (by omega) (by omega)).mp y
        omega
    · rw [ep]; exact recv0 hMd f8
    · rw [ep]; exact hcon
  · have hg1 : gF (fO c) = 1 := by omega
    have h207 : cf ad n hx 207 (fO c) = 1 := by rw [f3, hg1]; rfl
    have ep : pn' (fO c) = pn (fO c) + 1 := by omega
    obtain ⟨hx1, x1, x2, x3, x4, x5, x6, x7⟩ := e_receive1 hS (u := w + 1) hc h207 h106 (by omega)
    obtain ⟨hm1, y1, y2, y3, y4, y5, y6⟩ := w_runs1 hM (c := c) (f := fO c) (N := pn' (fO c)) (u := w + 1) (by omega) (by omega) (by omega) (by omega) h24 a2 f2 (by rw [f7 _ (by omega) (Nat.le_refl _), ep, f9 hg1])
    obtain ⟨b, hb⟩ : ∃ b : Int32, b = if cf ad n hx 104 c = nI (w + 1) then 0 else 1 := ⟨_, rfl⟩
    have hb01 : b = 0 ∨ b = 1 := by
      rw [hb]; split
      · exact Or.inl rfl
      · exact Or.inr rfl
    have hb2 : (if mv q hm 46 c = 0 then (1 : Int32) else 0) = b := by
      rw [b3, hb]
      by_cases hq : cf ad n hx 104 c = nI (w + 1)
      · rw [if_pos hq, if_pos hq]; rfl
      · rw [if_neg hq, if_neg hq]; rfl
    rw [← hb] at x7
    rw [hb2, ep] at y5
    rw [ep] at y6
    have hmid := recv1 hMd hr hcon (by omega) f8 (f9 hg1) hb01
    refine ⟨hx1, hm1, if rl c = 0 then pn (fO c) + 1 else rs c, rl c + 1, x1, y1, ?_, ?_, ⟨x2, x3, fun g j hgj => ?_, fun t i hti => ?_⟩, y2, y3, fun k hk => y4 k hk, fun j hj => ?_, fun j hj => ?_⟩
    · have g1 : cf ad n hx1 105 c = if rl c = 0 then nI (pn (fO c) + 1) else cf ad n hx 105 c := by
        rw [x5, va_up_same, f1, ep]
      have g2 : cf ad n hx1 106 c = nI (rl c + 1) := by rw [x6, va_up_same]
      have g3 : cf ad n hx1 107 c = cf ad n hx 107 c := by rw [x4 107 (by decide)]
      have g4 : cv ad n hx1 11 c = va_up (cv ad n hx 11 c) (rl c) b := by
        rw [x7]; funext j; simp [up3, va_up]
      have g5 : mv q hm1 44 c = if 0 ≤ mv q hm 44 c then mv q hm 44 c else nI (pn (fO c) + 1) := by rw [y6, va_up_same]
      have g6 : mv q hm1 45 c = mv q hm 45 c := by rw [y4 45 (by decide)]
      rw [g1, g2, g3, g4, g5, g6, ep]
      refine RCm.cg hmid (by omega) (fun k hk => ?_)
      rw [y5]
      by_cases hk1 : k = pn (fO c) + 1
      · subst hk1; rw [va_up_same, va_up_same]
      · rw [va_upN _ _ (by omega), va_upN _ _ hk1]
    · intro _
      by_cases h0 : rl c = 0
      · rw [if_pos h0]; omega
      · rw [if_neg h0]; have := hcon (by omega); omega
    · rcases hgj with hgj | hgj
      · rw [x4 g hgj]
      · by_cases h1 : g = 105
        · subst h1; rw [x5, va_upN _ _ hgj]
        · by_cases h2 : g = 106
          · subst h2; rw [x6, va_upN _ _ hgj]
          · rw [x4 g ⟨h1, h2⟩]
    · rw [x7]; funext j
      rcases hti with h | h
      · exact up3_ne1 _ _ _ _ _ h
      · exact up3_ne2 _ _ _ _ _ h
    · rw [y6, va_upN _ _ hj]
    · rw [y5, va_upN _ _ (hj _ (by omega))]
end WKL
