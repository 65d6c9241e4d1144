/-! a contract's line -/
section LINE
variable {ax ao am : Nat} {ad : Nat → Nat → Nat} {n e pO fO q tm : Nat → Nat} {tx : Nat → List (Int32 × List Int32)} {w : Nat} {pn : Nat → Nat} {nw : Nat → Nat → Nat} {fs : Nat → Nat} {ls : Nat → Option Nat} {rs rl pr : Nat → Nat} {tl : Nat} {hx hm : HS}
def RCm (N : Nat) (nwf : Nat → Nat) (fs : Nat) (ls : Option Nat) (rs rl pr : Nat) (f105 f106 f107 : Int32) (v11 : Nat → Int32) (m44 m45 : Int32) (m47 : Nat → Int32) : Prop :=
  (f106 = nI rl ∧ f107 = nI pr ∧ m45 = nI pr ∧ pr ≤ rl ∧ f105 = (if rl = 0 then -1 else nI rs) ∧ m44 = (if rl = 0 then -1 else nI (rs + pr)) ∧ (0 < rl → 1 ≤ rs ∧ rs + rl ≤ N + 1) ∧ (∀ k, 1 ≤ k → k ≤ N → (rn fs ls (nwf k) ↔ rs ≤ k ∧ k < rs + rl))) ∧
  ((∀ i, i < rl → v11 i = m47 (rs + i) ∧ (v11 i = 0 ∨ v11 i = 1)) ∧ (∀ i, i < pr → v11 i = 1) ∧ (∀ k, k < 202 → ¬ (rs ≤ k ∧ k < rs + rl) → m47 k = 0))
def RCl (w N : Nat) (nwf : Nat → Nat) (p f fs : Nat) (ls : Option Nat) (rs rl pr : Nat) (f102 f103 f104 f105 f106 f107 f108 : Int32) (v11 v14 : Nat → Int32) (m40 m41 m42 m43 m44 m45 m46 : Int32) (m47 m48 : Nat → Int32) (m50 : Int32) : Prop :=
  (m40 = nI p ∧ m41 = nI f ∧ f102 = nI fs ∧ m42 = nI fs ∧ 1 ≤ fs ∧ fs ≤ w + 1 ∧ f103 = lsI ls ∧ m43 = lsI ls ∧ (∀ z, ls = some z → z ≤ 204 ∧ fs ≤ z + 1)) ∧
  ((∃ z, z ≤ w + 1 ∧ f104 = nI z) ∧ m46 = (if f104 = nI (w + 1) then 1 else 0)) ∧
  RCm N nwf fs ls rs rl pr f105 f106 f107 v11 m44 m45 m47 ∧ (∀ m, m < 50 → v14 m = m48 m) ∧ f108 = m50
theorem RCm.cg {N : Nat} {nwf : Nat → Nat} {fs : Nat} {ls : Option Nat} {rs rl pr : Nat} {f105 f106 f107 : Int32} {v11 : Nat → Int32} {m44 m45 : Int32} {m47 m47' : Nat → Int32} (h : RCm N nwf fs ls rs rl pr f105 f106 f107 v11 m44 m45 m47) (hN : N ≤ 200) (he : ∀ k, k < 202 → m47' k = m47 k) : RCm N nwf fs ls rs rl pr f105 f106 f107 v11 m44 m45 m47' := by
  obtain ⟨⟨a1, a2, a3, a4, a5, a6, a7, a8⟩, b1, b2, b3⟩ := h
  exact ⟨⟨a1, a2, a3, a4, a5, a6, a7, a8⟩, fun i hi => by rw [he _ (by have := a7 (by omega); omega)]; exact b1 i hi, b2, fun k hk hz => by rw [he k hk]; exact b3 k hk hz⟩
theorem run_cont {w N : Nat} {nwf : Nat → Nat} {fs : Nat} {ls : Option Nat} {rs rl pr : Nat} {f105 f106 f107 : Int32} {v11 : Nat → Int32} {m44 m45 : Int32} {m47 : Nat → Int32} (h : RCm N nwf fs ls rs rl pr f105 f106 f107 v11 m44 m45 m47) (hr : rn fs ls (w + 1)) (hw : ∀ k, 1 ≤ k → k ≤ N → nwf k ≤ w) (hm : ∀ k k', 1 ≤ k → k < k' → k' ≤ N → nwf k < nwf k') (h0 : 0 < rl) : rs + rl = N + 1 := by
  obtain ⟨⟨a1, a2, a3, a4, a5, a6, a7, a8⟩, -⟩ := h
  obtain ⟨c1, c2⟩ := a7 h0
  have r1 := (a8 rs c1 (by omega)).mpr ⟨Nat.le_refl _, by omega⟩
  have hle : nwf rs ≤ nwf N := by
    by_cases hq : rs = N
    · rw [hq]; exact Nat.le_refl _
    · exact Nat.le_of_lt (hm rs N c1 (by omega) (Nat.le_refl _))
  have hwN := hw N (by omega) (Nat.le_refl _)
  have r2 : rn fs ls (nwf N) := ⟨Nat.le_trans r1.1 hle, fun z hz => by have := hr.2 z hz; omega⟩
  have := ((a8 N (by omega) (Nat.le_refl _)).mp r2).2
  omega
theorem recv1 {w N : Nat} {nwf nwf' : Nat → Nat} {fs : Nat} {ls : Option Nat} {rs rl pr : Nat} {f105 f106 f107 : Int32} {v11 : Nat → Int32} {m44 m45 : Int32} {m47 : Nat → Int32} (h : RCm N nwf fs ls rs rl pr f105 f106 f107 v11 m44 m45 m47) (hr : rn fs ls (w + 1)) (hcon : 0 < rl → rs + rl = N + 1) (hN : N ≤ 200) (hn : ∀ k, k ≤ N → nwf' k = nwf k) (hn1 : nwf' (N + 1) = w + 1) {b : Int32} (hb : b = 0 ∨ b = 1) : RCm (N + 1) nwf' fs ls (if rl = 0 then N + 1 else rs) (rl + 1) pr (if rl = 0 then nI (N + 1) else f105) (nI (rl + 1)) f107 (va_up v11 rl b) (if 0 ≤ m44 then m44 else nI (N + 1)) m45 (va_up m47 (N + 1) b) := by
  obtain ⟨⟨a1, a2, a3, a4, a5, a6, a7, a8⟩, b1, b2, b3⟩ := h
  have key : (if rl = 0 then N + 1 else rs) + rl = N + 1 := by
    by_cases h0 : rl = 0
    · rw [if_pos h0]; omega
    · rw [if_neg h0]; exact hcon (by omega)
  obtain ⟨S, hS⟩ : ∃ S, S = if rl = 0 then N + 1 else rs := ⟨_, rfl⟩
  rw [← hS] at key ⊢
  refine ⟨⟨rfl, a2, a3, by omega, ?_, ?_, fun _ => ?_, fun k k1 k2 => ?_⟩, fun i hi => ?_, fun i hi => ?_, fun k hk hz => ?_⟩
  · rw [if_neg (show ¬ rl + 1 = 0 by omega)]
    by_cases h0 : rl = 0
    · rw [if_pos h0, hS, if_pos h0]
    · rw [if_neg h0, a5, if_neg h0, hS, if_neg h0]
  · rw [if_neg (show ¬ rl + 1 = 0 by omega)]
    by_cases h0 : rl = 0
    · rw [if_pos h0] at a6
      have : ¬ (0 : Int32) ≤ m44 := by rw [a6]; decide
      rw [if_neg this, hS, if_pos h0, show pr = 0 by omega]
    · rw [if_neg h0] at a6
      have hc := hcon (by omega)
      have : (0 : Int32) ≤ m44 := by rw [a6]; exact nI_pos' (by omega)
      rw [if_pos this, a6, hS, if_neg h0]
  · by_cases h0 : rl = 0
    · rw [hS, if_pos h0]; omega
    · have := a7 (by omega)
      rw [hS, if_neg h0]
      have hc := hcon (by omega)
      omega
  · by_cases hk : k = N + 1
    · subst hk
      rw [hn1]
      exact ⟨fun _ => by omega, fun _ => hr⟩
    · rw [hn k (by omega), a8 k k1 (by omega)]
      by_cases h0 : rl = 0
      · rw [hS, if_pos h0]; omega
      · rw [hS, if_neg h0]
        have hc := hcon (by omega)
        omega
  · by_cases hi2 : i = rl
    · subst hi2
      rw [va_up_same, key, va_up_same]
      exact ⟨rfl, hb⟩
    · have h0 : ¬ rl = 0 := by omega
      rw [va_upN _ _ hi2, va_upN _ _ (by omega), hS, if_neg h0]
      exact b1 i (by omega)
  · rw [va_upN _ _ (by omega)]; exact b2 i hi
  · rw [va_upN _ _ (by omega)]
    refine b3 k hk (fun z => hz ?_)
    by_cases h0 : rl = 0
    · omega
    · rw [hS, if_neg h0]; omega
theorem recv0 {N : Nat} {nwf nwf' : Nat → Nat} {fs : Nat} {ls : Option Nat} {rs rl pr : Nat} {f105 f106 f107 : Int32} {v11 : Nat → Int32} {m44 m45 : Int32} {m47 : Nat → Int32} (h : RCm N nwf fs ls rs rl pr f105 f106 f107 v11 m44 m45 m47) (hn : ∀ k, k ≤ N → nwf' k = nwf k) : RCm N nwf' fs ls rs rl pr f105 f106 f107 v11 m44 m45 m47 := by
  obtain ⟨⟨a1, a2, a3, a4, a5, a6, a7, a8⟩, b⟩ := h
  exact ⟨⟨a1, a2, a3, a4, a5, a6, a7, fun k k1 k2 => by rw [hn k k2]; exact a8 k k1 k2⟩, b⟩
theorem recvI {w N : Nat} {nwf nwf' : Nat → Nat} {fs : Nat} {ls : Option Nat} {rs rl pr : Nat} {f105 f106 f107 : Int32} {v11 : Nat → Int32} {m44 m45 : Int32} {m47 : Nat → Int32} (h : RCm N nwf fs ls rs rl pr f105 f106 f107 v11 m44 m45 m47) (hr : ¬ rn fs ls (w + 1)) (hn : ∀ k, k ≤ N → nwf' k = nwf k) (hn1 : nwf' (N + 1) = w + 1) : RCm (N + 1) nwf' fs ls rs rl pr f105 f106 f107 v11 m44 m45 m47 := by
  obtain ⟨⟨a1, a2, a3, a4, a5, a6, a7, a8⟩, b⟩ := h
  refine ⟨⟨a1, a2, a3, a4, a5, a6, fun h0 => ⟨(a7 h0).1, by have := (a7 h0).2; omega⟩, fun k k1 k2 => ?_⟩, b⟩
  by_cases hk : k = N + 1
  · subst hk
    rw [hn1]
    refine ⟨fun z => absurd z hr, fun z => ?_⟩
    have := a7 (by omega)
    omega
  · rw [hn k (by omega)]; exact a8 k k1 (by omega)
theorem prn {N : Nat} {nwf : Nat → Nat} {fs : Nat} {ls : Option Nat} {rs rl pr : Nat} {f105 f106 f107 : Int32} {v11 : Nat → Int32} {m44 m45 : Int32} {m47 : Nat → Int32} (h : RCm N nwf fs ls rs rl pr f105 f106 f107 v11 m44 m45 m47) (g : Nat) : RCm N nwf fs ls rs rl (pr + dP g pr rl v11) f105 f106 (nI (pr + dP g pr rl v11)) v11 (if rl = 0 then -1 else nI (rs + (pr + dP g pr rl v11))) (nI (pr + dP g pr rl v11)) m47 := by
  obtain ⟨⟨a1, a2, a3, a4, a5, a6, a7, a8⟩, b1, b2, b3⟩ := h
  have one : ∀ i, i < rl → v11 i ≠ 0 → v11 i = 1 := fun i hi hz => (b1 i hi).2.resolve_left hz
  by_cases c0 : pr < rl ∧ v11 pr ≠ 0
  · by_cases c1 : (g = 0 ∨ pr + 1 < rl - 1) ∧ pr + 1 < rl ∧ v11 (pr + 1) ≠ 0
    · rw [dP2 c0 c1]
      refine ⟨⟨a1, rfl, rfl, by omega, a5, rfl, a7, a8⟩, b1, fun i hi => ?_, b3⟩
      by_cases h1 : i < pr
      · exact b2 i h1
      · by_cases h2 : i = pr
        · subst h2; exact one _ c0.1 c0.2
        · have : i = pr + 1 := by omega
          subst this; exact one _ c1.2.1 c1.2.2
    · rw [dP1 c0 c1]
      refine ⟨⟨a1, rfl, rfl, by omega, a5, rfl, a7, a8⟩, b1, fun i hi => ?_, b3⟩
      by_cases h1 : i < pr
      · exact b2 i h1
      · have : i = pr := by omega
        subst this; exact one _ c0.1 c0.2
  · rw [dP0 c0]
    exact ⟨⟨a1, rfl, rfl, a4, a5, rfl, a7, a8⟩, b1, b2, b3⟩
theorem miss_next {w z : Nat} {f104 : Int32} (hw : w ≤ 200) (hz : z ≤ w + 1) (h : f104 = nI z) : (∃ z, z ≤ w + 1 + 1 ∧ f104 = nI z) ∧ (0 : Int32) = (if f104 = nI (w + 1 + 1) then 1 else 0) := by
  refine ⟨⟨z, by omega, h⟩, ?_⟩
  rw [if_neg (fun y => by rw [h, nI_eq (by omega) (by omega)] at y; omega)]
theorem RC_l (hC : RC n w pn nw pO fO fs ls rs rl pr (cf ad n hx 102) (cf ad n hx 103) (cf ad n hx 104) (cf ad n hx 105) (cf ad n hx 106) (cf ad n hx 107) (cf ad n hx 108) (cv ad n hx 11) (cv ad n hx 14) (mv q hm 40) (mv q hm 41) (mv q hm 42) (mv q hm 43) (mv q hm 44) (mv q hm 45) (mv q hm 46) (mv q hm 47) (mv q hm 48) (mv q hm 50)) {c : Nat} (hc : c < n 1) : RCl w (pn (fO c)) (nw (fO c)) (pO c) (fO c) (fs c) (ls c) (rs c) (rl c) (pr c) (cf ad n hx 102 c) (cf ad n hx 103 c) (cf ad n hx 104 c) (cf ad n hx 105 c) (cf ad n hx 106 c) (cf ad n hx 107 c) (cf ad n hx 108 c) (cv ad n hx 11 c) (cv ad n hx 14 c) (mv q hm 40 c) (mv q hm 41 c) (mv q hm 42 c) (mv q hm 43 c) (mv q hm 44 c) (mv q hm 45 c) (mv q hm 46 c) (fun k => mv q hm 47 (202 * c + k)) (fun m => mv q hm 48 (51 * c + m)) (mv q hm 50 c) := by
  obtain ⟨a, b, c1, d, e1, f⟩ := hC.1 c hc
  exact ⟨a, b, ⟨c1, d⟩, e1, f⟩
end LINE
