/-! a week, whole -/
section WEEK
variable {ax ao am : Nat} {ad : Nat → Nat → Nat} {n e pO fO q tm : Nat → Nat} {tx : Nat → List (Int32 × List Int32)} {w : Nat} {pn : Nat → Nat} {nw : Nat → Nat → Nat} {fs : Nat → Nat} {ls : Nat → Option Nat} {rs rl pr : Nat → Nat} {tl : Nat} {hx hm : HS}
theorem RFw {pn' : Nat → Nat} {nw' : Nat → Nat → Nat} {gF : Nat → Nat} {c206 c207 m31 m32 : Nat → Int32} (hw : w + 1 ≤ 200) (hF : RF n w pn nw (cf ad n hx 200) (cf ad n hx 201) (cf ad n hx 202) (cf ad n hx 204) (cf ad n hx 205) (cf ad n hx 206) (cf ad n hx 207) (cf ad n hx 208) (cv ad n hx 12) (mv q hm 26) (mv q hm 27) (mv q hm 28) (mv q hm 29) (mv q hm 30) (mv q hm 31) (mv q hm 32) (mv q hm 33)) (hT : FT n w pn nw pn' nw' gF c206 c207 m31 m32) {c208 m33 : Nat → Int32} (h208 : ∀ f, f < n 2 → c208 f = m33 f) (z31 : ∀ j, n 2 ≤ j → m31 j = mv q hm 31 j) (z33 : ∀ j, n 2 ≤ j → m33 j = mv q hm 33 j) : RF n (w + 1) pn' nw' (cf ad n hx 200) (cf ad n hx 201) (cf ad n hx 202) (cf ad n hx 204) (cf ad n hx 205) c206 c207 c208 (cv ad n hx 12) (mv q hm 26) (mv q hm 27) (mv q hm 28) (mv q hm 29) (mv q hm 30) m31 m32 m33 := by
  refine ⟨fun i hi => ?_, fun i h1 h2 => ?_⟩
  · obtain ⟨a1, a2, a3, a4, a5, a6, a7, a8, a9, a10, a11, a12, a13, a14, a15⟩ := hF.1 i hi
    obtain ⟨⟨f1, f2, f3⟩, ⟨f4, f5, f6⟩, f7, f8, f9, f10, f11⟩ := hT i hi
    have up : ∀ k, 1 ≤ k → k ≤ pn' i → 1 ≤ nw' i k ∧ nw' i k ≤ w + 1 ∧ (k ≤ pn i → nw' i k ≤ w) := fun k k1 k2 => by
      by_cases hk : k ≤ pn i
      · rw [f8 k hk]
        have := (a13 k k1 hk).2
        exact ⟨this.1, by omega, fun _ => this.2⟩
      · have hk1 : k = pn i + 1 := by omega
        rw [hk1, f9 (by omega)]
        exact ⟨by omega, by omega, fun z => by omega⟩
    refine ⟨a1, a2, a3, a4, a5, a6, a7, a8, f1.trans f2.symm, f2, by omega, h208 i hi, fun k k1 k2 => ⟨f7 k k1 k2, (up k k1 k2).1, (up k k1 k2).2.1⟩, fun k k' k1 k2 k3 => ?_, ?_⟩
    · by_cases hk : k' ≤ pn i
      · rw [f8 k (by omega), f8 k' hk]; exact f11 k k' k1 k2 hk
      · have hk1 : k' = pn i + 1 := by omega
        rw [hk1, f9 (by omega)]
        have := (up k k1 (by omega)).2.2 (by omega)
        omega
    · rw [f3]
      by_cases hg : gF i = 0
      · rw [hg, if_neg (fun z => ?_)]
        · rfl
        · have := (up (pn' i) (by omega) (Nat.le_refl _)).2.2 (by omega)
          omega
      · have hg1 : gF i = 1 := by omega
        rw [hg1, if_pos ⟨by omega, by rw [show pn' i = pn i + 1 by omega]; exact f9 hg1⟩]
        rfl
  · obtain ⟨b1, b2, b3, b4⟩ := hF.2 i h1 h2
    exact ⟨b1, b2, (z31 i h1).trans b3, (z33 i h1).trans b4⟩
theorem week_fin {pn' : Nat → Nat} {nw' : Nat → Nat → Nat} {gF tm' rs' rl' pr' : Nat → Nat} {hx0 hm0 hx3 hm3 hx' hm' : HS} (hPQ : PQ ax am ao ad n e pO fO q tm tx w pn nw fs ls rs rl pr tl hx hm) (hw : w + 1 ≤ 200)
    (hT : FT n w pn nw pn' nw' gF (cf ad n hx0 206) (cf ad n hx0 207) (mv q hm0 31) (mv q hm0 32))
    (fx : ∀ g, (g ≠ 206 ∧ g ≠ 207 ∧ g ≠ 909) → cf ad n hx0 g = cf ad n hx g) (f9 : cf ad n hx0 909 0 = nI (w + 1)) (fv : cv ad n hx0 = cv ad n hx)
    (gm : ∀ k, (k ≠ 31 ∧ k ≠ 32) → mv q hm0 k = mv q hm k) (g31 : ∀ j, n 2 ≤ j → mv q hm0 31 j = mv q hm 31 j) (gi : ∀ k, k ≠ 24 → mf am hm0 k = mf am hm k) (g24 : mf am hm0 24 = nI (w + 1)) (gl : al hm' = al hm) (gln : ln hx' = ln hx)
    (hW : WC ax ao am ad n e pO fO q w pn nw pn' nw' fs ls (n 1) hx0 hm0 rs' rl' pr' hx3 hm3)
    (hS : SXA ax ao ad n e pO fO hx') (hM : SMA q am hm') (co : ∀ g, (g ≠ 502 ∧ g ≠ 108 ∧ g ≠ 208) → cf ad n hx' g = cf ad n hx3 g) (vo : ∀ t, (t ≠ 20 ∧ t ≠ 21) → cv ad n hx' t = cv ad n hx3 t) (mo : ∀ k, (k ≠ 22 ∧ k ≠ 23 ∧ k ≠ 33 ∧ k ≠ 38 ∧ k ≠ 49 ∧ k ≠ 50 ∧ k ≠ 51) → mv q hm' k = mv q hm3 k) (fo : fi hm' = fi hm3)
    (h108 : ∀ c, c < n 1 → cf ad n hx' 108 c = mv q hm' 50 c) (h208 : ∀ f, f < n 2 → cf ad n hx' 208 f = mv q hm' 33 f) (z50 : ∀ c, n 1 ≤ c → mv q hm' 50 c = mv q hm3 50 c) (z33 : ∀ f, n 2 ≤ f → mv q hm' 33 f = mv q hm3 33 f)
    (hP' : ∀ i, i < n 3 → ∀ m, m < 51 → cv ad n hx 13 i m = (if m < (w + 1) / 4 then mv q hm' 38 (51 * i + m) else mv q hm 37 i)) (hB' : RB n (w + 1) pO fO fs ls tm' tx (mv q hm 26) (mv q hm' 38) (mv q hm' 48) (mv q hm' 49) (mv q hm' 51) (ar hx' (ad 22 0)) (ad 4)) : PQ ax am ao ad n e pO fO q tm' tx (w + 1) pn' nw' fs ls rs' rl' pr' tl hx' hm' := by
  obtain ⟨hS0, hM0, hN, hF, hP, hC, hB, hTt, hX, hWw⟩ := hPQ
  obtain ⟨⟨a1, a2, a3, a4⟩, ⟨b1, b2, b3, b4⟩, l1, -, l3, l4⟩ := hW
  have cx : ∀ g, (g ≠ 502 ∧ g ≠ 108 ∧ g ≠ 208 ∧ g ≠ 105 ∧ g ≠ 106 ∧ g ≠ 107 ∧ g ≠ 206 ∧ g ≠ 207 ∧ g ≠ 909) → cf ad n hx' g = cf ad n hx g := fun g hg => by
    rw [co g ⟨hg.1, hg.2.1, hg.2.2.1⟩, a3 g ⟨hg.2.2.2.1, hg.2.2.2.2.1, hg.2.2.2.2.2.1⟩, fx g hg.2.2.2.2.2.2]
  have vx : ∀ t, (t ≠ 20 ∧ t ≠ 21 ∧ t ≠ 11 ∧ t ≠ 14) → cv ad n hx' t = cv ad n hx t := fun t ht => by
    rw [vo t ⟨ht.1, ht.2.1⟩, a4 t ht.2.2, fv]
  have mx : ∀ k, (k ≠ 22 ∧ k ≠ 23 ∧ k ≠ 33 ∧ k ≠ 38 ∧ k ≠ 49 ∧ k ≠ 50 ∧ k ≠ 51 ∧ k ≠ 44 ∧ k ≠ 45 ∧ k ≠ 46 ∧ k ≠ 47 ∧ k ≠ 48 ∧ k ≠ 31 ∧ k ≠ 32) → mv q hm' k = mv q hm k := fun k hk => by
    rw [mo k ⟨hk.1, hk.2.1, hk.2.2.1, hk.2.2.2.1, hk.2.2.2.2.1, hk.2.2.2.2.2.1, hk.2.2.2.2.2.2.1⟩, b4 k ⟨hk.2.2.2.2.2.2.2.1, hk.2.2.2.2.2.2.2.2.1, hk.2.2.2.2.2.2.2.2.2.1, hk.2.2.2.2.2.2.2.2.2.2.1, hk.2.2.2.2.2.2.2.2.2.2.2.1⟩, gm k hk.2.2.2.2.2.2.2.2.2.2.2.2]
  have ix : ∀ k, mf am hm' k = mf am hm0 k := fun k => by unfold mf; rw [fo, b3]
  have c206 : cf ad n hx' 206 = cf ad n hx0 206 := by rw [co 206 (by decide), a3 206 (by decide)]
  have c207 : cf ad n hx' 207 = cf ad n hx0 207 := by rw [co 207 (by decide), a3 207 (by decide)]
  have c909 : cf ad n hx' 909 0 = nI (w + 1) := by rw [co 909 (by decide), a3 909 (by decide), f9]
  have m31 : mv q hm' 31 = mv q hm0 31 := by rw [mo 31 (by decide), b4 31 (by decide)]
  have m32 : mv q hm' 32 = mv q hm0 32 := by rw [mo 32 (by decide), b4 32 (by decide)]
  have hml : ml q hm' 9 = ml q hm 9 := by unfold ml; rw [gl]
  unfold PQ
  rw [hml, gln]
  refine ⟨hS, hM, ?_, ?_, ?_, ?_, ?_, ?_, ?_, hWw⟩
  · obtain ⟨n1, n2, n3, n4, n5, n6, n7, n8, n9⟩ := hN
    rw [cx 908 (by decide), ix 10, ix 11, ix 24, ix 25, ix 34, ix 39, gi 10 (by decide), gi 11 (by decide), gi 25 (by decide), gi 34 (by decide), gi 39 (by decide)]
    exact ⟨hw, c909, g24, n4, n5, n6, n7, n8, n9⟩
  · rw [cx 200 (by decide), cx 201 (by decide), cx 202 (by decide), cx 204 (by decide), cx 205 (by decide), c206, c207, vx 12 (by decide), mx 26 (by decide), mx 27 (by decide), mx 28 (by decide), mx 29 (by decide), mx 30 (by decide), m31, m32]
    exact RFw hw hF hT h208 g31 (fun j hj => by rw [z33 j hj, b4 33 (by decide), gm 33 (by decide)])
  · rw [cx 300 (by decide), cx 301 (by decide), cx 302 (by decide), vx 13 (by decide), mx 35 (by decide), mx 36 (by decide), mx 37 (by decide)]
    intro i hi
    obtain ⟨p1, p2, p3, -⟩ := hP i hi
    exact ⟨p1, p2, p3, hP' i hi⟩
  · rw [co 102 (by decide), co 103 (by decide), co 104 (by decide), co 105 (by decide), co 106 (by decide), co 107 (by decide), vo 11 (by decide), vo 14 (by decide), mo 40 (by decide), mo 41 (by decide), mo 42 (by decide), mo 43 (by decide), mo 44 (by decide), mo 45 (by decide), mo 46 (by decide), mo 47 (by decide), mo 48 (by decide)]
    refine ⟨fun c hc => ?_, fun c h1 h2 => ?_⟩
    · obtain ⟨y1, y2, ⟨y3, y4⟩, y5, y6⟩ := l1 c hc hc
      exact ⟨y1, y2, y3, y4, y5, h108 c hc⟩
    · obtain ⟨y1, y2, y3, y4⟩ := l3 c h1 h2
      exact ⟨y1, y2, by rw [z50 c h1, b4 50 (by decide), gm 50 (by decide)]; exact (hC.2 c h1 h2).2.2.1, y3, y4⟩
  · rw [mx 26 (by decide)]; exact hB'
  · rw [cx 601 (by decide), vx 16 (by decide), ix 2, gi 2 (by decide), mx 1 (by decide)]; exact hTt
  · rw [cx 401 (by decide), vx 15 (by decide), mx 12 (by decide), mx 13 (by decide), mx 14 (by decide), mx 15 (by decide), mx 16 (by decide)]; exact hX
end WEEK
