section RXN
variable {ax ao am : Nat} {ad : Nat → Nat → Nat} {n e pO fO q tm : Nat → Nat} {tx : Nat → List (Int32 × List Int32)} {w : Nat} {pn : Nat → Nat} {nw : Nat → Nat → Nat} {fs : Nat → Nat} {ls : Nat → Option Nat} {rs rl pr : Nat → Nat} {tl : Nat} {hx hm : HS}
theorem RX_cg {n : Nat → Nat} {tx : Nat → List (Int32 × List Int32)} {f401 : Nat → Int32} {v15 : Nat → Nat → Int32} {l15 : Nat → Nat} {m12 m13 m14 m15 m16 m12' m13' m14' m15' m16' : Nat → Int32} (hX : RX n tx f401 v15 l15 m12 m13 m14 m15 m16) (hn : n 4 ≤ 21) (h12 : ∀ i, i < 20 → m12' i = m12 i) (h13 : ∀ i, i < 320 → m13' i = m13 i ∧ m14' i = m14 i) (h15 : ∀ i, i < 13200 → m15' i = m15 i ∧ m16' i = m16 i) : RX n tx f401 v15 l15 m12' m13' m14' m15' m16' := by
  refine ⟨hX.1, fun t ht => ?_⟩
  obtain ⟨a1, a2, a3⟩ := hX.2 t ht
  have hlen := a1.1
  refine ⟨a1, a2, fun ht1 => ?_⟩
  obtain ⟨b1, b2⟩ := a3 ht1
  refine ⟨by rw [h12 _ (by omega)]; exact b1, fun k hk => ?_⟩
  obtain ⟨c1, at0, c2, c3, c4⟩ := b2 k hk
  have hi : 16 * (t - 1) + k < 320 := by omega
  refine ⟨by rw [(h13 _ hi).1]; exact c1, at0, by rw [(h13 _ hi).2]; exact c2, c3, fun j hj => ?_, ?_⟩
  · have hi2 : 660 * (t - 1) + at0 + j < 13200 := by omega
    rw [(h15 _ hi2).1, (h15 _ hi2).2]; exact c4.1 j hj
  · have hi2 : 660 * (t - 1) + at0 + ((tx t).getD k (0, [])).2.length < 13200 := by omega
    rw [(h15 _ hi2).1]; exact c4.2
theorem okE_lt : ∀ (es : List Int32) (h : Nat), okE es h → ∀ s, s ∈ es → s < 20000
  | [], _, _, s, hs => absurd hs (by simp)
  | x :: r, h, hok, s, hs => by
    obtain ⟨a1, a2, a3⟩ := hok
    rcases List.mem_cons.mp hs with rfl | hs
    · exact a2
    · rcases a3 with ⟨b1, b2, b3⟩ | ⟨b1, b2, b3, b4⟩
      · exact okE_lt r _ b3 s hs
      · exact okE_lt r _ b4 s hs
theorem gD_mem {l : List Int32} {j : Nat} (h : j < l.length) : l.getD j 0 ∈ l := by
  rw [List.getD_eq_getElem?_getD, List.getElem?_eq_getElem h]
  exact List.getElem_mem h
theorem flat_split {Ls : List (Int32 × List Int32)} {k : Nat} (hk : k < Ls.length) : flat Ls = flat (Ls.take k) ++ ((Ls.getD k (0, [])).2 ++ (20000 + (Ls.getD k (0, [])).1) :: flat (Ls.drop (k + 1))) := by
  have eg : Ls.getD k (0, []) = Ls[k] := by rw [List.getD_eq_getElem?_getD, List.getElem?_eq_getElem hk]; rfl
  have e1 : Ls = Ls.take k ++ Ls.getD k (0, []) :: Ls.drop (k + 1) := by
    rw [eg, ← List.drop_eq_getElem_cons hk]; exact (List.take_append_drop k Ls).symm
  have e2 : flat Ls = flat (Ls.take k ++ Ls.getD k (0, []) :: Ls.drop (k + 1)) := congrArg flat e1
  rw [e2, flat_app]; rfl
theorem RX_new {n n' : Nat → Nat} {tx : Nat → List (Int32 × List Int32)} {Ls : List (Int32 × List Int32)} {f401 f401' : Nat → Int32} {v15 v15' : Nat → Nat → Int32} {l15 l15' : Nat → Nat} {m12 m13 m14 m15 m16 m12' m13' m14' m15' m16' : Nat → Int32} (hX : RX n tx f401 v15 l15 m12 m13 m14 m15 m16) {t0 : Nat} (ht0 : n 4 = t0 + 1) (hn' : n' 4 = n 4 + 1)
    (h12 : ∀ i, i < t0 → m12' i = m12 i) (h13 : ∀ i, i < 16 * t0 → m13' i = m13 i ∧ m14' i = m14 i) (h15 : ∀ i, i < 660 * t0 → m15' i = m15 i ∧ m16' i = m16 i)
    (n12 : m12' t0 = nI Ls.length) (n13 : ∀ k, k < Ls.length → m13' (16 * t0 + k) = (Ls.getD k (0, [])).1 ∧ m14' (16 * t0 + k) = nI (flat (Ls.take k)).length) (n15 : ∀ j, j < (flat Ls).length → m15' (660 * t0 + j) = eO ((flat Ls).getD j 0) ∧ m16' (660 * t0 + j) = eA ((flat Ls).getD j 0))
    (hf : f401' = va_up f401 (n 4) (nI Ls.length)) (hl : ∀ t, t < n 4 → l15' t = l15 t) (hl4 : l15' (n 4) = (flat Ls).length) (hv : ∀ t j, t < n 4 → v15' t j = v15 t j) (hv4 : ∀ j, j < (flat Ls).length → v15' (n 4) j = (flat Ls).getD j 0)
    (hok : ∀ p ∈ Ls, okE p.2 0 ∧ 0 ≤ p.1 ∧ p.1 ≤ 999) (hL16 : Ls.length ≤ 16) (hL6 : (flat Ls).length < 600) : RX n' (va_up tx (n 4) Ls) f401' v15' l15' m12' m13' m14' m15' m16' := by
  refine ⟨by rw [va_upN _ _ (by omega)]; exact hX.1, fun t ht => ?_⟩
  by_cases htn : t = n 4
  · subst htn
    rw [va_up_same, hf, va_up_same]
    refine ⟨⟨hL16, hL6, rfl, hl4, hv4⟩, hok, fun _ => ?_⟩
    have e0 : n 4 - 1 = t0 := by omega
    rw [e0]
    refine ⟨n12, fun k hk => ⟨(n13 k hk).1, (flat (Ls.take k)).length, (n13 k hk).2, ?_, fun j hj => ?_, ?_⟩⟩
    · have := congrArg List.length (flat_split hk)
      rw [List.length_append, List.length_append] at this
      simp only [List.length_cons] at this
      omega
    · have hs := flat_split hk
      have hlen := congrArg List.length hs
      rw [List.length_append, List.length_append] at hlen
      simp only [List.length_cons] at hlen
      obtain ⟨y1, y2⟩ := n15 ((flat (Ls.take k)).length + j) (by omega)
      have eg : (flat Ls).getD ((flat (Ls.take k)).length + j) 0 = (Ls.getD k (0, [])).2.getD j 0 := by
        rw [hs, gD_r, gD_l hj]
      rw [eg] at y1 y2
      have hmem : (Ls.getD k (0, [])).2.getD j 0 ∈ (Ls.getD k (0, [])).2 := gD_mem hj
      have hpm : Ls.getD k (0, []) ∈ Ls := by
        rw [List.getD_eq_getElem?_getD, List.getElem?_eq_getElem hk]
        exact List.getElem_mem hk
      have hlt := okE_lt _ _ (hok _ hpm).1 _ hmem
      have z : ¬ (20000 : Int32) ≤ (Ls.getD k (0, [])).2.getD j 0 := Int32.not_le.mpr hlt
      rw [Nat.add_assoc]
      rw [y1, y2]
      unfold eO eA
      rw [if_neg z, if_neg z]
      exact ⟨rfl, rfl⟩
    · have hs := flat_split hk
      have hlen := congrArg List.length hs
      rw [List.length_append, List.length_append] at hlen
      simp only [List.length_cons] at hlen
      obtain ⟨y1, y2⟩ := n15 ((flat (Ls.take k)).length + (Ls.getD k (0, [])).2.length) (by omega)
      have eg : (flat Ls).getD ((flat (Ls.take k)).length + (Ls.getD k (0, [])).2.length) 0 = 20000 + (Ls.getD k (0, [])).1 := by
        rw [hs, gD_r]
        exact gD_r (l := (Ls.getD k (0, [])).2) (r := (20000 + (Ls.getD k (0, [])).1) :: flat (Ls.drop (k + 1))) 0
      rw [eg] at y1
      have hpm : Ls.getD k (0, []) ∈ Ls := by
        rw [List.getD_eq_getElem?_getD, List.getElem?_eq_getElem hk]
        exact List.getElem_mem hk
      obtain ⟨-, p1, p2⟩ := hok _ hpm
      obtain ⟨x, hx, hxe⟩ := nI_of (x := (Ls.getD k (0, [])).1) (Int32.not_lt.mpr p1)
      have hx9 : x ≤ 999 := Nat.not_lt.mp fun z => by rw [hxe] at p2; exact absurd p2 (nI_ge (a := 999) z hx)
      have z : (20000 : Int32) ≤ 20000 + (Ls.getD k (0, [])).1 := by
        rw [hxe, show (20000 : Int32) = nI 20000 from rfl, nI_add]; exact nI_le (by omega) (by omega)
      rw [Nat.add_assoc, y1]
      unfold eO
      rw [if_pos z]
  · have htl : t < n 4 := by omega
    obtain ⟨⟨a1, a2, a3, a4, a5⟩, a6, a7⟩ := hX.2 t htl
    rw [va_upN _ _ htn, hf, va_upN _ _ htn, hl t htl]
    refine ⟨⟨a1, a2, a3, a4, fun j hj => by rw [hv t j htl]; exact a5 j hj⟩, a6, fun ht1 => ?_⟩
    obtain ⟨b1, b2⟩ := a7 ht1
    refine ⟨by rw [h12 _ (by omega)]; exact b1, fun k hk => ?_⟩
    obtain ⟨c1, at0, c2, c3, c4⟩ := b2 k hk
    have hi : 16 * (t - 1) + k < 16 * t0 := by omega
    refine ⟨by rw [(h13 _ hi).1]; exact c1, at0, by rw [(h13 _ hi).2]; exact c2, c3, fun j hj => ?_, ?_⟩
    · have hi2 : 660 * (t - 1) + at0 + j < 660 * t0 := by omega
      rw [(h15 _ hi2).1, (h15 _ hi2).2]; exact c4.1 j hj
    · have hi2 : 660 * (t - 1) + at0 + ((tx t).getD k (0, [])).2.length < 660 * t0 := by omega
      rw [(h15 _ hi2).1]; exact c4.2
theorem s601 {h : HS} (hS : SXA ax ao ad n e pO fO h) : SXA ax ao ad n e pO fO (sFi h 601 (ad 6 0) 0) ∧ cf ad n (sFi h 601 (ad 6 0) 0) 601 0 = 0 ∧ (∀ g, g ≠ 601 → cf ad n (sFi h 601 (ad 6 0) 0) g = cf ad n h g) := by
  have e1 : cf ad n (sFi h 601 (ad 6 0) 0) = up2 (cf ad n h) 601 0 0 := cf_sFi hS.2.1 (t := 6) (by decide) (ktape hS).1
  exact ⟨SXA_sFi (by decide) (by decide) hS, by rw [e1, up2_same], fun g hg => by rw [e1, up2_ne1' hg]⟩
theorem PQ_tape {hx1 hm1 : HS} (hPQ : PQ ax am ao ad n e pO fO q tm tx w pn nw fs ls rs rl pr tl hx hm) (hz : FZ ax ao ad n e pO fO hx hx1) (hy : FY am q hm hm1) (hM1 : SMA q am hm1) : PQ ax am ao ad n e pO fO q tm tx w pn nw fs ls rs rl pr 0 (sFi hx1 601 (ad 6 0) 0) hm1 := by
  obtain ⟨hS, hM, hN, hF, hP, hC, hB, hT, hX, hW⟩ := hPQ
  obtain ⟨z1, z2, z3⟩ := s601 hz.1
  have co : ∀ g, (g ≠ 601 ∧ g ≠ 702 ∧ g ≠ 703 ∧ g ≠ 704 ∧ g ≠ 705 ∧ g ≠ 706 ∧ g ≠ 802) → cf ad n (sFi hx1 601 (ad 6 0) 0) g = cf ad n hx g := fun g hg => by rw [z3 g hg.1, hz.2.2.1 g hg.2]
  have vo : ∀ t, (t ≠ 17 ∧ t ≠ 18 ∧ t ≠ 19) → cv ad n (sFi hx1 601 (ad 6 0) 0) t = cv ad n hx t := fun t ht => hz.2.2.2 t ht
  obtain ⟨⟨e1, e2, e3, e4, e5, e6⟩, io, mo, m15, m12, m13, mlo, h2⟩ := hy
  have har : ar (sFi hx1 601 (ad 6 0) 0) = ar hx := hz.2.1.2.2.2.2.1
  have hln : ln (sFi hx1 601 (ad 6 0) 0) = ln hx := hz.2.1.2.2.1
  have hn := n_le hS
  unfold PQ
  simp only [co 908 (by decide), co 909 (by decide), co 200 (by decide), co 201 (by decide), co 202 (by decide), co 204 (by decide), co 205 (by decide), co 206 (by decide), co 207 (by decide), co 208 (by decide), co 300 (by decide), co 301 (by decide), co 302 (by decide), co 102 (by decide), co 103 (by decide), co 104 (by decide), co 105 (by decide), co 106 (by decide), co 107 (by decide), co 108 (by decide), co 401 (by decide), vo 12 (by decide), vo 13 (by decide), vo 11 (by decide), vo 14 (by decide), vo 16 (by decide), vo 15 (by decide), io 10 (by decide), io 11 (by decide), io 24 (by decide), io 25 (by decide), io 34 (by decide), io 39 (by decide), mo 26 (by decide), mo 27 (by decide), mo 28 (by decide), mo 29 (by decide), mo 30 (by decide), mo 31 (by decide), mo 32 (by decide), mo 33 (by decide), mo 35 (by decide), mo 36 (by decide), mo 37 (by decide), mo 38 (by decide), mo 40 (by decide), mo 41 (by decide), mo 42 (by decide), mo 43 (by decide), mo 44 (by decide), mo 45 (by decide), mo 46 (by decide), mo 47 (by decide), mo 48 (by decide), mo 49 (by decide), mo 50 (by decide), mo 51 (by decide), mo 1 (by decide), har, hln, mlo 9 (by decide)]
  refine ⟨z1, hM1, hN, hF, hP, hC, hB, ⟨by omega, z2, h2, fun i hi => absurd hi (by omega)⟩, RX_cg hX hn.2.2.2.1 m12 m13 m15, hW⟩
end RXN
