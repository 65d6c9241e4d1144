theorem e_add {h : HS} {L el N x : Nat} (hk : kd h L = 1) (h1 : fr h 1 L = some el) (h2 : fi h 2 L = nI N) (hN : N < 60) (hcs : (N = 0 ∧ el = cs h 0 ∧ kd h (cs h 0) = 306 ∧ ln h (cs h 0) = 0) ∨ (kd h el = 206 ∧ N ≤ ln h el ∧ ln h el ∈ [10, 15, 22, 33, 49, 73])) (hx : elO (kd h x) = true) (hLz : L < sz h) (hxz : x < sz h) (hez : el < sz h) (hall : ∀ j, j < N → ∃ b, ar h el j = some b ∧ elO (kd h b) = true ∧ b < sz h) : ∃ h', m_Jx4a65c_add_9ea2d L (some x) h = some (1, h') ∧ AddOk h h' L el N x := by
  rcases hcs with ⟨rfl, rfl, c3, c4⟩ | ⟨c1, c2, c3⟩
  · exact e_add_first hk h1 h2 c3 c4 hx hLz hxz
  · by_cases hr : N < ln h el
    · exact e_add_room hk h1 h2 hN c1 c3 hr hx hez
    · exact e_add_full hk h1 h2 hN c1 c3 (by omega) hx hLz hxz hez hall
/-! more things than before -/
def adX (tg : Nat → Option Nat) (n : Nat → Nat) (ad : Nat → Nat → Nat) : Nat → Nat → Nat := fun t i => match tg t with
  | some a => if i = n t then a else ad t i
  | none => ad t i
def nX (tg : Nat → Option Nat) (n : Nat → Nat) : Nat → Nat := fun t => match tg t with
  | some _ => n t + 1
  | none => n t
theorem adX_old {tg : Nat → Option Nat} {n : Nat → Nat} {ad : Nat → Nat → Nat} {t i : Nat} (h : i < n t) : adX tg n ad t i = ad t i := by
  unfold adX
  cases tg t with
  | none => rfl
  | some a => simp only; rw [if_neg (by omega)]
theorem adX_new {tg : Nat → Option Nat} {n : Nat → Nat} {ad : Nat → Nat → Nat} {t a : Nat} (h : tg t = some a) : adX tg n ad t (n t) = a := by
  unfold adX; rw [h]; simp
theorem nX_none {tg : Nat → Option Nat} {n : Nat → Nat} {t : Nat} (h : tg t = none) : nX tg n t = n t := by unfold nX; rw [h]
theorem nX_some {tg : Nat → Option Nat} {n : Nat → Nat} {t a : Nat} (h : tg t = some a) : nX tg n t = n t + 1 := by unfold nX; rw [h]
/-- a valid place is an old one or the new one -/
theorem nX_cases {tg : Nat → Option Nat} {n : Nat → Nat} {t i : Nat} (h : i < nX tg n t) : i < n t ∨ ∃ a, tg t = some a ∧ i = n t := by
  cases ht : tg t with
  | none => rw [nX_none ht] at h; exact Or.inl h
  | some a =>
    rw [nX_some ht] at h
    by_cases hi : i < n t
    · exact Or.inl hi
    · exact Or.inr ⟨a, rfl, by omega⟩
def EXT (hx h' : HS) (L el N x : Nat) : Prop :=
  sz hx ≤ sz h' ∧ cs h' = cs hx ∧ (∀ a, a < sz hx → kd h' a = kd hx a ∧ ln h' a = ln hx a ∧ ai h' a = ai hx a ∧ al h' a = al hx a) ∧ (∀ g a, a < sz hx → ¬ (a = L ∧ (g = 0 ∨ g = 2)) → fi h' g a = fi hx g a) ∧ fi h' 2 L = nI (N + 1) ∧ (∀ g a, a < sz hx → ¬ (a = L ∧ g = 1) → fr h' g a = fr hx g a) ∧ (∀ a, a < sz hx → a ≠ el → ar h' a = ar hx a) ∧
  ∃ el', fr h' 1 L = some el' ∧ kd h' el' = 206 ∧ N + 1 ≤ ln h' el' ∧ ln h' el' ∈ [10, 15, 22, 33, 49, 73] ∧ (∀ j, j < N → ar h' el' j = ar hx el j) ∧ ar h' el' N = some x ∧ (el' = el ∨ sz hx ≤ el') ∧ el' < sz h'
/-- a new thing is made: nothing old changes -/
def NEW (hx h1 : HS) : Prop := sz hx ≤ sz h1 ∧ cs h1 = cs hx ∧ ∀ a, a < sz hx → kd h1 a = kd hx a ∧ ln h1 a = ln hx a ∧ ai h1 a = ai hx a ∧ al h1 a = al hx a ∧ ar h1 a = ar hx a ∧ (∀ g, fi h1 g a = fi hx g a) ∧ ∀ g, fr h1 g a = fr hx g a
theorem EXT.of {hx h1 h' : HS} {L el N x : Nat} (hn : NEW hx h1) (ha : AddOk h1 h' L el N x) (hel : el < sz hx) : EXT hx h' L el N x := by
  obtain ⟨n1, n2, n3⟩ := hn
  obtain ⟨a1, a2, a3, a4, a5, a6, a7, el', b1, b2, b3, b4, b5, b6, b7, b8⟩ := ha
  refine ⟨by omega, a2.trans n2, fun a hz => ?_, fun g a hz hne => ?_, a5, fun g a hz hne => ?_, fun a hz hne => ?_, el', b1, b2, b3, b4, fun j hj => ?_, b6, by omega, b8⟩
  · obtain ⟨c1, c2, c3, c4, -⟩ := n3 a hz
    obtain ⟨d1, d2, d3, d4⟩ := a3 a (by omega)
    exact ⟨d1.trans c1, d2.trans c2, d3.trans c3, d4.trans c4⟩
  · rw [a4 g a hne, (n3 a hz).2.2.2.2.2.1 g]
  · rw [a6 g a hne, (n3 a hz).2.2.2.2.2.2 g]
  · rw [a7 a (by omega) hne, (n3 a hz).2.2.2.2.1]
  · rw [b5 j hj, (n3 el hel).2.2.2.2.1]
section EXTS
variable {ax ao : Nat} {ad : Nat → Nat → Nat} {n e pO fO pO' fO' : Nat → Nat} {hx h' : HS} {tg : Nat → Option Nat} {L N x l c : Nat}
theorem LX_other {l' c' : Nat} (hS : SXA ax ao ad n e pO fO hx) (hE : EXT hx h' (ad 0 l) (e l) N x) (hl : l < 3) (hl' : l' < 3) (hne : l' ≠ l) (hL : LX ad n e (kd hx) (fi hx 2) (fr hx 1) (ln hx) (ar hx) (sz hx) (cs hx 0) l' c') (ht0 : tg 0 = none) (htc : tg c' = none) (hdis : ¬ n c' = 0 → e l' ≠ e l) (el' : Nat) : LX (adX tg n ad) (nX tg n) (va_up e l el') (kd h') (fi h' 2) (fr h' 1) (ln h') (ar h') (sz h') (cs h' 0) l' c' := by
  obtain ⟨x1, x2, x3, x4, x5, x6, x7, -⟩ := hE
  obtain ⟨l1, l2, l3, l4, l5⟩ := hL
  have hadl : adX tg n ad 0 l' = ad 0 l' := adX_old (by rw [hS.1.1]; exact hl')
  have hz := (hS.2.2.1 0 l' (by rw [hS.1.1]; exact hl')).2
  have hneL : ad 0 l' ≠ ad 0 l := fun z => hne (hS.2.1 0 l' 0 l (by rw [hS.1.1]; exact hl') (by rw [hS.1.1]; exact hl) z).2
  have hee : va_up e l el' l' = e l' := va_upN _ _ hne
  refine ⟨?_, ?_, fun j hj => ?_, ?_, ?_⟩
  · rw [hadl, x6 1 _ hz (fun z => hneL z.1), hee]; exact l1
  · rw [hadl, x4 2 _ hz (fun z => hneL z.1), nX_none htc]; exact l2
  · rw [nX_none htc] at hj
    rw [hee, adX_old hj, x7 _ l4 (hdis (by omega))]; exact l3 j hj
  · rw [hee]; omega
  · rw [nX_none htc, hee, x2, (x3 _ l4).1, (x3 _ l4).2.1]; exact l5
theorem SXA_ext (hS : SXA ax ao ad n e pO fO hx) (hE : EXT hx h' (ad 0 l) (e l) (n c) x) (hlc : (l = 0 ∧ c = 2) ∨ (l = 1 ∧ c = 3) ∨ (l = 2 ∧ c = 1)) (ht : tg c = some x) (ht0 : ∀ t a, tg t = some a → sz hx ≤ a ∧ a < sz h' ∧ kd h' a = kX t ∧ (11 ≤ t → t ≠ 15 → ln h' a = lX t)) (hti : ∀ t t' a, tg t = some a → tg t' = some a → t = t') (htl : ∀ t, t = 0 ∨ ((t = 1 ∨ t = 2 ∨ t = 3) ∧ t ≠ c) → tg t = none) (hn' : SXn (nX tg n)) (hr' : SXr ax ao (adX tg n ad) (nX tg n) pO' fO' (fr h')) : ∃ e', SXA ax ao (adX tg n ad) (nX tg n) e' pO' fO' h' := by
  obtain ⟨x1, x2, x3, x4, x5, x6, x7, el', y1, y2, y3, y4, y5, y6, y7, y8⟩ := id hE
  have hl3 : l < 3 := by omega
  have hLl : LX ad n e (kd hx) (fi hx 2) (fr hx 1) (ln hx) (ar hx) (sz hx) (cs hx 0) l c := by
    rcases hlc with ⟨rfl, rfl⟩ | ⟨rfl, rfl⟩ | ⟨rfl, rfl⟩
    · exact hS.2.2.2.2.2.1.1
    · exact hS.2.2.2.2.2.1.2.1
    · exact hS.2.2.2.2.2.1.2.2.1
  have hadl : adX tg n ad 0 l = ad 0 l := adX_old (by rw [hS.1.1]; exact hl3)
  have hLnew : LX (adX tg n ad) (nX tg n) (va_up e l el') (kd h') (fi h' 2) (fr h' 1) (ln h') (ar h') (sz h') (cs h' 0) l c := by
    refine ⟨?_, ?_, fun j hj => ?_, ?_, Or.inr ?_⟩
    · rw [hadl, va_up_same]; exact y1
    · rw [hadl, nX_some ht]; exact x5
    · rw [nX_some ht] at hj
      rw [va_up_same]
      by_cases hj2 : j < n c
      · rw [adX_old hj2, y5 j hj2]; exact hLl.2.2.1 j hj2
      · have : j = n c := by omega
        subst this
        rw [adX_new ht]; exact y6
    · rw [va_up_same]; exact y8
    · rw [va_up_same, nX_some ht]; exact ⟨y2, y3, y4⟩
  have hdis : ∀ l', l' < 3 → l' ≠ l → kd hx (e l') = 206 → e l' ≠ e l := fun l' h1 h2 h3 z => h2 (hS.2.2.2.2.2.1.2.2.2 l' l h1 hl3 h3 z)
  have k206 : ∀ l' c', LX ad n e (kd hx) (fi hx 2) (fr hx 1) (ln hx) (ar hx) (sz hx) (cs hx 0) l' c' → ¬ n c' = 0 → kd hx (e l') = 206 := fun l' c' hL hn => by
    rcases hL.2.2.2.2 with z | z
    · exact absurd z.1 hn
    · exact z.1
  refine ⟨va_up e l el', hn', ?_, ?_, ?_, hr', ?_, ?_⟩
  · intro t i t' i' h1 h2 h3
    rcases nX_cases h1 with k1 | ⟨a, k1, rfl⟩ <;> rcases nX_cases h2 with k2 | ⟨a', k2, rfl⟩
    · rw [adX_old k1, adX_old k2] at h3; exact hS.2.1 t i t' i' k1 k2 h3
    · rw [adX_old k1, adX_new k2] at h3
      have := (hS.2.2.1 t i k1).2
      have := (ht0 t' a' k2).1
      omega
    · rw [adX_new k1, adX_old k2] at h3
      have := (hS.2.2.1 t' i' k2).2
      have := (ht0 t a k1).1
      omega
    · rw [adX_new k1, adX_new k2] at h3
      subst h3
      have := hti t t' a k1 k2
      subst this
      exact ⟨rfl, rfl⟩
  · intro t i h1
    rcases nX_cases h1 with k1 | ⟨a, k1, rfl⟩
    · rw [adX_old k1, (x3 _ (hS.2.2.1 t i k1).2).1]
      exact ⟨(hS.2.2.1 t i k1).1, Nat.lt_of_lt_of_le (hS.2.2.1 t i k1).2 x1⟩
    · rw [adX_new k1]
      exact ⟨(ht0 t a k1).2.2.1, (ht0 t a k1).2.1⟩
  · intro t i h1 h2 h3
    rcases nX_cases h1 with k1 | ⟨a, k1, rfl⟩
    · rw [adX_old k1, (x3 _ (hS.2.2.1 t i k1).2).2.1]
      exact hS.2.2.2.1 t i k1 h2 h3
    · rw [adX_new k1]
      exact (ht0 t a k1).2.2.2 h2 h3
  · have oth : ∀ l' c', ((l' = 0 ∧ c' = 2) ∨ (l' = 1 ∧ c' = 3) ∨ (l' = 2 ∧ c' = 1)) → LX ad n e (kd hx) (fi hx 2) (fr hx 1) (ln hx) (ar hx) (sz hx) (cs hx 0) l' c' → LX (adX tg n ad) (nX tg n) (va_up e l el') (kd h') (fi h' 2) (fr h' 1) (ln h') (ar h') (sz h') (cs h' 0) l' c' := by
      intro l' c' hlc' hL
      by_cases hll : l' = l
      · have hcc : c' = c := by omega
        subst hll; subst hcc
        exact hLnew
      · exact LX_other hS hE hl3 (by omega) hll hL (htl 0 (Or.inl rfl)) (htl c' (Or.inr (by omega))) (fun hn => hdis l' (by omega) hll (k206 l' c' hL hn)) el'
    refine ⟨oth 0 2 (by decide) hS.2.2.2.2.2.1.1, oth 1 3 (by decide) hS.2.2.2.2.2.1.2.1, oth 2 1 (by decide) hS.2.2.2.2.2.1.2.2.1, ?_⟩
    have hlt : ∀ l', l' < 3 → e l' < sz hx := fun l' h => by
      rcases (show l' = 0 ∨ l' = 1 ∨ l' = 2 by omega) with rfl | rfl | rfl
      · exact hS.2.2.2.2.2.1.1.2.2.2.1
      · exact hS.2.2.2.2.2.1.2.1.2.2.2.1
      · exact hS.2.2.2.2.2.1.2.2.1.2.2.2.1
    intro l1 l2 h1 h2 h3 h4
    by_cases g1 : l1 = l
    · subst g1
      rw [va_up_same] at h3 h4
      by_cases g2 : l2 = l1
      · exact g2.symm
      · rw [va_upN _ _ g2] at h4
        rcases y7 with y7 | y7
        · have h5 : kd hx (e l2) = 206 := by
            rw [← (x3 _ (hlt l2 h2)).1, ← h4]; exact h3
          exact absurd (h4.symm.trans y7) (hdis l2 h2 g2 h5)
        · have := hlt l2 h2; omega
    · rw [va_upN _ _ g1] at h3 h4
      have h5 : kd hx (e l1) = 206 := by rw [← (x3 _ (hlt l1 h1)).1]; exact h3
      by_cases g2 : l2 = l
      · subst g2
        rw [va_up_same] at h4
        rcases y7 with y7 | y7
        · exact absurd (h4.trans y7) (hdis l1 h1 g1 h5)
        · have := hlt l1 h1; omega
      · rw [va_upN _ _ g2] at h4
        exact hS.2.2.2.2.2.1.2.2.2 l1 l2 h1 h2 h5 h4
  · obtain ⟨c1, c2, c3, c4⟩ := hS.2.2.2.2.2.2
    rw [x2]
    have hLz : ad 0 l < sz hx := (hS.2.2.1 0 l (by rw [hS.1.1]; exact hl3)).2
    refine ⟨by rw [(x3 _ c3).1]; exact c1, by rw [(x3 _ c3).2.1]; exact c2, by omega, fun i hi => ?_⟩
    obtain ⟨d1, d2, d3, v, d4, d5, d6, d7, d8⟩ := c4 i hi
    refine ⟨by omega, by rw [(x3 _ d1).1]; exact d2, by rw [x4 35001 _ d1 (by omega)]; exact d3, v, by rw [x6 35000 _ d1 (by omega)]; exact d4, by omega, by rw [(x3 _ d5).1]; exact d6, by rw [(x3 _ d5).2.1]; exact d7, fun j hj => ?_⟩
    have h1 := d8 j hj
    unfold cA at h1 ⊢
    rw [(x3 _ d5).1, (x3 _ d5).2.2.1]; exact h1
/-- views: what isn't new stays -/
theorem cf_ext (hS : SXA ax ao ad n e pO fO hx) (hE : EXT hx h' (ad 0 l) (e l) N x) {g t : Nat} (hg : g / 100 = t) (ht : tg t = none) (h0 : g ≠ 0) (h2 : g ≠ 2) : cf (adX tg n ad) (nX tg n) h' g = cf ad n hx g := by
  subst hg
  funext i
  unfold cf
  rw [nX_none ht]
  by_cases hi : i < n (g / 100)
  · rw [if_pos hi, if_pos hi, adX_old hi, hE.2.2.2.1 g _ (hS.2.2.1 _ _ hi).2 (fun z => by rcases z.2 with z | z; exact h0 z; exact h2 z)]
  · rw [if_neg hi, if_neg hi]
theorem cf_extN (hS : SXA ax ao ad n e pO fO hx) (hE : EXT hx h' (ad 0 l) (e l) N x) {g t a : Nat} (hg : g / 100 = t) (ht : tg t = some a) (h0 : g ≠ 0) (h2 : g ≠ 2) : cf (adX tg n ad) (nX tg n) h' g = va_up (cf ad n hx g) (n t) (fi h' g a) := by
  subst hg
  funext i
  unfold cf
  rw [nX_some ht]
  by_cases hi : i < n (g / 100)
  · rw [if_pos (by omega), va_upN _ _ (by omega), if_pos hi, adX_old hi, hE.2.2.2.1 g _ (hS.2.2.1 _ _ hi).2 (fun z => by rcases z.2 with z | z; exact h0 z; exact h2 z)]
  · by_cases hi2 : i = n (g / 100)
    · subst hi2
      rw [if_pos (by omega), va_up_same, adX_new ht]
    · rw [if_neg (by omega), va_upN _ _ hi2, if_neg hi]
theorem cv_ext (hS : SXA ax ao ad n e pO fO hx) (hE : EXT hx h' (ad 0 l) (e l) N x) {t : Nat} (ht : tg t = none) : cv (adX tg n ad) (nX tg n) h' t = cv ad n hx t := by
  funext i
  unfold cv
  rw [nX_none ht]
  by_cases hi : i < n t
  · funext j
    rw [if_pos hi, if_pos hi, adX_old hi, (hE.2.2.1 _ (hS.2.2.1 _ _ hi).2).2.2.1]
  · funext j
    rw [if_neg hi, if_neg hi]
theorem cv_extN (hS : SXA ax ao ad n e pO fO hx) (hE : EXT hx h' (ad 0 l) (e l) N x) {t a : Nat} (ht : tg t = some a) : cv (adX tg n ad) (nX tg n) h' t = va_up (cv ad n hx t) (n t) (ai h' a) := by
  funext i
  unfold cv
  rw [nX_some ht]
  by_cases hi : i < n t
  · funext j
    rw [if_pos (by omega), va_upN _ _ (by omega), if_pos hi, adX_old hi, (hE.2.2.1 _ (hS.2.2.1 _ _ hi).2).2.2.1]
  · by_cases hi2 : i = n t
    · subst hi2
      funext j
      rw [if_pos (by omega), va_up_same, adX_new ht]
    · funext j
      rw [if_neg (by omega), va_upN _ _ hi2, if_neg hi]
end EXTS
