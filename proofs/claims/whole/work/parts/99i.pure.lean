/-! THE START: what the two constructors lay, cell for cell -/
abbrev Cel : Type := (Nat × (Nat → Int32) × (Nat → Option Nat)) ⊕ (Nat × Nat × (Nat → Int64))
def cOk (h : HS) (a : Nat) : Cel → Prop
  | .inl c => kd h a = c.1 ∧ (∀ g, fi h g a = c.2.1 g) ∧ ∀ g, fr h g a = c.2.2 g
  | .inr c => kd h a = c.1 ∧ ln h a = c.2.1 ∧ (∀ j, al h a j = c.2.2 j) ∧ (∀ j, ai h a j = 0) ∧ ∀ j, ar h a j = none
def eqA (h h' : HS) (a : Nat) : Prop := kd h' a = kd h a ∧ (∀ g, fi h' g a = fi h g a) ∧ (∀ g, fr h' g a = fr h g a) ∧ ln h' a = ln h a ∧ (∀ j, ai h' a j = ai h a j) ∧ (∀ j, al h' a j = al h a j) ∧ ∀ j, ar h' a j = ar h a j
theorem eqA.refl (h : HS) (a : Nat) : eqA h h a := ⟨rfl, fun _ => rfl, fun _ => rfl, rfl, fun _ => rfl, fun _ => rfl, fun _ => rfl⟩
theorem eqA.trans {h1 h2 h3 : HS} {a : Nat} (x : eqA h1 h2 a) (y : eqA h2 h3 a) : eqA h1 h3 a := by
  obtain ⟨a1, a2, a3, a4, a5, a6, a7⟩ := x
  obtain ⟨b1, b2, b3, b4, b5, b6, b7⟩ := y
  exact ⟨b1.trans a1, fun g => (b2 g).trans (a2 g), fun g => (b3 g).trans (a3 g), b4.trans a4, fun j => (b5 j).trans (a5 j), fun j => (b6 j).trans (a6 j), fun j => (b7 j).trans (a7 j)⟩
theorem cOk.to {h h' : HS} {a : Nat} (e : eqA h h' a) : ∀ {c : Cel}, cOk h a c → cOk h' a c := by
  obtain ⟨b1, b2, b3, b4, b5, b6, b7⟩ := e
  intro c hc
  cases c with
  | inl c => exact ⟨b1.trans hc.1, fun g => (b2 g).trans (hc.2.1 g), fun g => (b3 g).trans (hc.2.2 g)⟩
  | inr c => exact ⟨b1.trans hc.1, b4.trans hc.2.1, fun g => (b6 g).trans (hc.2.2.1 g), fun g => (b5 g).trans (hc.2.2.2.1 g), fun g => (b7 g).trans (hc.2.2.2.2 g)⟩
def Rp (B : Nat) (h0 : HS) (cl : List Cel) (h : HS) : Prop := sz h = B + cl.length ∧ cs h = cs h0 ∧ (∀ a, a < B → eqA h0 h a) ∧ ∀ i c, cl[i]? = some c → cOk h (B + i) c
theorem rp_app {B : Nat} {h0 h h' : HS} {cl : List Cel} {c : Cel} (R : Rp B h0 cl h) (hz : sz h' = sz h + 1) (hc : cs h' = cs h) (he : ∀ a, a ≠ sz h → eqA h h' a) (hn : cOk h' (sz h) c) : Rp B h0 (cl ++ [c]) h' := by
  obtain ⟨r1, r2, r3, r4⟩ := R
  refine ⟨?_, hc.trans r2, fun a ha => (r3 a ha).trans (he a (by omega)), fun i x hx => ?_⟩
  · rw [hz, r1, List.length_append]; rfl
  · by_cases hi : i < cl.length
    · rw [List.getElem?_append_left hi] at hx
      exact (r4 i x hx).to (he _ (by omega))
    · have h1 := (List.getElem?_eq_some_iff.mp hx).1
      rw [List.length_append] at h1
      have h2 : i = cl.length := by simp at h1; omega
      subst h2
      rw [List.getElem?_append_right (Nat.le_refl _), Nat.sub_self] at hx
      obtain rfl : c = x := Option.some.inj hx
      rw [← r1]
      exact hn
theorem rp_set {B : Nat} {h0 h h' : HS} {cl rest : List Cel} {c c' : Cel} (R : Rp B h0 (cl ++ c :: rest) h) (hz : sz h' = sz h) (hc : cs h' = cs h) (he : ∀ a, a ≠ B + cl.length → eqA h h' a) (hn : cOk h (B + cl.length) c → cOk h' (B + cl.length) c') : Rp B h0 (cl ++ c' :: rest) h' := by
  obtain ⟨r1, r2, r3, r4⟩ := R
  refine ⟨?_, hc.trans r2, fun a ha => (r3 a ha).trans (he a (by omega)), fun i x hx => ?_⟩
  · rw [hz, r1, List.length_append, List.length_append]; rfl
  · by_cases hi : i = cl.length
    · subst hi
      rw [List.getElem?_append_right (Nat.le_refl _), Nat.sub_self] at hx
      obtain rfl : c' = x := Option.some.inj hx
      refine hn (r4 _ _ ?_)
      rw [List.getElem?_append_right (Nat.le_refl _), Nat.sub_self]
      rfl
    · refine (r4 i x ?_).to (he _ (by omega))
      rw [← hx]
      by_cases h2 : i < cl.length
      · rw [List.getElem?_append_left h2, List.getElem?_append_left h2]
      · rw [List.getElem?_append_right (by omega), List.getElem?_append_right (by omega)]
        obtain ⟨k, hk⟩ : ∃ k, i - cl.length = k + 1 := ⟨i - cl.length - 1, by omega⟩
        rw [hk]
        rfl
theorem rp_nO {B : Nat} {h0 h : HS} {cl : List Cel} (R : Rp B h0 cl h) (c : Nat) : Rp B h0 (cl ++ [.inl (c + 1, fun _ => 0, fun _ => none)]) (nO h c) := by
  refine rp_app R rfl rfl (fun a ha => ?_) ?_
  · exact ⟨if_neg ha, fun g => if_neg ha, fun g => if_neg ha, rfl, fun _ => rfl, fun _ => rfl, fun _ => rfl⟩
  · exact ⟨if_pos rfl, fun g => if_pos rfl, fun g => if_pos rfl⟩
theorem rp_nA {B : Nat} {h0 h : HS} {cl : List Cel} (R : Rp B h0 cl h) (k n : Nat) : Rp B h0 (cl ++ [.inr (k, n, fun _ => 0)]) (nA h k n) := by
  refine rp_app R rfl rfl (fun a ha => ?_) ?_
  · exact ⟨if_neg ha, fun g => rfl, fun g => rfl, if_neg ha, fun j => congrFun (if_neg ha) j, fun j => congrFun (if_neg ha) j, fun j => congrFun (if_neg ha) j⟩
  · exact ⟨if_pos rfl, if_pos rfl, fun j => congrFun (if_pos rfl) j, fun j => congrFun (if_pos rfl) j, fun j => congrFun (if_pos rfl) j⟩
theorem rp_fr {B : Nat} {h0 h : HS} {cl rest : List Cel} {k g : Nat} {F : Nat → Int32} {R : Nat → Option Nat} {v : Option Nat} (hR : Rp B h0 (cl ++ .inl (k, F, R) :: rest) h) : Rp B h0 (cl ++ .inl (k, F, va_up R g v) :: rest) (sFr h g (B + cl.length) v) := by
  refine rp_set hR rfl rfl (fun a ha => ?_) (fun hc => ?_)
  · exact ⟨rfl, fun _ => rfl, fun g' => up2_ne2 _ _ _ _ ha, rfl, fun _ => rfl, fun _ => rfl, fun _ => rfl⟩
  · refine ⟨hc.1, hc.2.1, fun g' => ?_⟩
    by_cases hg : g' = g
    · subst hg
      exact (up2_same _ _ _ _).trans (if_pos rfl).symm
    · exact (up2_ne1 _ _ _ _ hg).trans ((hc.2.2 g').trans (if_neg hg).symm)
theorem rp_fi {B : Nat} {h0 h : HS} {cl rest : List Cel} {k g : Nat} {F : Nat → Int32} {R : Nat → Option Nat} {v : Int32} (hR : Rp B h0 (cl ++ .inl (k, F, R) :: rest) h) : Rp B h0 (cl ++ .inl (k, va_up F g v, R) :: rest) (sFi h g (B + cl.length) v) := by
  refine rp_set hR rfl rfl (fun a ha => ?_) (fun hc => ?_)
  · exact ⟨rfl, fun g' => up2_ne2 _ _ _ _ ha, fun _ => rfl, rfl, fun _ => rfl, fun _ => rfl, fun _ => rfl⟩
  · refine ⟨hc.1, fun g' => ?_, hc.2.2⟩
    by_cases hg : g' = g
    · subst hg
      exact (up2_same _ _ _ _).trans (if_pos rfl).symm
    · exact (up2_ne1 _ _ _ _ hg).trans ((hc.2.1 g').trans (if_neg hg).symm)
theorem rp_al {B : Nat} {h0 h : HS} {cl rest : List Cel} {k N j : Nat} {L : Nat → Int64} {v : Int64} (hR : Rp B h0 (cl ++ .inr (k, N, L) :: rest) h) : Rp B h0 (cl ++ .inr (k, N, va_up L j v) :: rest) (sAl h (B + cl.length) j v) := by
  refine rp_set hR rfl rfl (fun a ha => ?_) (fun hc => ?_)
  · exact ⟨rfl, fun _ => rfl, fun _ => rfl, rfl, fun _ => rfl, fun j' => up2_ne1 _ _ _ _ ha, fun _ => rfl⟩
  · refine ⟨hc.1, hc.2.1, fun j' => ?_, hc.2.2.2⟩
    by_cases hg : j' = j
    · subst hg
      exact (up2_same _ _ _ _).trans (if_pos rfl).symm
    · exact (up2_ne2 _ _ _ _ hg).trans ((hc.2.2.1 j').trans (if_neg hg).symm)
theorem rp_at {B : Nat} {h0 h : HS} {cl rest : List Cel} {c : Cel} (hR : Rp B h0 (cl ++ c :: rest) h) : cOk h (B + cl.length) c := by
  refine hR.2.2.2 _ _ ?_
  rw [List.getElem?_append_right (Nat.le_refl _), Nat.sub_self]
  rfl
def Go (o : Option HS) (Q : HS → Prop) : Prop := ∃ h, o = some h ∧ Q h
theorem go_pR {B : Nat} {h0 h : HS} {cl rest : List Cel} {c k a : Nat} {F : Nat → Int32} {R : Nat → Option Nat} {v : Option Nat} {f : HS → Option HS} {Q : HS → Prop} (hR : Rp B h0 (cl ++ .inl (c + 1, F, R) :: rest) h) (ha : a = B + cl.length) (K : ∀ h', Rp B h0 (cl ++ .inl (c + 1, F, va_up R (100 * c + k) v) :: rest) h' → Go (f h') Q) : Go ((pR h (some a) c k v).bind f) Q := by
  subst ha
  have h1 := K _ (rp_fr (g := 100 * c + k) (v := v) hR)
  have h2 : kd h (B + cl.length) = c + 1 := (rp_at hR).1
  simp only [pR, h2, if_true, Option.bind_some]
  exact h1
theorem go_pI {B : Nat} {h0 h : HS} {cl rest : List Cel} {c k a : Nat} {F : Nat → Int32} {R : Nat → Option Nat} {v : Int32} {f : HS → Option HS} {Q : HS → Prop} (hR : Rp B h0 (cl ++ .inl (c + 1, F, R) :: rest) h) (ha : a = B + cl.length) (K : ∀ h', Rp B h0 (cl ++ .inl (c + 1, va_up F (100 * c + k) v, R) :: rest) h' → Go (f h') Q) : Go ((pI h (some a) c k v).bind f) Q := by
  subst ha
  have h1 := K _ (rp_fi (g := 100 * c + k) (v := v) hR)
  have h2 : kd h (B + cl.length) = c + 1 := (rp_at hR).1
  simp only [pI, h2, if_true, Option.bind_some]
  exact h1
theorem go_yL {B : Nat} {h0 h : HS} {cl rest : List Cel} {N a : Nat} (j : Nat) {L : Nat → Int64} {v : Int64} {x : Int32} {f : HS → Option HS} {Q : HS → Prop} (hR : Rp B h0 (cl ++ .inr (204, N, L) :: rest) h) (ha : a = B + cl.length) (hj : x = nI j) (hN : j < N) (hN2 : N ≤ 100) (K : ∀ h', Rp B h0 (cl ++ .inr (204, N, va_up L j v) :: rest) h' → Go (f h') Q) : Go ((yL h (some a) x v).bind f) Q := by
  subst ha
  subst hj
  have h1 := K _ (rp_al (j := j) (v := v) hR)
  have h2 : kd h (B + cl.length) = 204 := (rp_at hR).1
  have h3 : ln h (B + cl.length) = N := (rp_at hR).2.1
  simp only [yL, h2, h3, inB_nI hN (by omega), nI_cl hN (by omega), and_self, if_true, Option.bind_some]
  exact h1
/-- a new row, as a field of an object -/
theorem go_row {B : Nat} {h0 h : HS} {cl rest : List Cel} {cap kk c k a L : Nat} {n : Int32} (N : Nat) {F : Nat → Int32} {R : Nat → Option Nat} {f : HS → Option HS} {Q : HS → Prop} (hR : Rp B h0 (cl ++ .inl (c + 1, F, R) :: rest) h) (ha : a = B + cl.length) (hn : n = nI N) (hN : N = cap) (hN2 : N < 100000) (hL : sz h = L) (K : ∀ h', Rp B h0 (cl ++ .inl (c + 1, F, va_up R (100 * c + k) (some L)) :: (rest ++ [.inr (kk, N, fun _ => 0)])) h' → Go (f h') Q) : Go ((nwA cap h kk n).bind fun q => (pR q.2 (some a) c k q.1).bind f) Q := by
  subst hN
  subst hn
  have h1 : nwA N h kk (nI N) = some (some (sz h), nA h kk N) := by
    have h2 : inB (nI N) (N + 1) = true := inB_nI (by omega) (by omega)
    have h3 : (nI N).toNatClampNeg = N := nI_cl (Nat.lt_succ_self N) (by omega)
    simp only [nwA, h2, h3, if_true]
  rw [h1]
  subst hL
  have h4 := rp_nA hR kk N
  rw [List.append_assoc, List.cons_append] at h4
  exact go_pR h4 ha K
theorem go_some {h : HS} {Q : HS → Prop} (hq : Q h) : Go (some h) Q := ⟨h, rfl, hq⟩
theorem go_then {o : Option HS} {f : HS → Option HS} {P Q : HS → Prop} (h1 : Go o P) (h2 : ∀ h, P h → Go (f h) Q) : Go (o.bind f) Q := by
  obtain ⟨h, rfl, hp⟩ := h1
  exact h2 h hp
