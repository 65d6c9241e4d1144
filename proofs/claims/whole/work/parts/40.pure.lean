/-! THE PURE PART: views of the two memories, and the relation between them -/
theorem kd_sFi (h : HS) (g a : Nat) (x : Int32) : kd (sFi h g a x) = kd h := rfl
theorem fr_sFi (h : HS) (g a : Nat) (x : Int32) : fr (sFi h g a x) = fr h := rfl
theorem ln_sFi (h : HS) (g a : Nat) (x : Int32) : ln (sFi h g a x) = ln h := rfl
theorem ai_sFi (h : HS) (g a : Nat) (x : Int32) : ai (sFi h g a x) = ai h := rfl
theorem al_sFi (h : HS) (g a : Nat) (x : Int32) : al (sFi h g a x) = al h := rfl
theorem ar_sFi (h : HS) (g a : Nat) (x : Int32) : ar (sFi h g a x) = ar h := rfl
theorem sz_sFi (h : HS) (g a : Nat) (x : Int32) : sz (sFi h g a x) = sz h := rfl
theorem cs_sFi (h : HS) (g a : Nat) (x : Int32) : cs (sFi h g a x) = cs h := rfl
theorem kd_sAi (h : HS) (g a : Nat) (x : Int32) : kd (sAi h g a x) = kd h := rfl
theorem fi_sAi (h : HS) (g a : Nat) (x : Int32) : fi (sAi h g a x) = fi h := rfl
theorem fr_sAi (h : HS) (g a : Nat) (x : Int32) : fr (sAi h g a x) = fr h := rfl
theorem ln_sAi (h : HS) (g a : Nat) (x : Int32) : ln (sAi h g a x) = ln h := rfl
theorem al_sAi (h : HS) (g a : Nat) (x : Int32) : al (sAi h g a x) = al h := rfl
theorem ar_sAi (h : HS) (g a : Nat) (x : Int32) : ar (sAi h g a x) = ar h := rfl
theorem sz_sAi (h : HS) (g a : Nat) (x : Int32) : sz (sAi h g a x) = sz h := rfl
theorem cs_sAi (h : HS) (g a : Nat) (x : Int32) : cs (sAi h g a x) = cs h := rfl
theorem kd_wz (h : HS) (m : Nat) : kd (wz h m) = kd h := rfl
theorem fi_wz (h : HS) (m : Nat) : fi (wz h m) = fi h := rfl
theorem fr_wz (h : HS) (m : Nat) : fr (wz h m) = fr h := rfl
theorem ln_wz (h : HS) (m : Nat) : ln (wz h m) = ln h := rfl
theorem ai_wz (h : HS) (m : Nat) : ai (wz h m) = ai h := rfl
theorem al_wz (h : HS) (m : Nat) : al (wz h m) = al h := rfl
theorem ar_wz (h : HS) (m : Nat) : ar (wz h m) = ar h := rfl
theorem cs_wz (h : HS) (m : Nat) : cs (wz h m) = cs h := rfl
theorem fi_sFi (h : HS) (g a : Nat) (x : Int32) : fi (sFi h g a x) = up2 (fi h) g a x := rfl
theorem ai_sAi (h : HS) (a i : Nat) (x : Int32) : ai (sAi h a i x) = up2 (ai h) a i x := rfl
theorem up2_same {α : Type} (f : Nat → Nat → α) (a b : Nat) (v : α) : up2 f a b v a b = v := by simp [up2]
theorem up2_ne1 {α : Type} (f : Nat → Nat → α) (a b : Nat) (v : α) {x y : Nat} (h : x ≠ a) : up2 f a b v x y = f x y := by simp [up2, h]
theorem up2_ne2 {α : Type} (f : Nat → Nat → α) (a b : Nat) (v : α) {x y : Nat} (h : y ≠ b) : up2 f a b v x y = f x y := by simp [up2, h]
def up3 {α : Type} (f : Nat → Nat → Nat → α) (a b c : Nat) (v : α) : Nat → Nat → Nat → α := fun x y z => if x = a ∧ y = b ∧ z = c then v else f x y z
/-- numbers -/
theorem kA201 : kA 201 = true := rfl
theorem kA202 : kA 202 = true := rfl
theorem kA203 : kA 203 = true := rfl
theorem kA206 : kA 206 = true := rfl
theorem kA306 : kA 306 = true := rfl
theorem i1n0 : ((1 : Int32) = 0) = False := eq_false (by decide)
theorem i0n1 : ((0 : Int32) = 1) = False := eq_false (by decide)
theorem i0e0 : ((0 : Int32) = 0) = True := eq_true rfl
theorem i1e1 : ((1 : Int32) = 1) = True := eq_true rfl
theorem nI_mul (a b : Nat) : nI a * nI b = nI (a * b) := (Int32.ofNat_mul a b).symm
theorem inB_nI {i N : Nat} (h : i < N) (hN : N ≤ 100000) : inB (nI i) N = true := by
  have h1 : i < 2 ^ 31 := by omega
  simp only [inB, Bool.and_eq_true, decide_eq_true_eq]
  exact ⟨nI_pos' h1, by rw [nI_clamp h1]; exact h⟩
theorem nI_cl {i N : Nat} (h : i < N) (hN : N ≤ 1000000) : (nI i).toNatClampNeg = i := nI_clamp (by omega)
theorem nI_sub {a b : Nat} (h : b ≤ a) : nI a - nI b = nI (a - b) := by
  have h1 : nI (a - b) + nI b = nI a := by rw [nI_add]; congr 1; omega
  rw [← h1]
  exact Int32.add_sub_cancel _ _
theorem nI_div {a b : Nat} (ha : a < 2 ^ 31) (hb : 0 < b) (hb2 : b < 2 ^ 31) : nI a / nI b = nI (a / b) := by
  apply Int32.toInt_inj.mp
  have h1 : a / b ≤ a := Nat.div_le_self _ _
  rw [Int32.toInt_div_of_ne_left]
  · rw [nI_toInt ha, nI_toInt hb2, nI_toInt (by omega)]
    rfl
  · intro h
    have h2 := congrArg Int32.toInt h
    rw [nI_toInt ha] at h2
    have h3 : (Int32.minValue).toInt = -2147483648 := by decide
    rw [h3] at h2
    omega
theorem idx (a : Int32) (N : Nat) (hN : N ≤ 100000) : (∃ j, j < N ∧ a = nI j) ∨ (a < 0 ∨ (¬ a < 0 ∧ nI N ≤ a)) := by
  by_cases h : a < 0
  · exact Or.inr (Or.inl h)
  · obtain ⟨j, hj, rfl⟩ := nI_of h
    by_cases hj2 : j < N
    · exact Or.inl ⟨j, hj2, rfl⟩
    · exact Or.inr (Or.inr ⟨h, nI_le (by omega) hj⟩)
/-! views -/
def cf (ad : Nat → Nat → Nat) (n : Nat → Nat) (h : HS) (g i : Nat) : Int32 := if i < n (g / 100) then fi h g (ad (g / 100) i) else 0
def cv (ad : Nat → Nat → Nat) (n : Nat → Nat) (h : HS) (t i j : Nat) : Int32 := if i < n t then ai h (ad t i) j else 0
def Inj (ad : Nat → Nat → Nat) (n : Nat → Nat) : Prop := ∀ t i t' i', i < n t → i' < n t' → ad t i = ad t' i' → t = t' ∧ i = i'
theorem cf_sFi {ad : Nat → Nat → Nat} {n : Nat → Nat} (hI : Inj ad n) {h : HS} {g i t : Nat} {x : Int32} (ht : g / 100 = t) (hi : i < n t) : cf ad n (sFi h g (ad t i) x) = up2 (cf ad n h) g i x := by
  subst ht
  funext g' j
  by_cases hj : j < n (g' / 100)
  · simp only [cf, up2, fi_sFi, hj, if_true]
    by_cases hg : g' = g
    · subst hg
      by_cases hji : j = i
      · subst hji; simp
      · have : ¬ ad (g' / 100) j = ad (g' / 100) i := fun z => hji (hI _ _ _ _ hj hi z).2
        simp [hji, this]
    · simp [hg]
  · simp only [cf, up2, hj, if_false]
    by_cases hc : g' = g ∧ j = i
    · obtain ⟨rfl, rfl⟩ := hc
      exact absurd hi hj
    · simp [hc]
theorem cv_sAi {ad : Nat → Nat → Nat} {n : Nat → Nat} (hI : Inj ad n) {h : HS} {t i j : Nat} {x : Int32} (hi : i < n t) : cv ad n (sAi h (ad t i) j x) = up3 (cv ad n h) t i j x := by
  funext t' i' j'
  by_cases hj : i' < n t'
  · simp only [cv, up3, ai_sAi, up2, hj, if_true]
    by_cases hc : t' = t ∧ i' = i
    · obtain ⟨rfl, rfl⟩ := hc
      simp
    · have h1 : ¬ ad t' i' = ad t i := fun z => hc (hI _ _ _ _ hj hi z)
      have h2 : ¬ (t' = t ∧ i' = i ∧ j' = j) := fun z => hc ⟨z.1, z.2.1⟩
      simp [h1, h2]
  · have h2 : ¬ (t' = t ∧ i' = i ∧ j' = j) := by
      rintro ⟨rfl, rfl, -⟩
      exact hj hi
    simp [cv, up3, hj, h2]
theorem cf_at {ad : Nat → Nat → Nat} {n : Nat → Nat} {h : HS} {g i t : Nat} (ht : g / 100 = t) (hi : i < n t) : fi h g (ad t i) = cf ad n h g i := by
  subst ht; simp [cf, hi]
theorem cv_at {ad : Nat → Nat → Nat} {n : Nat → Nat} {h : HS} {t i j : Nat} (hi : i < n t) : ai h (ad t i) j = cv ad n h t i j := by
  simp [cv, hi]
def mf (am : Nat) (h : HS) (k : Nat) : Int32 := fi h (1000 + k) am
def mv (q : Nat → Nat) (h : HS) (k j : Nat) : Int32 := ai h (q k) j
def ml (q : Nat → Nat) (h : HS) (k j : Nat) : Int64 := al h (q k) j
theorem mf_sFi {am g k : Nat} {h : HS} {x : Int32} (hg : g = 1000 + k) : mf am (sFi h g am x) = va_up (mf am h) k x := by
  subst hg
  funext j
  by_cases hj : j = k
  · subst hj; simp [mf, fi_sFi, up2, va_up]
  · have : ¬ 1000 + j = 1000 + k := by omega
    simp [mf, fi_sFi, up2, va_up, hj, this]
theorem mv_sAi {q : Nat → Nat} (hq : ∀ k k', q k = q k' → k = k') {h : HS} {k j : Nat} {x : Int32} : mv q (sAi h (q k) j x) = up2 (mv q h) k j x := by
  funext k' j'
  by_cases hk : k' = k
  · subst hk; simp [mv, ai_sAi, up2]
  · have : ¬ q k' = q k := fun z => hk (hq _ _ z)
    simp [mv, ai_sAi, up2, hk, this]
/-! shapes -/
def kX (t : Nat) : Nat := match t with
  | 11 => 202
  | 12 => 201
  | 13 => 201
  | 14 => 201
  | 15 => 201
  | 16 => 203
  | 17 => 201
  | 18 => 201
  | 19 => 201
  | 20 => 201
  | 21 => 201
  | 22 => 205
  | 23 => 204
  | _ => t + 1
def lX (t : Nat) : Nat := match t with
  | 11 => 200
  | 12 => 3
  | 13 => 51
  | 14 => 50
  | 16 => 600
  | 17 => 601
  | 18 => 601
  | 19 => 600
  | 20 => 5
  | 21 => 32
  | 22 => 50
  | 23 => 1
  | _ => 0
def SXn (n : Nat → Nat) : Prop := n 0 = 3 ∧ n 5 = 1 ∧ n 6 = 1 ∧ n 7 = 1 ∧ n 8 = 1 ∧ n 9 = 1 ∧ n 11 = n 1 ∧ n 12 = n 2 ∧ n 13 = n 3 ∧ n 14 = n 1 ∧ n 15 = n 4 ∧ n 16 = 1 ∧ n 17 = 1 ∧ n 18 = 1 ∧ n 19 = 1 ∧ n 20 = 1 ∧ n 21 = 1 ∧ n 22 = 1 ∧ n 23 = 1 ∧ n 10 = 0 ∧ n 2 ≤ 10 ∧ n 3 ≤ 20 ∧ n 1 ≤ 60 ∧ n 4 ≤ 21 ∧ 1 ≤ n 4 ∧ ∀ t, 24 ≤ t → n t = 0
def SXk (ad : Nat → Nat → Nat) (n K : Nat → Nat) (S : Nat) : Prop := ∀ t i, i < n t → K (ad t i) = kX t ∧ ad t i < S
def SXl (ad : Nat → Nat → Nat) (n Ln : Nat → Nat) : Prop := ∀ t i, i < n t → 11 ≤ t → t ≠ 15 → Ln (ad t i) = lX t
def SXr (ax ao : Nat) (ad : Nat → Nat → Nat) (n pO fO : Nat → Nat) (R : Nat → Nat → Option Nat) : Prop :=
  ad 9 0 = ax ∧ ad 23 0 = ao ∧ R 900 ax = some (ad 0 0) ∧ R 901 ax = some (ad 0 1) ∧ R 902 ax = some (ad 0 2) ∧ R 903 ax = some (ad 6 0) ∧ R 904 ax = some (ad 7 0) ∧ R 905 ax = some (ad 5 0) ∧ R 906 ax = some (ad 22 0) ∧ R 907 ax = some (ad 4 (n 4 - 1)) ∧
  R 600 (ad 6 0) = some (ad 16 0) ∧ R 700 (ad 7 0) = some (ad 8 0) ∧ R 701 (ad 7 0) = some (ad 19 0) ∧ R 800 (ad 8 0) = some (ad 17 0) ∧ R 801 (ad 8 0) = some (ad 18 0) ∧ R 500 (ad 5 0) = some (ad 20 0) ∧ R 501 (ad 5 0) = some (ad 21 0) ∧
  (∀ i, i < n 2 → R 203 (ad 2 i) = some (ad 12 i)) ∧ (∀ i, i < n 3 → R 303 (ad 3 i) = some (ad 13 i)) ∧ (∀ i, i < n 1 → R 109 (ad 1 i) = some (ad 11 i) ∧ R 110 (ad 1 i) = some (ad 14 i) ∧ R 100 (ad 1 i) = some (ad 3 (pO i)) ∧ R 101 (ad 1 i) = some (ad 2 (fO i)) ∧ pO i < n 3 ∧ fO i < n 2) ∧ (∀ i, i < n 4 → R 400 (ad 4 i) = some (ad 15 i))
/-- a list: its object is the l-th, what lies in it the things of tag c -/
def LX (ad : Nat → Nat → Nat) (n e K : Nat → Nat) (F2 : Nat → Int32) (R1 : Nat → Option Nat) (Ln : Nat → Nat) (Ar : Nat → Nat → Option Nat) (S : Nat) (cs0 l c : Nat) : Prop :=
  R1 (ad 0 l) = some (e l) ∧ F2 (ad 0 l) = nI (n c) ∧ (∀ j, j < n c → Ar (e l) j = some (ad c j)) ∧ e l < S ∧
  ((n c = 0 ∧ e l = cs0) ∨ (K (e l) = 206 ∧ n c ≤ Ln (e l) ∧ Ln (e l) ∈ [10, 15, 22, 33, 49, 73]))
def SXe (ad : Nat → Nat → Nat) (n e K : Nat → Nat) (F2 : Nat → Int32) (R1 : Nat → Option Nat) (Ln : Nat → Nat) (Ar : Nat → Nat → Option Nat) (S cs0 : Nat) : Prop :=
  LX ad n e K F2 R1 Ln Ar S cs0 0 2 ∧ LX ad n e K F2 R1 Ln Ar S cs0 1 3 ∧ LX ad n e K F2 R1 Ln Ar S cs0 2 1 ∧ ∀ l l', l < 3 → l' < 3 → K (e l) = 206 → e l = e l' → l = l'
/-- the constants -/
def SXc (K : Nat → Nat) (F1 : Nat → Int32) (R0 : Nat → Option Nat) (Ln : Nat → Nat) (A : Nat → Nat → Int32) (cs : Nat → Nat) (S : Nat) : Prop :=
  K (cs 0) = 306 ∧ Ln (cs 0) = 0 ∧ cs 0 < S ∧ ∀ i, i < 8 → cs (1 + i) < S ∧ K (cs (1 + i)) = 350 ∧ F1 (cs (1 + i)) = 0 ∧ ∃ v, R0 (cs (1 + i)) = some v ∧ v < S ∧ K v = 303 ∧ Ln v = lenS.getD i 0 ∧ ∀ j, j < lenS.getD i 0 → A v j = (bytS.getD i []).getD j 0
def arM : List (Nat × Nat × Nat) := [(1, 201, 600), (4, 201, 602), (5, 201, 602), (6, 204, 602), (9, 204, 8), (12, 201, 21), (13, 201, 336), (14, 201, 336), (15, 201, 13860), (16, 201, 13860), (19, 201, 7), (20, 201, 7), (21, 201, 7), (22, 201, 5), (23, 201, 660), (26, 201, 10), (27, 201, 10), (28, 201, 30), (29, 202, 10), (30, 201, 10), (31, 201, 10), (32, 201, 2020), (33, 201, 10), (35, 201, 20), (36, 201, 20), (37, 201, 20), (38, 201, 1020), (40, 201, 60), (41, 201, 60), (42, 201, 60), (43, 201, 60), (44, 201, 60), (45, 201, 60), (46, 202, 60), (47, 202, 12120), (48, 201, 3060), (49, 201, 3060), (50, 201, 60), (51, 201, 51), (52, 201, 3), (53, 201, 3)]
def SM (q : Nat → Nat) (am : Nat) (K : Nat → Nat) (R : Nat → Nat → Option Nat) (Ln : Nat → Nat) : Prop := K am = 11 ∧ (∀ x ∈ arM, R (1000 + x.1) am = some (q x.1) ∧ K (q x.1) = x.2.1 ∧ Ln (q x.1) = x.2.2) ∧ ∀ k k', q k = q k' → k = k'
def cA (h : HS) (v j : Nat) : Int32 := if kd h v = 303 then ai h v j else 0
theorem cA_sAi {h : HS} {a j : Nat} {x : Int32} (hk : kd h a ≠ 303) : cA (sAi h a j x) = cA h := by
  funext v i
  simp only [cA, kd_sAi, ai_sAi, up2]
  by_cases hv : v = a
  · subst hv; simp [hk]
  · simp [hv]
def SXA (ax ao : Nat) (ad : Nat → Nat → Nat) (n e pO fO : Nat → Nat) (h : HS) : Prop := SXn n ∧ Inj ad n ∧ SXk ad n (kd h) (sz h) ∧ SXl ad n (ln h) ∧ SXr ax ao ad n pO fO (fr h) ∧ SXe ad n e (kd h) (fi h 2) (fr h 1) (ln h) (ar h) (sz h) (cs h 0) ∧ SXc (kd h) (fi h 35001) (fr h 35000) (ln h) (cA h) (cs h) (sz h)
def SMA (q : Nat → Nat) (am : Nat) (h : HS) : Prop := SM q am (kd h) (fr h) (ln h)
theorem SXA_sFi {ax ao : Nat} {ad : Nat → Nat → Nat} {n e pO fO : Nat → Nat} {h : HS} {g a : Nat} {x : Int32} (h2 : g ≠ 2) (h3 : g ≠ 35001) (hS : SXA ax ao ad n e pO fO h) : SXA ax ao ad n e pO fO (sFi h g a x) := by
  have e2 : fi (sFi h g a x) 2 = fi h 2 := by funext b; simp [fi_sFi, up2, h2.symm]
  have e3 : fi (sFi h g a x) 35001 = fi h 35001 := by funext b; simp [fi_sFi, up2, h3.symm]
  unfold SXA
  rw [e2, e3]
  exact hS
theorem SXA_sAi {ax ao : Nat} {ad : Nat → Nat → Nat} {n e pO fO : Nat → Nat} {h : HS} {a j : Nat} {x : Int32} (hk : kd h a ≠ 303) (hS : SXA ax ao ad n e pO fO h) : SXA ax ao ad n e pO fO (sAi h a j x) := by
  unfold SXA
  rw [cA_sAi hk]
  exact hS
theorem SXA_wz {ax ao : Nat} {ad : Nat → Nat → Nat} {n e pO fO : Nat → Nat} {h : HS} {m : Nat} (hm : sz h ≤ m) (hS : SXA ax ao ad n e pO fO h) : SXA ax ao ad n e pO fO (wz h m) := by
  obtain ⟨s1, s2, s3, s4, s5, ⟨l1, l2, l3, l4⟩, s7⟩ := hS
  refine ⟨s1, s2, fun t i hi => ⟨(s3 t i hi).1, Nat.lt_of_lt_of_le (s3 t i hi).2 hm⟩, s4, s5, ⟨⟨l1.1, l1.2.1, l1.2.2.1, Nat.lt_of_lt_of_le l1.2.2.2.1 hm, l1.2.2.2.2⟩, ⟨l2.1, l2.2.1, l2.2.2.1, Nat.lt_of_lt_of_le l2.2.2.2.1 hm, l2.2.2.2.2⟩, ⟨l3.1, l3.2.1, l3.2.2.1, Nat.lt_of_lt_of_le l3.2.2.2.1 hm, l3.2.2.2.2⟩, l4⟩, s7.1, s7.2.1, Nat.lt_of_lt_of_le s7.2.2.1 hm, fun i hi => ?_⟩
  obtain ⟨c1, c2, c3, v, c4, c5, c6⟩ := s7.2.2.2 i hi
  exact ⟨Nat.lt_of_lt_of_le c1 hm, c2, c3, v, c4, Nat.lt_of_lt_of_le c5 hm, c6⟩
/-! texts and bills, as numbers -/
def jn (s a b : Int32) : Int32 := if s = 10010 then a + b else if s = 10011 then a - b else if s = 10012 then (if a < b then 1 else 0) else if s = 10013 then (if a = b then 1 else 0) else (if a ≠ 0 ∧ b ≠ 0 then 1 else 0)
def ev (fc : Nat → Int32) : List Int32 → List Int32 → List Int32
  | [], st => st
  | s :: r, st => if s < 10000 then ev fc r (s :: st) else if s < 10005 then ev fc r (fc (s.toNatClampNeg - 10000) :: st) else match st with
    | b :: a :: q => ev fc r (jn s a b :: q)
    | _ => []
/-- a line's steps are whole: from so many values on the pile they come to one, with never more than 32 -/
def okE : List Int32 → Nat → Prop
  | [], h => h = 1
  | s :: r, h => ¬ s < 0 ∧ s < 20000 ∧ ((s < 10005 ∧ h < 32 ∧ okE r (h + 1)) ∨ (¬ s < 10010 ∧ s < 10015 ∧ 2 ≤ h ∧ okE r (h - 1)))
def rateOf (fc : Nat → Int32) : List (Int32 × List Int32) → Int32
  | [] => 0
  | (r, es) :: ls => if (ev fc es []).headD 0 ≠ 0 then r else rateOf fc ls
def fac (k s m o u : Int32) : Nat → Int32
  | 0 => k
  | 1 => s / 1000
  | 2 => m
  | 3 => o
  | _ => u
/-- it runs in a week -/
def rn (fs : Nat) (ls : Option Nat) (u : Nat) : Prop := fs ≤ u ∧ ∀ z, ls = some z → u ≤ z
def lsI (ls : Option Nat) : Int32 := match ls with
  | none => -1
  | some z => nI z
noncomputable def wk1 (fs : Nat) (ls : Option Nat) (u : Nat) : Nat := by
  classical
  exact if rn fs ls u then 1 else 0
noncomputable def wkN (fs : Nat) (ls : Option Nat) (m : Nat) : Nat := wk1 fs ls (4 * m + 1) + wk1 fs ls (4 * m + 2) + wk1 fs ls (4 * m + 3) + wk1 fs ls (4 * m + 4)
noncomputable def bil (tx : List (Int32 × List Int32)) (k s m : Int32) (o u : Nat) : Int32 := if u = 0 then 0 else (((rateOf (fac k s m (nI o) (nI u)) tx).toInt64 * m.toInt64 * s.toInt64) / 1000).toInt32
def flat : List (Int32 × List Int32) → List Int32
  | [] => []
  | (r, es) :: ls => es ++ (20000 + r) :: flat ls
/-! the relation -/
def RN (n : Nat → Nat) (w : Nat) (f908 f909 : Nat → Int32) (i10 i11 i24 i25 i34 i39 : Int32) : Prop := w ≤ 200 ∧ f909 0 = nI w ∧ i24 = nI w ∧ i25 = nI (n 2) ∧ i34 = nI (n 3) ∧ i39 = nI (n 1) ∧ f908 0 = nI (n 4 - 1) ∧ i10 = nI (n 4 - 1) ∧ i11 = nI (n 4 - 1) - 1
def RF (n : Nat → Nat) (w : Nat) (pn : Nat → Nat) (nw : Nat → Nat → Nat) (f200 f201 f202 f204 f205 f206 f207 f208 : Nat → Int32) (v12 : Nat → Nat → Int32) (m26 m27 m28 m29 m30 m31 m32 m33 : Nat → Int32) : Prop :=
  (∀ i, i < n 2 → f200 i = nI i ∧ f201 i = m26 i ∧ f202 i = m27 i ∧ (∀ j, j < 3 → v12 i j = m28 (3 * i + j)) ∧ (∃ a b c : Nat, m28 (3 * i) = nI a ∧ m28 (3 * i + 1) = nI b ∧ m28 (3 * i + 2) = nI c ∧ a ≤ 100 ∧ b ≤ 100 ∧ c ≤ 100 ∧ 1 ≤ a + b + c) ∧ f204 i = m29 i ∧ (m29 i = 0 ∨ m29 i = 1) ∧ f205 i = m30 i ∧ f206 i = m31 i ∧ m31 i = nI (pn i) ∧ pn i ≤ w ∧ f208 i = m33 i ∧
    (∀ k, 1 ≤ k → k ≤ pn i → m32 (202 * i + k) = nI (nw i k) ∧ 1 ≤ nw i k ∧ nw i k ≤ w) ∧ (∀ k k', 1 ≤ k → k < k' → k' ≤ pn i → nw i k < nw i k') ∧ f207 i = (if 0 < pn i ∧ nw i (pn i) = w then 1 else 0)) ∧
  ∀ i, n 2 ≤ i → i < 10 → m29 i = 0 ∧ m30 i = 0 ∧ m31 i = 0 ∧ m33 i = 0
def RP (n : Nat → Nat) (w : Nat) (f300 f301 f302 : Nat → Int32) (v13 : Nat → Nat → Int32) (m35 m36 m37 m38 : Nat → Int32) : Prop := ∀ i, i < n 3 → f300 i = nI i ∧ f301 i = m35 i ∧ f302 i = m36 i ∧ ∀ m, m < 51 → v13 i m = (if m < w / 4 then m38 (51 * i + m) else m37 i)
def RC (n : Nat → Nat) (w : Nat) (pn : Nat → Nat) (nw : Nat → Nat → Nat) (pO fO fs : Nat → Nat) (ls : Nat → Option Nat) (rs rl pr : Nat → Nat) (f102 f103 f104 f105 f106 f107 f108 : Nat → Int32) (v11 v14 : Nat → Nat → Int32) (m40 m41 m42 m43 m44 m45 m46 m47 m48 m50 : Nat → Int32) : Prop :=
  (∀ c, c < n 1 → (m40 c = nI (pO c) ∧ m41 c = nI (fO c) ∧ f102 c = nI (fs c) ∧ m42 c = nI (fs c) ∧ 1 ≤ fs c ∧ fs c ≤ w + 1 ∧ f103 c = lsI (ls c) ∧ m43 c = lsI (ls c) ∧ (∀ z, ls c = some z → z ≤ 204 ∧ fs c ≤ z + 1)) ∧
    ((∃ z, z ≤ w + 1 ∧ f104 c = nI z) ∧ m46 c = (if f104 c = nI (w + 1) then 1 else 0)) ∧
    (f106 c = nI (rl c) ∧ f107 c = nI (pr c) ∧ m45 c = nI (pr c) ∧ pr c ≤ rl c ∧ f105 c = (if rl c = 0 then -1 else nI (rs c)) ∧ m44 c = (if rl c = 0 then -1 else nI (rs c + pr c)) ∧ (0 < rl c → 1 ≤ rs c ∧ rs c + rl c ≤ pn (fO c) + 1) ∧
      (∀ k, 1 ≤ k → k ≤ pn (fO c) → (rn (fs c) (ls c) (nw (fO c) k) ↔ rs c ≤ k ∧ k < rs c + rl c))) ∧
    ((∀ i, i < rl c → v11 c i = m47 (202 * c + (rs c + i)) ∧ (v11 c i = 0 ∨ v11 c i = 1)) ∧ (∀ i, i < pr c → v11 c i = 1) ∧ (∀ k, k < 202 → ¬ (rs c ≤ k ∧ k < rs c + rl c) → m47 (202 * c + k) = 0)) ∧
    (∀ m, m < 50 → v14 c m = m48 (51 * c + m)) ∧ f108 c = m50 c) ∧
  ∀ c, n 1 ≤ c → c < 60 → m45 c = 0 ∧ m46 c = 0 ∧ m50 c = 0 ∧ (∀ k, k < 202 → m47 (202 * c + k) = 0) ∧ ∀ m, m < 51 → m48 (51 * c + m) = 0
def RB (n : Nat → Nat) (w : Nat) (pO fO fs : Nat → Nat) (ls : Nat → Option Nat) (tm : Nat → Nat) (tx : Nat → List (Int32 × List Int32)) (m26 m38 m48 m49 m51 : Nat → Int32) (a22 : Nat → Option Nat) (ad4 : Nat → Nat) : Prop :=
  (∀ m, m < w / 4 → tm m < n 4 ∧ m51 m = nI (tm m) - 1 ∧ a22 m = some (ad4 (tm m)) ∧ ∀ c, c < n 1 → m49 (51 * c + m) = bil (tx (tm m)) (m26 (fO c)) (m38 (51 * pO c + m)) (m48 (51 * c + m)) m (wkN (fs c) (ls c) m)) ∧ ∀ m c, m < 51 → c < 60 → (w / 4 ≤ m ∨ n 1 ≤ c) → m49 (51 * c + m) = 0
def RT (f601 : Nat → Int32) (v16 : Nat → Nat → Int32) (i2 : Int32) (m1 : Nat → Int32) (tl : Nat) : Prop := tl ≤ 600 ∧ f601 0 = nI tl ∧ i2 = nI tl ∧ ∀ i, i < tl → v16 0 i = m1 i ∧ (m1 i = 10 ∨ (32 ≤ m1 i ∧ m1 i ≤ 126))
/-- a step of the class's code as the reference writes it -/
def enO (s : Int32) : Int32 := if s < 10000 then 1 else if s < 10005 then 2 else s - 10007
def enA (s : Int32) : Int32 := if s < 10000 then s else if s < 10005 then s - 10000 else 0
/-- a line stands in the reference's rows at a place -/
def lnAt (m15 m16 : Nat → Int32) (at0 : Nat) (es : List Int32) : Prop := (∀ j, j < es.length → m15 (at0 + j) = enO (es.getD j 0) ∧ m16 (at0 + j) = enA (es.getD j 0)) ∧ m15 (at0 + es.length) = 0
def RX (n : Nat → Nat) (tx : Nat → List (Int32 × List Int32)) (f401 : Nat → Int32) (v15 : Nat → Nat → Int32) (l15 : Nat → Nat) (m12 m13 m14 m15 m16 : Nat → Int32) : Prop :=
  tx 0 = [] ∧ ∀ t, t < n 4 → ((tx t).length ≤ 16 ∧ (flat (tx t)).length < 600 ∧ f401 t = nI (tx t).length ∧ l15 t = (flat (tx t)).length ∧ (∀ j, j < (flat (tx t)).length → v15 t j = (flat (tx t)).getD j 0)) ∧
    (∀ p ∈ tx t, okE p.2 0 ∧ 0 ≤ p.1 ∧ p.1 ≤ 999) ∧ (1 ≤ t → m12 (t - 1) = nI (tx t).length ∧ ∀ k, k < (tx t).length → m13 (16 * (t - 1) + k) = ((tx t).getD k (0, [])).1 ∧ ∃ at0, m14 (16 * (t - 1) + k) = nI at0 ∧ at0 + ((tx t).getD k (0, [])).2.length < 660 ∧ lnAt m15 m16 (660 * (t - 1) + at0) ((tx t).getD k (0, [])).2)
def WRD : List Int64 := [913868, 1176170, 1891, 570026, 71049021893761, 42317417930, 25143802, 43366239]
def RW (w9 : Nat → Int64) : Prop := ∀ i, i < 8 → w9 i = WRD.getD i 0
def PQ (ax am ao : Nat) (ad : Nat → Nat → Nat) (n e pO fO q tm : Nat → Nat) (tx : Nat → List (Int32 × List Int32)) (w : Nat) (pn : Nat → Nat) (nw : Nat → Nat → Nat) (fs : Nat → Nat) (ls : Nat → Option Nat) (rs rl pr : Nat → Nat) (tl : Nat) (hx hm : HS) : Prop := SXA ax ao ad n e pO fO hx ∧ SMA q am hm ∧
  RN n w (cf ad n hx 908) (cf ad n hx 909) (mf am hm 10) (mf am hm 11) (mf am hm 24) (mf am hm 25) (mf am hm 34) (mf am hm 39) ∧
  RF n w pn nw (cf ad n hx 200) (cf ad n hx 201) (cf ad n hx 202) (cf ad n hx 204) (cf ad n hx 205) (cf ad n hx 206) (cf ad n hx 207) (cf ad n hx 208) (cv ad n hx 12) (mv q hm 26) (mv q hm 27) (mv q hm 28) (mv q hm 29) (mv q hm 30) (mv q hm 31) (mv q hm 32) (mv q hm 33) ∧
  RP n w (cf ad n hx 300) (cf ad n hx 301) (cf ad n hx 302) (cv ad n hx 13) (mv q hm 35) (mv q hm 36) (mv q hm 37) (mv q hm 38) ∧
  RC n w pn nw pO fO fs ls rs rl pr (cf ad n hx 102) (cf ad n hx 103) (cf ad n hx 104) (cf ad n hx 105) (cf ad n hx 106) (cf ad n hx 107) (cf ad n hx 108) (cv ad n hx 11) (cv ad n hx 14) (mv q hm 40) (mv q hm 41) (mv q hm 42) (mv q hm 43) (mv q hm 44) (mv q hm 45) (mv q hm 46) (mv q hm 47) (mv q hm 48) (mv q hm 50) ∧
  RB n w pO fO fs ls tm tx (mv q hm 26) (mv q hm 38) (mv q hm 48) (mv q hm 49) (mv q hm 51) (ar hx (ad 22 0)) (ad 4) ∧
  RT (cf ad n hx 601) (cv ad n hx 16) (mf am hm 2) (mv q hm 1) tl ∧
  RX n tx (cf ad n hx 401) (cv ad n hx 15) (fun t => ln hx (ad 15 t)) (mv q hm 12) (mv q hm 13) (mv q hm 14) (mv q hm 15) (mv q hm 16) ∧
  RW (ml q hm 9)
def PP (ax am ao : Nat) (hx hm : HS) : Prop := ∃ (ad : Nat → Nat → Nat) (n e pO fO q tm : Nat → Nat) (tx : Nat → List (Int32 × List Int32)) (w : Nat) (pn : Nat → Nat) (nw : Nat → Nat → Nat) (fs : Nat → Nat) (ls : Nat → Option Nat) (rs rl pr : Nat → Nat) (tl : Nat), PQ ax am ao ad n e pO fO q tm tx w pn nw fs ls rs rl pr tl hx hm

