/-! tokens are alike -/
section TOK
variable {ax ao am : Nat} {ad : Nat → Nat → Nat} {n e pO fO q tm : Nat → Nat} {tx : Nat → List (Int32 × List Int32)} {w : Nat} {pn : Nat → Nat} {nw : Nat → Nat → Nat} {fs : Nat → Nat} {ls : Nat → Option Nat} {rs rl pr : Nat → Nat} {tl : Nat} {hx hm : HS}
def sgC : List Int64 := [40, 41, 43, 45, 59, 60, 61]
def sgK : List Int32 := [10022, 10023, 10010, 10011, 10024, 10012, 10013]
def TokR (k s : Int32) (v : Int64) : Prop := ((s = 2 ↔ (¬ k < 0 ∧ k < 10000)) ∧ (s = 2 → v = k.toInt64)) ∧ (s = 0 ↔ k = 10025) ∧ (∀ i, i < 7 → ((s = 3 ∧ v = sgC.getD i 0) ↔ k = sgK.getD i 0)) ∧ (∀ i, i < 8 → ((s = 1 ∧ v = WRD.getD i 0) ↔ k = wdK.getD i 0))
theorem TokR_bad (v : Int64) : TokR 10026 4 v := by
  have h1 : ∀ i, i < 7 → ¬ (10026 : Int32) = sgK.getD i 0 := by decide
  have h2 : ∀ i, i < 8 → ¬ (10026 : Int32) = wdK.getD i 0 := by decide
  refine ⟨⟨by decide, fun z => absurd z (by decide)⟩, by decide, fun i hi => ⟨fun z => absurd z.1 (by decide), fun z => absurd z (h1 i hi)⟩, fun i hi => ⟨fun z => absurd z.1 (by decide), fun z => absurd z (h2 i hi)⟩⟩
theorem TokR_end (v : Int64) : TokR 10025 0 v := by
  have h1 : ∀ i, i < 7 → ¬ (10025 : Int32) = sgK.getD i 0 := by decide
  have h2 : ∀ i, i < 8 → ¬ (10025 : Int32) = wdK.getD i 0 := by decide
  refine ⟨⟨by decide, fun z => absurd z (by decide)⟩, by decide, fun i hi => ⟨fun z => absurd z.1 (by decide), fun z => absurd z (h1 i hi)⟩, fun i hi => ⟨fun z => absurd z.1 (by decide), fun z => absurd z (h2 i hi)⟩⟩
theorem TokR_num {x : Nat} (hx : x < 10000) : TokR (nI x) 2 (lN x) := by
  have h0 : ∀ y : Nat, 10000 ≤ y → y < 20000 → ¬ nI x = nI y := fun y h1 h2 z => by
    have := (nI_eq (by omega) (by omega)).mp z; omega
  have h1 : ∀ i, i < 7 → ¬ nI x = sgK.getD i 0 := fun i hi => by
    match i, hi with
    | 0, _ => exact h0 10022 (by omega) (by omega)
    | 1, _ => exact h0 10023 (by omega) (by omega)
    | 2, _ => exact h0 10010 (by omega) (by omega)
    | 3, _ => exact h0 10011 (by omega) (by omega)
    | 4, _ => exact h0 10024 (by omega) (by omega)
    | 5, _ => exact h0 10012 (by omega) (by omega)
    | 6, _ => exact h0 10013 (by omega) (by omega)
  have h2 : ∀ i, i < 8 → ¬ nI x = wdK.getD i 0 := fun i hi => by
    match i, hi with
    | 0, _ => exact h0 10020 (by omega) (by omega)
    | 1, _ => exact h0 10021 (by omega) (by omega)
    | 2, _ => exact h0 10014 (by omega) (by omega)
    | 3, _ => exact h0 10000 (by omega) (by omega)
    | 4, _ => exact h0 10001 (by omega) (by omega)
    | 5, _ => exact h0 10002 (by omega) (by omega)
    | 6, _ => exact h0 10003 (by omega) (by omega)
    | 7, _ => exact h0 10004 (by omega) (by omega)
  refine ⟨⟨⟨fun _ => ⟨nI_pos (by omega), nI_lt (b := 10000) hx (by omega)⟩, fun _ => rfl⟩, fun _ => (nI_l (by omega)).symm⟩, ⟨fun z => absurd z (by decide), fun z => absurd z (h0 10025 (by omega) (by omega))⟩, fun i hi => ⟨fun z => absurd z.1 (by decide), fun z => absurd z (h1 i hi)⟩, fun i hi => ⟨fun z => absurd z.1 (by decide), fun z => absurd z (h2 i hi)⟩⟩
theorem lN_inj {a b : Nat} (ha : a < 2 ^ 63) (hb : b < 2 ^ 63) : lN a = lN b ↔ a = b := by
  refine ⟨fun h => ?_, fun h => by rw [h]⟩
  have h1 : (lN a).toInt = (a : Int) := lg_ofNat_toInt ha
  have h2 : (lN b).toInt = (b : Int) := lg_ofNat_toInt hb
  rw [h, h2] at h1
  omega
theorem HW_lN : ∀ i, i < 8 → WRD.getD i 0 = lN (HW.getD i 0) := by decide
theorem HW_lt : ∀ i, i < 8 → HW.getD i 0 < 2 ^ 63 := by decide
theorem TokR_word {hv : Nat} (hh : hv < 2 ^ 63) {K : Int32} (h1 : ∀ i, i < 8 → (hv = HW.getD i 0 ↔ K = wdK.getD i 0)) (h2 : K = 10026 ∨ ∃ i, i < 8 ∧ K = wdK.getD i 0) : TokR K 1 (lN hv) := by
  have g1 : ¬ (¬ K < 0 ∧ K < 10000) ∧ ¬ K = 10025 ∧ ∀ i, i < 7 → ¬ K = sgK.getD i 0 := by
    rcases h2 with rfl | ⟨i, hi, rfl⟩
    · decide
    · match i, hi with
      | 0, _ => decide
      | 1, _ => decide
      | 2, _ => decide
      | 3, _ => decide
      | 4, _ => decide
      | 5, _ => decide
      | 6, _ => decide
      | 7, _ => decide
  refine ⟨⟨⟨fun z => absurd z (by decide), fun z => absurd z g1.1⟩, fun z => absurd z (by decide)⟩, ⟨fun z => absurd z (by decide), fun z => absurd z g1.2.1⟩, fun i hi => ⟨fun z => absurd z.1 (by decide), fun z => absurd z (g1.2.2 i hi)⟩, fun i hi => ?_⟩
  rw [HW_lN i hi, lN_inj hh (HW_lt i hi), ← h1 i hi]
  exact ⟨fun z => z.2, fun z => ⟨rfl, z⟩⟩
def skG (a : Int32) : Int32 := if a = 40 then 10022 else if a = 41 then 10023 else if a = 43 then 10010 else if a = 45 then 10011 else if a = 59 then 10024 else if a = 60 then 10012 else if a = 61 then 10013 else 10026
theorem e_signKind (a : Int32) (h : HS) : m_X7_signKind a h = some (skG a, h) := by
  unfold skG
  by_cases h0 : a = 40
  · subst h0; simp only [m_X7_signKind, if_true]
  by_cases h1 : a = 41
  · subst h1; simp only [m_X7_signKind]; rfl
  by_cases h2 : a = 43
  · subst h2; simp only [m_X7_signKind]; rfl
  by_cases h3 : a = 45
  · subst h3; simp only [m_X7_signKind]; rfl
  by_cases h4 : a = 59
  · subst h4; simp only [m_X7_signKind]; rfl
  by_cases h5 : a = 60
  · subst h5; simp only [m_X7_signKind]; rfl
  by_cases h6 : a = 61
  · subst h6; simp only [m_X7_signKind]; rfl
  simp only [m_X7_signKind, h0, h1, h2, h3, h4, h5, h6, if_false, ite_self]
def ssG (a : Int32) : Int32 := if a = 40 then 1 else if a = 41 then 1 else if a = 59 then 1 else if a = 61 then 1 else if a = 60 then 1 else if a = 43 then 1 else if a = 45 then 1 else 0
theorem e_isSignOf (a : Int32) (h : HS) : m_X9_isSignOf a h = some (ssG a, h) := by
  unfold m_X9_isSignOf ssG
  iterate 7 (split; · rfl)
  rfl
theorem TokR_sg : ∀ i, i < 7 → TokR (sgK.getD i 0) 3 (sgC.getD i 0) := by
  intro i hi
  unfold TokR
  match i, hi with
  | 0, _ => decide
  | 1, _ => decide
  | 2, _ => decide
  | 3, _ => decide
  | 4, _ => decide
  | 5, _ => decide
  | 6, _ => decide
theorem TokR_sign (a : Int32) : TokR (skG a) (if ssG a = 0 then 4 else 3) a.toInt64 := by
  by_cases h0 : a = 40
  · subst h0; exact TokR_sg 0 (by decide)
  by_cases h1 : a = 41
  · subst h1; exact TokR_sg 1 (by decide)
  by_cases h2 : a = 43
  · subst h2; exact TokR_sg 2 (by decide)
  by_cases h3 : a = 45
  · subst h3; exact TokR_sg 3 (by decide)
  by_cases h4 : a = 59
  · subst h4; exact TokR_sg 4 (by decide)
  by_cases h5 : a = 60
  · subst h5; exact TokR_sg 5 (by decide)
  by_cases h6 : a = 61
  · subst h6; exact TokR_sg 6 (by decide)
  have e1 : skG a = 10026 := by simp only [skG, h0, h1, h2, h3, h4, h5, h6, if_false]
  have e2 : ssG a = 0 := by simp only [ssG, h0, h1, h2, h3, h4, h5, h6, if_false]
  rw [e1, e2]
  exact TokR_bad _
theorem nvl_lt {sg : Nat → Nat} {st : Nat} : ∀ k, (∀ j, j < k → isD (sg (st + j))) → nvl sg st k < 10 ^ k
  | 0, _ => Nat.one_pos
  | k + 1, h => by
    have h1 := nvl_lt k (fun j hj => h j (by omega))
    have h2 := h k (by omega)
    have h3 := h2.1
    have h4 := h2.2
    show nvl sg st k * 10 + (sg (st + k) - 48) < 10 ^ (k + 1)
    rw [Nat.pow_succ]
    omega
theorem hvl_lt {sg : Nat → Nat} {st : Nat} : ∀ k, (∀ j, j < k → isL (sg (st + j))) → hvl sg st k < 37 ^ k
  | 0, _ => Nat.one_pos
  | k + 1, h => by
    have h1 := hvl_lt k (fun j hj => h j (by omega))
    have h2 := h k (by omega)
    have h3 := h2.1
    have h4 := h2.2
    show 37 * hvl sg st k + (sg (st + k) - 96) < 37 ^ (k + 1)
    rw [Nat.pow_succ]
    omega
theorem kd_sAl (h : HS) (a i : Nat) (x : Int64) : kd (sAl h a i x) = kd h := rfl
theorem fi_sAl (h : HS) (a i : Nat) (x : Int64) : fi (sAl h a i x) = fi h := rfl
theorem fr_sAl (h : HS) (a i : Nat) (x : Int64) : fr (sAl h a i x) = fr h := rfl
theorem ln_sAl (h : HS) (a i : Nat) (x : Int64) : ln (sAl h a i x) = ln h := rfl
theorem ai_sAl (h : HS) (a i : Nat) (x : Int64) : ai (sAl h a i x) = ai h := rfl
theorem ml_sAl {h : HS} (hq : ∀ k k', q k = q k' → k = k') {k j : Nat} {x : Int64} : ml q (sAl h (q k) j x) = up2 (ml q h) k j x := by
  funext k' j'
  show up2 (al h) (q k) j x (q k') j' = _
  by_cases hk : k' = k
  · subst hk; simp [up2, ml]
  · have : ¬ q k' = q k := fun z => hk (hq _ _ z)
    simp [up2, ml, hk, this]
def FrU (q : Nat → Nat) (h h' : HS) : Prop := (kd h' = kd h ∧ fr h' = fr h ∧ ln h' = ln h ∧ ar h' = ar h ∧ sz h' = sz h ∧ cs h' = cs h) ∧ fi h' = fi h ∧ (∀ k, (k ≠ 4 ∧ k ≠ 5) → mv q h' k = mv q h k) ∧ ∀ k, k ≠ 6 → ml q h' k = ml q h k
theorem FrU.rf (h : HS) : FrU q h h := ⟨⟨rfl, rfl, rfl, rfl, rfl, rfl⟩, rfl, fun _ _ => rfl, fun _ _ => rfl⟩
theorem FrU.tr {a b c : HS} (h1 : FrU q a b) (h2 : FrU q b c) : FrU q a c := by
  obtain ⟨⟨a1, a2, a3, a4, a5, a6⟩, a7, a8, a9⟩ := h1
  obtain ⟨⟨b1, b2, b3, b4, b5, b6⟩, b7, b8, b9⟩ := h2
  exact ⟨⟨b1.trans a1, b2.trans a2, b3.trans a3, b4.trans a4, b5.trans a5, b6.trans a6⟩, b7.trans a7, fun k hk => (b8 k hk).trans (a8 k hk), fun k hk => (b9 k hk).trans (a9 k hk)⟩
theorem FrU.sma {h h' : HS} (hf : FrU q h h') (hM : SMA q am h) : SMA q am h' := by
  unfold SMA
  rw [hf.1.1, hf.1.2.1, hf.1.2.2.1]; exact hM
theorem Tp9.fr {h h' : HS} {sg : Nat → Nat} (hT : Tp9 am q sg tl h) (hf : FrU q h h') : Tp9 am q sg tl h' := ⟨hT.1, by unfold mf; rw [hf.2.1]; exact hT.2.1, by rw [hf.2.2.1 1 (by decide)]; exact hT.2.2⟩
/-- the reference's memory with a token more -/
def hT9 (q : Nat → Nat) (h : HS) (T : Nat) (p s : Int32) (v : Int64) : HS := sAl (sAi (sAi h (q 5) T p) (q 4) T s) (q 6) T v
theorem hT9_fr {h : HS} (hM : SMA q am h) (T : Nat) (p s : Int32) (v : Int64) : FrU q h (hT9 q h T p s v) ∧ mv q (hT9 q h T p s v) 4 = va_up (mv q h 4) T s ∧ mv q (hT9 q h T p s v) 5 = va_up (mv q h 5) T p ∧ ml q (hT9 q h T p s v) 6 = va_up (ml q h 6) T v := by
  have e1 : mv q (hT9 q h T p s v) = up2 (up2 (mv q h) 5 T p) 4 T s := by
    show mv q (sAi (sAi h (q 5) T p) (q 4) T s) = _
    rw [mv_sAi hM.2.2, mv_sAi hM.2.2]
  have e2 : ml q (hT9 q h T p s v) = up2 (ml q h) 6 T v := by
    unfold hT9
    rw [ml_sAl hM.2.2]; rfl
  refine ⟨⟨⟨rfl, rfl, rfl, rfl, rfl, rfl⟩, rfl, fun k hk => by rw [e1, up2_ne1' hk.1, up2_ne1' hk.2], fun k hk => ?_⟩, ?_, ?_, ?_⟩
  · rw [e2]; funext j; exact up2_ne1 _ _ _ _ hk
  · rw [e1, up2_va, up2_ne1' (by decide)]
  · rw [e1, up2_ne1' (by decide), up2_va]
  · rw [e2, up2_va]
end TOK
