def ofT : List (List Nat) := [[1, 2, 3], [], [], [], [15], [11], [4], [6], [7], [0], [], [], [], [], [], [16], [5], [8], [9], [10], [12], [13], [14], [59]]
def nT : List Nat := [3, 0, 0, 0, 1, 1, 1, 1, 1, 1, 0, 0, 0, 0, 0, 1, 1, 1, 1, 1, 1, 1, 1, 1]
def prT : List (Nat × Nat) := [(0, 0), (0, 1), (0, 2), (4, 0), (5, 0), (6, 0), (7, 0), (8, 0), (9, 0), (15, 0), (16, 0), (17, 0), (18, 0), (19, 0), (20, 0), (21, 0), (22, 0), (23, 0)]
def nS (t : Nat) : Nat := nT.getD t 0
def oS (t i : Nat) : Nat := (ofT.getD t []).getD i 0
theorem nS_out {t : Nat} (h : 24 ≤ t) : nS t = 0 := by
  have h1 : nT.length = 24 := rfl
  simp only [nS, List.getD_eq_getElem?_getD, List.getElem?_eq_none (show nT.length ≤ t by omega), Option.getD_none]
theorem nS_le : ∀ t : Nat, t < 24 → nS t ≤ 3 := by decide +kernel
theorem prT_in2 : ∀ t : Nat, t < 24 → ∀ i : Nat, i < 3 → (decide (i < nS t) = true → prT.contains (t, i) = true) := by decide +kernel
theorem prT_in (t : Nat) (ht : t < 24) (i : Nat) (hi : i < 3) (h : i < nS t) : (t, i) ∈ prT := List.contains_iff_mem.mp (prT_in2 t ht i hi (decide_eq_true h))
theorem prT_mem {t i : Nat} (h : i < nS t) : (t, i) ∈ prT := by
  by_cases ht : t < 24
  · exact prT_in t ht i (Nat.lt_of_lt_of_le h (nS_le t ht)) h
  · rw [nS_out (by omega)] at h
    omega
theorem prT_inj : ∀ p ∈ prT, ∀ p' ∈ prT, oS p.1 p.2 = oS p'.1 p'.2 → p = p' := by decide +kernel
theorem WL_ok : ∀ i : Nat, i < 8 → WL i = WRD.getD i 0 := by decide +kernel
set_option maxHeartbeats 4000000 in
theorem start_PQ {B z : Nat} {hx hm : HS} {F8 : Nat → Int32} (hzx : sz hx = B + 60) (hc : ∀ o c, (CLX B z (va_up (va_up (fun _ => 0) 908 0) 909 0) F8)[o]? = some c → cOk hx (B + o) c) (ho : cOk hx (B + 59) (.inr (204, 1, fun _ => 0))) (hcs : SXc (kd hx) (fi hx 35001) (fr hx 35000) (ln hx) (cA hx) (cs hx) (sz hx)) (hz : cs hx 0 = z) (hmk : kd hm (B + 17) = 11) (hmf : ∀ g, fi hm g (B + 17) = va_up (fun _ => 0) 1011 (-1) g) (hmr : ∀ x ∈ arM, fr hm (1000 + x.1) (B + 17) = some (B + 17 + qo x.1) ∧ kd hm (B + 17 + qo x.1) = x.2.1 ∧ ln hm (B + 17 + qo x.1) = x.2.2) (hm0 : ∀ x ∈ arM, ∀ j, ai hm (B + 17 + qo x.1) j = 0) (hmw : ∀ i, i < 8 → al hm (B + 17 + qo 9) i = WRD.getD i 0) : PP B (B + 17) (B + 59) hx hm := by
  have hzS : z < sz hx := hz ▸ hcs.2.2.1
  have hzk : kd hx z = 306 := hz ▸ hcs.1
  have mz : ∀ x ∈ arM, ∀ j, mv (fun k => B + 17 + qo k) hm x.1 j = 0 := hm0
  refine ⟨fun t i => B + oS t i, nS, fun _ => z, fun _ => 0, fun _ => 0, fun k => B + 17 + qo k, fun _ => 0, fun _ => [], 0, fun _ => 0, fun _ _ => 0, fun _ => 0, fun _ => none, fun _ => 0, fun _ => 0, fun _ => 0, 0, ?_⟩
  refine ⟨⟨?_, ?_, ?_, ?_, ?_, ?_, hcs⟩, ⟨hmk, hmr, ?_⟩, ?_, ?_, ?_, ?_, ?_, ?_, ?_, hmw⟩
  · refine ⟨rfl, rfl, rfl, rfl, rfl, rfl, rfl, rfl, rfl, rfl, rfl, rfl, rfl, rfl, rfl, rfl, rfl, rfl, rfl, rfl, by decide, by decide, by decide, by decide, by decide, fun t ht => nS_out ht⟩
  · intro t i t' i' h1 h2 he
    have h3 := prT_inj _ (prT_mem h1) _ (prT_mem h2) (Nat.add_left_cancel he)
    exact ⟨congrArg Prod.fst h3, congrArg Prod.snd h3⟩
  · have key : ∀ p ∈ prT, kd hx (B + oS p.1 p.2) = kX p.1 ∧ B + oS p.1 p.2 < B + 60 := by
      unfold prT
      refine List.forall_mem_cons.mpr ⟨⟨(hc 1 _ rfl).1, Nat.add_lt_add_left (by decide) B⟩, ?_⟩
      refine List.forall_mem_cons.mpr ⟨⟨(hc 2 _ rfl).1, Nat.add_lt_add_left (by decide) B⟩, ?_⟩
      refine List.forall_mem_cons.mpr ⟨⟨(hc 3 _ rfl).1, Nat.add_lt_add_left (by decide) B⟩, ?_⟩
      refine List.forall_mem_cons.mpr ⟨⟨(hc 15 _ rfl).1, Nat.add_lt_add_left (by decide) B⟩, ?_⟩
      refine List.forall_mem_cons.mpr ⟨⟨(hc 11 _ rfl).1, Nat.add_lt_add_left (by decide) B⟩, ?_⟩
      refine List.forall_mem_cons.mpr ⟨⟨(hc 4 _ rfl).1, Nat.add_lt_add_left (by decide) B⟩, ?_⟩
      refine List.forall_mem_cons.mpr ⟨⟨(hc 6 _ rfl).1, Nat.add_lt_add_left (by decide) B⟩, ?_⟩
      refine List.forall_mem_cons.mpr ⟨⟨(hc 7 _ rfl).1, Nat.add_lt_add_left (by decide) B⟩, ?_⟩
      refine List.forall_mem_cons.mpr ⟨⟨(hc 0 _ rfl).1, Nat.add_lt_add_left (by decide) B⟩, ?_⟩
      refine List.forall_mem_cons.mpr ⟨⟨(hc 16 _ rfl).1, Nat.add_lt_add_left (by decide) B⟩, ?_⟩
      refine List.forall_mem_cons.mpr ⟨⟨(hc 5 _ rfl).1, Nat.add_lt_add_left (by decide) B⟩, ?_⟩
      refine List.forall_mem_cons.mpr ⟨⟨(hc 8 _ rfl).1, Nat.add_lt_add_left (by decide) B⟩, ?_⟩
      refine List.forall_mem_cons.mpr ⟨⟨(hc 9 _ rfl).1, Nat.add_lt_add_left (by decide) B⟩, ?_⟩
      refine List.forall_mem_cons.mpr ⟨⟨(hc 10 _ rfl).1, Nat.add_lt_add_left (by decide) B⟩, ?_⟩
      refine List.forall_mem_cons.mpr ⟨⟨(hc 12 _ rfl).1, Nat.add_lt_add_left (by decide) B⟩, ?_⟩
      refine List.forall_mem_cons.mpr ⟨⟨(hc 13 _ rfl).1, Nat.add_lt_add_left (by decide) B⟩, ?_⟩
      refine List.forall_mem_cons.mpr ⟨⟨(hc 14 _ rfl).1, Nat.add_lt_add_left (by decide) B⟩, ?_⟩
      refine List.forall_mem_cons.mpr ⟨⟨ho.1, Nat.add_lt_add_left (by decide) B⟩, ?_⟩
      exact fun _ h => absurd h List.not_mem_nil
    intro t i hi
    rw [hzx]
    exact key _ (prT_mem hi)
  · have key : ∀ p ∈ prT, 11 ≤ p.1 → p.1 ≠ 15 → ln hx (B + oS p.1 p.2) = lX p.1 := by
      unfold prT
      refine List.forall_mem_cons.mpr ⟨fun h _ => absurd h (by decide), ?_⟩
      refine List.forall_mem_cons.mpr ⟨fun h _ => absurd h (by decide), ?_⟩
      refine List.forall_mem_cons.mpr ⟨fun h _ => absurd h (by decide), ?_⟩
      refine List.forall_mem_cons.mpr ⟨fun h _ => absurd h (by decide), ?_⟩
      refine List.forall_mem_cons.mpr ⟨fun h _ => absurd h (by decide), ?_⟩
      refine List.forall_mem_cons.mpr ⟨fun h _ => absurd h (by decide), ?_⟩
      refine List.forall_mem_cons.mpr ⟨fun h _ => absurd h (by decide), ?_⟩
      refine List.forall_mem_cons.mpr ⟨fun h _ => absurd h (by decide), ?_⟩
      refine List.forall_mem_cons.mpr ⟨fun h _ => absurd h (by decide), ?_⟩
      refine List.forall_mem_cons.mpr ⟨fun _ h => absurd rfl h, ?_⟩
      refine List.forall_mem_cons.mpr ⟨fun _ _ => (hc 5 _ rfl).2.1, ?_⟩
      refine List.forall_mem_cons.mpr ⟨fun _ _ => (hc 8 _ rfl).2.1, ?_⟩
      refine List.forall_mem_cons.mpr ⟨fun _ _ => (hc 9 _ rfl).2.1, ?_⟩
      refine List.forall_mem_cons.mpr ⟨fun _ _ => (hc 10 _ rfl).2.1, ?_⟩
      refine List.forall_mem_cons.mpr ⟨fun _ _ => (hc 12 _ rfl).2.1, ?_⟩
      refine List.forall_mem_cons.mpr ⟨fun _ _ => (hc 13 _ rfl).2.1, ?_⟩
      refine List.forall_mem_cons.mpr ⟨fun _ _ => (hc 14 _ rfl).2.1, ?_⟩
      refine List.forall_mem_cons.mpr ⟨fun _ _ => ho.2.1, ?_⟩
      exact fun _ h => absurd h List.not_mem_nil
    intro t i hi
    exact key _ (prT_mem hi)
  · refine ⟨rfl, rfl, (hc 0 _ rfl).2.2 900, (hc 0 _ rfl).2.2 901, (hc 0 _ rfl).2.2 902, (hc 0 _ rfl).2.2 903, (hc 0 _ rfl).2.2 904, (hc 0 _ rfl).2.2 905, (hc 0 _ rfl).2.2 906, (hc 0 _ rfl).2.2 907, (hc 4 _ rfl).2.2 600, (hc 6 _ rfl).2.2 700, (hc 6 _ rfl).2.2 701, (hc 7 _ rfl).2.2 800, (hc 7 _ rfl).2.2 801, (hc 11 _ rfl).2.2 500, (hc 11 _ rfl).2.2 501, fun i hi => absurd hi (Nat.not_lt_zero i), fun i hi => absurd hi (Nat.not_lt_zero i), fun i hi => absurd hi (Nat.not_lt_zero i), fun i hi => ?_⟩
    obtain rfl : i = 0 := by
      have : i < 1 := hi
      omega
    exact (hc 15 _ rfl).2.2 400
  · refine ⟨⟨(hc 1 _ rfl).2.2 1, (hc 1 _ rfl).2.1 2, fun i hi => absurd hi (Nat.not_lt_zero i), hzS, Or.inl ⟨rfl, hz.symm⟩⟩, ⟨(hc 2 _ rfl).2.2 1, (hc 2 _ rfl).2.1 2, fun i hi => absurd hi (Nat.not_lt_zero i), hzS, Or.inl ⟨rfl, hz.symm⟩⟩, ⟨(hc 3 _ rfl).2.2 1, (hc 3 _ rfl).2.1 2, fun i hi => absurd hi (Nat.not_lt_zero i), hzS, Or.inl ⟨rfl, hz.symm⟩⟩, fun l l' _ _ h _ => ?_⟩
    rw [hzk] at h
    exact absurd h (by decide)
  · intro k k' h
    exact qo_inj (Nat.add_left_cancel h)
  · refine ⟨by decide, (if_pos (by decide)).trans ((hc 0 _ rfl).2.1 909), hmf 1024, hmf 1025, hmf 1034, hmf 1039, (if_pos (by decide)).trans ((hc 0 _ rfl).2.1 908), hmf 1010, (hmf 1011).trans (by decide)⟩
  · refine ⟨fun i hi => absurd hi (Nat.not_lt_zero i), fun i _ _ => ⟨mz (29, 202, 10) (by decide) i, mz (30, 201, 10) (by decide) i, mz (31, 201, 10) (by decide) i, mz (33, 201, 10) (by decide) i⟩⟩
  · exact fun i hi => absurd hi (Nat.not_lt_zero i)
  · refine ⟨fun i hi => absurd hi (Nat.not_lt_zero i), fun c _ _ => ⟨mz (45, 201, 60) (by decide) c, mz (46, 202, 60) (by decide) c, mz (50, 201, 60) (by decide) c, fun k _ => mz (47, 202, 12120) (by decide) _, fun m _ => mz (48, 201, 3060) (by decide) _⟩⟩
  · refine ⟨fun m hm => absurd hm (Nat.not_lt_zero m), fun m c _ _ _ => mz (49, 201, 3060) (by decide) _⟩
  · exact ⟨by decide, (if_pos (by decide)).trans ((hc 4 _ rfl).2.1 601), hmf 1002, fun i hi => absurd hi (Nat.not_lt_zero i)⟩
  · refine ⟨rfl, fun t ht => ?_⟩
    obtain rfl : t = 0 := by
      have : t < 1 := ht
      omega
    refine ⟨⟨by decide, by decide, (if_pos (by decide)).trans ((hc 15 _ rfl).2.1 401), (hc 16 _ rfl).2.1, fun i hi => absurd hi (Nat.not_lt_zero i)⟩, fun p hp => absurd hp List.not_mem_nil, fun h => absurd h (by decide)⟩
theorem SXc_to {h00 hx : HS} {B S : Nat} (hB : sz h00 = B) (hS : B ≤ S) (he : ∀ a, a < B → eqA h00 hx a) (hcs : cs hx = cs h00) (h : SXc (kd h00) (fi h00 35001) (fr h00 35000) (ln h00) (cA h00) (cs h00) (sz h00)) : SXc (kd hx) (fi hx 35001) (fr hx 35000) (ln hx) (cA hx) (cs hx) S := by
  subst hB
  obtain ⟨a1, a2, a3, a4⟩ := h
  have e0 := he _ a3
  rw [hcs]
  refine ⟨e0.1.trans a1, e0.2.2.2.1.trans a2, Nat.lt_of_lt_of_le a3 hS, fun i hi => ?_⟩
  obtain ⟨b1, b2, b3, v, b4, b5, b6, b7, b8⟩ := a4 i hi
  have e1 := he _ b1
  have e2 := he _ b5
  refine ⟨Nat.lt_of_lt_of_le b1 hS, e1.1.trans b2, (e1.2.1 _).trans b3, v, (e1.2.2.1 _).trans b4, Nat.lt_of_lt_of_le b5 hS, e2.1.trans b6, e2.2.2.2.1.trans b7, fun j hj => ?_⟩
  rw [← b8 j hj]
  simp only [cA, e2.1, e2.2.2.2.2.1 j]
theorem qo_pos : ∀ x ∈ arM, 1 ≤ qo x.1 := by decide +kernel
theorem start_PP {h00 : HS} (hc0 : SXc (kd h00) (fi h00 35001) (fr h00 35000) (ln h00) (cA h00) (cs h00) (sz h00)) : ∃ hx2 hm4, m_X8_init (sz h00) (nO h00 9) = some hx2 ∧ m_X9_init (sz hx2) (nO (wz h00 (sz hx2)) 10) = some hm4 ∧ PP (sz h00) (sz hx2) (sz hm4) (nA (wz hx2 (sz hm4)) 204 1) (wz hm4 (sz hm4 + 1)) := by
  obtain ⟨B, hB⟩ : ∃ B, sz h00 = B := ⟨_, rfl⟩
  obtain ⟨hx2, q1, F8, RX⟩ := init_X (B := B) hB
  obtain ⟨hm4, q2, F, R, rest, RM, l41, fM, w9, hF⟩ := init_M (B := sz hx2) (h00 := h00)
  have zx : sz hx2 = B + 17 := RX.1
  have zm : sz hm4 = B + 59 := by
    rw [RM.1, List.length_cons, l41, zx]
  refine ⟨hx2, hm4, by rw [hB]; exact q1, q2, ?_⟩
  obtain ⟨hx, ex⟩ : ∃ x, x = nA (wz hx2 (sz hm4)) 204 1 := ⟨_, rfl⟩
  have Rx : ∀ a, a ≠ sz hm4 → eqA hx2 hx a := fun a ha => by
    rw [ex]
    exact ⟨if_neg ha, fun g => rfl, fun g => rfl, if_neg ha, fun j => congrFun (if_neg ha) j, fun j => congrFun (if_neg ha) j, fun j => congrFun (if_neg ha) j⟩
  have Ro : cOk hx (sz hm4) (.inr (204, 1, fun _ => 0)) := by
    rw [ex]
    exact ⟨if_pos rfl, if_pos rfl, fun j => congrFun (if_pos rfl) j, fun j => congrFun (if_pos rfl) j, fun j => congrFun (if_pos rfl) j⟩
  have Rs : sz hx = sz hm4 + 1 := by rw [ex]; rfl
  have Rc : cs hx = cs hx2 := by rw [ex]; rfl
  rw [← ex]
  have hcx : cs hx = cs h00 := Rc.trans RX.2.1
  rw [hB, zx, zm]
  rw [zm] at Rx Ro Rs
  rw [zx] at RM fM
  have M0 := RM.2.2.2 0 _ rfl
  refine start_PQ (z := cs h00 0) (F8 := F8) Rs (fun o c hc => ?_) Ro ?_ (by rw [hcx]) M0.1 (fun g => ?_) (fun x hx => ?_) (fun x hx j => ?_) (fun i hi => ?_)
  · have h1 : o < 17 := (List.getElem?_eq_some_iff.mp hc).1
    exact (RX.2.2.2 o c hc).to (Rx _ (by omega))
  · exact SXc_to hB (by omega) (fun a ha => (RX.2.2.1 a ha).trans (Rx a (by omega))) hcx hc0
  · have h1 := M0.2.1 g
    rw [hF] at h1
    exact h1
  · obtain ⟨f1, L, f2⟩ := fM x hx
    have f3 := qo_pos x hx
    have f4 := RM.2.2.2 (qo x.1 - 1 + 1) _ f2
    rw [Nat.sub_add_cancel f3] at f4
    exact ⟨(M0.2.2 _).trans f1, f4.1, f4.2.1⟩
  · obtain ⟨f1, L, f2⟩ := fM x hx
    have f3 := qo_pos x hx
    have f4 := RM.2.2.2 (qo x.1 - 1 + 1) _ f2
    rw [Nat.sub_add_cancel f3] at f4
    exact f4.2.2.2.1 j
  · have f4 := RM.2.2.2 5 _ w9
    exact (f4.2.2.1 i).trans (WL_ok i hi)
