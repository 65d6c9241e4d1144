/-- the memory of the constants alone -/
def hSt (t0 : Nat) (adK adV : Nat → Nat) (cs0 : Nat → Nat) (H : Heap) : HS :=
  (fun a => if a = t0 then 306 else if (List.range 8).any (fun i => a == adK i) = true then 350 else if (List.range 8).any (fun i => a == adV i) = true then 303 else 0,
   fun _ _ => 0, fun g a => if g = 35000 then ((List.range 8).find? (fun i => a == adK i)).map adV else none,
   fun a => match H[a]? with
     | some c => c.slots.size
     | none => 0,
   fun a j => match H[a]? with
     | some c => (match c.slots[j]? with
       | some (.int x) => x
       | _ => 0)
     | none => 0,
   fun _ _ => 0, fun _ _ => none, H.size, cs0)
theorem any8 {a : Nat} {f : Nat → Nat} : (List.range 8).any (fun i => a == f i) = true ↔ ∃ i, i < 8 ∧ a = f i := by
  simp only [List.any_eq_true, List.mem_range, beq_iff_eq]
theorem start_G {s : State} {b : Nat} (hts : ∀ w ∈ lw_tbl, w.before #[Value.ref b] s = true) (hgv : (Jvm.Cond.and given_1 narrow_1).before #[Value.ref b] s = true) : ∃ (G : GG) (h00 : HS), KW G s ∧ gH G = s.heap ∧ hOk G h00 s.heap ∧ DJ h00 h00 ∧ SXc (kd h00) (fi h00 35001) (fr h00 35000) (ln h00) (cA h00) (cs h00) (sz h00) := by
  obtain ⟨D, dA0, k1, k2, k3, k4, k5⟩ := start_K hts
  obtain ⟨t0, mi, adK, adV, ⟨g1, g2, g3, g4, g5, g6, g7, g8, g9⟩, ⟨cell0, z1, z2⟩, hV⟩ := start_C (A := fun q => s.heap.size ≤ q) hts hgv (fun a h => Nat.not_le.mpr h)
  have dKV : ∀ i j, i < 8 → j < 8 → adK i ≠ adV j := by
    intro i j hi hj e
    obtain ⟨cf, k, x, f, cell, w1, w2, w3, w4, w5, w6⟩ := (g1.1 i hi).2.2.1
    obtain ⟨cell', v1, v2, v3⟩ := hV j hj
    rw [e, v1] at w3
    obtain rfl := Option.some.inj w3
    have hlt : f.slot < cell'.slots.size := (Array.getElem?_eq_some_iff.mp w5).1
    rw [v2] at hlt
    rw [v3 _ hlt] at w5
    cases w5
  have dK0 : ∀ i, i < 8 → adK i ≠ t0 := by
    intro i hi e
    obtain ⟨cf, k, x, f, cell, w1, w2, w3, w4, w5, w6⟩ := (g1.1 i hi).2.2.1
    rw [e, z1] at w3
    obtain rfl := Option.some.inj w3
    have hlt : f.slot < cell0.slots.size := (Array.getElem?_eq_some_iff.mp w5).1
    omega
  have dV0 : ∀ i, i < 8 → adV i ≠ t0 := by
    intro i hi e
    obtain ⟨cell', v1, v2, v3⟩ := hV i hi
    rw [e, z1] at v1
    obtain rfl := Option.some.inj v1
    have := (lenS_le i hi).1
    omega
  obtain ⟨gc, hgc⟩ : ∃ gc : Nat → Nat, gc = fun k => if k = 0 then t0 else if k = 20 then mi else adK (k - 1) := ⟨_, rfl⟩
  have c0 : gc 0 = t0 := by rw [hgc]; rfl
  have c20 : gc 20 = mi := by rw [hgc]; rfl
  have ck : ∀ i, i < 8 → gc (1 + i) = adK i := by
    intro i hi
    rw [hgc]
    show (if 1 + i = 0 then t0 else if 1 + i = 20 then mi else adK (1 + i - 1)) = adK i
    rw [if_neg (by omega), if_neg (by omega), Nat.add_sub_cancel_left]
  obtain ⟨h00, e00⟩ : ∃ h, h = hSt t0 adK adV gc s.heap := ⟨_, rfl⟩
  have kd0 : ∀ a, kd h00 a = if a = t0 then 306 else if (List.range 8).any (fun i => a == adK i) = true then 350 else if (List.range 8).any (fun i => a == adV i) = true then 303 else 0 := fun a => by rw [e00]; rfl
  have kT : kd h00 t0 = 306 := by rw [kd0, if_pos rfl]
  have kK : ∀ i, i < 8 → kd h00 (adK i) = 350 := fun i hi => by
    rw [kd0, if_neg (dK0 i hi), if_pos (any8.mpr ⟨i, hi, rfl⟩)]
  have kV : ∀ i, i < 8 → kd h00 (adV i) = 303 := fun i hi => by
    rw [kd0, if_neg (dV0 i hi), if_neg (fun h => by obtain ⟨j, hj, e⟩ := any8.mp h; exact dKV j i hj hi e.symm), if_pos (any8.mpr ⟨i, hi, rfl⟩)]
  have kAll : ∀ a, kd h00 a = 0 ∨ (kd h00 a = 306 ∧ a = t0) ∨ (kd h00 a = 350 ∧ ∃ i, i < 8 ∧ a = adK i) ∨ (kd h00 a = 303 ∧ ∃ i, i < 8 ∧ a = adV i) := by
    intro a
    by_cases h1 : a = t0
    · exact Or.inr (Or.inl ⟨by rw [h1]; exact kT, h1⟩)
    · by_cases h2 : (List.range 8).any (fun i => a == adK i) = true
      · exact Or.inr (Or.inr (Or.inl ⟨by rw [kd0, if_neg h1, if_pos h2], any8.mp h2⟩))
      · by_cases h3 : (List.range 8).any (fun i => a == adV i) = true
        · exact Or.inr (Or.inr (Or.inr ⟨by rw [kd0, if_neg h1, if_neg h2, if_pos h3], any8.mp h3⟩))
        · exact Or.inl (by rw [kd0, if_neg h1, if_neg h2, if_neg h3])
  have hfi : ∀ g a, fi h00 g a = 0 := fun g a => by rw [e00]; rfl
  have hfr : ∀ i, i < 8 → fr h00 35000 (adK i) = some (adV i) := by
    intro i hi
    have h1 : fr h00 35000 (adK i) = ((List.range 8).find? (fun j => adK i == adK j)).map adV := by rw [e00]; rfl
    rw [h1]
    cases hf : (List.range 8).find? (fun j => adK i == adK j) with
    | none =>
      have h2 := List.find?_eq_none.mp hf i (List.mem_range.mpr hi)
      simp at h2
    | some j =>
      have h2 := List.find?_some hf
      have h3 := List.mem_range.mp (List.mem_of_find?_eq_some hf)
      have h4 : adK i = adK j := by simpa using h2
      obtain rfl := g1.2 i j hi h3 h4
      rfl
  have hln : ∀ a cell, s.heap[a]? = some cell → ln h00 a = cell.slots.size := by
    intro a cell h
    have h1 : ln h00 a = match s.heap[a]? with
     | some c => c.slots.size
     | none => 0 := by rw [e00]; rfl
    rw [h1, h]
  have hai : ∀ a j (cell : Cell) x, s.heap[a]? = some cell → cell.slots[j]? = some (.int x) → ai h00 a j = x := by
    intro a j cell x h hx
    have h1 : ai h00 a j = match s.heap[a]? with
     | some c => (match c.slots[j]? with
       | some (.int x) => x
       | _ => 0)
     | none => 0 := by rw [e00]; rfl
    rw [h1, h]
    simp only [hx]
  have hsz : sz h00 = s.heap.size := by rw [e00]; rfl
  have hcs : cs h00 = gc := by rw [e00]; rfl
  have lt0 : t0 < s.heap.size := (Array.getElem?_eq_some_iff.mp z1).1
  have ltK : ∀ i, i < 8 → adK i < s.heap.size := fun i hi => by
    obtain ⟨cell, w1, -⟩ := (g1.1 i hi).1
    exact (Array.getElem?_eq_some_iff.mp w1).1
  have ltV : ∀ i, i < 8 → adV i < s.heap.size := fun i hi => by
    obtain ⟨cell, w1, -⟩ := hV i hi
    exact (Array.getElem?_eq_some_iff.mp w1).1
  have vV : ∀ i, i < 8 → ln h00 (adV i) = lenS.getD i 0 ∧ ∀ j, j < lenS.getD i 0 → ai h00 (adV i) j = (bytS.getD i []).getD j 0 := fun i hi => by
    obtain ⟨cell, w1, w2, w3⟩ := hV i hi
    exact ⟨(hln _ _ w1).trans w2, fun j hj => hai _ _ _ _ w1 (w3 j hj)⟩
  refine ⟨(D, dA0, gc, adV, s.heap), h00, ⟨k1, k2, k3, k4, k5, ?_⟩, rfl, ?_, ?_, ?_⟩
  · refine ⟨⟨fun i hi => ?_, fun i j hi hj e => ?_⟩, fun i hi => ?_, ?_, ?_, g5, g6, g7, g8, ?_⟩
    · have h1 := g1.1 i hi
      rw [← ck i hi] at h1
      exact h1
    · have e' : gc (1 + i) = gc (1 + j) := e
      rw [ck i hi, ck j hj] at e'
      exact g1.2 i j hi hj e'
    · have h1 := g2 i hi
      rw [← ck i hi] at h1
      exact h1
    · rw [← c0] at g3
      exact g3
    · rw [← c0] at g4
      exact g4
    · rw [← c20] at g9
      exact g9
  · refine ⟨hsz.symm, fun a ha => ?_, fun a ha => ?_, fun a _ => rfl, Nat.le_of_eq hsz.symm, hcs⟩
    · rcases kAll a with h | ⟨h, rfl⟩ | ⟨h, i, hi, rfl⟩ | ⟨h, i, hi, rfl⟩
      · exact absurd h ha
      · refine ⟨by rw [hsz]; exact lt0, fun n h1 h2 => ?_, fun h1 => ?_, fun h1 => ?_, fun h1 => ?_, fun h1 => ?_, fun h1 => ?_, fun _ => ⟨c0.symm, (hln _ _ z1).trans z2⟩⟩
        · omega
        · rw [h] at h1; exact absurd h1 (by decide)
        · omega
        · rw [h] at h1; exact absurd h1 (by decide)
        · omega
        · omega
      · refine ⟨by rw [hsz]; exact ltK i hi, fun n h1 h2 => ?_, fun h1 => ?_, fun h1 => ?_, fun h1 => ?_, fun _ => ⟨i, hi, (ck i hi).symm, hfr i hi, hfi _ _⟩, fun h1 => ?_, fun h1 => ?_⟩
        · omega
        · rw [h] at h1; exact absurd h1 (by decide)
        · omega
        · rw [h] at h1; exact absurd h1 (by decide)
        · omega
        · omega
      · refine ⟨by rw [hsz]; exact ltV i hi, fun n h1 h2 => ?_, fun h1 => ?_, fun h1 => ?_, fun h1 => ?_, fun h1 => ?_, fun _ => ⟨i, hi, rfl, (vV i hi).1, fun j hj => (vV i hi).2 j (by rw [← (vV i hi).1]; exact hj)⟩, fun h1 => ?_⟩
        · omega
        · rw [h] at h1; exact absurd h1 (by decide)
        · omega
        · rw [h] at h1; exact absurd h1 (by decide)
        · omega
        · omega
    · obtain ⟨h1, h2⟩ := ha
      rcases kAll a with h | ⟨h, -⟩ | ⟨h, -⟩ | ⟨h, -⟩ <;> omega
  · intro a h1 _
    obtain ⟨h1, h2⟩ := h1
    rcases kAll a with h | ⟨h, -⟩ | ⟨h, -⟩ | ⟨h, -⟩ <;> omega
  · rw [hcs, hsz]
    refine ⟨by rw [c0]; exact kT, by rw [c0]; exact (hln _ _ z1).trans z2, by rw [c0]; exact lt0, fun i hi => ?_⟩
    rw [ck i hi]
    refine ⟨ltK i hi, kK i hi, hfi _ _, adV i, hfr i hi, ltV i hi, kV i hi, (vV i hi).1, fun j hj => ?_⟩
    show (if kd h00 (adV i) = 303 then ai h00 (adV i) j else 0) = _
    rw [if_pos (kV i hi)]
    exact (vV i hi).2 j hj
