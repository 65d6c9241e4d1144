theorem start_K {s : State} {b : Nat} (hts : ∀ w ∈ lw_tbl, w.before #[Value.ref b] s = true) : ∃ (D : va_G) (dA : Nat → ClassId), va_K D vwCl [] s ∧ (∀ q ∈ arT, ArrOfT s (dA q.1) q.2 ∧ va_RA s (dA q.1) q.2) ∧ (∀ w ∈ NST, va_Nw w s) ∧ va_AO "java/lang/Object" s ∧ va_AO "PanelHouse$RateText" s := by
  have tw : ∀ (i : Nat) (w : Cond), tables_1[i]? = some w → w.before #[Value.ref b] s = true := fun i w h => hts w (List.mem_append_right _ (List.mem_of_getElem? h))
  have htT : ∀ w ∈ TBL, w.before #[Value.ref b] s = true := fun w hw => hts w (List.mem_filter.mp hw).1
  have hcl : ∀ cn : Nat, ∃ q : ClassId × (Nat → Nat), ∀ r : vw_C, vwCl[cn]? = some r → u_Kn s r.1 r.2.1 r.2.2 q.1 q.2 := by
    intro cn
    have key : ∀ (r : vw_C), vwCl[cn]? = some r → ∀ k i : Nat, tables_1[i]? = some (Cond.instantiable r.1 k) → ∃ q : ClassId × (Nat → Nat), ∀ r' : vw_C, vwCl[cn]? = some r' → u_Kn s r'.1 r'.2.1 r'.2.2 q.1 q.2 := by
      intro r hr k i hi
      obtain ⟨cC, iS, hK⟩ := u_known (C := r.1) (T := r.2.1) (N := r.2.2) (n := k) htT (inT cn r hr) (tw i _ hi)
      refine ⟨(cC, iS), fun r' hr' => ?_⟩
      obtain rfl : r = r' := Option.some.inj (hr.symm.trans hr')
      exact hK
    match cn, key with
    | 0, key => exact key _ rfl 3 36 (by decide +kernel)
    | 1, key => exact key _ rfl 11 380 (by decide +kernel)
    | 2, key => exact key _ rfl 9 200 (by decide +kernel)
    | 3, key => exact key _ rfl 4 311 (by decide +kernel)
    | 4, key => exact key _ rfl 2 143 (by decide +kernel)
    | 5, key => exact key _ rfl 3 126 (by decide +kernel)
    | 6, key => exact key _ rfl 2 62 (by decide +kernel)
    | 7, key => exact key _ rfl 7 78 (by decide +kernel)
    | 8, key => exact key _ rfl 3 84 (by decide +kernel)
    | 9, key => exact key _ rfl 10 28 (by decide +kernel)
    | 10, key => exact key _ rfl 54 870 (by decide +kernel)
    | n + 11, key => exact ⟨(0, fun _ => 0), fun r hr => by simp [vwCl] at hr⟩
  obtain ⟨D, hD⟩ := Classical.axiomOfChoice hcl
  have hac : ∀ ty : FieldType, (Cond.arrayClass ty).before #[Value.ref b] s = true → ∃ cA : ClassId, ArrOfT s cA ty ∧ s.vm.findClass ("[" ++ ty.toString) = some cA := by
    intro ty h
    obtain ⟨cA, kA, comp, h1, h2, h3⟩ := Cond.arrayClass_spec h
    exact ⟨cA, fun N z => ⟨(fun k h => by cases h), kA, h2, comp, h3⟩, h1⟩
  have hao : ∀ C : String, (Cond.arrayOver (.object C)).before #[Value.ref b] s = true → ∃ cA : ClassId, ArrOfT s cA (.object C) ∧ va_RA s cA (.object C) := by
    intro C h
    obtain ⟨comp, cA, kA, h1, h2, h3, h4, h5⟩ := Cond.arrayOver_spec h
    exact ⟨cA, fun N z => ⟨(fun k h => by cases h), kA, h3, comp, h4⟩, ⟨kA, comp, h3, h4, h1, h5⟩⟩
  have o1 := tw 292 (Cond.arrayOver (.object "java/lang/Object")) (by decide +kernel)
  have o2 := tw 142 (Cond.arrayOver (.object "PanelHouse$RateText")) (by decide +kernel)
  obtain ⟨c1, d1, f1⟩ := hac .int (tw 102 _ (by decide +kernel))
  obtain ⟨c2, d2, f2⟩ := hac .boolean (tw 435 _ (by decide +kernel))
  obtain ⟨c3, d3, f3⟩ := hac .byte (tw 76 _ (by decide +kernel))
  obtain ⟨c4, d4, f4⟩ := hac .long (tw 1048 _ (by decide +kernel))
  obtain ⟨c5, d5, f5⟩ := hao _ o2
  obtain ⟨c6, d6, f6⟩ := hao _ o1
  refine ⟨(fun k => (D k).1, fun k => (D k).2), fun k => if k = 201 then c1 else if k = 202 then c2 else if k = 203 then c3 else if k = 204 then c4 else if k = 205 then c5 else c6, ⟨fun cn r hr => hD cn r hr, fun k q h => by simp at h⟩, ?_, fun w hw => va_Nw.of (nst_on (List.mem_filter.mp hw).2) (hts w (List.mem_append_right _ (List.mem_filter.mp hw).1)), va_AO.of o1, va_AO.of o2⟩
  unfold arT
  refine List.forall_mem_cons.mpr ⟨⟨d1, f1⟩, List.forall_mem_cons.mpr ⟨⟨d2, f2⟩, List.forall_mem_cons.mpr ⟨⟨d3, f3⟩, List.forall_mem_cons.mpr ⟨⟨d4, f4⟩, List.forall_mem_cons.mpr ⟨⟨d5, f5⟩, List.forall_mem_cons.mpr ⟨⟨d6, f6⟩, fun _ h => absurd h List.not_mem_nil⟩⟩⟩⟩⟩⟩
