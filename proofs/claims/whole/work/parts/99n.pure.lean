theorem len_exact {args : Array Value} {s : State} {tm : Term} {N a : Nat} {cell : Cell} (h : (Term.length tm).eval args s none [] s = some (.int (Int32.ofNat N))) (hN : N < 2 ^ 31) (ha : tm.eval args s none [] s = some (.ref a)) (hc : s.heap[a]? = some cell) : cell.slots.size = N := by
  cases hr : s.arrayAt? a with
  | none => simp [Term.eval, ha, hr] at h
  | some c2 =>
    have h2 := (State.arrayAt?_spec hr).1
    rw [hc] at h2
    obtain rfl := Option.some.inj h2
    by_cases hz : cell.slots.size < 2 ^ 31
    · have h0 : cell.slots.size.toInt32 = Int32.ofNat N := by
        simpa [Term.eval, ha, hr, hz] using h
      have h3 : nI cell.slots.size = nI N := h0
      have h4 := congrArg Int32.toInt h3
      rw [nI_toInt hz, nI_toInt hN] at h4
      omega
    · simp [Term.eval, ha, hr, hz] at h
theorem lenS_le : ∀ i : Nat, i < 8 → 3 ≤ lenS.getD i 0 ∧ lenS.getD i 0 < 2 ^ 31 := by decide +kernel
theorem st_str {args : Array Value} {s : State} {A : Nat → Prop} (hs : ∀ c ∈ FLC, c.before args s = true) (hA : ∀ a : Nat, a < s.heap.size → ¬ A a) (i : Nat) (hi : i < 8) : ∃ q : Nat × Nat, (tmS i).eval args s none [] s = some (.ref q.1) ∧ (va_O "java/lang/String" q.1 A s s.heap ∧ va_OF "java/lang/String" "coder" "B" (.int 0) q.1 A s s.heap ∧ va_OF "java/lang/String" "value" "[B" (.ref q.2) q.1 A s s.heap ∧ va_T .byte q.2 (lenS.getD i 0) (fun j => .int ((bytS.getD i []).getD j 0)) A s s.heap) ∧ ∃ cell : Cell, s.heap[q.2]? = some cell ∧ cell.slots.size = lenS.getD i 0 ∧ ∀ j, j < lenS.getD i 0 → cell.slots[j]? = some (.int ((bytS.getD i []).getD j 0)) := by
  have hl := (lenS_le i hi).2
  have e1 := hs _ (wf_ex i hi)
  obtain ⟨a, c, cA, kA, q1, -⟩ := Cond.exactly_spec (args := args) (first := s) (o := none) (s := s) (idx := []) (t := tmS i) (cls := "java/lang/String") e1
  obtain ⟨t, ht, hT⟩ := va_Tof (f := fun j => .int ((bytS.getD i []).getD j 0)) (A := A) hl (hs _ (wf_ar i hi)) (va_eqt (hs _ (wf_le i hi))) (fun j hj => va_eqt (hs _ (wf_el i hi j hj))) hA
  refine ⟨(a, t), q1, ⟨va_Oof e1 q1 hA, vk_OFof q1 (va_eqt (hs _ (wf_co i hi))) hA, vk_OFof q1 ht hA, hT⟩, ?_⟩
  obtain ⟨cell, h1, h2, h3, h4, h5, h6, h7⟩ := hT
  exact ⟨cell, h1, len_exact (va_eqt (hs _ (wf_le i hi))) hl ht h1, h6⟩
theorem start_C {s : State} {b : Nat} {A : Nat → Prop} (hts : ∀ w ∈ lw_tbl, w.before #[Value.ref b] s = true) (hgv : (Jvm.Cond.and given_1 narrow_1).before #[Value.ref b] s = true) (hA : ∀ a : Nat, a < s.heap.size → ¬ A a) : ∃ (t0 mi : Nat) (adK adV : Nat → Nat), (vk_S 8 lenS bytS adK adV A s s.heap ∧ (∀ i, i < 8 → vk_R RX7 (ixS.getD i 0) (txS.getD i "") (adK i) s) ∧
    va_Z "java/util/ArrayList" "DEFAULTCAPACITY_EMPTY_ELEMENTDATA" "[Ljava/lang/Object;" (.ref t0) A s s.heap ∧ va_T (.object "java/lang/Object") t0 0 (fun _ => .null) A s s.heap ∧
    va_Z "java/lang/String" "COMPACT_STRINGS" "Z" (.int 1) A s s.heap ∧ va_Zq "jdk/internal/util/Preconditions" "SIOOBE_FORMATTER" "Ljava/util/function/BiFunction;" A s s.heap ∧
    vx_Zq "java/lang/Throwable" "UNASSIGNED_STACK" "[Ljava/lang/StackTraceElement;" A s s.heap ∧ vx_Zq "java/lang/Throwable" "SUPPRESSED_SENTINEL" "Ljava/util/List;" A s s.heap ∧
    va_Mi "[Ljava/lang/Object;" mi s) ∧ (∃ cell : Cell, s.heap[t0]? = some cell ∧ cell.slots.size = 0) ∧ ∀ i, i < 8 → ∃ cell : Cell, s.heap[adV i]? = some cell ∧ cell.slots.size = lenS.getD i 0 ∧ ∀ j, j < lenS.getD i 0 → cell.slots[j]? = some (.int ((bytS.getD i []).getD j 0)) := by
  have tw : ∀ (i : Nat) (w : Cond), tables_1[i]? = some w → w.before #[Value.ref b] s = true := fun i w h => hts w (List.mem_append_right _ (List.mem_of_getElem? h))
  have hs := flat_of_before _ hgv
  obtain ⟨mi, hmi⟩ := va_Mi.of (hs _ wf_mi)
  obtain ⟨t0, ht0, hT0⟩ := va_Tof (N := 0) (f := fun _ => Value.null) (A := A) (by decide) (hs _ wf_e1) (va_eqt (hs _ wf_e2)) (fun j hj => absurd hj (Nat.not_lt_zero j)) hA
  have hch : ∀ i : Nat, ∃ q : Nat × Nat, i < 8 → ((tmS i).eval #[Value.ref b] s none [] s = some (.ref q.1) ∧ (va_O "java/lang/String" q.1 A s s.heap ∧ va_OF "java/lang/String" "coder" "B" (.int 0) q.1 A s s.heap ∧ va_OF "java/lang/String" "value" "[B" (.ref q.2) q.1 A s s.heap ∧ va_T .byte q.2 (lenS.getD i 0) (fun j => .int ((bytS.getD i []).getD j 0)) A s s.heap) ∧ ∃ cell : Cell, s.heap[q.2]? = some cell ∧ cell.slots.size = lenS.getD i 0 ∧ ∀ j, j < lenS.getD i 0 → cell.slots[j]? = some (.int ((bytS.getD i []).getD j 0))) := by
    intro i
    by_cases hi : i < 8
    · obtain ⟨q, hq⟩ := st_str hs hA i hi
      exact ⟨q, fun _ => hq⟩
    · exact ⟨(0, 0), fun h => absurd h hi⟩
  obtain ⟨ad, had⟩ := Classical.axiomOfChoice hch
  have hst : ∀ i, i < 8 → (Cond.stringRef RX7 (ixS.getD i 0) (txS.getD i "")).before #[Value.ref b] s = true := fun i hi => by
    match i, hi with
    | 0, _ => exact tw 596 _ (by decide +kernel)
    | 1, _ => exact tw 646 _ (by decide +kernel)
    | 2, _ => exact tw 647 _ (by decide +kernel)
    | 3, _ => exact tw 648 _ (by decide +kernel)
    | 4, _ => exact tw 649 _ (by decide +kernel)
    | 5, _ => exact tw 650 _ (by decide +kernel)
    | 6, _ => exact tw 651 _ (by decide +kernel)
    | 7, _ => exact tw 652 _ (by decide +kernel)
    | k + 8, h => exact absurd h (by omega)
  refine ⟨t0, mi, fun i => (ad i).1, fun i => (ad i).2, ⟨⟨fun i hi => (had i hi).2.1, fun i j hi hj e => ?_⟩, fun i hi => vk_R.of (hst i hi) (had i hi).1, ?_, hT0, ?_, ?_, ?_, ?_, hmi⟩, ?_, fun i hi => (had i hi).2.2⟩
  · by_cases hij : i = j
    · exact hij
    · rcases Nat.lt_or_gt_of_ne hij with h | h
      · exact absurd e (va_neR (hs _ (wf_ne i hi j hj h)) (had i hi).1 (had j hj).1)
      · exact absurd e.symm (va_neR (hs _ (wf_ne j hj i hi h)) (had j hj).1 (had i hi).1)
  · exact va_Zof (tw 48 _ (by decide +kernel)) (tw 4 _ (by decide +kernel)) ht0 hA
  · exact va_Zof (tw 609 _ (by decide +kernel)) (tw 24 _ (by decide +kernel)) (va_eqt (hs _ wf_cs)) hA
  · exact va_Zqof (tw 625 _ (by decide +kernel)) (tw 18 _ (by decide +kernel)) (hs _ wf_sf) hA
  · exact vx_Zqof (tw 795 _ (by decide +kernel)) (tw 19 _ (by decide +kernel)) (hs _ wf_us) hA
  · exact vx_Zqof (tw 797 _ (by decide +kernel)) (tw 19 _ (by decide +kernel)) (hs _ wf_ss) hA
  · obtain ⟨cell, h1, -⟩ := hT0
    exact ⟨cell, h1, len_exact (va_eqt (hs _ wf_e2)) (by decide) ht0 h1⟩
