/-! THE START OF THE LAW: what the Statement gives of the constants -/
abbrev FLC : List Cond := flatC (Jvm.Cond.and given_1 narrow_1)
abbrev tmS (i : Nat) : Term := .string RX7 (ixS.getD i 0)
abbrev tmV (i : Nat) : Term := .field (tmS i) "java/lang/String" "value" "[B"
theorem wf_ex (i : Nat) (hi : i < 8) : Cond.exactly (tmS i) "java/lang/String" ∈ FLC := by
  match i, hi with
  | 0, _ => decide +kernel
  | 1, _ => decide +kernel
  | 2, _ => decide +kernel
  | 3, _ => decide +kernel
  | 4, _ => decide +kernel
  | 5, _ => decide +kernel
  | 6, _ => decide +kernel
  | 7, _ => decide +kernel
  | k + 8, h => exact absurd h (by omega)
theorem wf_co (i : Nat) (hi : i < 8) : Cond.eq (.field (tmS i) "java/lang/String" "coder" "B") (.int 0) ∈ FLC := by
  match i, hi with
  | 0, _ => decide +kernel
  | 1, _ => decide +kernel
  | 2, _ => decide +kernel
  | 3, _ => decide +kernel
  | 4, _ => decide +kernel
  | 5, _ => decide +kernel
  | 6, _ => decide +kernel
  | 7, _ => decide +kernel
  | k + 8, h => exact absurd h (by omega)
theorem wf_ar (i : Nat) (hi : i < 8) : Cond.arrayOf (tmV i) .byte ∈ FLC := by
  match i, hi with
  | 0, _ => decide +kernel
  | 1, _ => decide +kernel
  | 2, _ => decide +kernel
  | 3, _ => decide +kernel
  | 4, _ => decide +kernel
  | 5, _ => decide +kernel
  | 6, _ => decide +kernel
  | 7, _ => decide +kernel
  | k + 8, h => exact absurd h (by omega)
theorem wf_le (i : Nat) (hi : i < 8) : Cond.eq (.length (tmV i)) (.int (Int32.ofNat (lenS.getD i 0))) ∈ FLC := by
  match i, hi with
  | 0, _ => decide +kernel
  | 1, _ => decide +kernel
  | 2, _ => decide +kernel
  | 3, _ => decide +kernel
  | 4, _ => decide +kernel
  | 5, _ => decide +kernel
  | 6, _ => decide +kernel
  | 7, _ => decide +kernel
  | k + 8, h => exact absurd h (by omega)
theorem wf_el0 (j : Nat) (hj : j < 4) : Cond.eq (.elem (tmV 0) (.int (Int32.ofNat j))) (.int ((bytS.getD 0 []).getD j 0)) ∈ FLC := by
  match j, hj with
  | 0, _ => decide +kernel
  | 1, _ => decide +kernel
  | 2, _ => decide +kernel
  | 3, _ => decide +kernel
  | k + 4, h => exact absurd h (by omega)
theorem wf_el1 (j : Nat) (hj : j < 4) : Cond.eq (.elem (tmV 1) (.int (Int32.ofNat j))) (.int ((bytS.getD 1 []).getD j 0)) ∈ FLC := by
  match j, hj with
  | 0, _ => decide +kernel
  | 1, _ => decide +kernel
  | 2, _ => decide +kernel
  | 3, _ => decide +kernel
  | k + 4, h => exact absurd h (by omega)
theorem wf_el2 (j : Nat) (hj : j < 3) : Cond.eq (.elem (tmV 2) (.int (Int32.ofNat j))) (.int ((bytS.getD 2 []).getD j 0)) ∈ FLC := by
  match j, hj with
  | 0, _ => decide +kernel
  | 1, _ => decide +kernel
  | 2, _ => decide +kernel
  | k + 3, h => exact absurd h (by omega)
theorem wf_el3 (j : Nat) (hj : j < 4) : Cond.eq (.elem (tmV 3) (.int (Int32.ofNat j))) (.int ((bytS.getD 3 []).getD j 0)) ∈ FLC := by
  match j, hj with
  | 0, _ => decide +kernel
  | 1, _ => decide +kernel
  | 2, _ => decide +kernel
  | 3, _ => decide +kernel
  | k + 4, h => exact absurd h (by omega)
theorem wf_el4 (j : Nat) (hj : j < 9) : Cond.eq (.elem (tmV 4) (.int (Int32.ofNat j))) (.int ((bytS.getD 4 []).getD j 0)) ∈ FLC := by
  match j, hj with
  | 0, _ => decide +kernel
  | 1, _ => decide +kernel
  | 2, _ => decide +kernel
  | 3, _ => decide +kernel
  | 4, _ => decide +kernel
  | 5, _ => decide +kernel
  | 6, _ => decide +kernel
  | 7, _ => decide +kernel
  | 8, _ => decide +kernel
  | k + 9, h => exact absurd h (by omega)
theorem wf_el5 (j : Nat) (hj : j < 7) : Cond.eq (.elem (tmV 5) (.int (Int32.ofNat j))) (.int ((bytS.getD 5 []).getD j 0)) ∈ FLC := by
  match j, hj with
  | 0, _ => decide +kernel
  | 1, _ => decide +kernel
  | 2, _ => decide +kernel
  | 3, _ => decide +kernel
  | 4, _ => decide +kernel
  | 5, _ => decide +kernel
  | 6, _ => decide +kernel
  | k + 7, h => exact absurd h (by omega)
theorem wf_el6 (j : Nat) (hj : j < 5) : Cond.eq (.elem (tmV 6) (.int (Int32.ofNat j))) (.int ((bytS.getD 6 []).getD j 0)) ∈ FLC := by
  match j, hj with
  | 0, _ => decide +kernel
  | 1, _ => decide +kernel
  | 2, _ => decide +kernel
  | 3, _ => decide +kernel
  | 4, _ => decide +kernel
  | k + 5, h => exact absurd h (by omega)
theorem wf_el7 (j : Nat) (hj : j < 5) : Cond.eq (.elem (tmV 7) (.int (Int32.ofNat j))) (.int ((bytS.getD 7 []).getD j 0)) ∈ FLC := by
  match j, hj with
  | 0, _ => decide +kernel
  | 1, _ => decide +kernel
  | 2, _ => decide +kernel
  | 3, _ => decide +kernel
  | 4, _ => decide +kernel
  | k + 5, h => exact absurd h (by omega)
theorem wf_el (i : Nat) (hi : i < 8) : ∀ j : Nat, j < lenS.getD i 0 → Cond.eq (.elem (tmV i) (.int (Int32.ofNat j))) (.int ((bytS.getD i []).getD j 0)) ∈ FLC := by
  match i, hi with
  | 0, _ => exact wf_el0
  | 1, _ => exact wf_el1
  | 2, _ => exact wf_el2
  | 3, _ => exact wf_el3
  | 4, _ => exact wf_el4
  | 5, _ => exact wf_el5
  | 6, _ => exact wf_el6
  | 7, _ => exact wf_el7
  | k + 8, h => exact absurd h (by omega)
theorem wf_ne0 (j : Nat) (hj : j < 8) (h : 0 < j) : Cond.not (Cond.eq (tmS 0) (tmS j)) ∈ FLC := by
  match j, hj with
  | 0, _ => exact absurd h (by omega)
  | 1, _ => decide +kernel
  | 2, _ => decide +kernel
  | 3, _ => decide +kernel
  | 4, _ => decide +kernel
  | 5, _ => decide +kernel
  | 6, _ => decide +kernel
  | 7, _ => decide +kernel
  | k + 8, h => exact absurd h (by omega)
theorem wf_ne1 (j : Nat) (hj : j < 8) (h : 1 < j) : Cond.not (Cond.eq (tmS 1) (tmS j)) ∈ FLC := by
  match j, hj with
  | 0, _ => exact absurd h (by omega)
  | 1, _ => exact absurd h (by omega)
  | 2, _ => decide +kernel
  | 3, _ => decide +kernel
  | 4, _ => decide +kernel
  | 5, _ => decide +kernel
  | 6, _ => decide +kernel
  | 7, _ => decide +kernel
  | k + 8, h => exact absurd h (by omega)
theorem wf_ne2 (j : Nat) (hj : j < 8) (h : 2 < j) : Cond.not (Cond.eq (tmS 2) (tmS j)) ∈ FLC := by
  match j, hj with
  | 0, _ => exact absurd h (by omega)
  | 1, _ => exact absurd h (by omega)
  | 2, _ => exact absurd h (by omega)
  | 3, _ => decide +kernel
  | 4, _ => decide +kernel
  | 5, _ => decide +kernel
  | 6, _ => decide +kernel
  | 7, _ => decide +kernel
  | k + 8, h => exact absurd h (by omega)
theorem wf_ne3 (j : Nat) (hj : j < 8) (h : 3 < j) : Cond.not (Cond.eq (tmS 3) (tmS j)) ∈ FLC := by
  match j, hj with
  | 0, _ => exact absurd h (by omega)
  | 1, _ => exact absurd h (by omega)
  | 2, _ => exact absurd h (by omega)
  | 3, _ => exact absurd h (by omega)
  | 4, _ => decide +kernel
  | 5, _ => decide +kernel
  | 6, _ => decide +kernel
  | 7, _ => decide +kernel
  | k + 8, h => exact absurd h (by omega)
theorem wf_ne4 (j : Nat) (hj : j < 8) (h : 4 < j) : Cond.not (Cond.eq (tmS 4) (tmS j)) ∈ FLC := by
  match j, hj with
  | 0, _ => exact absurd h (by omega)
  | 1, _ => exact absurd h (by omega)
  | 2, _ => exact absurd h (by omega)
  | 3, _ => exact absurd h (by omega)
  | 4, _ => exact absurd h (by omega)
  | 5, _ => decide +kernel
  | 6, _ => decide +kernel
  | 7, _ => decide +kernel
  | k + 8, h => exact absurd h (by omega)
theorem wf_ne5 (j : Nat) (hj : j < 8) (h : 5 < j) : Cond.not (Cond.eq (tmS 5) (tmS j)) ∈ FLC := by
  match j, hj with
  | 0, _ => exact absurd h (by omega)
  | 1, _ => exact absurd h (by omega)
  | 2, _ => exact absurd h (by omega)
  | 3, _ => exact absurd h (by omega)
  | 4, _ => exact absurd h (by omega)
  | 5, _ => exact absurd h (by omega)
  | 6, _ => decide +kernel
  | 7, _ => decide +kernel
  | k + 8, h => exact absurd h (by omega)
theorem wf_ne6 (j : Nat) (hj : j < 8) (h : 6 < j) : Cond.not (Cond.eq (tmS 6) (tmS j)) ∈ FLC := by
  match j, hj with
  | 0, _ => exact absurd h (by omega)
  | 1, _ => exact absurd h (by omega)
  | 2, _ => exact absurd h (by omega)
  | 3, _ => exact absurd h (by omega)
  | 4, _ => exact absurd h (by omega)
  | 5, _ => exact absurd h (by omega)
  | 6, _ => exact absurd h (by omega)
  | 7, _ => decide +kernel
  | k + 8, h => exact absurd h (by omega)
theorem wf_ne7 (j : Nat) (hj : j < 8) (h : 7 < j) : Cond.not (Cond.eq (tmS 7) (tmS j)) ∈ FLC := by
  match j, hj with
  | 0, _ => exact absurd h (by omega)
  | 1, _ => exact absurd h (by omega)
  | 2, _ => exact absurd h (by omega)
  | 3, _ => exact absurd h (by omega)
  | 4, _ => exact absurd h (by omega)
  | 5, _ => exact absurd h (by omega)
  | 6, _ => exact absurd h (by omega)
  | 7, _ => exact absurd h (by omega)
  | k + 8, h => exact absurd h (by omega)
theorem wf_ne (i : Nat) (hi : i < 8) : ∀ j : Nat, j < 8 → i < j → Cond.not (Cond.eq (tmS i) (tmS j)) ∈ FLC := by
  match i, hi with
  | 0, _ => exact wf_ne0
  | 1, _ => exact wf_ne1
  | 2, _ => exact wf_ne2
  | 3, _ => exact wf_ne3
  | 4, _ => exact wf_ne4
  | 5, _ => exact wf_ne5
  | 6, _ => exact wf_ne6
  | 7, _ => exact wf_ne7
  | k + 8, h => exact absurd h (by omega)
abbrev tmE : Term := .static "java/util/ArrayList" "DEFAULTCAPACITY_EMPTY_ELEMENTDATA" "[Ljava/lang/Object;"
theorem wf_e1 : Cond.arrayOf tmE (.object "java/lang/Object") ∈ FLC := by decide +kernel
theorem wf_e2 : Cond.eq (.length tmE) (.int 0) ∈ FLC := by decide +kernel
theorem wf_cs : Cond.eq (.static "java/lang/String" "COMPACT_STRINGS" "Z") (.int 1) ∈ FLC := by decide +kernel
theorem wf_sf : Cond.isRef (.static "jdk/internal/util/Preconditions" "SIOOBE_FORMATTER" "Ljava/util/function/BiFunction;") ∈ FLC := by decide +kernel
theorem wf_us : Cond.isRef (.static "java/lang/Throwable" "UNASSIGNED_STACK" "[Ljava/lang/StackTraceElement;") ∈ FLC := by decide +kernel
theorem wf_ss : Cond.isRef (.static "java/lang/Throwable" "SUPPRESSED_SENTINEL" "Ljava/util/List;") ∈ FLC := by decide +kernel
theorem wf_mi : Cond.isRef (.mirror "[Ljava/lang/Object;") ∈ FLC := by decide +kernel
