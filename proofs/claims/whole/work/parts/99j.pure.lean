def qT : List Nat := [1000, 1, 1002, 1003, 2, 3, 4, 1007, 1008, 5, 1010, 1011, 6, 7, 8, 9, 10, 1017, 1018, 11, 12, 13, 14, 15, 1024, 1025, 16, 17, 18, 19, 20, 21, 22, 23, 1034, 24, 25, 26, 27, 1039, 28, 29, 30, 31, 32, 33, 34, 35, 36, 37, 38, 39, 40, 41]
def qo (k : Nat) : Nat := qT.getD k (1000 + k)
theorem qo_out {k : Nat} (h : 54 ≤ k) : qo k = 1000 + k := by
  have h1 : qT.length = 54 := rfl
  simp only [qo, List.getD_eq_getElem?_getD, List.getElem?_eq_none (show qT.length ≤ k by omega), Option.getD_none]
theorem qo_in : ∀ k : Nat, k < 54 → qo k < 1054 := by decide +kernel
theorem qo_inj2 : ∀ k : Nat, k < 54 → ∀ k' : Nat, k' < 54 → qo k = qo k' → k = k' := by decide +kernel
theorem qo_inj {k k' : Nat} (h : qo k = qo k') : k = k' := by
  by_cases h1 : k < 54
  · by_cases h2 : k' < 54
    · exact qo_inj2 k h1 k' h2 h
    · have := qo_in k h1
      rw [qo_out (by omega : 54 ≤ k')] at h
      omega
  · by_cases h2 : k' < 54
    · have := qo_in k' h2
      rw [qo_out (by omega : 54 ≤ k)] at h
      omega
    · rw [qo_out (by omega), qo_out (by omega)] at h
      omega
theorem rp_nil {h : HS} {B : Nat} : Rp B h [] (wz h B) := ⟨rfl, rfl, fun a _ => ⟨rfl, fun _ => rfl, fun _ => rfl, rfl, fun _ => rfl, fun _ => rfl, fun _ => rfl⟩, fun i c hc => by simp at hc⟩
def WL : Nat → Int64 := va_up (va_up (va_up (va_up (va_up (va_up (va_up (va_up (fun _ => 0) 0 913868) 1 1176170) 2 1891) 3 570026) 4 71049021893761) 5 42317417930) 6 25143802) 7 43366239
set_option maxHeartbeats 4000000 in
theorem init_M {B : Nat} {h00 : HS} : Go (m_X9_init B (nO (wz h00 B) 10)) (fun h => ∃ F R rest, Rp B h00 (.inl (11, F, R) :: rest) h ∧ rest.length = 41 ∧ (∀ x ∈ arM, R (1000 + x.1) = some (B + qo x.1) ∧ ∃ L, rest[qo x.1 - 1]? = some (.inr (x.2.1, x.2.2, L))) ∧ rest[4]? = some (.inr (204, 8, WL)) ∧ F = va_up (fun _ => 0) 1011 (-1)) := by
  have R0 : Rp B h00 ([] ++ .inl (11, fun _ => 0, fun _ => none) :: []) (nO (wz h00 B) 10) := rp_nO rp_nil 10
  unfold m_X9_init
  refine go_row 600 R0 rfl rfl rfl (by decide) R0.1 (fun h R1 => ?_)
  refine go_row 602 R1 rfl rfl rfl (by decide) R1.1 (fun h R2 => ?_)
  refine go_row 602 R2 rfl rfl rfl (by decide) R2.1 (fun h R3 => ?_)
  refine go_row 602 R3 rfl rfl rfl (by decide) R3.1 (fun h R4 => ?_)
  have Rn := rp_nA R4 204 8
  have w9 : ∀ h, nwA 8 h 204 (8 : Int32) = some (some (sz h), nA h 204 8) := fun h => rfl
  rw [w9]
  simp only [Option.bind_some]
  have Rw0 : Rp B h00 (([] ++ .inl (11, _, _) :: _) ++ .inr (204, 8, fun _ => 0) :: []) _ := Rn
  refine go_yL 0 Rw0 R4.1 rfl (by decide) (by decide) (fun h Rw1 => ?_)
  refine go_yL 1 Rw1 R4.1 rfl (by decide) (by decide) (fun h Rw2 => ?_)
  refine go_yL 2 Rw2 R4.1 rfl (by decide) (by decide) (fun h Rw3 => ?_)
  refine go_yL 3 Rw3 R4.1 rfl (by decide) (by decide) (fun h Rw4 => ?_)
  refine go_yL 4 Rw4 R4.1 rfl (by decide) (by decide) (fun h Rw5 => ?_)
  refine go_yL 5 Rw5 R4.1 rfl (by decide) (by decide) (fun h Rw6 => ?_)
  refine go_yL 6 Rw6 R4.1 rfl (by decide) (by decide) (fun h Rw7 => ?_)
  refine go_yL 7 Rw7 R4.1 rfl (by decide) (by decide) (fun h Rw8 => ?_)
  rw [R4.1]
  have Rz : Rp B h00 ([] ++ .inl (11, _, _) :: (_ ++ .inr (204, 8, WL) :: [])) _ := Rw8
  refine go_pR Rz rfl (fun h R5 => ?_)
  refine go_row 21 R5 rfl rfl rfl (by decide) R5.1 (fun h R6 => ?_)
  refine go_row 336 R6 rfl rfl rfl (by decide) R6.1 (fun h R7 => ?_)
  refine go_row 336 R7 rfl rfl rfl (by decide) R7.1 (fun h R8 => ?_)
  refine go_row 13860 R8 rfl rfl rfl (by decide) R8.1 (fun h R9 => ?_)
  refine go_row 13860 R9 rfl rfl rfl (by decide) R9.1 (fun h R10 => ?_)
  refine go_row 7 R10 rfl rfl rfl (by decide) R10.1 (fun h R11 => ?_)
  refine go_row 7 R11 rfl rfl rfl (by decide) R11.1 (fun h R12 => ?_)
  refine go_row 7 R12 rfl rfl rfl (by decide) R12.1 (fun h R13 => ?_)
  refine go_row 5 R13 rfl rfl rfl (by decide) R13.1 (fun h R14 => ?_)
  refine go_row 660 R14 rfl rfl rfl (by decide) R14.1 (fun h R15 => ?_)
  refine go_row 10 R15 rfl rfl rfl (by decide) R15.1 (fun h R16 => ?_)
  refine go_row 10 R16 rfl rfl rfl (by decide) R16.1 (fun h R17 => ?_)
  refine go_row 30 R17 rfl rfl rfl (by decide) R17.1 (fun h R18 => ?_)
  refine go_row 10 R18 rfl rfl rfl (by decide) R18.1 (fun h R19 => ?_)
  refine go_row 10 R19 rfl rfl rfl (by decide) R19.1 (fun h R20 => ?_)
  refine go_row 10 R20 rfl rfl rfl (by decide) R20.1 (fun h R21 => ?_)
  refine go_row 2020 R21 rfl rfl rfl (by decide) R21.1 (fun h R22 => ?_)
  refine go_row 10 R22 rfl rfl rfl (by decide) R22.1 (fun h R23 => ?_)
  refine go_row 20 R23 rfl rfl rfl (by decide) R23.1 (fun h R24 => ?_)
  refine go_row 20 R24 rfl rfl rfl (by decide) R24.1 (fun h R25 => ?_)
  refine go_row 20 R25 rfl rfl rfl (by decide) R25.1 (fun h R26 => ?_)
  refine go_row 1020 R26 rfl rfl rfl (by decide) R26.1 (fun h R27 => ?_)
  refine go_row 60 R27 rfl rfl rfl (by decide) R27.1 (fun h R28 => ?_)
  refine go_row 60 R28 rfl rfl rfl (by decide) R28.1 (fun h R29 => ?_)
  refine go_row 60 R29 rfl rfl rfl (by decide) R29.1 (fun h R30 => ?_)
  refine go_row 60 R30 rfl rfl rfl (by decide) R30.1 (fun h R31 => ?_)
  refine go_row 60 R31 rfl rfl rfl (by decide) R31.1 (fun h R32 => ?_)
  refine go_row 60 R32 rfl rfl rfl (by decide) R32.1 (fun h R33 => ?_)
  refine go_row 60 R33 rfl rfl rfl (by decide) R33.1 (fun h R34 => ?_)
  refine go_row 12120 R34 rfl rfl rfl (by decide) R34.1 (fun h R35 => ?_)
  refine go_row 3060 R35 rfl rfl rfl (by decide) R35.1 (fun h R36 => ?_)
  refine go_row 3060 R36 rfl rfl rfl (by decide) R36.1 (fun h R37 => ?_)
  refine go_row 60 R37 rfl rfl rfl (by decide) R37.1 (fun h R38 => ?_)
  refine go_row 51 R38 rfl rfl rfl (by decide) R38.1 (fun h R39 => ?_)
  refine go_row 3 R39 rfl rfl rfl (by decide) R39.1 (fun h R40 => ?_)
  refine go_row 3 R40 rfl rfl rfl (by decide) R40.1 (fun h R41 => ?_)
  refine go_pI R41 rfl (fun h RE => ?_)
  refine go_some ⟨_, _, _, RE, rfl, ?_, rfl, rfl⟩
  unfold arM
  refine List.forall_mem_cons.mpr ⟨⟨rfl, _, rfl⟩, ?_⟩
  refine List.forall_mem_cons.mpr ⟨⟨rfl, _, rfl⟩, ?_⟩
  refine List.forall_mem_cons.mpr ⟨⟨rfl, _, rfl⟩, ?_⟩
  refine List.forall_mem_cons.mpr ⟨⟨rfl, _, rfl⟩, ?_⟩
  refine List.forall_mem_cons.mpr ⟨⟨rfl, _, rfl⟩, ?_⟩
  refine List.forall_mem_cons.mpr ⟨⟨rfl, _, rfl⟩, ?_⟩
  refine List.forall_mem_cons.mpr ⟨⟨rfl, _, rfl⟩, ?_⟩
  refine List.forall_mem_cons.mpr ⟨⟨rfl, _, rfl⟩, ?_⟩
  refine List.forall_mem_cons.mpr ⟨⟨rfl, _, rfl⟩, ?_⟩
  refine List.forall_mem_cons.mpr ⟨⟨rfl, _, rfl⟩, ?_⟩
  refine List.forall_mem_cons.mpr ⟨⟨rfl, _, rfl⟩, ?_⟩
  refine List.forall_mem_cons.mpr ⟨⟨rfl, _, rfl⟩, ?_⟩
  refine List.forall_mem_cons.mpr ⟨⟨rfl, _, rfl⟩, ?_⟩
  refine List.forall_mem_cons.mpr ⟨⟨rfl, _, rfl⟩, ?_⟩
  refine List.forall_mem_cons.mpr ⟨⟨rfl, _, rfl⟩, ?_⟩
  refine List.forall_mem_cons.mpr ⟨⟨rfl, _, rfl⟩, ?_⟩
  refine List.forall_mem_cons.mpr ⟨⟨rfl, _, rfl⟩, ?_⟩
  refine List.forall_mem_cons.mpr ⟨⟨rfl, _, rfl⟩, ?_⟩
  refine List.forall_mem_cons.mpr ⟨⟨rfl, _, rfl⟩, ?_⟩
  refine List.forall_mem_cons.mpr ⟨⟨rfl, _, rfl⟩, ?_⟩
  refine List.forall_mem_cons.mpr ⟨⟨rfl, _, rfl⟩, ?_⟩
  refine List.forall_mem_cons.mpr ⟨⟨rfl, _, rfl⟩, ?_⟩
  refine List.forall_mem_cons.mpr ⟨⟨rfl, _, rfl⟩, ?_⟩
  refine List.forall_mem_cons.mpr ⟨⟨rfl, _, rfl⟩, ?_⟩
  refine List.forall_mem_cons.mpr ⟨⟨rfl, _, rfl⟩, ?_⟩
  refine List.forall_mem_cons.mpr ⟨⟨rfl, _, rfl⟩, ?_⟩
  refine List.forall_mem_cons.mpr ⟨⟨rfl, _, rfl⟩, ?_⟩
  refine List.forall_mem_cons.mpr ⟨⟨rfl, _, rfl⟩, ?_⟩
  refine List.forall_mem_cons.mpr ⟨⟨rfl, _, rfl⟩, ?_⟩
  refine List.forall_mem_cons.mpr ⟨⟨rfl, _, rfl⟩, ?_⟩
  refine List.forall_mem_cons.mpr ⟨⟨rfl, _, rfl⟩, ?_⟩
  refine List.forall_mem_cons.mpr ⟨⟨rfl, _, rfl⟩, ?_⟩
  refine List.forall_mem_cons.mpr ⟨⟨rfl, _, rfl⟩, ?_⟩
  refine List.forall_mem_cons.mpr ⟨⟨rfl, _, rfl⟩, ?_⟩
  refine List.forall_mem_cons.mpr ⟨⟨rfl, _, rfl⟩, ?_⟩
  refine List.forall_mem_cons.mpr ⟨⟨rfl, _, rfl⟩, ?_⟩
  refine List.forall_mem_cons.mpr ⟨⟨rfl, _, rfl⟩, ?_⟩
  refine List.forall_mem_cons.mpr ⟨⟨rfl, _, rfl⟩, ?_⟩
  refine List.forall_mem_cons.mpr ⟨⟨rfl, _, rfl⟩, ?_⟩
  refine List.forall_mem_cons.mpr ⟨⟨rfl, _, rfl⟩, ?_⟩
  refine List.forall_mem_cons.mpr ⟨⟨rfl, _, rfl⟩, ?_⟩
  exact fun _ h => absurd h List.not_mem_nil
