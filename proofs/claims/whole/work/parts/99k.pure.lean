def lstC (z : Nat) : Cel := .inl (1, va_up (fun _ => 0) 0 0, va_up (fun _ => none) 1 (some z))
theorem go_list {B L : Nat} {h0 h : HS} {cl : List Cel} {f : HS → Option HS} {Q : HS → Prop} (R : Rp B h0 cl h) (hL : sz h = L) (K : ∀ h', Rp B h0 (cl ++ [lstC (cs h0 0)]) h' → Go (f h') Q) : Go ((m_Jx4a65c_init_da8c8 L (nO h 0)).bind f) Q := by
  have ha : L = B + cl.length := hL.symm.trans R.1
  simp only [m_Jx4a65c_init_da8c8, m_Jxc12de_init_da8c8, m_Jxa1e45_init_da8c8, Option.bind_some, Option.bind_assoc]
  have R0 : Rp B h0 (cl ++ .inl (0 + 1, fun _ => 0, fun _ => none) :: []) (nO h 0) := rp_nO R 0
  refine go_pI R0 ha (fun h1 R1 => ?_)
  have e1 : cs h1 0 = cs h0 0 := by rw [R1.2.1]
  rw [e1]
  exact go_pR R1 ha K
theorem go_X5 {B L : Nat} {h0 h : HS} {cl : List Cel} {f : HS → Option HS} {Q : HS → Prop} (R : Rp B h0 cl h) (hL : sz h = L) (K : ∀ h', Rp B h0 (cl ++ .inl (7, va_up (fun _ => 0) 601 0, va_up (fun _ => none) 600 (some (L + 1))) :: [.inr (203, 600, fun _ => 0)]) h' → Go (f h') Q) : Go ((m_X5_init L (nO h 6)).bind f) Q := by
  have ha : L = B + cl.length := hL.symm.trans R.1
  simp only [m_X5_init, Option.bind_some, Option.bind_assoc]
  have R0 : Rp B h0 (cl ++ .inl (6 + 1, fun _ => 0, fun _ => none) :: []) (nO h 6) := rp_nO R 6
  refine go_row 600 R0 ha rfl rfl (by decide) (show sz h + 1 = L + 1 by rw [hL]) (fun h1 R1 => ?_)
  exact go_pI R1 ha K
theorem go_X7 {B L : Nat} {h0 h : HS} {cl : List Cel} {f : HS → Option HS} {Q : HS → Prop} (R : Rp B h0 cl h) (hL : sz h = L) (K : ∀ h', Rp B h0 (cl ++ .inl (9, va_up (fun _ => 0) 802 0, va_up (va_up (fun _ => none) 800 (some (L + 1))) 801 (some (L + 2))) :: [.inr (201, 601, fun _ => 0), .inr (201, 601, fun _ => 0)]) h' → Go (f h') Q) : Go ((m_X7_init L (nO h 8)).bind f) Q := by
  have ha : L = B + cl.length := hL.symm.trans R.1
  simp only [m_X7_init, Option.bind_some, Option.bind_assoc]
  have R0 : Rp B h0 (cl ++ .inl (8 + 1, fun _ => 0, fun _ => none) :: []) (nO h 8) := rp_nO R 8
  refine go_row 601 R0 ha rfl rfl (by decide) (show sz h + 1 = L + 1 by rw [hL]) (fun h1 R1 => ?_)
  refine go_row 601 R1 ha rfl rfl (by decide) (show sz h1 = L + 2 by rw [R1.1, ha, List.length_append]; simp; omega) (fun h2 R2 => ?_)
  exact go_pI R2 ha K
theorem go_X4 {B L : Nat} {h0 h : HS} {cl : List Cel} {f : HS → Option HS} {Q : HS → Prop} (R : Rp B h0 cl h) (hL : sz h = L) (K : ∀ h', Rp B h0 (cl ++ .inl (6, va_up (fun _ => 0) 502 0, va_up (va_up (fun _ => none) 500 (some (L + 1))) 501 (some (L + 2))) :: [.inr (201, 5, fun _ => 0), .inr (201, 32, fun _ => 0)]) h' → Go (f h') Q) : Go ((m_X4_init L (nO h 5)).bind f) Q := by
  have ha : L = B + cl.length := hL.symm.trans R.1
  simp only [m_X4_init, Option.bind_some, Option.bind_assoc]
  have R0 : Rp B h0 (cl ++ .inl (5 + 1, fun _ => 0, fun _ => none) :: []) (nO h 5) := rp_nO R 5
  refine go_row 5 R0 ha rfl rfl (by decide) (show sz h + 1 = L + 1 by rw [hL]) (fun h1 R1 => ?_)
  refine go_row 32 R1 ha rfl rfl (by decide) (show sz h1 = L + 2 by rw [R1.1, ha, List.length_append]; simp; omega) (fun h2 R2 => ?_)
  exact go_pI R2 ha K
theorem go_X6 {B L : Nat} {h0 h : HS} {cl : List Cel} {f : HS → Option HS} {Q : HS → Prop} (R : Rp B h0 cl h) (hL : sz h = L) (K : ∀ h', (∃ F, Rp B h0 (cl ++ .inl (8, F, va_up (va_up (fun _ => none) 700 (some (L + 1))) 701 (some (L + 4))) :: [.inl (9, va_up (fun _ => 0) 802 0, va_up (va_up (fun _ => none) 800 (some (L + 2))) 801 (some (L + 3))), .inr (201, 601, fun _ => 0), .inr (201, 601, fun _ => 0), .inr (201, 600, fun _ => 0)]) h') → Go (f h') Q) : Go ((m_X6_init L (nO h 7)).bind f) Q := by
  have ha : L = B + cl.length := hL.symm.trans R.1
  simp only [m_X6_init, Option.bind_some, Option.bind_assoc]
  have R0 : Rp B h0 (cl ++ [.inl (7 + 1, fun _ => 0, fun _ => none)]) (nO h 7) := rp_nO R 7
  have hz : sz (nO h 7) = L + 1 := show sz h + 1 = L + 1 by rw [hL]
  rw [hz]
  refine go_X7 R0 hz (fun h1 R1 => ?_)
  rw [List.append_assoc, List.singleton_append] at R1
  refine go_pR R1 ha (fun h2 R2 => ?_)
  refine go_row 600 R2 ha rfl rfl (by decide) (show sz h2 = L + 4 by rw [R2.1, ha, List.length_append]; simp; omega) (fun h3 R3 => ?_)
  refine go_pI R3 ha (fun h4 R4 => ?_)
  refine go_pI R4 ha (fun h5 R5 => ?_)
  refine go_pI R5 ha (fun h6 R6 => ?_)
  refine go_pI R6 ha (fun h7 R7 => ?_)
  refine go_pI R7 ha (fun h8 R8 => ?_)
  exact K _ ⟨_, R8⟩
def CLX (B z : Nat) (F9 F8 : Nat → Int32) : List Cel := [.inl (10, F9, va_up (va_up (va_up (va_up (va_up (va_up (va_up (va_up (fun _ => none) 900 (some (B + 1))) 901 (some (B + 2))) 902 (some (B + 3))) 903 (some (B + 4))) 904 (some (B + 6))) 905 (some (B + 11))) 906 (some (B + 14))) 907 (some (B + 15))), lstC z, lstC z, lstC z, .inl (7, va_up (fun _ => 0) 601 0, va_up (fun _ => none) 600 (some (B + 5))), .inr (203, 600, fun _ => 0), .inl (8, F8, va_up (va_up (fun _ => none) 700 (some (B + 7))) 701 (some (B + 10))), .inl (9, va_up (fun _ => 0) 802 0, va_up (va_up (fun _ => none) 800 (some (B + 8))) 801 (some (B + 9))), .inr (201, 601, fun _ => 0), .inr (201, 601, fun _ => 0), .inr (201, 600, fun _ => 0), .inl (6, va_up (fun _ => 0) 502 0, va_up (va_up (fun _ => none) 500 (some (B + 12))) 501 (some (B + 13))), .inr (201, 5, fun _ => 0), .inr (201, 32, fun _ => 0), .inr (205, 50, fun _ => 0), .inl (5, va_up (fun _ => 0) 401 0, va_up (fun _ => none) 400 (some (B + 16))), .inr (201, 0, fun _ => 0)]
set_option maxHeartbeats 4000000 in
theorem init_X {B : Nat} {h00 : HS} (hB : sz h00 = B) : Go (m_X8_init B (nO h00 9)) (fun h => ∃ F8, Rp B h00 (CLX B (cs h00 0) (va_up (va_up (fun _ => 0) 908 0) 909 0) F8) h) := by
  have Rn : Rp B h00 [] h00 := ⟨hB, rfl, fun a _ => eqA.refl _ _, fun i c hc => by simp at hc⟩
  have R0 : Rp B h00 ([] ++ .inl (9 + 1, fun _ => 0, fun _ => none) :: []) (nO h00 9) := rp_nO Rn 9
  unfold m_X8_init
  have z0 : sz (nO h00 9) = B + 1 := R0.1
  rw [z0]
  refine go_list R0 z0 (fun h1 R1 => ?_)
  have R1' : Rp B h00 ([] ++ .inl (9 + 1, _, _) :: ([] ++ [_])) h1 := R1
  refine go_pR R1' rfl (fun h2 R2 => ?_)
  have z2 : sz h2 = B + 2 := R2.1
  rw [z2]
  refine go_list R2 z2 (fun h3 R3 => ?_)
  have R3' : Rp B h00 ([] ++ .inl (9 + 1, _, _) :: (_ ++ [_])) h3 := R3
  refine go_pR R3' rfl (fun h4 R4 => ?_)
  have z4 : sz h4 = B + 3 := R4.1
  rw [z4]
  refine go_list R4 z4 (fun h5 R5 => ?_)
  have R5' : Rp B h00 ([] ++ .inl (9 + 1, _, _) :: (_ ++ [_])) h5 := R5
  refine go_pR R5' rfl (fun h6 R6 => ?_)
  have z6 : sz h6 = B + 4 := R6.1
  rw [z6]
  refine go_X5 R6 z6 (fun h7 R7 => ?_)
  have R7' : Rp B h00 ([] ++ .inl (9 + 1, _, _) :: (_ ++ _ :: _)) h7 := R7
  refine go_pR R7' rfl (fun h8 R8 => ?_)
  have z8 : sz h8 = B + 6 := R8.1
  rw [z8]
  refine go_X6 R8 z8 ?_
  rintro h9 ⟨F8, R9⟩
  have R9' : Rp B h00 ([] ++ .inl (9 + 1, _, _) :: (_ ++ _ :: _)) h9 := R9
  refine go_pR R9' rfl (fun h10 R10 => ?_)
  have z10 : sz h10 = B + 11 := R10.1
  rw [z10]
  refine go_X4 R10 z10 (fun h11 R11 => ?_)
  have R11' : Rp B h00 ([] ++ .inl (9 + 1, _, _) :: (_ ++ _ :: _)) h11 := R11
  refine go_pR R11' rfl (fun h12 R12 => ?_)
  have z12 : sz h12 = B + 14 := R12.1
  refine go_row 50 R12 rfl rfl rfl (by decide) z12 (fun h14 R14 => ?_)
  have z14 : sz h14 = B + 15 := R14.1
  rw [z14]
  simp only [m_X3_init, Option.bind_assoc, Option.bind_some]
  have R15 : Rp B h00 (_ ++ .inl (4 + 1, fun _ => 0, fun _ => none) :: []) (nO h14 4) := rp_nO R14 4
  have z15 : sz (nO h14 4) = B + 16 := R15.1
  refine go_row 0 R15 rfl rfl rfl (by decide) z15 (fun h16 R16 => ?_)
  refine go_pI R16 rfl (fun h17 R17 => ?_)
  have R17' : Rp B h00 ([] ++ .inl (9 + 1, _, _) :: (_ ++ _ :: _)) h17 := R17
  refine go_pR R17' rfl (fun h18 R18 => ?_)
  refine go_pI R18 rfl (fun h19 R19 => ?_)
  refine go_pI R19 rfl (fun h20 R20 => ?_)
  exact go_some ⟨F8, R20⟩
