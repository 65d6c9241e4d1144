/-! WHAT THE LAW NEEDS OF CLASS AND REFERENCE: one step each, over a relation P of their memories -/
def StI (P : HS → HS → Prop) (f g : HS → Option (Int32 × HS)) : Prop := ∀ hx hm, P hx hm → ∃ r hx' hm', f hx = some (r, hx') ∧ g (wz hm (sz hx')) = some (r, hm') ∧ sz hm' = sz hx' ∧ P hx' hm'
def StW (P : HS → HS → Prop) (am ao : Nat) (f g : HS → Option (Int32 × HS)) : Prop := ∀ hx hm, P hx hm → ∃ k hx', f hx = some (k, hx') ∧ ∀ n, sz hx' ≤ n → ∃ v hm', g (wz hm n) = some (v, hm') ∧ sz hm' = n ∧ m_X9_thrown am hm' = some (k, hm') ∧ (k = 0 → al hx' ao 0 = v.toInt64) ∧ P (wz hx' n) hm'
def Good (ax am ao : Nat) (P : HS → HS → Prop) : Prop :=
  (∀ hx hm, P hx hm → kd hx ax = 9 + 1 ∧ kd hm am = 10 + 1 ∧ kd hx ao = 204 ∧ inB 0 (ln hx ao) = true) ∧
  (∀ (a b c d e : Int32), StI P (m_X8_feature ax a b c d e) (m_X9_feature am a b c d e)) ∧
  (∀ (a b c : Int32), StI P (m_X8_paper ax a b c) (m_X9_paper am a b c)) ∧
  (∀ (a b : Int32), StI P (m_X8_circulation ax a b) (m_X9_circulation am a b)) ∧
  (∀ (a b c : Int32), StW P am ao (m_L_right (some ax) a b c (some ao)) (m_X9_right am a b c)) ∧
  (∀ (a b : Int32), StI P (m_X8_sign ax a b) (m_X9_sign am a b)) ∧
  (∀ (a : Int32), StI P (m_X8_cancel ax a) (m_X9_cancel am a)) ∧
  (∀ (a b : Int32), StI P (m_X8_ill ax a b) (m_X9_ill am a b)) ∧
  (∀ (a b : Int32), (b = 0 ∨ b = 1) → StI P (m_X8_stop ax a b) (m_X9_stop am a b)) ∧
  (∀ (a : Int32), StI P (m_X8_miss ax a) (m_X9_miss am a)) ∧
  (∀ (a : Int32), StI P (m_X8_send ax a) (m_X9_send am a)) ∧
  (∀ (a : Int32), StI P (m_X8_weeks ax a) (m_X9_weeks am a)) ∧
  (∀ (a b c : Int64), StI P (m_X8_feed ax a b c) (m_X9_feed am a b c)) ∧
  (StI P (m_X8_text ax) (m_X9_text am)) ∧
  (∀ (a b : Int32), StW P am ao (m_L_look (some ax) a b (some ao)) (m_X9_look am a b)) ∧
  (∀ (a : Int32), StI P (m_X8_panel ax a) (m_X9_panel am a)) ∧
  (∀ (a : Int32), StW P am ao (m_L_income (some ax) a (some ao)) (m_X9_income am a)) ∧
  (∀ (a b : Int32), StI P (m_X8_share ax a b) (m_X9_share am a b)) ∧
  (∀ (a b : Int32), StI P (m_X8_sells ax a b) (m_X9_sells am a b)) ∧
  (∀ (a : Int32), StI P (m_X8_count ax a) (m_X9_count am a))
theorem nI_addN (a b : Nat) : nI a + nI b = nI (a + b) := (Int32.ofNat_add a b).symm
theorem inR_of {E : EL} {j : Nat} (hj : 7 * j + 7 ≤ LE' E) (hL : LE' E ≤ 3584) : InR E (nI (7 * j)) := by
  have key : ∀ d, d < 7 → vp_in (nI (7 * j + d)) (LE' E) := fun d hd => by
    refine inB_in ?_
    have h1 : 7 * j + d < 2 ^ 31 := by omega
    simp only [inB, Bool.and_eq_true, decide_eq_true_eq]
    exact ⟨nI_pos' h1, by rw [nI_clamp h1]; omega⟩
  have e : ∀ d, nI (7 * j) + nI d = nI (7 * j + d) := fun d => nI_addN _ _
  refine ⟨key 0 (by omega), ?_, ?_, ?_, ?_, ?_, ?_⟩
  · exact (e 1).symm ▸ key 1 (by omega)
  · exact (e 2).symm ▸ key 2 (by omega)
  · exact (e 3).symm ▸ key 3 (by omega)
  · exact (e 4).symm ▸ key 4 (by omega)
  · exact (e 5).symm ▸ key 5 (by omega)
  · exact (e 6).symm ▸ key 6 (by omega)
theorem head_go {j L : Nat} (hL : L ≤ 3584) (hj : 7 * j ≤ 4000) (h : ¬ nI L - 7 < nI (7 * j)) : 7 * j + 7 ≤ L := by
  have h1 : (nI L).toInt = (L : Int) := nI_toInt (by omega)
  have h2 : (nI (7 * j)).toInt = ((7 * j : Nat) : Int) := nI_toInt (by omega)
  rw [Int32.lt_iff_toInt_lt, Int32.toInt_sub, h1, h2] at h
  have h3 : (7 : Int32).toInt = 7 := rfl
  rw [h3] at h
  have h4 : ((L : Int) - 7).bmod (2 ^ 32) = (L : Int) - 7 := by
    apply Int.bmod_eq_of_le <;> omega
  rw [h4] at h
  omega
theorem sw_out {x : Int32} (h : ∀ v : Nat, v < 19 → x ≠ nI v) : x.toInt < 0 ∨ 18 < x.toInt := by
  by_cases hc : x.toInt < 0 ∨ 18 < x.toInt
  · exact hc
  · exfalso
    have h1 : 0 ≤ x.toInt ∧ x.toInt ≤ 18 := by omega
    refine h x.toInt.toNat (by omega) ?_
    rw [← Int32.toInt_inj, nI_toInt (by omega)]
    omega
set_option maxHeartbeats 4000000 in
theorem lw_loop {E : EL} {ax am ao : Nat} {P : HS → HS → Prop} (hG : Good ax am ao P) (hl0 : (lEL E).stackTraces = false) (hL : LE' E ≤ 3584) : ∀ (n j : Nat) (hx hm : HS), P hx hm → LE' E ≤ 7 * (j + n) → j ≤ 512 → SimL E (60 + 16 * j) (56060 + 4000 * j) 23 (LO (bE E) ax am ao (nI (7 * j))) [] hx hm := by
  intro n
  induction n with
  | zero =>
    intro j hx hm hP hn hj
    refine sl_iload 4 dL_law_23 rfl ?_
    refine sl_aload_n 0 dL_law_25 rfl rfl ?_
    refine sl_slen dL_law_26 ?_
    refine sl_bipush (v := 7) dL_law_27 (by decide) ?_
    refine sl_isub dL_law_29 ?_
    refine sl_icmp_gt 1012 dL_law_30 (by decide) (fun _ => ?_) (fun hc => ?_)
    · refine sl_iconst (v := 1) dL_law_1012 (by decide) ?_
      exact sl_end (st := []) dL_law_1013 (by omega) (by omega)
    · have := head_go hL (by omega) hc
      omega
  | succ n ih =>
  intro j hx hm hP hn hj
  refine sl_iload 4 dL_law_23 rfl ?_
  refine sl_aload_n 0 dL_law_25 rfl rfl ?_
  refine sl_slen dL_law_26 ?_
  refine sl_bipush (v := 7) dL_law_27 (by decide) ?_
  refine sl_isub dL_law_29 ?_
  refine sl_icmp_gt 1012 dL_law_30 (by decide) (fun _ => ?_) (fun hc => ?_)
  · refine sl_iconst (v := 1) dL_law_1012 (by decide) ?_
    exact sl_end (st := []) dL_law_1013 (by omega) (by omega)
  have hj7 := head_go hL (by omega) hc
  have hR : InR E (nI (7 * j)) := inR_of hj7 hL
  have next : ∀ hx' hm', P hx' hm' → SimL E (60 + 16 * j + 16) (56060 + 4000 * j + 4000) 1006 (LO (bE E) ax am ao (nI (7 * j))) [] hx' hm' := by
    intro hx' hm' hP'
    refine sl_iinc 4 7 dL_law_1006 rfl (by decide) (by decide) ?_
    refine sl_goto 23 dL_law_1009 (by decide) ?_
    have e1 : nI (7 * j) + 7 = nI (7 * (j + 1)) := nI_addN (7 * j) 7
    have e2 : 60 + 16 * j + 16 = 60 + 16 * (j + 1) := by omega
    have e3 : 56060 + 4000 * j + 4000 = 56060 + 4000 * (j + 1) := by omega
    rw [e1, e2, e3]
    exact sl_lo (LO (bE E) ax am ao (nI (7 * (j + 1)))) ⟨rfl, rfl, rfl, rfl, rfl, trivial⟩ (ih (j + 1) hx' hm' hP' (by omega) (by omega))
  obtain ⟨f01, f02, f03, f04⟩ := hG.1 _ _ hP
  refine sl_aload_n 0 dL_law_33 rfl rfl ?_
  refine sl_iload 4 dL_law_34 rfl ?_
  refine sl_sld dL_law_36 hR.1 ?_
  refine sl_bipush (v := 31) dL_law_37 (by decide) ?_
  refine sl_iand dL_law_39 ?_
  by_cases c0 : xE E (nI (7 * j)).toNatClampNeg &&& 31 = 0
  · refine sl_tsIn (off := 92) 0 132 c0 dL_law_40 (by decide) (by decide) (by decide) (by decide) ?_
    obtain ⟨r, hx', hm', q1, q2, q3, q4⟩ := (hG.2.1 (sc E (nI (7 * j)) 1) (sc E (nI (7 * j)) 2) (sc E (nI (7 * j)) 3) (sc E (nI (7 * j)) 4) (sc E (nI (7 * j)) 5)) hx hm hP
    exact lc_feature hR (by omega) (by omega) f01 f02 q1 q2 q3 (next _ _ q4)
  by_cases c1 : xE E (nI (7 * j)).toNatClampNeg &&& 31 = 1
  · refine sl_tsIn (off := 165) 1 205 c1 dL_law_40 (by decide) (by decide) (by decide) (by decide) ?_
    obtain ⟨r, hx', hm', q1, q2, q3, q4⟩ := (hG.2.2.1 (sc E (nI (7 * j)) 1) (sc E (nI (7 * j)) 2) (sc E (nI (7 * j)) 3)) hx hm hP
    exact lc_paper hR (by omega) (by omega) f01 f02 q1 q2 q3 (next _ _ q4)
  by_cases c2 : xE E (nI (7 * j)).toNatClampNeg &&& 31 = 2
  · refine sl_tsIn (off := 214) 2 254 c2 dL_law_40 (by decide) (by decide) (by decide) (by decide) ?_
    obtain ⟨r, hx', hm', q1, q2, q3, q4⟩ := (hG.2.2.2.1 (sc E (nI (7 * j)) 1) (sc E (nI (7 * j)) 2)) hx hm hP
    exact lc_circulation hR (by omega) (by omega) f01 f02 q1 q2 q3 (next _ _ q4)
  by_cases c3 : xE E (nI (7 * j)).toNatClampNeg &&& 31 = 3
  · refine sl_tsIn (off := 251) 3 291 c3 dL_law_40 (by decide) (by decide) (by decide) (by decide) ?_
    obtain ⟨k0, hx', q1, q2⟩ := (hG.2.2.2.2.1 (sc E (nI (7 * j)) 1) (sc E (nI (7 * j)) 2) (sc E (nI (7 * j)) 3)) hx hm hP
    refine lc_right hR (by omega) (by omega) hl0 q1 (fun k hk => ?_)
    obtain ⟨v, hm', q3, q4, q5, q6, q7⟩ := q2 k hk
    obtain ⟨f1, f2, f3, f4⟩ := hG.1 _ _ q7
    exact ⟨v, hm', q3, q4, q5, q6, f3, f4, f02, f2, next _ _ q7⟩
  by_cases c4 : xE E (nI (7 * j)).toNatClampNeg &&& 31 = 4
  · refine sl_tsIn (off := 331) 4 371 c4 dL_law_40 (by decide) (by decide) (by decide) (by decide) ?_
    obtain ⟨r, hx', hm', q1, q2, q3, q4⟩ := (hG.2.2.2.2.2.1 (sc E (nI (7 * j)) 1) (sc E (nI (7 * j)) 2)) hx hm hP
    exact lc_sign hR (by omega) (by omega) f01 f02 q1 q2 q3 (next _ _ q4)
  by_cases c5 : xE E (nI (7 * j)).toNatClampNeg &&& 31 = 5
  · refine sl_tsIn (off := 368) 5 408 c5 dL_law_40 (by decide) (by decide) (by decide) (by decide) ?_
    obtain ⟨r, hx', hm', q1, q2, q3, q4⟩ := (hG.2.2.2.2.2.2.1 (sc E (nI (7 * j)) 1)) hx hm hP
    exact lc_cancel hR (by omega) (by omega) f01 f02 q1 q2 q3 (next _ _ q4)
  by_cases c6 : xE E (nI (7 * j)).toNatClampNeg &&& 31 = 6
  · refine sl_tsIn (off := 393) 6 433 c6 dL_law_40 (by decide) (by decide) (by decide) (by decide) ?_
    obtain ⟨r, hx', hm', q1, q2, q3, q4⟩ := (hG.2.2.2.2.2.2.2.1 (sc E (nI (7 * j)) 1) (sc E (nI (7 * j)) 2)) hx hm hP
    exact lc_ill hR (by omega) (by omega) f01 f02 q1 q2 q3 (next _ _ q4)
  by_cases c7 : xE E (nI (7 * j)).toNatClampNeg &&& 31 = 7
  · refine sl_tsIn (off := 430) 7 470 c7 dL_law_40 (by decide) (by decide) (by decide) (by decide) ?_
    obtain ⟨r, hx', hm', q1, q2, q3, q4⟩ := (hG.2.2.2.2.2.2.2.2.1 (sc E (nI (7 * j)) 1) (bz (sc E (nI (7 * j)) 2)) (by unfold bz; split <;> simp)) hx hm hP
    exact lc_stop hR (by omega) (by omega) f01 f02 q1 q2 q3 (next _ _ q4)
  by_cases c8 : xE E (nI (7 * j)).toNatClampNeg &&& 31 = 8
  · refine sl_tsIn (off := 483) 8 523 c8 dL_law_40 (by decide) (by decide) (by decide) (by decide) ?_
    obtain ⟨r, hx', hm', q1, q2, q3, q4⟩ := (hG.2.2.2.2.2.2.2.2.2.1 (sc E (nI (7 * j)) 1)) hx hm hP
    exact lc_miss hR (by omega) (by omega) f01 f02 q1 q2 q3 (next _ _ q4)
  by_cases c9 : xE E (nI (7 * j)).toNatClampNeg &&& 31 = 9
  · refine sl_tsIn (off := 508) 9 548 c9 dL_law_40 (by decide) (by decide) (by decide) (by decide) ?_
    obtain ⟨r, hx', hm', q1, q2, q3, q4⟩ := (hG.2.2.2.2.2.2.2.2.2.2.1 (sc E (nI (7 * j)) 1)) hx hm hP
    exact lc_send hR (by omega) (by omega) f01 f02 q1 q2 q3 (next _ _ q4)
  by_cases c10 : xE E (nI (7 * j)).toNatClampNeg &&& 31 = 10
  · refine sl_tsIn (off := 533) 10 573 c10 dL_law_40 (by decide) (by decide) (by decide) (by decide) ?_
    obtain ⟨r, hx', hm', q1, q2, q3, q4⟩ := (hG.2.2.2.2.2.2.2.2.2.2.2.1 (sc E (nI (7 * j)) 1)) hx hm hP
    exact lc_weeks hR (by omega) (by omega) f01 f02 q1 q2 q3 (next _ _ q4)
  by_cases c11 : xE E (nI (7 * j)).toNatClampNeg &&& 31 = 11
  · refine sl_tsIn (off := 558) 11 598 c11 dL_law_40 (by decide) (by decide) (by decide) (by decide) ?_
    obtain ⟨r, hx', hm', q1, q2, q3, q4⟩ := (hG.2.2.2.2.2.2.2.2.2.2.2.2.1 ((lshl (sc E (nI (7 * j)) 1).toInt64 32) ||| ((sc E (nI (7 * j)) 2).toInt64 &&& 4294967295)) ((lshl (sc E (nI (7 * j)) 3).toInt64 32) ||| ((sc E (nI (7 * j)) 4).toInt64 &&& 4294967295)) ((lshl (sc E (nI (7 * j)) 5).toInt64 32) ||| ((sc E (nI (7 * j)) 6).toInt64 &&& 4294967295))) hx hm hP
    exact lc_feed hR (by omega) (by omega) f01 f02 q1 q2 q3 (next _ _ q4)
  by_cases c12 : xE E (nI (7 * j)).toNatClampNeg &&& 31 = 12
  · refine sl_tsIn (off := 705) 12 745 c12 dL_law_40 (by decide) (by decide) (by decide) (by decide) ?_
    obtain ⟨r, hx', hm', q1, q2, q3, q4⟩ := hG.2.2.2.2.2.2.2.2.2.2.2.2.2.1 hx hm hP
    exact lc_text hR (by omega) (by omega) f01 f02 q1 q2 q3 (next _ _ q4)
  by_cases c13 : xE E (nI (7 * j)).toNatClampNeg &&& 31 = 13
  · refine sl_tsIn (off := 718) 13 758 c13 dL_law_40 (by decide) (by decide) (by decide) (by decide) ?_
    obtain ⟨k0, hx', q1, q2⟩ := (hG.2.2.2.2.2.2.2.2.2.2.2.2.2.2.1 (sc E (nI (7 * j)) 1) (sc E (nI (7 * j)) 2)) hx hm hP
    refine lc_look hR (by omega) (by omega) hl0 q1 (fun k hk => ?_)
    obtain ⟨v, hm', q3, q4, q5, q6, q7⟩ := q2 k hk
    obtain ⟨f1, f2, f3, f4⟩ := hG.1 _ _ q7
    exact ⟨v, hm', q3, q4, q5, q6, f3, f4, f02, f2, next _ _ q7⟩
  by_cases c14 : xE E (nI (7 * j)).toNatClampNeg &&& 31 = 14
  · refine sl_tsIn (off := 786) 14 826 c14 dL_law_40 (by decide) (by decide) (by decide) (by decide) ?_
    obtain ⟨r, hx', hm', q1, q2, q3, q4⟩ := (hG.2.2.2.2.2.2.2.2.2.2.2.2.2.2.2.1 (sc E (nI (7 * j)) 1)) hx hm hP
    exact lc_panel hR (by omega) (by omega) f01 f02 q1 q2 q3 (next _ _ q4)
  by_cases c15 : xE E (nI (7 * j)).toNatClampNeg &&& 31 = 15
  · refine sl_tsIn (off := 811) 15 851 c15 dL_law_40 (by decide) (by decide) (by decide) (by decide) ?_
    obtain ⟨k0, hx', q1, q2⟩ := (hG.2.2.2.2.2.2.2.2.2.2.2.2.2.2.2.2.1 (sc E (nI (7 * j)) 1)) hx hm hP
    refine lc_income hR (by omega) (by omega) hl0 q1 (fun k hk => ?_)
    obtain ⟨v, hm', q3, q4, q5, q6, q7⟩ := q2 k hk
    obtain ⟨f1, f2, f3, f4⟩ := hG.1 _ _ q7
    exact ⟨v, hm', q3, q4, q5, q6, f3, f4, f02, f2, next _ _ q7⟩
  by_cases c16 : xE E (nI (7 * j)).toNatClampNeg &&& 31 = 16
  · refine sl_tsIn (off := 867) 16 907 c16 dL_law_40 (by decide) (by decide) (by decide) (by decide) ?_
    obtain ⟨r, hx', hm', q1, q2, q3, q4⟩ := (hG.2.2.2.2.2.2.2.2.2.2.2.2.2.2.2.2.2.1 (sc E (nI (7 * j)) 1) (sc E (nI (7 * j)) 2)) hx hm hP
    exact lc_share hR (by omega) (by omega) f01 f02 q1 q2 q3 (next _ _ q4)
  by_cases c17 : xE E (nI (7 * j)).toNatClampNeg &&& 31 = 17
  · refine sl_tsIn (off := 904) 17 944 c17 dL_law_40 (by decide) (by decide) (by decide) (by decide) ?_
    obtain ⟨r, hx', hm', q1, q2, q3, q4⟩ := (hG.2.2.2.2.2.2.2.2.2.2.2.2.2.2.2.2.2.2.1 (sc E (nI (7 * j)) 1) (sc E (nI (7 * j)) 2)) hx hm hP
    exact lc_sells hR (by omega) (by omega) f01 f02 q1 q2 q3 (next _ _ q4)
  by_cases c18 : xE E (nI (7 * j)).toNatClampNeg &&& 31 = 18
  · refine sl_tsIn (off := 941) 18 981 c18 dL_law_40 (by decide) (by decide) (by decide) (by decide) ?_
    obtain ⟨r, hx', hm', q1, q2, q3, q4⟩ := (hG.2.2.2.2.2.2.2.2.2.2.2.2.2.2.2.2.2.2.2 (sc E (nI (7 * j)) 1)) hx hm hP
    exact lc_count hR (by omega) (by omega) f01 f02 q1 q2 q3 (next _ _ q4)
  refine sl_tsOut 1006 dL_law_40 (sw_out (fun v hv => ?_)) (by decide) (sl_widen _ _ (by omega) (by omega) (next hx hm hP))
  match v, hv with
  | 0, _ => exact c0
  | 1, _ => exact c1
  | 2, _ => exact c2
  | 3, _ => exact c3
  | 4, _ => exact c4
  | 5, _ => exact c5
  | 6, _ => exact c6
  | 7, _ => exact c7
  | 8, _ => exact c8
  | 9, _ => exact c9
  | 10, _ => exact c10
  | 11, _ => exact c11
  | 12, _ => exact c12
  | 13, _ => exact c13
  | 14, _ => exact c14
  | 15, _ => exact c15
  | 16, _ => exact c16
  | 17, _ => exact c17
  | 18, _ => exact c18
  | v + 19, hv => omega
set_option maxHeartbeats 1000000 in
theorem lw_go {E : EL} {h00 hx2 hm4 : HS} {P : HS → HS → Prop} (hl0 : (lEL E).stackTraces = false) (hL : LE' E ≤ 3584) (q1 : m_X8_init (sz h00) (nO h00 9) = some hx2) (q2 : m_X9_init (sz hx2) (nO (wz h00 (sz hx2)) 10) = some hm4) (hG : Good (sz h00) (sz hx2) (sz hm4) P) (hP : P (nA (wz hx2 (sz hm4)) 204 1) (wz hm4 (sz hm4 + 1))) : SimL E 0 0 0 [(0, lvR (some (bE E)))] [] h00 h00 := by
  refine sl_new 9 10 ln_8 dL_law_0 (by decide) (by decide) (by decide) ?_
  refine sl_dup dL_law_3 ?_
  refine sl_ci (n := 0) (rest := [.ref (sz h00)]) dL_law_4 mc_X8_init rfl lk_23 im_X8_init rfl ⟨(Nat.le_of_ble_eq_true rfl), (Nat.le_of_ble_eq_true rfl), (Nat.le_of_ble_eq_true rfl), (Nat.le_of_ble_eq_true rfl)⟩ (Nat.le_of_ble_eq_true rfl) (ct_X8_init _ _ q1) rfl ?_
  refine sl_astore_n 1 dL_law_7 rfl (by decide) ?_
  refine SimL.swap ?_
  refine sl_new 10 54 ln_24 dL_law_8 (by decide) (by decide) (by decide) ?_
  refine sl_dup dL_law_11 ?_
  refine sl_ci (n := 0) (rest := [.ref (sz hx2)]) dL_law_12 mc_X9_init rfl lk_26 im_X9_init rfl ⟨(Nat.le_of_ble_eq_true rfl), (Nat.le_of_ble_eq_true rfl), (Nat.le_of_ble_eq_true rfl), (Nat.le_of_ble_eq_true rfl)⟩ (Nat.le_of_ble_eq_true rfl) (ct_X9_init _ _ q2) rfl ?_
  refine sl_astore_n 2 dL_law_15 rfl (by decide) ?_
  refine SimL.swap ?_
  refine sl_iconst (v := 1) dL_law_16 (by decide) ?_
  refine sl_newl dL_law_17 (by decide) (by decide) aw_l ?_
  refine sl_astore_n 3 dL_law_19 rfl (by decide) ?_
  refine sl_iconst (v := 0) dL_law_20 (by decide) ?_
  refine sl_istore 4 dL_law_21 (by decide) ?_
  refine sl_lo (LO (bE E) (sz h00) (sz hx2) (sz hm4) (nI (7 * 0))) ⟨rfl, rfl, rfl, rfl, rfl, trivial⟩ ?_
  exact lw_loop hG hl0 hL 512 0 _ _ hP (by omega) (by omega)
