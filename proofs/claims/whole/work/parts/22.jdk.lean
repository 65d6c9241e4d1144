set_option maxHeartbeats 4000000 in
set_option maxRecDepth 100000 in
theorem J7_fill_53178_L5_s {E : EV} (n : Nat) : ∀ (l0 : Option Nat) (l1 : Int32) (l2 : Int32) (l3 : Int32) (h : HS), Sim E mi_J7_fill_53178 (fin oV) 0 0 5 [(0, lvR (l0)), (1, lvI (l1)), (2, lvI (l2)), (3, lvI (l3))] [] h (J7_fill_53178_L5 n l0 l1 l2 l3 h) := by
  induction n with
  | zero => intro l0 l1 l2 l3 h; exact si_none
  | succ n ih =>
    intro l0 l1 l2 l3 h
    unfold J7_fill_53178_L5
    refine si_iload_n 2 dJ7_fill_53178_5 rfl rfl ?_
    refine si_iload_n 3 dJ7_fill_53178_6 rfl rfl ?_
    refine si_icmp_ge 20 dJ7_fill_53178_7 (by decide) ?_ ?_
    · exact si_vret dJ7_fill_53178_20 rfl (Nat.le_of_ble_eq_true rfl) (Nat.le_of_ble_eq_true rfl)
    · refine si_aload_n 0 dJ7_fill_53178_10 rfl rfl ?_
      refine si_iload_n 2 dJ7_fill_53178_11 rfl rfl ?_
      refine si_iload_n 1 dJ7_fill_53178_12 rfl rfl ?_
      refine si_is dJ7_fill_53178_13 (fun h1 => ?_)
      refine si_iinc 2 (1) dJ7_fill_53178_14 rfl (by decide) (by decide) ?_
      refine si_goto 5 dJ7_fill_53178_17 (by decide) ?_
      refine si_widen 0 0 (Nat.le_of_ble_eq_true rfl) (Nat.le_of_ble_eq_true rfl) ?_
      refine si_lo [(0, lvR (l0)), (1, lvI (l1)), (2, lvI (l2 + (1))), (3, lvI (l3))] ⟨rfl, rfl, rfl, rfl, trivial⟩ ?_
      exact ih l0 l1 (l2 + (1)) l3 _
set_option maxHeartbeats 4000000 in
set_option maxRecDepth 100000 in
theorem s_J7_fill_53178 {E : EV} (a1 : Option Nat) (a2 : Int32) (h : HS) : Sim E mi_J7_fill_53178 (fin oV) 0 0 0 (largs 0 [lvR a1, lvI a2]) [] h (m_J7_fill_53178 a1 a2 h) := by
  unfold m_J7_fill_53178
  refine si_iconst (v := 0) dJ7_fill_53178_0 (by decide) ?_
  refine si_istore_n 2 dJ7_fill_53178_1 rfl (by decide) ?_
  refine si_aload_n 0 dJ7_fill_53178_2 rfl rfl ?_
  refine si_aN dJ7_fill_53178_3 (fun x1 => ?_)
  refine si_istore_n 3 dJ7_fill_53178_4 rfl (by decide) ?_
  refine si_widen 0 0 (Nat.le_of_ble_eq_true rfl) (Nat.le_of_ble_eq_true rfl) ?_
  refine si_lo [(0, lvR (a1)), (1, lvI (a2)), (2, lvI ((0 : Int32))), (3, lvI (x1))] ⟨rfl, rfl, rfl, rfl, trivial⟩ ?_
  exact J7_fill_53178_L5_s FU a1 a2 ((0 : Int32)) x1 _
theorem ct_J7_fill_53178 (l : Launch) (G : GG) {a1 : Option Nat} {a2 : Int32} {h : HS} {q : HS} (hq : m_J7_fill_53178 a1 a2 h = some q) : Ct l yJ7_fill_53178 mi_J7_fill_53178 G [lvR a1, lvI a2] h (oV q) := Ct.of (out := oV) (by decide +kernel) rfl rfl (Nat.le_of_ble_eq_true rfl) hq (fun _ _ _ _ _ _ _ _ => s_J7_fill_53178 a1 a2 h)
set_option maxHeartbeats 4000000 in
set_option maxRecDepth 100000 in
theorem s_J0_coder_7d493 {E : EV} (th : Nat) (h : HS) : Sim E mi_J0_coder_7d493 (fin oI) 0 0 0 (largs 0 [lvR (some th)]) [] h (m_J0_coder_7d493 th h) := by
  unfold m_J0_coder_7d493
  refine si_gsC gs_J0_38 dJ0_coder_7d493_0 ?_
  refine si_if_eq 13 dJ0_coder_7d493_3 (by decide) ?_ ?_
  · refine si_iconst (v := 1) dJ0_coder_7d493_13 (by decide) ?_
    exact si_byret dJ0_coder_7d493_14 rfl (Nat.le_of_ble_eq_true rfl) (Nat.le_of_ble_eq_true rfl)
  · refine si_aload_n 0 dJ0_coder_7d493_6 rfl rfl ?_
    refine si_gSC gf_J0_15 dJ0_coder_7d493_7 (fun x1 => ?_)
    refine si_goto 14 dJ0_coder_7d493_10 (by decide) ?_
    exact si_byret dJ0_coder_7d493_14 rfl (Nat.le_of_ble_eq_true rfl) (Nat.le_of_ble_eq_true rfl)
theorem ct_J0_coder_7d493 (l : Launch) (G : GG) {th : Nat} {h : HS} {q : Int32 × HS} (hq : m_J0_coder_7d493 th h = some q) : Ct l yJ0_coder_7d493 mi_J0_coder_7d493 G [lvR (some th)] h (oI q) := Ct.of (out := oI) (by decide +kernel) rfl rfl (Nat.le_of_ble_eq_true rfl) hq (fun _ _ _ _ _ _ _ _ => s_J0_coder_7d493 th h)
set_option maxHeartbeats 4000000 in
set_option maxRecDepth 100000 in
theorem s_J0_length_8abf5 {E : EV} (th : Nat) (h : HS) : Sim E mi_J0_length_8abf5 (fin oI) 0 0 0 (largs 0 [lvR (some th)]) [] h (m_J0_length_8abf5 th h) := by
  unfold m_J0_length_8abf5
  refine si_aload_n 0 dJ0_length_8abf5_0 rfl rfl ?_
  refine si_gSV gf_J0_9 dJ0_length_8abf5_1 (fun x1 => ?_)
  refine si_aN dJ0_length_8abf5_4 (fun x2 => ?_)
  refine si_aload_n 0 dJ0_length_8abf5_5 rfl rfl ?_
  refine si_cvS [] dJ0_length_8abf5_6 rfl mc_J0_coder_7d493 mw_J0_335 im_J0_coder_7d493 se_J0_coder_7d493 rfl ⟨Nat.le_of_ble_eq_true rfl, Nat.le_of_ble_eq_true rfl, Nat.le_of_ble_eq_true rfl, Nat.le_of_ble_eq_true rfl⟩ (Nat.le_of_ble_eq_true rfl) (fun _ _ hq => ct_J0_coder_7d493 _ _ hq) (fun q3 => ?_)
  refine si_ishr dJ0_length_8abf5_9 ?_
  exact si_iret dJ0_length_8abf5_10 rfl (Nat.le_of_ble_eq_true rfl) (Nat.le_of_ble_eq_true rfl)
theorem ct_J0_length_8abf5 (l : Launch) (G : GG) {th : Nat} {h : HS} {q : Int32 × HS} (hq : m_J0_length_8abf5 th h = some q) : Ct l yJ0_length_8abf5 mi_J0_length_8abf5 G [lvR (some th)] h (oI q) := Ct.of (out := oI) (by decide +kernel) rfl rfl (Nat.le_of_ble_eq_true rfl) hq (fun _ _ _ _ _ _ _ _ => s_J0_length_8abf5 th h)
set_option maxHeartbeats 4000000 in
set_option maxRecDepth 100000 in
theorem s_J0_isLatin1_aae02 {E : EV} (th : Nat) (h : HS) : Sim E mi_J0_isLatin1_aae02 (fin oI) 0 0 0 (largs 0 [lvR (some th)]) [] h (m_J0_isLatin1_aae02 th h) := by
  unfold m_J0_isLatin1_aae02
  refine si_gsC gs_J0_38 dJ0_isLatin1_aae02_0 ?_
  refine si_if_eq 17 dJ0_isLatin1_aae02_3 (by decide) ?_ ?_
  · refine si_iconst (v := 0) dJ0_isLatin1_aae02_17 (by decide) ?_
    exact si_zret dJ0_isLatin1_aae02_18 rfl rfl (Nat.le_of_ble_eq_true rfl) (Nat.le_of_ble_eq_true rfl)
  · refine si_aload_n 0 dJ0_isLatin1_aae02_6 rfl rfl ?_
    refine si_gSC gf_J0_15 dJ0_isLatin1_aae02_7 (fun x1 => ?_)
    refine si_if_ne 17 dJ0_isLatin1_aae02_10 (by decide) ?_ ?_
    · refine si_iconst (v := 1) dJ0_isLatin1_aae02_13 (by decide) ?_
      refine si_goto 18 dJ0_isLatin1_aae02_14 (by decide) ?_
      exact si_zret dJ0_isLatin1_aae02_18 rfl rfl (Nat.le_of_ble_eq_true rfl) (Nat.le_of_ble_eq_true rfl)
    · refine si_iconst (v := 0) dJ0_isLatin1_aae02_17 (by decide) ?_
      exact si_zret dJ0_isLatin1_aae02_18 rfl rfl (Nat.le_of_ble_eq_true rfl) (Nat.le_of_ble_eq_true rfl)
theorem ct_J0_isLatin1_aae02 (l : Launch) (G : GG) {th : Nat} {h : HS} {q : Int32 × HS} (hq : m_J0_isLatin1_aae02 th h = some q) : Ct l yJ0_isLatin1_aae02 mi_J0_isLatin1_aae02 G [lvR (some th)] h (oI q) := Ct.of (out := oI) (by decide +kernel) rfl rfl (Nat.le_of_ble_eq_true rfl) hq (fun _ _ _ _ _ _ _ _ => s_J0_isLatin1_aae02 th h)
set_option maxHeartbeats 4000000 in
set_option maxRecDepth 100000 in
theorem J3_checkIndex_8e157_b9_s {E : EV} (l0 : Int32) (l1 : Int32) (l2 : Option Nat) (h : HS) : Sim E mi_J3_checkIndex_8e157 (fin oI) 0 0 9 [(0, lvI (l0)), (1, lvI (l1)), (2, lvR (l2))] [] h (J3_checkIndex_8e157_b9 l0 l1 l2 h) := by
  unfold J3_checkIndex_8e157_b9
  refine si_aload_n 2 dJ3_checkIndex_8e157_9 rfl rfl ?_
  refine si_iload_n 0 dJ3_checkIndex_8e157_10 rfl rfl ?_
  refine si_iload_n 1 dJ3_checkIndex_8e157_11 rfl rfl ?_
  exact si_none
set_option maxHeartbeats 4000000 in
set_option maxRecDepth 100000 in
theorem s_J3_checkIndex_8e157 {E : EV} (a1 : Int32) (a2 : Int32) (a3 : Option Nat) (h : HS) : Sim E mi_J3_checkIndex_8e157 (fin oI) 0 0 0 (largs 0 [lvI a1, lvI a2, lvR a3]) [] h (m_J3_checkIndex_8e157 a1 a2 a3 h) := by
  unfold m_J3_checkIndex_8e157
  refine si_iload_n 0 dJ3_checkIndex_8e157_0 rfl rfl ?_
  refine si_if_lt 9 dJ3_checkIndex_8e157_1 (by decide) ?_ ?_
  · refine si_widen 0 0 (Nat.le_of_ble_eq_true rfl) (Nat.le_of_ble_eq_true rfl) ?_
    refine si_lo [(0, lvI (a1)), (1, lvI (a2)), (2, lvR (a3))] ⟨rfl, rfl, rfl, trivial⟩ ?_
    exact J3_checkIndex_8e157_b9_s a1 a2 a3 _
  · refine si_iload_n 0 dJ3_checkIndex_8e157_4 rfl rfl ?_
    refine si_iload_n 1 dJ3_checkIndex_8e157_5 rfl rfl ?_
    refine si_icmp_lt 16 dJ3_checkIndex_8e157_6 (by decide) ?_ ?_
    · refine si_iload_n 0 dJ3_checkIndex_8e157_16 rfl rfl ?_
      exact si_iret dJ3_checkIndex_8e157_17 rfl (Nat.le_of_ble_eq_true rfl) (Nat.le_of_ble_eq_true rfl)
    · refine si_widen 0 0 (Nat.le_of_ble_eq_true rfl) (Nat.le_of_ble_eq_true rfl) ?_
      refine si_lo [(0, lvI (a1)), (1, lvI (a2)), (2, lvR (a3))] ⟨rfl, rfl, rfl, trivial⟩ ?_
      exact J3_checkIndex_8e157_b9_s a1 a2 a3 _
theorem ct_J3_checkIndex_8e157 (l : Launch) (G : GG) {a1 : Int32} {a2 : Int32} {a3 : Option Nat} {h : HS} {q : Int32 × HS} (hq : m_J3_checkIndex_8e157 a1 a2 a3 h = some q) : Ct l yJ3_checkIndex_8e157 mi_J3_checkIndex_8e157 G [lvI a1, lvI a2, lvR a3] h (oI q) := Ct.of (out := oI) (by decide +kernel) rfl rfl (Nat.le_of_ble_eq_true rfl) hq (fun _ _ _ _ _ _ _ _ => s_J3_checkIndex_8e157 a1 a2 a3 h)
set_option maxHeartbeats 4000000 in
set_option maxRecDepth 100000 in
theorem s_J0_checkIndex_df160 {E : EV} (a1 : Int32) (a2 : Int32) (h : HS) : Sim E mi_J0_checkIndex_df160 (fin oV) 0 0 0 (largs 0 [lvI a1, lvI a2]) [] h (m_J0_checkIndex_df160 a1 a2 h) := by
  unfold m_J0_checkIndex_df160
  refine si_iload_n 0 dJ0_checkIndex_df160_0 rfl rfl ?_
  refine si_iload_n 1 dJ0_checkIndex_df160_1 rfl rfl ?_
  refine si_gsF gs_J0_1053 dJ0_checkIndex_df160_2 (fun rz => ?_)
  refine si_csI [lvI (a1), lvI (a2), lvR (rz)] dJ0_checkIndex_df160_5 rfl mc_J3_checkIndex_8e157 ml_J0_1059 st_J3_checkIndex_8e157 rfl ⟨Nat.le_of_ble_eq_true rfl, Nat.le_of_ble_eq_true rfl, Nat.le_of_ble_eq_true rfl, Nat.le_of_ble_eq_true rfl⟩ (Nat.le_of_ble_eq_true rfl) (fun _ hq => ct_J3_checkIndex_8e157 _ _ hq) (fun q1 => ?_)
  refine si_pop dJ0_checkIndex_df160_8 rfl ?_
  exact si_vret dJ0_checkIndex_df160_9 rfl (Nat.le_of_ble_eq_true rfl) (Nat.le_of_ble_eq_true rfl)
theorem ct_J0_checkIndex_df160 (l : Launch) (G : GG) {a1 : Int32} {a2 : Int32} {h : HS} {q : HS} (hq : m_J0_checkIndex_df160 a1 a2 h = some q) : Ct l yJ0_checkIndex_df160 mi_J0_checkIndex_df160 G [lvI a1, lvI a2] h (oV q) := Ct.of (out := oV) (by decide +kernel) rfl rfl (Nat.le_of_ble_eq_true rfl) hq (fun _ _ _ _ _ _ _ _ => s_J0_checkIndex_df160 a1 a2 h)
set_option maxHeartbeats 4000000 in
set_option maxRecDepth 100000 in
theorem s_J1_charAt_3b067 {E : EV} (a1 : Option Nat) (a2 : Int32) (h : HS) : Sim E mi_J1_charAt_3b067 (fin oI) 0 0 0 (largs 0 [lvR a1, lvI a2]) [] h (m_J1_charAt_3b067 a1 a2 h) := by
  unfold m_J1_charAt_3b067
  refine si_iload_n 1 dJ1_charAt_3b067_0 rfl rfl ?_
  refine si_aload_n 0 dJ1_charAt_3b067_1 rfl rfl ?_
  refine si_aN dJ1_charAt_3b067_2 (fun x1 => ?_)
  refine si_csV [lvI (a2), lvI (x1)] dJ1_charAt_3b067_3 rfl mc_J0_checkIndex_df160 ml_J1_9 st_J0_checkIndex_df160 rfl ⟨Nat.le_of_ble_eq_true rfl, Nat.le_of_ble_eq_true rfl, Nat.le_of_ble_eq_true rfl, Nat.le_of_ble_eq_true rfl⟩ (Nat.le_of_ble_eq_true rfl) (fun _ hq => ct_J0_checkIndex_df160 _ _ hq) (fun h2 => ?_)
  refine si_aload_n 0 dJ1_charAt_3b067_6 rfl rfl ?_
  refine si_iload_n 1 dJ1_charAt_3b067_7 rfl rfl ?_
  refine si_ba 303 (by decide) dJ1_charAt_3b067_8 (fun x3 => ?_)
  refine si_sipush (v := 255) dJ1_charAt_3b067_9 (by decide) ?_
  refine si_iand dJ1_charAt_3b067_12 ?_
  refine si_i2c dJ1_charAt_3b067_13 ?_
  exact si_cret dJ1_charAt_3b067_14 rfl (Nat.le_of_ble_eq_true rfl) (Nat.le_of_ble_eq_true rfl)
theorem ct_J1_charAt_3b067 (l : Launch) (G : GG) {a1 : Option Nat} {a2 : Int32} {h : HS} {q : Int32 × HS} (hq : m_J1_charAt_3b067 a1 a2 h = some q) : Ct l yJ1_charAt_3b067 mi_J1_charAt_3b067 G [lvR a1, lvI a2] h (oI q) := Ct.of (out := oI) (by decide +kernel) rfl rfl (Nat.le_of_ble_eq_true rfl) hq (fun _ _ _ _ _ _ _ _ => s_J1_charAt_3b067 a1 a2 h)
set_option maxHeartbeats 4000000 in
set_option maxRecDepth 100000 in
theorem s_J0_charAt_5068e {E : EV} (th : Nat) (a1 : Int32) (h : HS) : Sim E mi_J0_charAt_5068e (fin oI) 0 0 0 (largs 0 [lvR (some th), lvI a1]) [] h (m_J0_charAt_5068e th a1 h) := by
  unfold m_J0_charAt_5068e
  refine si_aload_n 0 dJ0_charAt_5068e_0 rfl rfl ?_
  refine si_cvS [] dJ0_charAt_5068e_1 rfl mc_J0_isLatin1_aae02 mw_J0_492 im_J0_isLatin1_aae02 se_J0_isLatin1_aae02 rfl ⟨Nat.le_of_ble_eq_true rfl, Nat.le_of_ble_eq_true rfl, Nat.le_of_ble_eq_true rfl, Nat.le_of_ble_eq_true rfl⟩ (Nat.le_of_ble_eq_true rfl) (fun _ _ hq => ct_J0_isLatin1_aae02 _ _ hq) (fun q1 => ?_)
  refine si_if_eq 16 dJ0_charAt_5068e_4 (by decide) ?_ ?_
  · refine si_aload_n 0 dJ0_charAt_5068e_16 rfl rfl ?_
    refine si_gSV gf_J0_9 dJ0_charAt_5068e_17 (fun x3 => ?_)
    refine si_iload_n 1 dJ0_charAt_5068e_20 rfl rfl ?_
    exact si_none
  · refine si_aload_n 0 dJ0_charAt_5068e_7 rfl rfl ?_
    refine si_gSV gf_J0_9 dJ0_charAt_5068e_8 (fun x4 => ?_)
    refine si_iload_n 1 dJ0_charAt_5068e_11 rfl rfl ?_
    refine si_csI [lvR (x4), lvI (a1)] dJ0_charAt_5068e_12 rfl mc_J1_charAt_3b067 ml_J0_495 st_J1_charAt_3b067 rfl ⟨Nat.le_of_ble_eq_true rfl, Nat.le_of_ble_eq_true rfl, Nat.le_of_ble_eq_true rfl, Nat.le_of_ble_eq_true rfl⟩ (Nat.le_of_ble_eq_true rfl) (fun _ hq => ct_J1_charAt_3b067 _ _ hq) (fun q5 => ?_)
    exact si_cret dJ0_charAt_5068e_15 rfl (Nat.le_of_ble_eq_true rfl) (Nat.le_of_ble_eq_true rfl)
theorem ct_J0_charAt_5068e (l : Launch) (G : GG) {th : Nat} {a1 : Int32} {h : HS} {q : Int32 × HS} (hq : m_J0_charAt_5068e th a1 h = some q) : Ct l yJ0_charAt_5068e mi_J0_charAt_5068e G [lvR (some th), lvI a1] h (oI q) := Ct.of (out := oI) (by decide +kernel) rfl rfl (Nat.le_of_ble_eq_true rfl) hq (fun _ _ _ _ _ _ _ _ => s_J0_charAt_5068e th a1 h)
set_option maxHeartbeats 4000000 in
set_option maxRecDepth 100000 in
theorem s_J7_copyOf_59c91 {E : EV} (a1 : Option Nat) (a2 : Int32) (h : HS) : Sim E mi_J7_copyOf_59c91 (fin oR) 0 0 0 (largs 0 [lvR a1, lvI a2]) [] h (m_J7_copyOf_59c91 a1 a2 h) := by
  unfold m_J7_copyOf_59c91
  refine si_iload_n 1 dJ7_copyOf_59c91_0 rfl rfl ?_
  refine si_aload_n 0 dJ7_copyOf_59c91_1 rfl rfl ?_
  refine si_aN dJ7_copyOf_59c91_2 (fun x1 => ?_)
  refine si_icmp_ne 14 dJ7_copyOf_59c91_3 (by decide) ?_ ?_
  · refine si_aload_n 0 dJ7_copyOf_59c91_6 rfl rfl ?_
    exact si_none
  · refine si_iload_n 1 dJ7_copyOf_59c91_14 rfl rfl ?_
    refine si_newa 600 201 dJ7_copyOf_59c91_15 rfl (by decide) ac_201 (by decide) (Nat.le_of_ble_eq_true rfl) (Nat.le_of_ble_eq_true rfl) (fun q2 => ?_)
    refine si_astore_n 2 dJ7_copyOf_59c91_17 rfl (by decide) ?_
    refine si_aload_n 0 dJ7_copyOf_59c91_18 rfl rfl ?_
    refine si_iconst (v := 0) dJ7_copyOf_59c91_19 (by decide) ?_
    refine si_aload_n 2 dJ7_copyOf_59c91_20 rfl rfl ?_
    refine si_iconst (v := 0) dJ7_copyOf_59c91_21 (by decide) ?_
    refine si_aload_n 0 dJ7_copyOf_59c91_22 rfl rfl ?_
    refine si_aN dJ7_copyOf_59c91_23 (fun x3 => ?_)
    refine si_iload_n 1 dJ7_copyOf_59c91_24 rfl rfl ?_
    refine si_mmin dJ7_copyOf_59c91_25 mm_J7_304 (Nat.le_of_ble_eq_true rfl) (Nat.le_of_ble_eq_true rfl) (Nat.le_of_ble_eq_true rfl) (Nat.le_of_ble_eq_true rfl) ?_
    refine si_cpI dJ7_copyOf_59c91_28 al_J7_150 (Nat.le_of_ble_eq_true rfl) (Nat.le_of_ble_eq_true rfl) (fun h4 => ?_)
    refine si_aload_n 2 dJ7_copyOf_59c91_31 rfl rfl ?_
    exact si_aret dJ7_copyOf_59c91_32 rfl (Or.inr ⟨_, rfl⟩) (Nat.le_of_ble_eq_true rfl) (Nat.le_of_ble_eq_true rfl)
theorem ct_J7_copyOf_59c91 (l : Launch) (G : GG) {a1 : Option Nat} {a2 : Int32} {h : HS} {q : Option Nat × HS} (hq : m_J7_copyOf_59c91 a1 a2 h = some q) : Ct l yJ7_copyOf_59c91 mi_J7_copyOf_59c91 G [lvR a1, lvI a2] h (oR q) := Ct.of (out := oR) (by decide +kernel) rfl rfl (Nat.le_of_ble_eq_true rfl) hq (fun _ _ _ _ _ _ _ _ => s_J7_copyOf_59c91 a1 a2 h)
set_option maxHeartbeats 4000000 in
set_option maxRecDepth 100000 in
theorem s_Jxa1e45_init_da8c8 {E : EV} (th : Nat) (h : HS) : Sim E mi_Jxa1e45_init_da8c8 (fin oV) 0 0 0 (largs 0 [lvR (some th)]) [] h (m_Jxa1e45_init_da8c8 th h) := by
  unfold m_Jxa1e45_init_da8c8
  refine si_aload_n 0 dJxa1e45_init_da8c8_0 rfl rfl ?_
  refine si_obj dJxa1e45_init_da8c8_1 ob_Jxa1e45_1 (Nat.le_of_ble_eq_true rfl) (Nat.le_of_ble_eq_true rfl) ?_
  exact si_vret dJxa1e45_init_da8c8_4 rfl (Nat.le_of_ble_eq_true rfl) (Nat.le_of_ble_eq_true rfl)
theorem ct_Jxa1e45_init_da8c8 (l : Launch) (G : GG) {th : Nat} {h : HS} {q : HS} (hq : m_Jxa1e45_init_da8c8 th h = some q) : Ct l yJxa1e45_init_da8c8 mi_Jxa1e45_init_da8c8 G [lvR (some th)] h (oV q) := Ct.of (out := oV) (by decide +kernel) rfl rfl (Nat.le_of_ble_eq_true rfl) hq (fun _ _ _ _ _ _ _ _ => s_Jxa1e45_init_da8c8 th h)
set_option maxHeartbeats 4000000 in
set_option maxRecDepth 100000 in
theorem s_Jxc12de_init_da8c8 {E : EV} (th : Nat) (h : HS) : Sim E mi_Jxc12de_init_da8c8 (fin oV) 0 0 0 (largs 0 [lvR (some th)]) [] h (m_Jxc12de_init_da8c8 th h) := by
  unfold m_Jxc12de_init_da8c8
  refine si_aload_n 0 dJxc12de_init_da8c8_0 rfl rfl ?_
  refine si_ciV [] dJxc12de_init_da8c8_1 rfl mc_Jxa1e45_init_da8c8 rfl ml_Jxc12de_1 im_Jxa1e45_init_da8c8 rfl rfl ⟨Nat.le_of_ble_eq_true rfl, Nat.le_of_ble_eq_true rfl, Nat.le_of_ble_eq_true rfl, Nat.le_of_ble_eq_true rfl⟩ (Nat.le_of_ble_eq_true rfl) (fun _ hq => ct_Jxa1e45_init_da8c8 _ _ hq) (fun h1 => ?_)
  refine si_aload_n 0 dJxc12de_init_da8c8_4 rfl rfl ?_
  refine si_iconst (v := 0) dJxc12de_init_da8c8_5 (by decide) ?_
  refine si_pI 0 0 fl_Jxc12de_7 dJxc12de_init_da8c8_6 (by decide) rfl rfl rfl (fw_Jxc12de_7 _) (fun h2 => ?_)
  exact si_vret dJxc12de_init_da8c8_9 rfl (Nat.le_of_ble_eq_true rfl) (Nat.le_of_ble_eq_true rfl)
theorem ct_Jxc12de_init_da8c8 (l : Launch) (G : GG) {th : Nat} {h : HS} {q : HS} (hq : m_Jxc12de_init_da8c8 th h = some q) : Ct l yJxc12de_init_da8c8 mi_Jxc12de_init_da8c8 G [lvR (some th)] h (oV q) := Ct.of (out := oV) (by decide +kernel) rfl rfl (Nat.le_of_ble_eq_true rfl) hq (fun _ _ _ _ _ _ _ _ => s_Jxc12de_init_da8c8 th h)
set_option maxHeartbeats 4000000 in
set_option maxRecDepth 100000 in
theorem s_Jx4a65c_init_da8c8 {E : EV} (th : Nat) (h : HS) : Sim E mi_Jx4a65c_init_da8c8 (fin oV) 0 0 0 (largs 0 [lvR (some th)]) [] h (m_Jx4a65c_init_da8c8 th h) := by
  unfold m_Jx4a65c_init_da8c8
  refine si_aload_n 0 dJx4a65c_init_da8c8_0 rfl rfl ?_
  refine si_ciV [] dJx4a65c_init_da8c8_1 rfl mc_Jxc12de_init_da8c8 rfl ml_Jx4a65c_1 im_Jxc12de_init_da8c8 rfl rfl ⟨Nat.le_of_ble_eq_true rfl, Nat.le_of_ble_eq_true rfl, Nat.le_of_ble_eq_true rfl, Nat.le_of_ble_eq_true rfl⟩ (Nat.le_of_ble_eq_true rfl) (fun _ hq => ct_Jxc12de_init_da8c8 _ _ hq) (fun h1 => ?_)
  refine si_aload_n 0 dJx4a65c_init_da8c8_4 rfl rfl ?_
  refine si_gsE gs_Jx4a65c_39 dJx4a65c_init_da8c8_5 ?_
  refine si_pR 0 1 fl_Jx4a65c_9 dJx4a65c_init_da8c8_8 (by decide) rfl (fw_Jx4a65c_9 _) (fun h2 => ?_)
  exact si_vret dJx4a65c_init_da8c8_11 rfl (Nat.le_of_ble_eq_true rfl) (Nat.le_of_ble_eq_true rfl)
theorem ct_Jx4a65c_init_da8c8 (l : Launch) (G : GG) {th : Nat} {h : HS} {q : HS} (hq : m_Jx4a65c_init_da8c8 th h = some q) : Ct l yJx4a65c_init_da8c8 mi_Jx4a65c_init_da8c8 G [lvR (some th)] h (oV q) := Ct.of (out := oV) (by decide +kernel) rfl rfl (Nat.le_of_ble_eq_true rfl) hq (fun _ _ _ _ _ _ _ _ => s_Jx4a65c_init_da8c8 th h)
set_option maxHeartbeats 4000000 in
set_option maxRecDepth 100000 in
theorem s_Jx4a65c_size_8abf5 {E : EV} (th : Nat) (h : HS) : Sim E mi_Jx4a65c_size_8abf5 (fin oI) 0 0 0 (largs 0 [lvR (some th)]) [] h (m_Jx4a65c_size_8abf5 th h) := by
  unfold m_Jx4a65c_size_8abf5
  refine si_aload_n 0 dJx4a65c_size_8abf5_0 rfl rfl ?_
  refine si_gI 0 2 fl_Jx4a65c_48 dJx4a65c_size_8abf5_1 (by decide) rfl (fun x1 => ?_)
  exact si_iret dJx4a65c_size_8abf5_4 rfl (Nat.le_of_ble_eq_true rfl) (Nat.le_of_ble_eq_true rfl)
theorem ct_Jx4a65c_size_8abf5 (l : Launch) (G : GG) {th : Nat} {h : HS} {q : Int32 × HS} (hq : m_Jx4a65c_size_8abf5 th h = some q) : Ct l yJx4a65c_size_8abf5 mi_Jx4a65c_size_8abf5 G [lvR (some th)] h (oI q) := Ct.of (out := oI) (by decide +kernel) rfl rfl (Nat.le_of_ble_eq_true rfl) hq (fun _ _ _ _ _ _ _ _ => s_Jx4a65c_size_8abf5 th h)
set_option maxHeartbeats 4000000 in
set_option maxRecDepth 100000 in
theorem s_J8_hugeLength_7cf53 {E : EV} (a1 : Int32) (a2 : Int32) (h : HS) : Sim E mi_J8_hugeLength_7cf53 (fin oI) 0 0 0 (largs 0 [lvI a1, lvI a2]) [] h (m_J8_hugeLength_7cf53 a1 a2 h) := by
  unfold m_J8_hugeLength_7cf53
  refine si_iload_n 0 dJ8_hugeLength_7cf53_0 rfl rfl ?_
  refine si_iload_n 1 dJ8_hugeLength_7cf53_1 rfl rfl ?_
  refine si_iadd dJ8_hugeLength_7cf53_2 ?_
  refine si_istore_n 2 dJ8_hugeLength_7cf53_3 rfl (by decide) ?_
  refine si_iload_n 2 dJ8_hugeLength_7cf53_4 rfl rfl ?_
  refine si_if_ge 49 dJ8_hugeLength_7cf53_5 (by decide) ?_ ?_
  · refine si_iload_n 2 dJ8_hugeLength_7cf53_49 rfl rfl ?_
    refine si_ldc dJ8_hugeLength_7cf53_50 kc_J8_200 ?_
    refine si_icmp_gt 58 dJ8_hugeLength_7cf53_52 (by decide) ?_ ?_
    · refine si_iload_n 2 dJ8_hugeLength_7cf53_58 rfl rfl ?_
      exact si_iret dJ8_hugeLength_7cf53_59 rfl (Nat.le_of_ble_eq_true rfl) (Nat.le_of_ble_eq_true rfl)
    · refine si_ldc dJ8_hugeLength_7cf53_55 kc_J8_200 ?_
      exact si_iret dJ8_hugeLength_7cf53_57 rfl (Nat.le_of_ble_eq_true rfl) (Nat.le_of_ble_eq_true rfl)
  · exact si_none
theorem ct_J8_hugeLength_7cf53 (l : Launch) (G : GG) {a1 : Int32} {a2 : Int32} {h : HS} {q : Int32 × HS} (hq : m_J8_hugeLength_7cf53 a1 a2 h = some q) : Ct l yJ8_hugeLength_7cf53 mi_J8_hugeLength_7cf53 G [lvI a1, lvI a2] h (oI q) := Ct.of (out := oI) (by decide +kernel) rfl rfl (Nat.le_of_ble_eq_true rfl) hq (fun _ _ _ _ _ _ _ _ => s_J8_hugeLength_7cf53 a1 a2 h)
set_option maxHeartbeats 4000000 in
set_option maxRecDepth 100000 in
theorem J8_newLength_cabcc_b21_s {E : EV} (l0 : Int32) (l1 : Int32) (h : HS) : Sim E mi_J8_newLength_cabcc (fin oI) 0 0 21 [(0, lvI (l0)), (1, lvI (l1))] [] h (J8_newLength_cabcc_b21 l0 l1 h) := by
  unfold J8_newLength_cabcc_b21
  refine si_iload_n 0 dJ8_newLength_cabcc_21 rfl rfl ?_
  refine si_iload_n 1 dJ8_newLength_cabcc_22 rfl rfl ?_
  refine si_csI [lvI (l0), lvI (l1)] dJ8_newLength_cabcc_23 rfl mc_J8_hugeLength_7cf53 ml_J8_201 st_J8_hugeLength_7cf53 rfl ⟨Nat.le_of_ble_eq_true rfl, Nat.le_of_ble_eq_true rfl, Nat.le_of_ble_eq_true rfl, Nat.le_of_ble_eq_true rfl⟩ (Nat.le_of_ble_eq_true rfl) (fun _ hq => ct_J8_hugeLength_7cf53 _ _ hq) (fun q1 => ?_)
  exact si_iret dJ8_newLength_cabcc_26 rfl (Nat.le_of_ble_eq_true rfl) (Nat.le_of_ble_eq_true rfl)
set_option maxHeartbeats 4000000 in
set_option maxRecDepth 100000 in
theorem s_J8_newLength_cabcc {E : EV} (a1 : Int32) (a2 : Int32) (a3 : Int32) (h : HS) : Sim E mi_J8_newLength_cabcc (fin oI) 0 0 0 (largs 0 [lvI a1, lvI a2, lvI a3]) [] h (m_J8_newLength_cabcc a1 a2 a3 h) := by
  unfold m_J8_newLength_cabcc
  refine si_iload_n 0 dJ8_newLength_cabcc_0 rfl rfl ?_
  refine si_iload_n 1 dJ8_newLength_cabcc_1 rfl rfl ?_
  refine si_iload_n 2 dJ8_newLength_cabcc_2 rfl rfl ?_
  refine si_mmax dJ8_newLength_cabcc_3 mm_J8_194 (Nat.le_of_ble_eq_true rfl) (Nat.le_of_ble_eq_true rfl) (Nat.le_of_ble_eq_true rfl) (Nat.le_of_ble_eq_true rfl) ?_
  refine si_iadd dJ8_newLength_cabcc_6 ?_
  refine si_istore_n 3 dJ8_newLength_cabcc_7 rfl (by decide) ?_
  refine si_iconst (v := 0) dJ8_newLength_cabcc_8 (by decide) ?_
  refine si_iload_n 3 dJ8_newLength_cabcc_9 rfl rfl ?_
  refine si_icmp_ge 21 dJ8_newLength_cabcc_10 (by decide) ?_ ?_
  · refine si_widen 0 0 (Nat.le_of_ble_eq_true rfl) (Nat.le_of_ble_eq_true rfl) ?_
    refine si_lo [(0, lvI (a1)), (1, lvI (a2))] ⟨rfl, rfl, trivial⟩ ?_
    exact J8_newLength_cabcc_b21_s a1 a2 _
  · refine si_iload_n 3 dJ8_newLength_cabcc_13 rfl rfl ?_
    refine si_ldc dJ8_newLength_cabcc_14 kc_J8_200 ?_
    refine si_icmp_gt 21 dJ8_newLength_cabcc_16 (by decide) ?_ ?_
    · refine si_widen 0 0 (Nat.le_of_ble_eq_true rfl) (Nat.le_of_ble_eq_true rfl) ?_
      refine si_lo [(0, lvI (a1)), (1, lvI (a2))] ⟨rfl, rfl, trivial⟩ ?_
      exact J8_newLength_cabcc_b21_s a1 a2 _
    · refine si_iload_n 3 dJ8_newLength_cabcc_19 rfl rfl ?_
      exact si_iret dJ8_newLength_cabcc_20 rfl (Nat.le_of_ble_eq_true rfl) (Nat.le_of_ble_eq_true rfl)
theorem ct_J8_newLength_cabcc (l : Launch) (G : GG) {a1 : Int32} {a2 : Int32} {a3 : Int32} {h : HS} {q : Int32 × HS} (hq : m_J8_newLength_cabcc a1 a2 a3 h = some q) : Ct l yJ8_newLength_cabcc mi_J8_newLength_cabcc G [lvI a1, lvI a2, lvI a3] h (oI q) := Ct.of (out := oI) (by decide +kernel) rfl rfl (Nat.le_of_ble_eq_true rfl) hq (fun _ _ _ _ _ _ _ _ => s_J8_newLength_cabcc a1 a2 a3 h)
set_option maxHeartbeats 4000000 in
set_option maxRecDepth 100000 in
theorem J7_copyOf_6403c_b24_s {E : EV} (l0 : Option Nat) (l1 : Int32) (s0 : Option Nat) (h : HS) : Sim E mi_J7_copyOf_6403c (fin oR) 1 80 24 [(0, lvR (l0)), (1, lvI (l1))] [va_rf (s0)] h (J7_copyOf_6403c_b24 l0 l1 s0 h) := by
  unfold J7_copyOf_6403c_b24
  refine si_astore_n 3 dJ7_copyOf_6403c_24 rfl (by decide) ?_
  refine si_aload_n 0 dJ7_copyOf_6403c_25 rfl rfl ?_
  refine si_iconst (v := 0) dJ7_copyOf_6403c_26 (by decide) ?_
  refine si_aload_n 3 dJ7_copyOf_6403c_27 rfl rfl ?_
  refine si_iconst (v := 0) dJ7_copyOf_6403c_28 (by decide) ?_
  refine si_aload_n 0 dJ7_copyOf_6403c_29 rfl rfl ?_
  refine si_aN dJ7_copyOf_6403c_30 (fun x1 => ?_)
  refine si_iload_n 1 dJ7_copyOf_6403c_31 rfl rfl ?_
  refine si_mmin dJ7_copyOf_6403c_32 mm_J7_304 (Nat.le_of_ble_eq_true rfl) (Nat.le_of_ble_eq_true rfl) (Nat.le_of_ble_eq_true rfl) (Nat.le_of_ble_eq_true rfl) ?_
  refine si_cpR dJ7_copyOf_6403c_35 al_J7_150 (Nat.le_of_ble_eq_true rfl) (Nat.le_of_ble_eq_true rfl) (fun h2 => ?_)
  refine si_aload_n 3 dJ7_copyOf_6403c_38 rfl rfl ?_
  exact si_aret dJ7_copyOf_6403c_39 rfl (Or.inr ⟨_, rfl⟩) (Nat.le_of_ble_eq_true rfl) (Nat.le_of_ble_eq_true rfl)
set_option maxHeartbeats 4000000 in
set_option maxRecDepth 100000 in
theorem s_J7_copyOf_6403c {E : EV} (a1 : Option Nat) (a2 : Int32) (a3 : Option Nat) (h : HS) : Sim E mi_J7_copyOf_6403c (fin oR) 0 0 0 (largs 0 [lvR a1, lvI a2, lvR a3]) [] h (m_J7_copyOf_6403c a1 a2 a3 h) := by
  unfold m_J7_copyOf_6403c
  refine si_aload_n 2 dJ7_copyOf_6403c_0 rfl rfl ?_
  refine si_ldcM cl_J7_110 dJ7_copyOf_6403c_1 ?_
  refine si_acmp_ne 13 dJ7_copyOf_6403c_3 (by decide) ?_ ?_
  · refine si_iload_n 1 dJ7_copyOf_6403c_6 rfl rfl ?_
    refine si_newq 80 206 dJ7_copyOf_6403c_7 "java/lang/Object" (by decide) cl_J7_2 (by decide) (Nat.le_of_ble_eq_true rfl) (Nat.le_of_ble_eq_true rfl) (fun q1 => ?_)
    refine si_goto 24 dJ7_copyOf_6403c_10 (by decide) ?_
    refine si_widen 1 80 (Nat.le_of_ble_eq_true rfl) (Nat.le_of_ble_eq_true rfl) ?_
    refine si_lo [(0, lvR (a1)), (1, lvI (a2))] ⟨rfl, rfl, trivial⟩ ?_
    exact J7_copyOf_6403c_b24_s a1 a2 q1.1 _
  · refine si_aload_n 2 dJ7_copyOf_6403c_13 rfl rfl ?_
    exact si_none
theorem ct_J7_copyOf_6403c (l : Launch) (G : GG) {a1 : Option Nat} {a2 : Int32} {a3 : Option Nat} {h : HS} {q : Option Nat × HS} (hq : m_J7_copyOf_6403c a1 a2 a3 h = some q) : Ct l yJ7_copyOf_6403c mi_J7_copyOf_6403c G [lvR a1, lvI a2, lvR a3] h (oR q) := Ct.of (out := oR) (by decide +kernel) rfl rfl (Nat.le_of_ble_eq_true rfl) hq (fun _ _ _ _ _ _ _ _ => s_J7_copyOf_6403c a1 a2 a3 h)
set_option maxHeartbeats 4000000 in
set_option maxRecDepth 100000 in
theorem s_J7_copyOf_1904c {E : EV} (a1 : Option Nat) (a2 : Int32) (h : HS) : Sim E mi_J7_copyOf_1904c (fin oR) 0 0 0 (largs 0 [lvR a1, lvI a2]) [] h (m_J7_copyOf_1904c a1 a2 h) := by
  unfold m_J7_copyOf_1904c
  refine si_aload_n 0 dJ7_copyOf_1904c_0 rfl rfl ?_
  refine si_iload_n 1 dJ7_copyOf_1904c_1 rfl rfl ?_
  refine si_aload_n 0 dJ7_copyOf_1904c_2 rfl rfl ?_
  refine si_gC dJ7_copyOf_1904c_3 gc_J7_86 (Nat.le_of_ble_eq_true rfl) (Nat.le_of_ble_eq_true rfl) ?_
  refine si_csR [lvR (a1), lvI (a2), lvR (some (cs h 20))] dJ7_copyOf_1904c_6 rfl mc_J7_copyOf_6403c ml_J7_300 st_J7_copyOf_6403c rfl ⟨Nat.le_of_ble_eq_true rfl, Nat.le_of_ble_eq_true rfl, Nat.le_of_ble_eq_true rfl, Nat.le_of_ble_eq_true rfl⟩ (Nat.le_of_ble_eq_true rfl) (fun _ hq => ct_J7_copyOf_6403c _ _ hq) (fun q1 => ?_)
  exact si_aret dJ7_copyOf_1904c_9 rfl (Or.inr ⟨_, rfl⟩) (Nat.le_of_ble_eq_true rfl) (Nat.le_of_ble_eq_true rfl)
theorem ct_J7_copyOf_1904c (l : Launch) (G : GG) {a1 : Option Nat} {a2 : Int32} {h : HS} {q : Option Nat × HS} (hq : m_J7_copyOf_1904c a1 a2 h = some q) : Ct l yJ7_copyOf_1904c mi_J7_copyOf_1904c G [lvR a1, lvI a2] h (oR q) := Ct.of (out := oR) (by decide +kernel) rfl rfl (Nat.le_of_ble_eq_true rfl) hq (fun _ _ _ _ _ _ _ _ => s_J7_copyOf_1904c a1 a2 h)
set_option maxHeartbeats 4000000 in
set_option maxRecDepth 100000 in
theorem Jx4a65c_grow_92f84_b20_s {E : EV} (th : Nat) (l1 : Int32) (l2 : Int32) (h : HS) : Sim E mi_Jx4a65c_grow_92f84 (fin oR) 0 0 20 [(0, lvR (some th)), (1, lvI (l1)), (2, lvI (l2))] [] h (Jx4a65c_grow_92f84_b20 th l1 l2 h) := by
  unfold Jx4a65c_grow_92f84_b20
  refine si_iload_n 2 dJx4a65c_grow_92f84_20 rfl rfl ?_
  refine si_iload_n 1 dJx4a65c_grow_92f84_21 rfl rfl ?_
  refine si_iload_n 2 dJx4a65c_grow_92f84_22 rfl rfl ?_
  refine si_isub dJx4a65c_grow_92f84_23 ?_
  refine si_iload_n 2 dJx4a65c_grow_92f84_24 rfl rfl ?_
  refine si_iconst (v := 1) dJx4a65c_grow_92f84_25 (by decide) ?_
  refine si_ishr dJx4a65c_grow_92f84_26 ?_
  refine si_csI [lvI (l2), lvI (l1 - l2), lvI (l2 >>> ((1 : Int32) &&& 31))] dJx4a65c_grow_92f84_27 rfl mc_J8_newLength_cabcc ml_Jx4a65c_73 st_J8_newLength_cabcc rfl ⟨Nat.le_of_ble_eq_true rfl, Nat.le_of_ble_eq_true rfl, Nat.le_of_ble_eq_true rfl, Nat.le_of_ble_eq_true rfl⟩ (Nat.le_of_ble_eq_true rfl) (fun _ hq => ct_J8_newLength_cabcc _ _ hq) (fun q1 => ?_)
  refine si_istore_n 3 dJx4a65c_grow_92f84_30 rfl (by decide) ?_
  refine si_aload_n 0 dJx4a65c_grow_92f84_31 rfl rfl ?_
  refine si_aload_n 0 dJx4a65c_grow_92f84_32 rfl rfl ?_
  refine si_gR 0 1 fl_Jx4a65c_9 dJx4a65c_grow_92f84_33 (by decide) rfl (fun x2 => ?_)
  refine si_iload_n 3 dJx4a65c_grow_92f84_36 rfl rfl ?_
  refine si_csR [lvR (x2), lvI (q1.1)] dJx4a65c_grow_92f84_37 rfl mc_J7_copyOf_1904c ml_Jx4a65c_66 st_J7_copyOf_1904c rfl ⟨Nat.le_of_ble_eq_true rfl, Nat.le_of_ble_eq_true rfl, Nat.le_of_ble_eq_true rfl, Nat.le_of_ble_eq_true rfl⟩ (Nat.le_of_ble_eq_true rfl) (fun _ hq => ct_J7_copyOf_1904c _ _ hq) (fun q3 => ?_)
  refine si_dup_x1 dJx4a65c_grow_92f84_40 (cat_rf _) (cat_rf _) ?_
  refine si_pR 0 1 fl_Jx4a65c_9 dJx4a65c_grow_92f84_41 (by decide) rfl (fw_Jx4a65c_9 _) (fun h4 => ?_)
  exact si_aret dJx4a65c_grow_92f84_44 rfl (Or.inr ⟨_, rfl⟩) (Nat.le_of_ble_eq_true rfl) (Nat.le_of_ble_eq_true rfl)
set_option maxHeartbeats 4000000 in
set_option maxRecDepth 100000 in
theorem s_Jx4a65c_grow_92f84 {E : EV} (th : Nat) (a1 : Int32) (h : HS) : Sim E mi_Jx4a65c_grow_92f84 (fin oR) 0 0 0 (largs 0 [lvR (some th), lvI a1]) [] h (m_Jx4a65c_grow_92f84 th a1 h) := by
  unfold m_Jx4a65c_grow_92f84
  refine si_aload_n 0 dJx4a65c_grow_92f84_0 rfl rfl ?_
  refine si_gR 0 1 fl_Jx4a65c_9 dJx4a65c_grow_92f84_1 (by decide) rfl (fun x1 => ?_)
  refine si_aN dJx4a65c_grow_92f84_4 (fun x2 => ?_)
  refine si_istore_n 2 dJx4a65c_grow_92f84_5 rfl (by decide) ?_
  refine si_iload_n 2 dJx4a65c_grow_92f84_6 rfl rfl ?_
  refine si_if_gt 20 dJx4a65c_grow_92f84_7 (by decide) ?_ ?_
  · refine si_widen 0 0 (Nat.le_of_ble_eq_true rfl) (Nat.le_of_ble_eq_true rfl) ?_
    refine si_lo [(0, lvR (some th)), (1, lvI (a1)), (2, lvI (x2))] ⟨rfl, rfl, rfl, trivial⟩ ?_
    exact Jx4a65c_grow_92f84_b20_s th a1 x2 _
  · refine si_aload_n 0 dJx4a65c_grow_92f84_10 rfl rfl ?_
    refine si_gR 0 1 fl_Jx4a65c_9 dJx4a65c_grow_92f84_11 (by decide) rfl (fun x3 => ?_)
    refine si_gsE gs_Jx4a65c_39 dJx4a65c_grow_92f84_14 ?_
    refine si_acmp_eq 45 dJx4a65c_grow_92f84_17 (by decide) ?_ ?_
    · refine si_aload_n 0 dJx4a65c_grow_92f84_45 rfl rfl ?_
      refine si_bipush (v := 10) dJx4a65c_grow_92f84_46 (by decide) ?_
      refine si_iload_n 1 dJx4a65c_grow_92f84_48 rfl rfl ?_
      refine si_mmax dJx4a65c_grow_92f84_49 mm_Jx4a65c_79 (Nat.le_of_ble_eq_true rfl) (Nat.le_of_ble_eq_true rfl) (Nat.le_of_ble_eq_true rfl) (Nat.le_of_ble_eq_true rfl) ?_
      refine si_newq 80 206 dJx4a65c_grow_92f84_52 "java/lang/Object" (by decide) cl_Jx4a65c_7 (by decide) (Nat.le_of_ble_eq_true rfl) (Nat.le_of_ble_eq_true rfl) (fun q4 => ?_)
      refine si_dup_x1 dJx4a65c_grow_92f84_55 (cat_rf _) (cat_rf _) ?_
      refine si_pR 0 1 fl_Jx4a65c_9 dJx4a65c_grow_92f84_56 (by decide) rfl (fw_Jx4a65c_9 _) (fun h5 => ?_)
      exact si_aret dJx4a65c_grow_92f84_59 rfl (Or.inr ⟨_, rfl⟩) (Nat.le_of_ble_eq_true rfl) (Nat.le_of_ble_eq_true rfl)
    · refine si_widen 0 0 (Nat.le_of_ble_eq_true rfl) (Nat.le_of_ble_eq_true rfl) ?_
      refine si_lo [(0, lvR (some th)), (1, lvI (a1)), (2, lvI (x2))] ⟨rfl, rfl, rfl, trivial⟩ ?_
      exact Jx4a65c_grow_92f84_b20_s th a1 x2 _
theorem ct_Jx4a65c_grow_92f84 (l : Launch) (G : GG) {th : Nat} {a1 : Int32} {h : HS} {q : Option Nat × HS} (hq : m_Jx4a65c_grow_92f84 th a1 h = some q) : Ct l yJx4a65c_grow_92f84 mi_Jx4a65c_grow_92f84 G [lvR (some th), lvI a1] h (oR q) := Ct.of (out := oR) (by decide +kernel) rfl rfl (Nat.le_of_ble_eq_true rfl) hq (fun _ _ _ _ _ _ _ _ => s_Jx4a65c_grow_92f84 th a1 h)
set_option maxHeartbeats 4000000 in
set_option maxRecDepth 100000 in
theorem s_Jx4a65c_grow_d5877 {E : EV} (th : Nat) (h : HS) : Sim E mi_Jx4a65c_grow_d5877 (fin oR) 0 0 0 (largs 0 [lvR (some th)]) [] h (m_Jx4a65c_grow_d5877 th h) := by
  unfold m_Jx4a65c_grow_d5877
  refine si_aload_n 0 dJx4a65c_grow_d5877_0 rfl rfl ?_
  refine si_aload_n 0 dJx4a65c_grow_d5877_1 rfl rfl ?_
  refine si_gI 0 2 fl_Jx4a65c_48 dJx4a65c_grow_d5877_2 (by decide) rfl (fun x1 => ?_)
  refine si_iconst (v := 1) dJx4a65c_grow_d5877_5 (by decide) ?_
  refine si_iadd dJx4a65c_grow_d5877_6 ?_
  refine si_cvR 0 [lvI (x1 + (1 : Int32))] dJx4a65c_grow_d5877_7 rfl mc_Jx4a65c_grow_92f84 ml_Jx4a65c_69 im_Jx4a65c_grow_92f84 rfl se_Jx4a65c_grow_92f84 (by decide) rfl ⟨Nat.le_of_ble_eq_true rfl, Nat.le_of_ble_eq_true rfl, Nat.le_of_ble_eq_true rfl, Nat.le_of_ble_eq_true rfl⟩ (Nat.le_of_ble_eq_true rfl) (fun _ _ hq => ct_Jx4a65c_grow_92f84 _ _ hq) (fun q2 => ?_)
  exact si_aret dJx4a65c_grow_d5877_10 rfl (Or.inr ⟨_, rfl⟩) (Nat.le_of_ble_eq_true rfl) (Nat.le_of_ble_eq_true rfl)
theorem ct_Jx4a65c_grow_d5877 (l : Launch) (G : GG) {th : Nat} {h : HS} {q : Option Nat × HS} (hq : m_Jx4a65c_grow_d5877 th h = some q) : Ct l yJx4a65c_grow_d5877 mi_Jx4a65c_grow_d5877 G [lvR (some th)] h (oR q) := Ct.of (out := oR) (by decide +kernel) rfl rfl (Nat.le_of_ble_eq_true rfl) hq (fun _ _ _ _ _ _ _ _ => s_Jx4a65c_grow_d5877 th h)
set_option maxHeartbeats 4000000 in
set_option maxRecDepth 100000 in
theorem Jx4a65c_add_72be8_b11_s {E : EV} (th : Nat) (l1 : Option Nat) (l2 : Option Nat) (l3 : Int32) (h : HS) : Sim E mi_Jx4a65c_add_72be8 (fin oV) 1 80 11 [(0, lvR (some th)), (1, lvR (l1)), (2, lvR (l2)), (3, lvI (l3))] [] h (Jx4a65c_add_72be8_b11 th l1 l2 l3 h) := by
  unfold Jx4a65c_add_72be8_b11
  refine si_aload_n 2 dJx4a65c_add_72be8_11 rfl rfl ?_
  refine si_iload_n 3 dJx4a65c_add_72be8_12 rfl rfl ?_
  refine si_aload_n 1 dJx4a65c_add_72be8_13 rfl rfl ?_
  refine si_rO dJx4a65c_add_72be8_14 (fun h1 => ?_)
  refine si_aload_n 0 dJx4a65c_add_72be8_15 rfl rfl ?_
  refine si_iload_n 3 dJx4a65c_add_72be8_16 rfl rfl ?_
  refine si_iconst (v := 1) dJx4a65c_add_72be8_17 (by decide) ?_
  refine si_iadd dJx4a65c_add_72be8_18 ?_
  refine si_pI 0 2 fl_Jx4a65c_48 dJx4a65c_add_72be8_19 (by decide) rfl rfl rfl (fw_Jx4a65c_48 _) (fun h2 => ?_)
  exact si_vret dJx4a65c_add_72be8_22 rfl (Nat.le_of_ble_eq_true rfl) (Nat.le_of_ble_eq_true rfl)
set_option maxHeartbeats 4000000 in
set_option maxRecDepth 100000 in
theorem s_Jx4a65c_add_72be8 {E : EV} (th : Nat) (a1 : Option Nat) (a2 : Option Nat) (a3 : Int32) (h : HS) : Sim E mi_Jx4a65c_add_72be8 (fin oV) 0 0 0 (largs 0 [lvR (some th), lvR a1, lvR a2, lvI a3]) [] h (m_Jx4a65c_add_72be8 th a1 a2 a3 h) := by
  unfold m_Jx4a65c_add_72be8
  refine si_iload_n 3 dJx4a65c_add_72be8_0 rfl rfl ?_
  refine si_aload_n 2 dJx4a65c_add_72be8_1 rfl rfl ?_
  refine si_aN dJx4a65c_add_72be8_2 (fun x1 => ?_)
  refine si_icmp_ne 11 dJx4a65c_add_72be8_3 (by decide) ?_ ?_
  · refine si_aload_n 0 dJx4a65c_add_72be8_6 rfl rfl ?_
    refine si_cvR 0 [] dJx4a65c_add_72be8_7 rfl mc_Jx4a65c_grow_d5877 ml_Jx4a65c_129 im_Jx4a65c_grow_d5877 rfl se_Jx4a65c_grow_d5877 (by decide) rfl ⟨Nat.le_of_ble_eq_true rfl, Nat.le_of_ble_eq_true rfl, Nat.le_of_ble_eq_true rfl, Nat.le_of_ble_eq_true rfl⟩ (Nat.le_of_ble_eq_true rfl) (fun _ _ hq => ct_Jx4a65c_grow_d5877 _ _ hq) (fun q2 => ?_)
    refine si_astore_n 2 dJx4a65c_add_72be8_10 rfl (by decide) ?_
    refine si_widen 1 80 (Nat.le_of_ble_eq_true rfl) (Nat.le_of_ble_eq_true rfl) ?_
    refine si_lo [(0, lvR (some th)), (1, lvR (a1)), (2, lvR (q2.1)), (3, lvI (a3))] ⟨rfl, rfl, rfl, rfl, trivial⟩ ?_
    exact Jx4a65c_add_72be8_b11_s th a1 q2.1 a3 _
  · refine si_widen 1 80 (Nat.le_of_ble_eq_true rfl) (Nat.le_of_ble_eq_true rfl) ?_
    refine si_lo [(0, lvR (some th)), (1, lvR (a1)), (2, lvR (a2)), (3, lvI (a3))] ⟨rfl, rfl, rfl, rfl, trivial⟩ ?_
    exact Jx4a65c_add_72be8_b11_s th a1 a2 a3 _
theorem ct_Jx4a65c_add_72be8 (l : Launch) (G : GG) {th : Nat} {a1 : Option Nat} {a2 : Option Nat} {a3 : Int32} {h : HS} {q : HS} (hq : m_Jx4a65c_add_72be8 th a1 a2 a3 h = some q) : Ct l yJx4a65c_add_72be8 mi_Jx4a65c_add_72be8 G [lvR (some th), lvR a1, lvR a2, lvI a3] h (oV q) := Ct.of (out := oV) (by decide +kernel) rfl rfl (Nat.le_of_ble_eq_true rfl) hq (fun _ _ _ _ _ _ _ _ => s_Jx4a65c_add_72be8 th a1 a2 a3 h)
set_option maxHeartbeats 4000000 in
set_option maxRecDepth 100000 in
theorem s_Jx4a65c_add_9ea2d {E : EV} (th : Nat) (a1 : Option Nat) (h : HS) : Sim E mi_Jx4a65c_add_9ea2d (fin oI) 0 0 0 (largs 0 [lvR (some th), lvR a1]) [] h (m_Jx4a65c_add_9ea2d th a1 h) := by
  unfold m_Jx4a65c_add_9ea2d
  refine si_aload_n 0 dJx4a65c_add_9ea2d_0 rfl rfl ?_
  refine si_dup dJx4a65c_add_9ea2d_1 (cat_rf _) ?_
  refine si_gI 0 0 fl_Jx4a65c_63 dJx4a65c_add_9ea2d_2 (by decide) rfl (fun x1 => ?_)
  refine si_iconst (v := 1) dJx4a65c_add_9ea2d_5 (by decide) ?_
  refine si_iadd dJx4a65c_add_9ea2d_6 ?_
  refine si_pI 0 0 fl_Jx4a65c_63 dJx4a65c_add_9ea2d_7 (by decide) rfl rfl rfl (fw_Jx4a65c_63 _) (fun h2 => ?_)
  refine si_aload_n 0 dJx4a65c_add_9ea2d_10 rfl rfl ?_
  refine si_aload_n 1 dJx4a65c_add_9ea2d_11 rfl rfl ?_
  refine si_aload_n 0 dJx4a65c_add_9ea2d_12 rfl rfl ?_
  refine si_gR 0 1 fl_Jx4a65c_9 dJx4a65c_add_9ea2d_13 (by decide) rfl (fun x3 => ?_)
  refine si_aload_n 0 dJx4a65c_add_9ea2d_16 rfl rfl ?_
  refine si_gI 0 2 fl_Jx4a65c_48 dJx4a65c_add_9ea2d_17 (by decide) rfl (fun x4 => ?_)
  refine si_cvV 0 [lvR (a1), lvR (x3), lvI (x4)] dJx4a65c_add_9ea2d_20 rfl mc_Jx4a65c_add_72be8 ml_Jx4a65c_131 im_Jx4a65c_add_72be8 rfl se_Jx4a65c_add_72be8 (by decide) rfl ⟨Nat.le_of_ble_eq_true rfl, Nat.le_of_ble_eq_true rfl, Nat.le_of_ble_eq_true rfl, Nat.le_of_ble_eq_true rfl⟩ (Nat.le_of_ble_eq_true rfl) (fun _ _ hq => ct_Jx4a65c_add_72be8 _ _ hq) (fun h5 => ?_)
  refine si_iconst (v := 1) dJx4a65c_add_9ea2d_23 (by decide) ?_
  exact si_zret dJx4a65c_add_9ea2d_24 rfl rfl (Nat.le_of_ble_eq_true rfl) (Nat.le_of_ble_eq_true rfl)
theorem ct_Jx4a65c_add_9ea2d (l : Launch) (G : GG) {th : Nat} {a1 : Option Nat} {h : HS} {q : Int32 × HS} (hq : m_Jx4a65c_add_9ea2d th a1 h = some q) : Ct l yJx4a65c_add_9ea2d mi_Jx4a65c_add_9ea2d G [lvR (some th), lvR a1] h (oI q) := Ct.of (out := oI) (by decide +kernel) rfl rfl (Nat.le_of_ble_eq_true rfl) hq (fun _ _ _ _ _ _ _ _ => s_Jx4a65c_add_9ea2d th a1 h)
set_option maxHeartbeats 4000000 in
set_option maxRecDepth 100000 in
theorem s_J15_checkIndex_7cf53 {E : EV} (a1 : Int32) (a2 : Int32) (h : HS) : Sim E mi_J15_checkIndex_7cf53 (fin oI) 0 0 0 (largs 0 [lvI a1, lvI a2]) [] h (m_J15_checkIndex_7cf53 a1 a2 h) := by
  unfold m_J15_checkIndex_7cf53
  refine si_iload_n 0 dJ15_checkIndex_7cf53_0 rfl rfl ?_
  refine si_iload_n 1 dJ15_checkIndex_7cf53_1 rfl rfl ?_
  refine si_null dJ15_checkIndex_7cf53_2 ?_
  refine si_csI [lvI (a1), lvI (a2), lvR (none)] dJ15_checkIndex_7cf53_3 rfl mc_J3_checkIndex_8e157 ml_J15_105 st_J3_checkIndex_8e157 rfl ⟨Nat.le_of_ble_eq_true rfl, Nat.le_of_ble_eq_true rfl, Nat.le_of_ble_eq_true rfl, Nat.le_of_ble_eq_true rfl⟩ (Nat.le_of_ble_eq_true rfl) (fun _ hq => ct_J3_checkIndex_8e157 _ _ hq) (fun q1 => ?_)
  exact si_iret dJ15_checkIndex_7cf53_6 rfl (Nat.le_of_ble_eq_true rfl) (Nat.le_of_ble_eq_true rfl)
theorem ct_J15_checkIndex_7cf53 (l : Launch) (G : GG) {a1 : Int32} {a2 : Int32} {h : HS} {q : Int32 × HS} (hq : m_J15_checkIndex_7cf53 a1 a2 h = some q) : Ct l yJ15_checkIndex_7cf53 mi_J15_checkIndex_7cf53 G [lvI a1, lvI a2] h (oI q) := Ct.of (out := oI) (by decide +kernel) rfl rfl (Nat.le_of_ble_eq_true rfl) hq (fun _ _ _ _ _ _ _ _ => s_J15_checkIndex_7cf53 a1 a2 h)
set_option maxHeartbeats 4000000 in
set_option maxRecDepth 100000 in
theorem s_Jx4a65c_elementData_915e3 {E : EV} (th : Nat) (a1 : Int32) (h : HS) : Sim E mi_Jx4a65c_elementData_915e3 (fin oR) 0 0 0 (largs 0 [lvR (some th), lvI a1]) [] h (m_Jx4a65c_elementData_915e3 th a1 h) := by
  unfold m_Jx4a65c_elementData_915e3
  refine si_aload_n 0 dJx4a65c_elementData_915e3_0 rfl rfl ?_
  refine si_gR 0 1 fl_Jx4a65c_9 dJx4a65c_elementData_915e3_1 (by decide) rfl (fun x1 => ?_)
  refine si_iload_n 1 dJx4a65c_elementData_915e3_4 rfl rfl ?_
  refine si_ra 206 (by decide) dJx4a65c_elementData_915e3_5 (fun x2 => ?_)
  exact si_aret dJx4a65c_elementData_915e3_6 rfl (Or.inl ⟨_, rfl⟩) (Nat.le_of_ble_eq_true rfl) (Nat.le_of_ble_eq_true rfl)
theorem ct_Jx4a65c_elementData_915e3 (l : Launch) (G : GG) {th : Nat} {a1 : Int32} {h : HS} {q : Option Nat × HS} (hq : m_Jx4a65c_elementData_915e3 th a1 h = some q) : Ct l yJx4a65c_elementData_915e3 mi_Jx4a65c_elementData_915e3 G [lvR (some th), lvI a1] h (oR q) := Ct.of (out := oR) (by decide +kernel) rfl rfl (Nat.le_of_ble_eq_true rfl) hq (fun _ _ _ _ _ _ _ _ => s_Jx4a65c_elementData_915e3 th a1 h)
set_option maxHeartbeats 4000000 in
set_option maxRecDepth 100000 in
theorem s_Jx4a65c_get_915e3 {E : EV} (th : Nat) (a1 : Int32) (h : HS) : Sim E mi_Jx4a65c_get_915e3 (fin oR) 0 0 0 (largs 0 [lvR (some th), lvI a1]) [] h (m_Jx4a65c_get_915e3 th a1 h) := by
  unfold m_Jx4a65c_get_915e3
  refine si_iload_n 1 dJx4a65c_get_915e3_0 rfl rfl ?_
  refine si_aload_n 0 dJx4a65c_get_915e3_1 rfl rfl ?_
  refine si_gI 0 2 fl_Jx4a65c_48 dJx4a65c_get_915e3_2 (by decide) rfl (fun x1 => ?_)
  refine si_csI [lvI (a1), lvI (x1)] dJx4a65c_get_915e3_5 rfl mc_J15_checkIndex_7cf53 ml_Jx4a65c_118 st_J15_checkIndex_7cf53 rfl ⟨Nat.le_of_ble_eq_true rfl, Nat.le_of_ble_eq_true rfl, Nat.le_of_ble_eq_true rfl, Nat.le_of_ble_eq_true rfl⟩ (Nat.le_of_ble_eq_true rfl) (fun _ hq => ct_J15_checkIndex_7cf53 _ _ hq) (fun q2 => ?_)
  refine si_pop dJx4a65c_get_915e3_8 rfl ?_
  refine si_aload_n 0 dJx4a65c_get_915e3_9 rfl rfl ?_
  refine si_iload_n 1 dJx4a65c_get_915e3_10 rfl rfl ?_
  refine si_cvR 0 [lvI (a1)] dJx4a65c_get_915e3_11 rfl mc_Jx4a65c_elementData_915e3 ml_Jx4a65c_123 im_Jx4a65c_elementData_915e3 rfl se_Jx4a65c_elementData_915e3 (by decide) rfl ⟨Nat.le_of_ble_eq_true rfl, Nat.le_of_ble_eq_true rfl, Nat.le_of_ble_eq_true rfl, Nat.le_of_ble_eq_true rfl⟩ (Nat.le_of_ble_eq_true rfl) (fun _ _ hq => ct_Jx4a65c_elementData_915e3 _ _ hq) (fun q3 => ?_)
  exact si_aret dJx4a65c_get_915e3_14 rfl (Or.inl ⟨_, rfl⟩) (Nat.le_of_ble_eq_true rfl) (Nat.le_of_ble_eq_true rfl)
theorem ct_Jx4a65c_get_915e3 (l : Launch) (G : GG) {th : Nat} {a1 : Int32} {h : HS} {q : Option Nat × HS} (hq : m_Jx4a65c_get_915e3 th a1 h = some q) : Ct l yJx4a65c_get_915e3 mi_Jx4a65c_get_915e3 G [lvR (some th), lvI a1] h (oR q) := Ct.of (out := oR) (by decide +kernel) rfl rfl (Nat.le_of_ble_eq_true rfl) hq (fun _ _ _ _ _ _ _ _ => s_Jx4a65c_get_915e3 th a1 h)
