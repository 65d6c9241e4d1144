set_option maxHeartbeats 4000000 in
set_option maxRecDepth 100000 in
theorem s_X0_init {E : EV} (th : Nat) (a1 : Option Nat) (a2 : Option Nat) (a3 : Int32) (h : HS) : Sim E mi_X0_init (fin oV) 0 0 0 (largs 0 [lvR (some th), lvR a1, lvR a2, lvI a3]) [] h (m_X0_init th a1 a2 a3 h) := by
  unfold m_X0_init
  refine si_aload_n 0 dX0_init_0 rfl rfl ?_
  refine si_obj dX0_init_1 ob_X0_3 (Nat.le_of_ble_eq_true rfl) (Nat.le_of_ble_eq_true rfl) ?_
  refine si_aload_n 0 dX0_init_4 rfl rfl ?_
  refine si_iconst (v := -1) dX0_init_5 (by decide) ?_
  refine si_pI 1 3 fl_X0_9 dX0_init_6 (by decide) rfl rfl rfl (fw_X0_9 _) (fun h1 => ?_)
  refine si_aload_n 0 dX0_init_9 rfl rfl ?_
  refine si_iconst (v := 0) dX0_init_10 (by decide) ?_
  refine si_pI 1 4 fl_X0_15 dX0_init_11 (by decide) rfl rfl rfl (fw_X0_15 _) (fun h2 => ?_)
  refine si_aload_n 0 dX0_init_14 rfl rfl ?_
  refine si_iconst (v := -1) dX0_init_15 (by decide) ?_
  refine si_pI 1 5 fl_X0_18 dX0_init_16 (by decide) rfl rfl rfl (fw_X0_18 _) (fun h3 => ?_)
  refine si_aload_n 0 dX0_init_19 rfl rfl ?_
  refine si_iconst (v := 0) dX0_init_20 (by decide) ?_
  refine si_pI 1 6 fl_X0_21 dX0_init_21 (by decide) rfl rfl rfl (fw_X0_21 _) (fun h4 => ?_)
  refine si_aload_n 0 dX0_init_24 rfl rfl ?_
  refine si_iconst (v := 0) dX0_init_25 (by decide) ?_
  refine si_pI 1 7 fl_X0_24 dX0_init_26 (by decide) rfl rfl rfl (fw_X0_24 _) (fun h5 => ?_)
  refine si_aload_n 0 dX0_init_29 rfl rfl ?_
  refine si_iconst (v := 0) dX0_init_30 (by decide) ?_
  refine si_pI 1 8 fl_X0_27 dX0_init_31 (by decide) rfl rfl rfl (fw_X0_27 _) (fun h6 => ?_)
  refine si_aload_n 0 dX0_init_34 rfl rfl ?_
  refine si_sipush (v := 200) dX0_init_35 (by decide) ?_
  refine si_newa 200 202 dX0_init_38 rfl (by decide) ac_202 (by decide) (Nat.le_of_ble_eq_true rfl) (Nat.le_of_ble_eq_true rfl) (fun q7 => ?_)
  refine si_pR 1 9 fl_X0_30 dX0_init_40 (by decide) rfl fwi_X0_30 (fun h8 => ?_)
  refine si_aload_n 0 dX0_init_43 rfl rfl ?_
  refine si_bipush (v := 50) dX0_init_44 (by decide) ?_
  refine si_newa 50 201 dX0_init_46 rfl (by decide) ac_201 (by decide) (Nat.le_of_ble_eq_true rfl) (Nat.le_of_ble_eq_true rfl) (fun q9 => ?_)
  refine si_pR 1 10 fl_X0_34 dX0_init_48 (by decide) rfl fwi_X0_34 (fun h10 => ?_)
  refine si_aload_n 0 dX0_init_51 rfl rfl ?_
  refine si_aload_n 1 dX0_init_52 rfl rfl ?_
  refine si_pR 1 0 fl_X0_38 dX0_init_53 (by decide) rfl fwi_X0_38 (fun h11 => ?_)
  refine si_aload_n 0 dX0_init_56 rfl rfl ?_
  refine si_aload_n 2 dX0_init_57 rfl rfl ?_
  refine si_pR 1 1 fl_X0_42 dX0_init_58 (by decide) rfl fwi_X0_42 (fun h12 => ?_)
  refine si_aload_n 0 dX0_init_61 rfl rfl ?_
  refine si_iload_n 3 dX0_init_62 rfl rfl ?_
  refine si_pI 1 2 fl_X0_46 dX0_init_63 (by decide) rfl rfl rfl fwi_X0_46 (fun h13 => ?_)
  exact si_vret dX0_init_66 rfl (Nat.le_of_ble_eq_true rfl) (Nat.le_of_ble_eq_true rfl)
theorem ct_X0_init (l : Launch) (G : GG) {th : Nat} {a1 : Option Nat} {a2 : Option Nat} {a3 : Int32} {h : HS} {q : HS} (hq : m_X0_init th a1 a2 a3 h = some q) : Ct l yX0_init mi_X0_init G [lvR (some th), lvR a1, lvR a2, lvI a3] h (oV q) := Ct.of (out := oV) (by decide +kernel) rfl rfl (Nat.le_of_ble_eq_true rfl) hq (fun _ _ _ _ _ _ _ _ => s_X0_init th a1 a2 a3 h)
set_option maxHeartbeats 4000000 in
set_option maxRecDepth 100000 in
theorem s_X0_runsIn {E : EV} (th : Nat) (a1 : Int32) (h : HS) : Sim E mi_X0_runsIn (fin oI) 0 0 0 (largs 0 [lvR (some th), lvI a1]) [] h (m_X0_runsIn th a1 h) := by
  unfold m_X0_runsIn
  refine si_iload_n 1 dX0_runsIn_0 rfl rfl ?_
  refine si_aload_n 0 dX0_runsIn_1 rfl rfl ?_
  refine si_gI 1 2 fl_X0_46 dX0_runsIn_2 (by decide) rfl (fun x1 => ?_)
  refine si_icmp_lt 28 dX0_runsIn_5 (by decide) ?_ ?_
  · refine si_iconst (v := 0) dX0_runsIn_28 (by decide) ?_
    exact si_zret dX0_runsIn_29 rfl rfl (Nat.le_of_ble_eq_true rfl) (Nat.le_of_ble_eq_true rfl)
  · refine si_aload_n 0 dX0_runsIn_8 rfl rfl ?_
    refine si_gI 1 3 fl_X0_9 dX0_runsIn_9 (by decide) rfl (fun x2 => ?_)
    refine si_iconst (v := -1) dX0_runsIn_12 (by decide) ?_
    refine si_icmp_eq 24 dX0_runsIn_13 (by decide) ?_ ?_
    · refine si_iconst (v := 1) dX0_runsIn_24 (by decide) ?_
      refine si_goto 29 dX0_runsIn_25 (by decide) ?_
      exact si_zret dX0_runsIn_29 rfl rfl (Nat.le_of_ble_eq_true rfl) (Nat.le_of_ble_eq_true rfl)
    · refine si_iload_n 1 dX0_runsIn_16 rfl rfl ?_
      refine si_aload_n 0 dX0_runsIn_17 rfl rfl ?_
      refine si_gI 1 3 fl_X0_9 dX0_runsIn_18 (by decide) rfl (fun x3 => ?_)
      refine si_icmp_gt 28 dX0_runsIn_21 (by decide) ?_ ?_
      · refine si_iconst (v := 0) dX0_runsIn_28 (by decide) ?_
        exact si_zret dX0_runsIn_29 rfl rfl (Nat.le_of_ble_eq_true rfl) (Nat.le_of_ble_eq_true rfl)
      · refine si_iconst (v := 1) dX0_runsIn_24 (by decide) ?_
        refine si_goto 29 dX0_runsIn_25 (by decide) ?_
        exact si_zret dX0_runsIn_29 rfl rfl (Nat.le_of_ble_eq_true rfl) (Nat.le_of_ble_eq_true rfl)
theorem ct_X0_runsIn (l : Launch) (G : GG) {th : Nat} {a1 : Int32} {h : HS} {q : Int32 × HS} (hq : m_X0_runsIn th a1 h = some q) : Ct l yX0_runsIn mi_X0_runsIn G [lvR (some th), lvI a1] h (oI q) := Ct.of (out := oI) (by decide +kernel) rfl rfl (Nat.le_of_ble_eq_true rfl) hq (fun _ _ _ _ _ _ _ _ => s_X0_runsIn th a1 h)
set_option maxHeartbeats 4000000 in
set_option maxRecDepth 100000 in
theorem X0_weeksRunIn_b24_s {E : EV} (th : Nat) (go4 : Int32 → Int32 → Int32 → HS → Option (Int32 × HS)) (hg4 : ∀ (l1 : Int32) (l2 : Int32) (l3 : Int32) (h : HS), Sim E mi_X0_weeksRunIn (fin oI) 0 0 4 [(0, lvR (some th)), (1, lvI (l1)), (2, lvI (l2)), (3, lvI (l3))] [] h (go4 l1 l2 l3 h)) (l1 : Int32) (l2 : Int32) (l3 : Int32) (h : HS) : Sim E mi_X0_weeksRunIn (fin oI) 0 0 24 [(0, lvR (some th)), (1, lvI (l1)), (2, lvI (l2)), (3, lvI (l3))] [] h (X0_weeksRunIn_b24 th go4 l1 l2 l3 h) := by
  unfold X0_weeksRunIn_b24
  refine si_iinc 3 (1) dX0_weeksRunIn_24 rfl (by decide) (by decide) ?_
  refine si_goto 4 dX0_weeksRunIn_27 (by decide) ?_
  refine si_widen 0 0 (Nat.le_of_ble_eq_true rfl) (Nat.le_of_ble_eq_true rfl) ?_
  refine si_lo [(0, lvR (some th)), (1, lvI (l1)), (2, lvI (l2)), (3, lvI (l3 + (1)))] ⟨rfl, rfl, rfl, rfl, trivial⟩ ?_
  exact hg4 l1 l2 (l3 + (1)) _
set_option maxHeartbeats 4000000 in
set_option maxRecDepth 100000 in
theorem X0_weeksRunIn_L4_s {E : EV} (th : Nat) (n : Nat) : ∀ (l1 : Int32) (l2 : Int32) (l3 : Int32) (h : HS), Sim E mi_X0_weeksRunIn (fin oI) 0 0 4 [(0, lvR (some th)), (1, lvI (l1)), (2, lvI (l2)), (3, lvI (l3))] [] h (X0_weeksRunIn_L4 th n l1 l2 l3 h) := by
  induction n with
  | zero => intro l1 l2 l3 h; exact si_none
  | succ n ih =>
    intro l1 l2 l3 h
    unfold X0_weeksRunIn_L4
    refine si_iload_n 3 dX0_weeksRunIn_4 rfl rfl ?_
    refine si_iconst (v := 4) dX0_weeksRunIn_5 (by decide) ?_
    refine si_icmp_gt 30 dX0_weeksRunIn_6 (by decide) ?_ ?_
    · refine si_iload_n 2 dX0_weeksRunIn_30 rfl rfl ?_
      exact si_iret dX0_weeksRunIn_31 rfl (Nat.le_of_ble_eq_true rfl) (Nat.le_of_ble_eq_true rfl)
    · refine si_aload_n 0 dX0_weeksRunIn_9 rfl rfl ?_
      refine si_iload_n 1 dX0_weeksRunIn_10 rfl rfl ?_
      refine si_iconst (v := 4) dX0_weeksRunIn_11 (by decide) ?_
      refine si_imul dX0_weeksRunIn_12 ?_
      refine si_iload_n 3 dX0_weeksRunIn_13 rfl rfl ?_
      refine si_iadd dX0_weeksRunIn_14 ?_
      refine si_cvI 1 [lvI ((l1 * (4 : Int32)) + l3)] dX0_weeksRunIn_15 rfl mc_X0_runsIn ml_X0_49 im_X0_runsIn rfl se_X0_runsIn (by decide) rfl ⟨Nat.le_of_ble_eq_true rfl, Nat.le_of_ble_eq_true rfl, Nat.le_of_ble_eq_true rfl, Nat.le_of_ble_eq_true rfl⟩ (Nat.le_of_ble_eq_true rfl) (fun _ _ hq => ct_X0_runsIn _ _ hq) (fun q1 => ?_)
      refine si_if_eq 24 dX0_weeksRunIn_18 (by decide) ?_ ?_
      · refine si_widen 0 0 (Nat.le_of_ble_eq_true rfl) (Nat.le_of_ble_eq_true rfl) ?_
        refine si_lo [(0, lvR (some th)), (1, lvI (l1)), (2, lvI (l2)), (3, lvI (l3))] ⟨rfl, rfl, rfl, rfl, trivial⟩ ?_
        exact X0_weeksRunIn_b24_s th (X0_weeksRunIn_L4 th n) ih l1 l2 l3 _
      · refine si_iinc 2 (1) dX0_weeksRunIn_21 rfl (by decide) (by decide) ?_
        refine si_widen 0 0 (Nat.le_of_ble_eq_true rfl) (Nat.le_of_ble_eq_true rfl) ?_
        refine si_lo [(0, lvR (some th)), (1, lvI (l1)), (2, lvI (l2 + (1))), (3, lvI (l3))] ⟨rfl, rfl, rfl, rfl, trivial⟩ ?_
        exact X0_weeksRunIn_b24_s th (X0_weeksRunIn_L4 th n) ih l1 (l2 + (1)) l3 _
set_option maxHeartbeats 4000000 in
set_option maxRecDepth 100000 in
theorem s_X0_weeksRunIn {E : EV} (th : Nat) (a1 : Int32) (h : HS) : Sim E mi_X0_weeksRunIn (fin oI) 0 0 0 (largs 0 [lvR (some th), lvI a1]) [] h (m_X0_weeksRunIn th a1 h) := by
  unfold m_X0_weeksRunIn
  refine si_iconst (v := 0) dX0_weeksRunIn_0 (by decide) ?_
  refine si_istore_n 2 dX0_weeksRunIn_1 rfl (by decide) ?_
  refine si_iconst (v := 1) dX0_weeksRunIn_2 (by decide) ?_
  refine si_istore_n 3 dX0_weeksRunIn_3 rfl (by decide) ?_
  refine si_widen 0 0 (Nat.le_of_ble_eq_true rfl) (Nat.le_of_ble_eq_true rfl) ?_
  refine si_lo [(0, lvR (some th)), (1, lvI (a1)), (2, lvI ((0 : Int32))), (3, lvI ((1 : Int32)))] ⟨rfl, rfl, rfl, rfl, trivial⟩ ?_
  exact X0_weeksRunIn_L4_s th FU a1 ((0 : Int32)) ((1 : Int32)) _
theorem ct_X0_weeksRunIn (l : Launch) (G : GG) {th : Nat} {a1 : Int32} {h : HS} {q : Int32 × HS} (hq : m_X0_weeksRunIn th a1 h = some q) : Ct l yX0_weeksRunIn mi_X0_weeksRunIn G [lvR (some th), lvI a1] h (oI q) := Ct.of (out := oI) (by decide +kernel) rfl rfl (Nat.le_of_ble_eq_true rfl) hq (fun _ _ _ _ _ _ _ _ => s_X0_weeksRunIn th a1 h)
set_option maxHeartbeats 4000000 in
set_option maxRecDepth 100000 in
theorem X0_receive_b62_s {E : EV} (th : Nat) (s2 : Int32) (s1 : Int32) (s0 : Option Nat) (h : HS) : Sim E mi_X0_receive (fin oV) 0 0 62 [(0, lvR (some th))] [.int (s2), .int (s1), va_rf (s0)] h (X0_receive_b62 th s2 s1 s0 h) := by
  unfold X0_receive_b62
  refine si_zs dX0_receive_62 (fun h1 => ?_)
  refine si_aload_n 0 dX0_receive_63 rfl rfl ?_
  refine si_dup dX0_receive_64 (cat_rf _) ?_
  refine si_gI 1 6 fl_X0_21 dX0_receive_65 (by decide) rfl (fun x2 => ?_)
  refine si_iconst (v := 1) dX0_receive_68 (by decide) ?_
  refine si_iadd dX0_receive_69 ?_
  refine si_pI 1 6 fl_X0_21 dX0_receive_70 (by decide) rfl rfl rfl (fw_X0_21 _) (fun h3 => ?_)
  exact si_vret dX0_receive_73 rfl (Nat.le_of_ble_eq_true rfl) (Nat.le_of_ble_eq_true rfl)
set_option maxHeartbeats 4000000 in
set_option maxRecDepth 100000 in
theorem X0_receive_b41_s {E : EV} (th : Nat) (l1 : Int32) (h : HS) : Sim E mi_X0_receive (fin oV) 0 0 41 [(0, lvR (some th)), (1, lvI (l1))] [] h (X0_receive_b41 th l1 h) := by
  unfold X0_receive_b41
  refine si_aload_n 0 dX0_receive_41 rfl rfl ?_
  refine si_gR 1 9 fl_X0_30 dX0_receive_42 (by decide) rfl (fun x1 => ?_)
  refine si_aload_n 0 dX0_receive_45 rfl rfl ?_
  refine si_gI 1 6 fl_X0_21 dX0_receive_46 (by decide) rfl (fun x2 => ?_)
  refine si_aload_n 0 dX0_receive_49 rfl rfl ?_
  refine si_gI 1 4 fl_X0_15 dX0_receive_50 (by decide) rfl (fun x3 => ?_)
  refine si_iload_n 1 dX0_receive_53 rfl rfl ?_
  refine si_icmp_eq 61 dX0_receive_54 (by decide) ?_ ?_
  · refine si_iconst (v := 0) dX0_receive_61 (by decide) ?_
    refine si_widen 0 0 (Nat.le_of_ble_eq_true rfl) (Nat.le_of_ble_eq_true rfl) ?_
    refine si_lo [(0, lvR (some th))] ⟨rfl, trivial⟩ ?_
    exact X0_receive_b62_s th ((0 : Int32)) x2 x1 _
  · refine si_iconst (v := 1) dX0_receive_57 (by decide) ?_
    refine si_goto 62 dX0_receive_58 (by decide) ?_
    refine si_widen 0 0 (Nat.le_of_ble_eq_true rfl) (Nat.le_of_ble_eq_true rfl) ?_
    refine si_lo [(0, lvR (some th))] ⟨rfl, trivial⟩ ?_
    exact X0_receive_b62_s th ((1 : Int32)) x2 x1 _
set_option maxHeartbeats 4000000 in
set_option maxRecDepth 100000 in
theorem s_X0_receive {E : EV} (th : Nat) (a1 : Int32) (h : HS) : Sim E mi_X0_receive (fin oV) 0 0 0 (largs 0 [lvR (some th), lvI a1]) [] h (m_X0_receive th a1 h) := by
  unfold m_X0_receive
  refine si_aload_n 0 dX0_receive_0 rfl rfl ?_
  refine si_gR 1 1 fl_X0_42 dX0_receive_1 (by decide) rfl (fun x1 => ?_)
  refine si_gI 2 7 fl_X0_53 dX0_receive_4 (by decide) rfl (fun x2 => ?_)
  refine si_if_eq 22 dX0_receive_7 (by decide) ?_ ?_
  · exact si_vret dX0_receive_22 rfl (Nat.le_of_ble_eq_true rfl) (Nat.le_of_ble_eq_true rfl)
  · refine si_aload_n 0 dX0_receive_10 rfl rfl ?_
    refine si_gI 1 6 fl_X0_21 dX0_receive_11 (by decide) rfl (fun x3 => ?_)
    refine si_aload_n 0 dX0_receive_14 rfl rfl ?_
    refine si_gR 1 9 fl_X0_30 dX0_receive_15 (by decide) rfl (fun x4 => ?_)
    refine si_aN dX0_receive_18 (fun x5 => ?_)
    refine si_icmp_lt 23 dX0_receive_19 (by decide) ?_ ?_
    · refine si_aload_n 0 dX0_receive_23 rfl rfl ?_
      refine si_gI 1 6 fl_X0_21 dX0_receive_24 (by decide) rfl (fun x6 => ?_)
      refine si_if_ne 41 dX0_receive_27 (by decide) ?_ ?_
      · refine si_aload_n 0 dX0_receive_30 rfl rfl ?_
        refine si_aload_n 0 dX0_receive_31 rfl rfl ?_
        refine si_gR 1 1 fl_X0_42 dX0_receive_32 (by decide) rfl (fun x7 => ?_)
        refine si_gI 2 6 fl_X0_59 dX0_receive_35 (by decide) rfl (fun x8 => ?_)
        refine si_pI 1 5 fl_X0_18 dX0_receive_38 (by decide) rfl rfl rfl (fw_X0_18 _) (fun h9 => ?_)
        refine si_widen 0 0 (Nat.le_of_ble_eq_true rfl) (Nat.le_of_ble_eq_true rfl) ?_
        refine si_lo [(0, lvR (some th)), (1, lvI (a1))] ⟨rfl, rfl, trivial⟩ ?_
        exact X0_receive_b41_s th a1 _
      · refine si_widen 0 0 (Nat.le_of_ble_eq_true rfl) (Nat.le_of_ble_eq_true rfl) ?_
        refine si_lo [(0, lvR (some th)), (1, lvI (a1))] ⟨rfl, rfl, trivial⟩ ?_
        exact X0_receive_b41_s th a1 _
    · exact si_vret dX0_receive_22 rfl (Nat.le_of_ble_eq_true rfl) (Nat.le_of_ble_eq_true rfl)
theorem ct_X0_receive (l : Launch) (G : GG) {th : Nat} {a1 : Int32} {h : HS} {q : HS} (hq : m_X0_receive th a1 h = some q) : Ct l yX0_receive mi_X0_receive G [lvR (some th), lvI a1] h (oV q) := Ct.of (out := oV) (by decide +kernel) rfl rfl (Nat.le_of_ble_eq_true rfl) hq (fun _ _ _ _ _ _ _ _ => s_X0_receive th a1 h)
set_option maxHeartbeats 4000000 in
set_option maxRecDepth 100000 in
theorem s_X0_isThere {E : EV} (th : Nat) (a1 : Int32) (h : HS) : Sim E mi_X0_isThere (fin oI) 0 0 0 (largs 0 [lvR (some th), lvI a1]) [] h (m_X0_isThere th a1 h) := by
  unfold m_X0_isThere
  refine si_iload_n 1 dX0_isThere_0 rfl rfl ?_
  refine si_if_lt 34 dX0_isThere_1 (by decide) ?_ ?_
  · refine si_iconst (v := 0) dX0_isThere_34 (by decide) ?_
    exact si_zret dX0_isThere_35 rfl rfl (Nat.le_of_ble_eq_true rfl) (Nat.le_of_ble_eq_true rfl)
  · refine si_iload_n 1 dX0_isThere_4 rfl rfl ?_
    refine si_aload_n 0 dX0_isThere_5 rfl rfl ?_
    refine si_gI 1 6 fl_X0_21 dX0_isThere_6 (by decide) rfl (fun x1 => ?_)
    refine si_icmp_ge 34 dX0_isThere_9 (by decide) ?_ ?_
    · refine si_iconst (v := 0) dX0_isThere_34 (by decide) ?_
      exact si_zret dX0_isThere_35 rfl rfl (Nat.le_of_ble_eq_true rfl) (Nat.le_of_ble_eq_true rfl)
    · refine si_iload_n 1 dX0_isThere_12 rfl rfl ?_
      refine si_aload_n 0 dX0_isThere_13 rfl rfl ?_
      refine si_gR 1 9 fl_X0_30 dX0_isThere_14 (by decide) rfl (fun x2 => ?_)
      refine si_aN dX0_isThere_17 (fun x3 => ?_)
      refine si_icmp_ge 34 dX0_isThere_18 (by decide) ?_ ?_
      · refine si_iconst (v := 0) dX0_isThere_34 (by decide) ?_
        exact si_zret dX0_isThere_35 rfl rfl (Nat.le_of_ble_eq_true rfl) (Nat.le_of_ble_eq_true rfl)
      · refine si_aload_n 0 dX0_isThere_21 rfl rfl ?_
        refine si_gR 1 9 fl_X0_30 dX0_isThere_22 (by decide) rfl (fun x4 => ?_)
        refine si_iload_n 1 dX0_isThere_25 rfl rfl ?_
        refine si_za dX0_isThere_26 (fun x5 => ?_)
        refine si_if_eq 34 dX0_isThere_27 (by decide) ?_ ?_
        · refine si_iconst (v := 0) dX0_isThere_34 (by decide) ?_
          exact si_zret dX0_isThere_35 rfl rfl (Nat.le_of_ble_eq_true rfl) (Nat.le_of_ble_eq_true rfl)
        · refine si_iconst (v := 1) dX0_isThere_30 (by decide) ?_
          refine si_goto 35 dX0_isThere_31 (by decide) ?_
          exact si_zret dX0_isThere_35 rfl rfl (Nat.le_of_ble_eq_true rfl) (Nat.le_of_ble_eq_true rfl)
theorem ct_X0_isThere (l : Launch) (G : GG) {th : Nat} {a1 : Int32} {h : HS} {q : Int32 × HS} (hq : m_X0_isThere th a1 h = some q) : Ct l yX0_isThere mi_X0_isThere G [lvR (some th), lvI a1] h (oI q) := Ct.of (out := oI) (by decide +kernel) rfl rfl (Nat.le_of_ble_eq_true rfl) hq (fun _ _ _ _ _ _ _ _ => s_X0_isThere th a1 h)
set_option maxHeartbeats 4000000 in
set_option maxRecDepth 100000 in
theorem s_X8_isWithin {E : EV} (a1 : Int32) (a2 : Int32) (a3 : Int32) (h : HS) : Sim E mi_X8_isWithin (fin oI) 0 0 0 (largs 0 [lvI a1, lvI a2, lvI a3]) [] h (m_X8_isWithin a1 a2 a3 h) := by
  unfold m_X8_isWithin
  refine si_iload_n 0 dX8_isWithin_0 rfl rfl ?_
  refine si_iload_n 1 dX8_isWithin_1 rfl rfl ?_
  refine si_icmp_lt 14 dX8_isWithin_2 (by decide) ?_ ?_
  · refine si_iconst (v := 0) dX8_isWithin_14 (by decide) ?_
    exact si_zret dX8_isWithin_15 rfl rfl (Nat.le_of_ble_eq_true rfl) (Nat.le_of_ble_eq_true rfl)
  · refine si_iload_n 0 dX8_isWithin_5 rfl rfl ?_
    refine si_iload_n 2 dX8_isWithin_6 rfl rfl ?_
    refine si_icmp_gt 14 dX8_isWithin_7 (by decide) ?_ ?_
    · refine si_iconst (v := 0) dX8_isWithin_14 (by decide) ?_
      exact si_zret dX8_isWithin_15 rfl rfl (Nat.le_of_ble_eq_true rfl) (Nat.le_of_ble_eq_true rfl)
    · refine si_iconst (v := 1) dX8_isWithin_10 (by decide) ?_
      refine si_goto 15 dX8_isWithin_11 (by decide) ?_
      exact si_zret dX8_isWithin_15 rfl rfl (Nat.le_of_ble_eq_true rfl) (Nat.le_of_ble_eq_true rfl)
theorem ct_X8_isWithin (l : Launch) (G : GG) {a1 : Int32} {a2 : Int32} {a3 : Int32} {h : HS} {q : Int32 × HS} (hq : m_X8_isWithin a1 a2 a3 h = some q) : Ct l yX8_isWithin mi_X8_isWithin G [lvI a1, lvI a2, lvI a3] h (oI q) := Ct.of (out := oI) (by decide +kernel) rfl rfl (Nat.le_of_ble_eq_true rfl) hq (fun _ _ _ _ _ _ _ _ => s_X8_isWithin a1 a2 a3 h)
set_option maxHeartbeats 4000000 in
set_option maxRecDepth 100000 in
theorem X0_print_b64_s {E : EV} (th : Nat) (l1 : Int32) (l2 : Int32) (h : HS) : Sim E mi_X0_print (fin oV) 0 0 64 [(0, lvR (some th)), (1, lvI (l1)), (2, lvI (l2))] [] h (X0_print_b64 th l1 l2 h) := by
  unfold X0_print_b64
  refine si_aload_n 0 dX0_print_64 rfl rfl ?_
  refine si_dup dX0_print_65 (cat_rf _) ?_
  refine si_gI 1 7 fl_X0_24 dX0_print_66 (by decide) rfl (fun x1 => ?_)
  refine si_iload_n 2 dX0_print_69 rfl rfl ?_
  refine si_iadd dX0_print_70 ?_
  refine si_pI 1 7 fl_X0_24 dX0_print_71 (by decide) rfl rfl rfl (fw_X0_24 _) (fun h2 => ?_)
  refine si_iload_n 1 dX0_print_74 rfl rfl ?_
  refine si_iconst (v := 0) dX0_print_75 (by decide) ?_
  refine si_aload_n 0 dX0_print_76 rfl rfl ?_
  refine si_gR 1 10 fl_X0_34 dX0_print_77 (by decide) rfl (fun x3 => ?_)
  refine si_aN dX0_print_80 (fun x4 => ?_)
  refine si_iconst (v := 1) dX0_print_81 (by decide) ?_
  refine si_isub dX0_print_82 ?_
  refine si_csI [lvI (l1), lvI ((0 : Int32)), lvI (x4 - (1 : Int32))] dX0_print_83 rfl mc_X8_isWithin ml_X0_65 st_X8_isWithin rfl ⟨Nat.le_of_ble_eq_true rfl, Nat.le_of_ble_eq_true rfl, Nat.le_of_ble_eq_true rfl, Nat.le_of_ble_eq_true rfl⟩ (Nat.le_of_ble_eq_true rfl) (fun _ hq => ct_X8_isWithin _ _ hq) (fun q5 => ?_)
  refine si_if_eq 99 dX0_print_86 (by decide) ?_ ?_
  · exact si_vret dX0_print_99 rfl (Nat.le_of_ble_eq_true rfl) (Nat.le_of_ble_eq_true rfl)
  · refine si_aload_n 0 dX0_print_89 rfl rfl ?_
    refine si_gR 1 10 fl_X0_34 dX0_print_90 (by decide) rfl (fun x6 => ?_)
    refine si_iload_n 1 dX0_print_93 rfl rfl ?_
    refine si_dup2 dX0_print_94 rfl (cat_rf _) ?_
    refine si_ia dX0_print_95 (fun x7 => ?_)
    refine si_iload_n 2 dX0_print_96 rfl rfl ?_
    refine si_iadd dX0_print_97 ?_
    refine si_is dX0_print_98 (fun h8 => ?_)
    exact si_vret dX0_print_99 rfl (Nat.le_of_ble_eq_true rfl) (Nat.le_of_ble_eq_true rfl)
set_option maxHeartbeats 4000000 in
set_option maxRecDepth 100000 in
theorem X0_print_b44_s {E : EV} (th : Nat) (l1 : Int32) (l2 : Int32) (s0 : Int32) (h : HS) : Sim E mi_X0_print (fin oV) 0 0 44 [(0, lvR (some th)), (1, lvI (l1)), (2, lvI (l2))] [.int (s0)] h (X0_print_b44 th l1 l2 s0 h) := by
  unfold X0_print_b44
  refine si_istore_n 3 dX0_print_44 rfl (by decide) ?_
  refine si_iload_n 3 dX0_print_45 rfl rfl ?_
  refine si_if_eq 64 dX0_print_46 (by decide) ?_ ?_
  · refine si_widen 0 0 (Nat.le_of_ble_eq_true rfl) (Nat.le_of_ble_eq_true rfl) ?_
    refine si_lo [(0, lvR (some th)), (1, lvI (l1)), (2, lvI (l2))] ⟨rfl, rfl, rfl, trivial⟩ ?_
    exact X0_print_b64_s th l1 l2 _
  · refine si_aload_n 0 dX0_print_49 rfl rfl ?_
    refine si_aload_n 0 dX0_print_50 rfl rfl ?_
    refine si_gI 1 7 fl_X0_24 dX0_print_51 (by decide) rfl (fun x1 => ?_)
    refine si_iconst (v := 1) dX0_print_54 (by decide) ?_
    refine si_iadd dX0_print_55 ?_
    refine si_cvI 1 [lvI (x1 + (1 : Int32))] dX0_print_56 rfl mc_X0_isThere ml_X0_62 im_X0_isThere rfl se_X0_isThere (by decide) rfl ⟨Nat.le_of_ble_eq_true rfl, Nat.le_of_ble_eq_true rfl, Nat.le_of_ble_eq_true rfl, Nat.le_of_ble_eq_true rfl⟩ (Nat.le_of_ble_eq_true rfl) (fun _ _ hq => ct_X0_isThere _ _ hq) (fun q2 => ?_)
    refine si_if_eq 64 dX0_print_59 (by decide) ?_ ?_
    · refine si_widen 0 0 (Nat.le_of_ble_eq_true rfl) (Nat.le_of_ble_eq_true rfl) ?_
      refine si_lo [(0, lvR (some th)), (1, lvI (l1)), (2, lvI (l2))] ⟨rfl, rfl, rfl, trivial⟩ ?_
      exact X0_print_b64_s th l1 l2 _
    · refine si_iconst (v := 2) dX0_print_62 (by decide) ?_
      refine si_istore_n 2 dX0_print_63 rfl (by decide) ?_
      refine si_widen 0 0 (Nat.le_of_ble_eq_true rfl) (Nat.le_of_ble_eq_true rfl) ?_
      refine si_lo [(0, lvR (some th)), (1, lvI (l1)), (2, lvI ((2 : Int32)))] ⟨rfl, rfl, rfl, trivial⟩ ?_
      exact X0_print_b64_s th l1 ((2 : Int32)) _
set_option maxHeartbeats 4000000 in
set_option maxRecDepth 100000 in
theorem X0_print_b39_s {E : EV} (th : Nat) (l1 : Int32) (l2 : Int32) (h : HS) : Sim E mi_X0_print (fin oV) 0 0 39 [(0, lvR (some th)), (1, lvI (l1)), (2, lvI (l2))] [] h (X0_print_b39 th l1 l2 h) := by
  unfold X0_print_b39
  refine si_iconst (v := 1) dX0_print_39 (by decide) ?_
  refine si_goto 44 dX0_print_40 (by decide) ?_
  refine si_widen 0 0 (Nat.le_of_ble_eq_true rfl) (Nat.le_of_ble_eq_true rfl) ?_
  refine si_lo [(0, lvR (some th)), (1, lvI (l1)), (2, lvI (l2))] ⟨rfl, rfl, rfl, trivial⟩ ?_
  exact X0_print_b44_s th l1 l2 ((1 : Int32)) _
set_option maxHeartbeats 4000000 in
set_option maxRecDepth 100000 in
theorem s_X0_print {E : EV} (th : Nat) (a1 : Int32) (h : HS) : Sim E mi_X0_print (fin oV) 0 0 0 (largs 0 [lvR (some th), lvI a1]) [] h (m_X0_print th a1 h) := by
  unfold m_X0_print
  refine si_aload_n 0 dX0_print_0 rfl rfl ?_
  refine si_aload_n 0 dX0_print_1 rfl rfl ?_
  refine si_gI 1 7 fl_X0_24 dX0_print_2 (by decide) rfl (fun x1 => ?_)
  refine si_cvI 1 [lvI (x1)] dX0_print_5 rfl mc_X0_isThere ml_X0_62 im_X0_isThere rfl se_X0_isThere (by decide) rfl ⟨Nat.le_of_ble_eq_true rfl, Nat.le_of_ble_eq_true rfl, Nat.le_of_ble_eq_true rfl, Nat.le_of_ble_eq_true rfl⟩ (Nat.le_of_ble_eq_true rfl) (fun _ _ hq => ct_X0_isThere _ _ hq) (fun q2 => ?_)
  refine si_if_ne 12 dX0_print_8 (by decide) ?_ ?_
  · exact si_vret dX0_print_11 rfl (Nat.le_of_ble_eq_true rfl) (Nat.le_of_ble_eq_true rfl)
  · refine si_iconst (v := 1) dX0_print_12 (by decide) ?_
    refine si_istore_n 2 dX0_print_13 rfl (by decide) ?_
    refine si_aload_n 0 dX0_print_14 rfl rfl ?_
    refine si_gR 1 1 fl_X0_42 dX0_print_15 (by decide) rfl (fun x4 => ?_)
    refine si_gI 2 7 fl_X0_53 dX0_print_18 (by decide) rfl (fun x5 => ?_)
    refine si_if_eq 39 dX0_print_21 (by decide) ?_ ?_
    · refine si_widen 0 0 (Nat.le_of_ble_eq_true rfl) (Nat.le_of_ble_eq_true rfl) ?_
      refine si_lo [(0, lvR (some th)), (1, lvI (a1)), (2, lvI ((1 : Int32)))] ⟨rfl, rfl, rfl, trivial⟩ ?_
      exact X0_print_b39_s th a1 ((1 : Int32)) _
    · refine si_aload_n 0 dX0_print_24 rfl rfl ?_
      refine si_gI 1 7 fl_X0_24 dX0_print_25 (by decide) rfl (fun x6 => ?_)
      refine si_iconst (v := 1) dX0_print_28 (by decide) ?_
      refine si_iadd dX0_print_29 ?_
      refine si_aload_n 0 dX0_print_30 rfl rfl ?_
      refine si_gI 1 6 fl_X0_21 dX0_print_31 (by decide) rfl (fun x7 => ?_)
      refine si_iconst (v := 1) dX0_print_34 (by decide) ?_
      refine si_isub dX0_print_35 ?_
      refine si_icmp_ge 43 dX0_print_36 (by decide) ?_ ?_
      · refine si_iconst (v := 0) dX0_print_43 (by decide) ?_
        refine si_widen 0 0 (Nat.le_of_ble_eq_true rfl) (Nat.le_of_ble_eq_true rfl) ?_
        refine si_lo [(0, lvR (some th)), (1, lvI (a1)), (2, lvI ((1 : Int32)))] ⟨rfl, rfl, rfl, trivial⟩ ?_
        exact X0_print_b44_s th a1 ((1 : Int32)) ((0 : Int32)) _
      · refine si_widen 0 0 (Nat.le_of_ble_eq_true rfl) (Nat.le_of_ble_eq_true rfl) ?_
        refine si_lo [(0, lvR (some th)), (1, lvI (a1)), (2, lvI ((1 : Int32)))] ⟨rfl, rfl, rfl, trivial⟩ ?_
        exact X0_print_b39_s th a1 ((1 : Int32)) _
theorem ct_X0_print (l : Launch) (G : GG) {th : Nat} {a1 : Int32} {h : HS} {q : HS} (hq : m_X0_print th a1 h = some q) : Ct l yX0_print mi_X0_print G [lvR (some th), lvI a1] h (oV q) := Ct.of (out := oV) (by decide +kernel) rfl rfl (Nat.le_of_ble_eq_true rfl) hq (fun _ _ _ _ _ _ _ _ => s_X0_print th a1 h)
set_option maxHeartbeats 4000000 in
set_option maxRecDepth 100000 in
theorem s_X0_printedIn {E : EV} (th : Nat) (a1 : Int32) (h : HS) : Sim E mi_X0_printedIn (fin oI) 0 0 0 (largs 0 [lvR (some th), lvI a1]) [] h (m_X0_printedIn th a1 h) := by
  unfold m_X0_printedIn
  refine si_iload_n 1 dX0_printedIn_0 rfl rfl ?_
  refine si_iconst (v := 0) dX0_printedIn_1 (by decide) ?_
  refine si_aload_n 0 dX0_printedIn_2 rfl rfl ?_
  refine si_gR 1 10 fl_X0_34 dX0_printedIn_3 (by decide) rfl (fun x1 => ?_)
  refine si_aN dX0_printedIn_6 (fun x2 => ?_)
  refine si_iconst (v := 1) dX0_printedIn_7 (by decide) ?_
  refine si_isub dX0_printedIn_8 ?_
  refine si_csI [lvI (a1), lvI ((0 : Int32)), lvI (x2 - (1 : Int32))] dX0_printedIn_9 rfl mc_X8_isWithin ml_X0_65 st_X8_isWithin rfl ⟨Nat.le_of_ble_eq_true rfl, Nat.le_of_ble_eq_true rfl, Nat.le_of_ble_eq_true rfl, Nat.le_of_ble_eq_true rfl⟩ (Nat.le_of_ble_eq_true rfl) (fun _ hq => ct_X8_isWithin _ _ hq) (fun q3 => ?_)
  refine si_if_eq 24 dX0_printedIn_12 (by decide) ?_ ?_
  · refine si_iconst (v := 0) dX0_printedIn_24 (by decide) ?_
    exact si_iret dX0_printedIn_25 rfl (Nat.le_of_ble_eq_true rfl) (Nat.le_of_ble_eq_true rfl)
  · refine si_aload_n 0 dX0_printedIn_15 rfl rfl ?_
    refine si_gR 1 10 fl_X0_34 dX0_printedIn_16 (by decide) rfl (fun x4 => ?_)
    refine si_iload_n 1 dX0_printedIn_19 rfl rfl ?_
    refine si_ia dX0_printedIn_20 (fun x5 => ?_)
    refine si_goto 25 dX0_printedIn_21 (by decide) ?_
    exact si_iret dX0_printedIn_25 rfl (Nat.le_of_ble_eq_true rfl) (Nat.le_of_ble_eq_true rfl)
theorem ct_X0_printedIn (l : Launch) (G : GG) {th : Nat} {a1 : Int32} {h : HS} {q : Int32 × HS} (hq : m_X0_printedIn th a1 h = some q) : Ct l yX0_printedIn mi_X0_printedIn G [lvR (some th), lvI a1] h (oI q) := Ct.of (out := oI) (by decide +kernel) rfl rfl (Nat.le_of_ble_eq_true rfl) hq (fun _ _ _ _ _ _ _ _ => s_X0_printedIn th a1 h)
set_option maxHeartbeats 4000000 in
set_option maxRecDepth 100000 in
theorem s_X0_nextPanel {E : EV} (th : Nat) (h : HS) : Sim E mi_X0_nextPanel (fin oI) 0 0 0 (largs 0 [lvR (some th)]) [] h (m_X0_nextPanel th h) := by
  unfold m_X0_nextPanel
  refine si_aload_n 0 dX0_nextPanel_0 rfl rfl ?_
  refine si_gI 1 6 fl_X0_21 dX0_nextPanel_1 (by decide) rfl (fun x1 => ?_)
  refine si_if_ne 11 dX0_nextPanel_4 (by decide) ?_ ?_
  · refine si_iconst (v := -1) dX0_nextPanel_7 (by decide) ?_
    refine si_goto 20 dX0_nextPanel_8 (by decide) ?_
    exact si_iret dX0_nextPanel_20 rfl (Nat.le_of_ble_eq_true rfl) (Nat.le_of_ble_eq_true rfl)
  · refine si_aload_n 0 dX0_nextPanel_11 rfl rfl ?_
    refine si_gI 1 5 fl_X0_18 dX0_nextPanel_12 (by decide) rfl (fun x2 => ?_)
    refine si_aload_n 0 dX0_nextPanel_15 rfl rfl ?_
    refine si_gI 1 7 fl_X0_24 dX0_nextPanel_16 (by decide) rfl (fun x3 => ?_)
    refine si_iadd dX0_nextPanel_19 ?_
    exact si_iret dX0_nextPanel_20 rfl (Nat.le_of_ble_eq_true rfl) (Nat.le_of_ble_eq_true rfl)
theorem ct_X0_nextPanel (l : Launch) (G : GG) {th : Nat} {h : HS} {q : Int32 × HS} (hq : m_X0_nextPanel th h = some q) : Ct l yX0_nextPanel mi_X0_nextPanel G [lvR (some th)] h (oI q) := Ct.of (out := oI) (by decide +kernel) rfl rfl (Nat.le_of_ble_eq_true rfl) hq (fun _ _ _ _ _ _ _ _ => s_X0_nextPanel th h)
set_option maxHeartbeats 4000000 in
set_option maxRecDepth 100000 in
theorem s_X0_gap {E : EV} (th : Nat) (h : HS) : Sim E mi_X0_gap (fin oI) 0 0 0 (largs 0 [lvR (some th)]) [] h (m_X0_gap th h) := by
  unfold m_X0_gap
  refine si_aload_n 0 dX0_gap_0 rfl rfl ?_
  refine si_gI 1 6 fl_X0_21 dX0_gap_1 (by decide) rfl (fun x1 => ?_)
  refine si_aload_n 0 dX0_gap_4 rfl rfl ?_
  refine si_gI 1 7 fl_X0_24 dX0_gap_5 (by decide) rfl (fun x2 => ?_)
  refine si_isub dX0_gap_8 ?_
  exact si_iret dX0_gap_9 rfl (Nat.le_of_ble_eq_true rfl) (Nat.le_of_ble_eq_true rfl)
theorem ct_X0_gap (l : Launch) (G : GG) {th : Nat} {h : HS} {q : Int32 × HS} (hq : m_X0_gap th h = some q) : Ct l yX0_gap mi_X0_gap G [lvR (some th)] h (oI q) := Ct.of (out := oI) (by decide +kernel) rfl rfl (Nat.le_of_ble_eq_true rfl) hq (fun _ _ _ _ _ _ _ _ => s_X0_gap th h)
set_option maxHeartbeats 4000000 in
set_option maxRecDepth 100000 in
theorem X0_missing_b26_s {E : EV} (th : Nat) (go7 : Int32 → Int32 → HS → Option (Int32 × HS)) (hg7 : ∀ (l1 : Int32) (l2 : Int32) (h : HS), Sim E mi_X0_missing (fin oI) 0 0 7 [(0, lvR (some th)), (1, lvI (l1)), (2, lvI (l2))] [] h (go7 l1 l2 h)) (l1 : Int32) (l2 : Int32) (h : HS) : Sim E mi_X0_missing (fin oI) 0 0 26 [(0, lvR (some th)), (1, lvI (l1)), (2, lvI (l2))] [] h (X0_missing_b26 th go7 l1 l2 h) := by
  unfold X0_missing_b26
  refine si_iinc 2 (1) dX0_missing_26 rfl (by decide) (by decide) ?_
  refine si_goto 7 dX0_missing_29 (by decide) ?_
  refine si_widen 0 0 (Nat.le_of_ble_eq_true rfl) (Nat.le_of_ble_eq_true rfl) ?_
  refine si_lo [(0, lvR (some th)), (1, lvI (l1)), (2, lvI (l2 + (1)))] ⟨rfl, rfl, rfl, trivial⟩ ?_
  exact hg7 l1 (l2 + (1)) _
set_option maxHeartbeats 4000000 in
set_option maxRecDepth 100000 in
theorem X0_missing_L7_s {E : EV} (th : Nat) (n : Nat) : ∀ (l1 : Int32) (l2 : Int32) (h : HS), Sim E mi_X0_missing (fin oI) 0 0 7 [(0, lvR (some th)), (1, lvI (l1)), (2, lvI (l2))] [] h (X0_missing_L7 th n l1 l2 h) := by
  induction n with
  | zero => intro l1 l2 h; exact si_none
  | succ n ih =>
    intro l1 l2 h
    unfold X0_missing_L7
    refine si_iload_n 2 dX0_missing_7 rfl rfl ?_
    refine si_aload_n 0 dX0_missing_8 rfl rfl ?_
    refine si_gI 1 6 fl_X0_21 dX0_missing_9 (by decide) rfl (fun x1 => ?_)
    refine si_icmp_ge 32 dX0_missing_12 (by decide) ?_ ?_
    · refine si_iload_n 1 dX0_missing_32 rfl rfl ?_
      exact si_iret dX0_missing_33 rfl (Nat.le_of_ble_eq_true rfl) (Nat.le_of_ble_eq_true rfl)
    · refine si_aload_n 0 dX0_missing_15 rfl rfl ?_
      refine si_iload_n 2 dX0_missing_16 rfl rfl ?_
      refine si_cvI 1 [lvI (l2)] dX0_missing_17 rfl mc_X0_isThere ml_X0_62 im_X0_isThere rfl se_X0_isThere (by decide) rfl ⟨Nat.le_of_ble_eq_true rfl, Nat.le_of_ble_eq_true rfl, Nat.le_of_ble_eq_true rfl, Nat.le_of_ble_eq_true rfl⟩ (Nat.le_of_ble_eq_true rfl) (fun _ _ hq => ct_X0_isThere _ _ hq) (fun q2 => ?_)
      refine si_if_ne 26 dX0_missing_20 (by decide) ?_ ?_
      · refine si_iinc 1 (1) dX0_missing_23 rfl (by decide) (by decide) ?_
        refine si_widen 0 0 (Nat.le_of_ble_eq_true rfl) (Nat.le_of_ble_eq_true rfl) ?_
        refine si_lo [(0, lvR (some th)), (1, lvI (l1 + (1))), (2, lvI (l2))] ⟨rfl, rfl, rfl, trivial⟩ ?_
        exact X0_missing_b26_s th (X0_missing_L7 th n) ih (l1 + (1)) l2 _
      · refine si_widen 0 0 (Nat.le_of_ble_eq_true rfl) (Nat.le_of_ble_eq_true rfl) ?_
        refine si_lo [(0, lvR (some th)), (1, lvI (l1)), (2, lvI (l2))] ⟨rfl, rfl, rfl, trivial⟩ ?_
        exact X0_missing_b26_s th (X0_missing_L7 th n) ih l1 l2 _
set_option maxHeartbeats 4000000 in
set_option maxRecDepth 100000 in
theorem s_X0_missing {E : EV} (th : Nat) (h : HS) : Sim E mi_X0_missing (fin oI) 0 0 0 (largs 0 [lvR (some th)]) [] h (m_X0_missing th h) := by
  unfold m_X0_missing
  refine si_iconst (v := 0) dX0_missing_0 (by decide) ?_
  refine si_istore_n 1 dX0_missing_1 rfl (by decide) ?_
  refine si_aload_n 0 dX0_missing_2 rfl rfl ?_
  refine si_gI 1 7 fl_X0_24 dX0_missing_3 (by decide) rfl (fun x1 => ?_)
  refine si_istore_n 2 dX0_missing_6 rfl (by decide) ?_
  refine si_widen 0 0 (Nat.le_of_ble_eq_true rfl) (Nat.le_of_ble_eq_true rfl) ?_
  refine si_lo [(0, lvR (some th)), (1, lvI ((0 : Int32))), (2, lvI (x1))] ⟨rfl, rfl, rfl, trivial⟩ ?_
  exact X0_missing_L7_s th FU ((0 : Int32)) x1 _
theorem ct_X0_missing (l : Launch) (G : GG) {th : Nat} {h : HS} {q : Int32 × HS} (hq : m_X0_missing th h = some q) : Ct l yX0_missing mi_X0_missing G [lvR (some th)] h (oI q) := Ct.of (out := oI) (by decide +kernel) rfl rfl (Nat.le_of_ble_eq_true rfl) hq (fun _ _ _ _ _ _ _ _ => s_X0_missing th h)
set_option maxHeartbeats 4000000 in
set_option maxRecDepth 100000 in
theorem X0_sendAgain_L9_s {E : EV} (th : Nat) (n : Nat) : ∀ (l1 : Int32) (h : HS), Sim E mi_X0_sendAgain (fin oI) 0 0 9 [(0, lvR (some th)), (1, lvI (l1))] [] h (X0_sendAgain_L9 th n l1 h) := by
  induction n with
  | zero => intro l1 h; exact si_none
  | succ n ih =>
    intro l1 h
    unfold X0_sendAgain_L9
    refine si_iload_n 1 dX0_sendAgain_9 rfl rfl ?_
    refine si_aload_n 0 dX0_sendAgain_10 rfl rfl ?_
    refine si_gI 1 6 fl_X0_21 dX0_sendAgain_11 (by decide) rfl (fun x1 => ?_)
    refine si_icmp_ge 55 dX0_sendAgain_14 (by decide) ?_ ?_
    · refine si_iconst (v := -1) dX0_sendAgain_55 (by decide) ?_
      exact si_iret dX0_sendAgain_56 rfl (Nat.le_of_ble_eq_true rfl) (Nat.le_of_ble_eq_true rfl)
    · refine si_iload_n 1 dX0_sendAgain_17 rfl rfl ?_
      refine si_aload_n 0 dX0_sendAgain_18 rfl rfl ?_
      refine si_gR 1 9 fl_X0_30 dX0_sendAgain_19 (by decide) rfl (fun x2 => ?_)
      refine si_aN dX0_sendAgain_22 (fun x3 => ?_)
      refine si_icmp_ge 55 dX0_sendAgain_23 (by decide) ?_ ?_
      · refine si_iconst (v := -1) dX0_sendAgain_55 (by decide) ?_
        exact si_iret dX0_sendAgain_56 rfl (Nat.le_of_ble_eq_true rfl) (Nat.le_of_ble_eq_true rfl)
      · refine si_aload_n 0 dX0_sendAgain_26 rfl rfl ?_
        refine si_gR 1 9 fl_X0_30 dX0_sendAgain_27 (by decide) rfl (fun x4 => ?_)
        refine si_iload_n 1 dX0_sendAgain_30 rfl rfl ?_
        refine si_za dX0_sendAgain_31 (fun x5 => ?_)
        refine si_if_ne 49 dX0_sendAgain_32 (by decide) ?_ ?_
        · refine si_aload_n 0 dX0_sendAgain_35 rfl rfl ?_
          refine si_gR 1 9 fl_X0_30 dX0_sendAgain_36 (by decide) rfl (fun x6 => ?_)
          refine si_iload_n 1 dX0_sendAgain_39 rfl rfl ?_
          refine si_iconst (v := 1) dX0_sendAgain_40 (by decide) ?_
          refine si_zs dX0_sendAgain_41 (fun h7 => ?_)
          refine si_aload_n 0 dX0_sendAgain_42 rfl rfl ?_
          refine si_gI 1 5 fl_X0_18 dX0_sendAgain_43 (by decide) rfl (fun x8 => ?_)
          refine si_iload_n 1 dX0_sendAgain_46 rfl rfl ?_
          refine si_iadd dX0_sendAgain_47 ?_
          exact si_iret dX0_sendAgain_48 rfl (Nat.le_of_ble_eq_true rfl) (Nat.le_of_ble_eq_true rfl)
        · refine si_iinc 1 (1) dX0_sendAgain_49 rfl (by decide) (by decide) ?_
          refine si_goto 9 dX0_sendAgain_52 (by decide) ?_
          refine si_widen 0 0 (Nat.le_of_ble_eq_true rfl) (Nat.le_of_ble_eq_true rfl) ?_
          refine si_lo [(0, lvR (some th)), (1, lvI (l1 + (1)))] ⟨rfl, rfl, trivial⟩ ?_
          exact ih (l1 + (1)) _
set_option maxHeartbeats 4000000 in
set_option maxRecDepth 100000 in
theorem s_X0_sendAgain {E : EV} (th : Nat) (h : HS) : Sim E mi_X0_sendAgain (fin oI) 0 0 0 (largs 0 [lvR (some th)]) [] h (m_X0_sendAgain th h) := by
  unfold m_X0_sendAgain
  refine si_aload_n 0 dX0_sendAgain_0 rfl rfl ?_
  refine si_gI 1 7 fl_X0_24 dX0_sendAgain_1 (by decide) rfl (fun x1 => ?_)
  refine si_iconst (v := 0) dX0_sendAgain_4 (by decide) ?_
  refine si_mmax dX0_sendAgain_5 mm_X0_69 (Nat.le_of_ble_eq_true rfl) (Nat.le_of_ble_eq_true rfl) (Nat.le_of_ble_eq_true rfl) (Nat.le_of_ble_eq_true rfl) ?_
  refine si_istore_n 1 dX0_sendAgain_8 rfl (by decide) ?_
  refine si_widen 0 0 (Nat.le_of_ble_eq_true rfl) (Nat.le_of_ble_eq_true rfl) ?_
  refine si_lo [(0, lvR (some th)), (1, lvI ((if x1 < (0 : Int32) then (0 : Int32) else x1)))] ⟨rfl, rfl, trivial⟩ ?_
  exact X0_sendAgain_L9_s th FU ((if x1 < (0 : Int32) then (0 : Int32) else x1)) _
theorem ct_X0_sendAgain (l : Launch) (G : GG) {th : Nat} {h : HS} {q : Int32 × HS} (hq : m_X0_sendAgain th h = some q) : Ct l yX0_sendAgain mi_X0_sendAgain G [lvR (some th)] h (oI q) := Ct.of (out := oI) (by decide +kernel) rfl rfl (Nat.le_of_ble_eq_true rfl) hq (fun _ _ _ _ _ _ _ _ => s_X0_sendAgain th h)
set_option maxHeartbeats 4000000 in
set_option maxRecDepth 100000 in
theorem s_X0_addBill {E : EV} (th : Nat) (a1 : Int32) (h : HS) : Sim E mi_X0_addBill (fin oV) 0 0 0 (largs 0 [lvR (some th), lvI a1]) [] h (m_X0_addBill th a1 h) := by
  unfold m_X0_addBill
  refine si_aload_n 0 dX0_addBill_0 rfl rfl ?_
  refine si_dup dX0_addBill_1 (cat_rf _) ?_
  refine si_gI 1 8 fl_X0_27 dX0_addBill_2 (by decide) rfl (fun x1 => ?_)
  refine si_iload_n 1 dX0_addBill_5 rfl rfl ?_
  refine si_iadd dX0_addBill_6 ?_
  refine si_pI 1 8 fl_X0_27 dX0_addBill_7 (by decide) rfl rfl rfl (fw_X0_27 _) (fun h2 => ?_)
  refine si_aload_n 0 dX0_addBill_10 rfl rfl ?_
  refine si_gR 1 1 fl_X0_42 dX0_addBill_11 (by decide) rfl (fun x3 => ?_)
  refine si_dup dX0_addBill_14 (cat_rf _) ?_
  refine si_gI 2 8 fl_X0_75 dX0_addBill_15 (by decide) rfl (fun x4 => ?_)
  refine si_iload_n 1 dX0_addBill_18 rfl rfl ?_
  refine si_iadd dX0_addBill_19 ?_
  refine si_pI 2 8 fl_X0_75 dX0_addBill_20 (by decide) rfl rfl rfl (fw_X0_75 _) (fun h5 => ?_)
  exact si_vret dX0_addBill_23 rfl (Nat.le_of_ble_eq_true rfl) (Nat.le_of_ble_eq_true rfl)
theorem ct_X0_addBill (l : Launch) (G : GG) {th : Nat} {a1 : Int32} {h : HS} {q : HS} (hq : m_X0_addBill th a1 h = some q) : Ct l yX0_addBill mi_X0_addBill G [lvR (some th), lvI a1] h (oV q) := Ct.of (out := oV) (by decide +kernel) rfl rfl (Nat.le_of_ble_eq_true rfl) hq (fun _ _ _ _ _ _ _ _ => s_X0_addBill th a1 h)
set_option maxHeartbeats 4000000 in
set_option maxRecDepth 100000 in
theorem s_X1_init {E : EV} (th : Nat) (a1 : Int32) (a2 : Int32) (a3 : Int32) (a4 : Int32) (a5 : Int32) (a6 : Int32) (h : HS) : Sim E mi_X1_init (fin oV) 0 0 0 (largs 0 [lvR (some th), lvI a1, lvI a2, lvI a3, lvI a4, lvI a5, lvI a6]) [] h (m_X1_init th a1 a2 a3 a4 a5 a6 h) := by
  unfold m_X1_init
  refine si_aload_n 0 dX1_init_0 rfl rfl ?_
  refine si_obj dX1_init_1 ob_X1_3 (Nat.le_of_ble_eq_true rfl) (Nat.le_of_ble_eq_true rfl) ?_
  refine si_aload_n 0 dX1_init_4 rfl rfl ?_
  refine si_iconst (v := 3) dX1_init_5 (by decide) ?_
  refine si_newa 3 201 dX1_init_6 rfl (by decide) ac_201 (by decide) (Nat.le_of_ble_eq_true rfl) (Nat.le_of_ble_eq_true rfl) (fun q1 => ?_)
  refine si_pR 2 3 fl_X1_9 dX1_init_8 (by decide) rfl fwi_X1_9 (fun h2 => ?_)
  refine si_aload_n 0 dX1_init_11 rfl rfl ?_
  refine si_iconst (v := 0) dX1_init_12 (by decide) ?_
  refine si_pB 2 4 fl_X1_15 dX1_init_13 (by decide) rfl rfl (fw_X1_15 _) (fun h3 => ?_)
  refine si_aload_n 0 dX1_init_16 rfl rfl ?_
  refine si_iconst (v := 0) dX1_init_17 (by decide) ?_
  refine si_pI 2 5 fl_X1_19 dX1_init_18 (by decide) rfl rfl rfl (fw_X1_19 _) (fun h4 => ?_)
  refine si_aload_n 0 dX1_init_21 rfl rfl ?_
  refine si_iconst (v := 0) dX1_init_22 (by decide) ?_
  refine si_pI 2 6 fl_X1_23 dX1_init_23 (by decide) rfl rfl rfl (fw_X1_23 _) (fun h5 => ?_)
  refine si_aload_n 0 dX1_init_26 rfl rfl ?_
  refine si_iconst (v := 0) dX1_init_27 (by decide) ?_
  refine si_pB 2 7 fl_X1_26 dX1_init_28 (by decide) rfl rfl (fw_X1_26 _) (fun h6 => ?_)
  refine si_aload_n 0 dX1_init_31 rfl rfl ?_
  refine si_iconst (v := 0) dX1_init_32 (by decide) ?_
  refine si_pI 2 8 fl_X1_29 dX1_init_33 (by decide) rfl rfl rfl (fw_X1_29 _) (fun h7 => ?_)
  refine si_aload_n 0 dX1_init_36 rfl rfl ?_
  refine si_iload_n 1 dX1_init_37 rfl rfl ?_
  refine si_pI 2 0 fl_X1_32 dX1_init_38 (by decide) rfl rfl rfl fwi_X1_32 (fun h8 => ?_)
  refine si_aload_n 0 dX1_init_41 rfl rfl ?_
  refine si_iload_n 2 dX1_init_42 rfl rfl ?_
  refine si_pI 2 1 fl_X1_35 dX1_init_43 (by decide) rfl rfl rfl fwi_X1_35 (fun h9 => ?_)
  refine si_aload_n 0 dX1_init_46 rfl rfl ?_
  refine si_iload_n 3 dX1_init_47 rfl rfl ?_
  refine si_pI 2 2 fl_X1_38 dX1_init_48 (by decide) rfl rfl rfl fwi_X1_38 (fun h10 => ?_)
  refine si_aload_n 0 dX1_init_51 rfl rfl ?_
  refine si_gR 2 3 fl_X1_9 dX1_init_52 (by decide) rfl (fun x11 => ?_)
  refine si_iconst (v := 0) dX1_init_55 (by decide) ?_
  refine si_iload 4 dX1_init_56 rfl ?_
  refine si_is dX1_init_58 (fun h12 => ?_)
  refine si_aload_n 0 dX1_init_59 rfl rfl ?_
  refine si_gR 2 3 fl_X1_9 dX1_init_60 (by decide) rfl (fun x13 => ?_)
  refine si_iconst (v := 1) dX1_init_63 (by decide) ?_
  refine si_iload 5 dX1_init_64 rfl ?_
  refine si_is dX1_init_66 (fun h14 => ?_)
  refine si_aload_n 0 dX1_init_67 rfl rfl ?_
  refine si_gR 2 3 fl_X1_9 dX1_init_68 (by decide) rfl (fun x15 => ?_)
  refine si_iconst (v := 2) dX1_init_71 (by decide) ?_
  refine si_iload 6 dX1_init_72 rfl ?_
  refine si_is dX1_init_74 (fun h16 => ?_)
  exact si_vret dX1_init_75 rfl (Nat.le_of_ble_eq_true rfl) (Nat.le_of_ble_eq_true rfl)
theorem ct_X1_init (l : Launch) (G : GG) {th : Nat} {a1 : Int32} {a2 : Int32} {a3 : Int32} {a4 : Int32} {a5 : Int32} {a6 : Int32} {h : HS} {q : HS} (hq : m_X1_init th a1 a2 a3 a4 a5 a6 h = some q) : Ct l yX1_init mi_X1_init G [lvR (some th), lvI a1, lvI a2, lvI a3, lvI a4, lvI a5, lvI a6] h (oV q) := Ct.of (out := oV) (by decide +kernel) rfl rfl (Nat.le_of_ble_eq_true rfl) hq (fun _ _ _ _ _ _ _ _ => s_X1_init th a1 a2 a3 a4 a5 a6 h)
set_option maxHeartbeats 4000000 in
set_option maxRecDepth 100000 in
theorem X1_draw_b21_s {E : EV} (th : Nat) (s1 : Int32) (s0 : Option Nat) (h : HS) : Sim E mi_X1_draw (fin oV) 0 0 21 [(0, lvR (some th))] [.int (s1), va_rf (s0)] h (X1_draw_b21 th s1 s0 h) := by
  unfold X1_draw_b21
  refine si_pB 2 7 fl_X1_26 dX1_draw_21 (by decide) rfl rfl (fw_X1_26 _) (fun h1 => ?_)
  refine si_aload_n 0 dX1_draw_24 rfl rfl ?_
  refine si_gI 2 7 fl_X1_26 dX1_draw_25 (by decide) rfl (fun x2 => ?_)
  refine si_if_eq 41 dX1_draw_28 (by decide) ?_ ?_
  · exact si_vret dX1_draw_41 rfl (Nat.le_of_ble_eq_true rfl) (Nat.le_of_ble_eq_true rfl)
  · refine si_aload_n 0 dX1_draw_31 rfl rfl ?_
    refine si_dup dX1_draw_32 (cat_rf _) ?_
    refine si_gI 2 6 fl_X1_23 dX1_draw_33 (by decide) rfl (fun x3 => ?_)
    refine si_iconst (v := 1) dX1_draw_36 (by decide) ?_
    refine si_iadd dX1_draw_37 ?_
    refine si_pI 2 6 fl_X1_23 dX1_draw_38 (by decide) rfl rfl rfl (fw_X1_23 _) (fun h4 => ?_)
    exact si_vret dX1_draw_41 rfl (Nat.le_of_ble_eq_true rfl) (Nat.le_of_ble_eq_true rfl)
set_option maxHeartbeats 4000000 in
set_option maxRecDepth 100000 in
theorem X1_draw_b20_s {E : EV} (th : Nat) (s0 : Option Nat) (h : HS) : Sim E mi_X1_draw (fin oV) 0 0 20 [(0, lvR (some th))] [va_rf (s0)] h (X1_draw_b20 th s0 h) := by
  unfold X1_draw_b20
  refine si_iconst (v := 0) dX1_draw_20 (by decide) ?_
  refine si_widen 0 0 (Nat.le_of_ble_eq_true rfl) (Nat.le_of_ble_eq_true rfl) ?_
  refine si_lo [(0, lvR (some th))] ⟨rfl, trivial⟩ ?_
  exact X1_draw_b21_s th ((0 : Int32)) s0 _
set_option maxHeartbeats 4000000 in
set_option maxRecDepth 100000 in
theorem s_X1_draw {E : EV} (th : Nat) (a1 : Int32) (h : HS) : Sim E mi_X1_draw (fin oV) 0 0 0 (largs 0 [lvR (some th), lvI a1]) [] h (m_X1_draw th a1 h) := by
  unfold m_X1_draw
  refine si_aload_n 0 dX1_draw_0 rfl rfl ?_
  refine si_aload_n 0 dX1_draw_1 rfl rfl ?_
  refine si_gI 2 4 fl_X1_15 dX1_draw_2 (by decide) rfl (fun x1 => ?_)
  refine si_if_ne 20 dX1_draw_5 (by decide) ?_ ?_
  · refine si_iload_n 1 dX1_draw_8 rfl rfl ?_
    refine si_aload_n 0 dX1_draw_9 rfl rfl ?_
    refine si_gI 2 5 fl_X1_19 dX1_draw_10 (by decide) rfl (fun x2 => ?_)
    refine si_icmp_le 20 dX1_draw_13 (by decide) ?_ ?_
    · refine si_widen 0 0 (Nat.le_of_ble_eq_true rfl) (Nat.le_of_ble_eq_true rfl) ?_
      refine si_lo [(0, lvR (some th))] ⟨rfl, trivial⟩ ?_
      exact X1_draw_b20_s th (some th) _
    · refine si_iconst (v := 1) dX1_draw_16 (by decide) ?_
      refine si_goto 21 dX1_draw_17 (by decide) ?_
      refine si_widen 0 0 (Nat.le_of_ble_eq_true rfl) (Nat.le_of_ble_eq_true rfl) ?_
      refine si_lo [(0, lvR (some th))] ⟨rfl, trivial⟩ ?_
      exact X1_draw_b21_s th ((1 : Int32)) (some th) _
  · refine si_widen 0 0 (Nat.le_of_ble_eq_true rfl) (Nat.le_of_ble_eq_true rfl) ?_
    refine si_lo [(0, lvR (some th))] ⟨rfl, trivial⟩ ?_
    exact X1_draw_b20_s th (some th) _
theorem ct_X1_draw (l : Launch) (G : GG) {th : Nat} {a1 : Int32} {h : HS} {q : HS} (hq : m_X1_draw th a1 h = some q) : Ct l yX1_draw mi_X1_draw G [lvR (some th), lvI a1] h (oV q) := Ct.of (out := oV) (by decide +kernel) rfl rfl (Nat.le_of_ble_eq_true rfl) hq (fun _ _ _ _ _ _ _ _ => s_X1_draw th a1 h)
set_option maxHeartbeats 4000000 in
set_option maxRecDepth 100000 in
theorem X1_allShares_L4_s {E : EV} (th : Nat) (n : Nat) : ∀ (l1 : Int64) (l3 : Int32) (h : HS), Sim E mi_X1_allShares (fin oL) 0 0 4 [(0, lvR (some th)), (1, lvJ (l1)), (3, lvI (l3))] [] h (X1_allShares_L4 th n l1 l3 h) := by
  induction n with
  | zero => intro l1 l3 h; exact si_none
  | succ n ih =>
    intro l1 l3 h
    unfold X1_allShares_L4
    refine si_iload_n 3 dX1_allShares_4 rfl rfl ?_
    refine si_aload_n 0 dX1_allShares_5 rfl rfl ?_
    refine si_gR 2 3 fl_X1_9 dX1_allShares_6 (by decide) rfl (fun x1 => ?_)
    refine si_aN dX1_allShares_9 (fun x2 => ?_)
    refine si_icmp_ge 29 dX1_allShares_10 (by decide) ?_ ?_
    · refine si_lload_n 1 dX1_allShares_29 rfl rfl ?_
      exact si_lret dX1_allShares_30 rfl (Nat.le_of_ble_eq_true rfl) (Nat.le_of_ble_eq_true rfl)
    · refine si_lload_n 1 dX1_allShares_13 rfl rfl ?_
      refine si_aload_n 0 dX1_allShares_14 rfl rfl ?_
      refine si_gR 2 3 fl_X1_9 dX1_allShares_15 (by decide) rfl (fun x3 => ?_)
      refine si_iload_n 3 dX1_allShares_18 rfl rfl ?_
      refine si_ia dX1_allShares_19 (fun x4 => ?_)
      refine si_i2l dX1_allShares_20 ?_
      refine si_ladd dX1_allShares_21 ?_
      refine si_lstore_n 1 dX1_allShares_22 rfl (by decide) ?_
      refine si_iinc 3 (1) dX1_allShares_23 rfl (by decide) (by decide) ?_
      refine si_goto 4 dX1_allShares_26 (by decide) ?_
      refine si_widen 0 0 (Nat.le_of_ble_eq_true rfl) (Nat.le_of_ble_eq_true rfl) ?_
      refine si_lo [(0, lvR (some th)), (1, lvJ (l1 + x4.toInt64)), (3, lvI (l3 + (1)))] ⟨rfl, rfl, rfl, trivial⟩ ?_
      exact ih (l1 + x4.toInt64) (l3 + (1)) _
set_option maxHeartbeats 4000000 in
set_option maxRecDepth 100000 in
theorem s_X1_allShares {E : EV} (th : Nat) (h : HS) : Sim E mi_X1_allShares (fin oL) 0 0 0 (largs 0 [lvR (some th)]) [] h (m_X1_allShares th h) := by
  unfold m_X1_allShares
  refine si_lconst (v := 0) dX1_allShares_0 (by decide) ?_
  refine si_lstore_n 1 dX1_allShares_1 rfl (by decide) ?_
  refine si_iconst (v := 0) dX1_allShares_2 (by decide) ?_
  refine si_istore_n 3 dX1_allShares_3 rfl (by decide) ?_
  refine si_widen 0 0 (Nat.le_of_ble_eq_true rfl) (Nat.le_of_ble_eq_true rfl) ?_
  refine si_lo [(0, lvR (some th)), (1, lvJ ((0 : Int64))), (3, lvI ((0 : Int32)))] ⟨rfl, rfl, rfl, trivial⟩ ?_
  exact X1_allShares_L4_s th FU ((0 : Int64)) ((0 : Int32)) _
theorem ct_X1_allShares (l : Launch) (G : GG) {th : Nat} {h : HS} {q : Int64 × HS} (hq : m_X1_allShares th h = some q) : Ct l yX1_allShares mi_X1_allShares G [lvR (some th)] h (oL q) := Ct.of (out := oL) (by decide +kernel) rfl rfl (Nat.le_of_ble_eq_true rfl) hq (fun _ _ _ _ _ _ _ _ => s_X1_allShares th h)
set_option maxHeartbeats 4000000 in
set_option maxRecDepth 100000 in
theorem s_X1_shareOf {E : EV} (th : Nat) (a1 : Int32) (h : HS) : Sim E mi_X1_shareOf (fin oI) 0 0 0 (largs 0 [lvR (some th), lvI a1]) [] h (m_X1_shareOf th a1 h) := by
  unfold m_X1_shareOf
  refine si_iload_n 1 dX1_shareOf_0 rfl rfl ?_
  refine si_iconst (v := 0) dX1_shareOf_1 (by decide) ?_
  refine si_aload_n 0 dX1_shareOf_2 rfl rfl ?_
  refine si_gR 2 3 fl_X1_9 dX1_shareOf_3 (by decide) rfl (fun x1 => ?_)
  refine si_aN dX1_shareOf_6 (fun x2 => ?_)
  refine si_iconst (v := 1) dX1_shareOf_7 (by decide) ?_
  refine si_isub dX1_shareOf_8 ?_
  refine si_csI [lvI (a1), lvI ((0 : Int32)), lvI (x2 - (1 : Int32))] dX1_shareOf_9 rfl mc_X8_isWithin ml_X1_59 st_X8_isWithin rfl ⟨Nat.le_of_ble_eq_true rfl, Nat.le_of_ble_eq_true rfl, Nat.le_of_ble_eq_true rfl, Nat.le_of_ble_eq_true rfl⟩ (Nat.le_of_ble_eq_true rfl) (fun _ hq => ct_X8_isWithin _ _ hq) (fun q3 => ?_)
  refine si_if_eq 24 dX1_shareOf_12 (by decide) ?_ ?_
  · refine si_iconst (v := 0) dX1_shareOf_24 (by decide) ?_
    exact si_iret dX1_shareOf_25 rfl (Nat.le_of_ble_eq_true rfl) (Nat.le_of_ble_eq_true rfl)
  · refine si_aload_n 0 dX1_shareOf_15 rfl rfl ?_
    refine si_gR 2 3 fl_X1_9 dX1_shareOf_16 (by decide) rfl (fun x4 => ?_)
    refine si_iload_n 1 dX1_shareOf_19 rfl rfl ?_
    refine si_ia dX1_shareOf_20 (fun x5 => ?_)
    refine si_goto 25 dX1_shareOf_21 (by decide) ?_
    exact si_iret dX1_shareOf_25 rfl (Nat.le_of_ble_eq_true rfl) (Nat.le_of_ble_eq_true rfl)
theorem ct_X1_shareOf (l : Launch) (G : GG) {th : Nat} {a1 : Int32} {h : HS} {q : Int32 × HS} (hq : m_X1_shareOf th a1 h = some q) : Ct l yX1_shareOf mi_X1_shareOf G [lvR (some th), lvI a1] h (oI q) := Ct.of (out := oI) (by decide +kernel) rfl rfl (Nat.le_of_ble_eq_true rfl) hq (fun _ _ _ _ _ _ _ _ => s_X1_shareOf th a1 h)
set_option maxHeartbeats 4000000 in
set_option maxRecDepth 100000 in
theorem s_X1_cutOf {E : EV} (th : Nat) (a1 : Int32) (h : HS) : Sim E mi_X1_cutOf (fin oL) 0 0 0 (largs 0 [lvR (some th), lvI a1]) [] h (m_X1_cutOf th a1 h) := by
  unfold m_X1_cutOf
  refine si_aload_n 0 dX1_cutOf_0 rfl rfl ?_
  refine si_cvL 2 [] dX1_cutOf_1 rfl mc_X1_allShares ml_X1_49 im_X1_allShares rfl se_X1_allShares (by decide) rfl ⟨Nat.le_of_ble_eq_true rfl, Nat.le_of_ble_eq_true rfl, Nat.le_of_ble_eq_true rfl, Nat.le_of_ble_eq_true rfl⟩ (Nat.le_of_ble_eq_true rfl) (fun _ _ hq => ct_X1_allShares _ _ hq) (fun q1 => ?_)
  refine si_lstore_n 2 dX1_cutOf_4 rfl (by decide) ?_
  refine si_lload_n 2 dX1_cutOf_5 rfl rfl ?_
  refine si_lconst (v := 0) dX1_cutOf_6 (by decide) ?_
  refine si_lcmp dX1_cutOf_7 ?_
  refine si_if_gt 15 dX1_cutOf_8 (by decide) ?_ ?_
  · refine si_aload_n 0 dX1_cutOf_15 rfl rfl ?_
    refine si_gI 2 8 fl_X1_29 dX1_cutOf_16 (by decide) rfl (fun x3 => ?_)
    refine si_i2l dX1_cutOf_19 ?_
    refine si_aload_n 0 dX1_cutOf_20 rfl rfl ?_
    refine si_iload_n 1 dX1_cutOf_21 rfl rfl ?_
    refine si_cvI 2 [lvI (a1)] dX1_cutOf_22 rfl mc_X1_shareOf ml_X1_53 im_X1_shareOf rfl se_X1_shareOf (by decide) rfl ⟨Nat.le_of_ble_eq_true rfl, Nat.le_of_ble_eq_true rfl, Nat.le_of_ble_eq_true rfl, Nat.le_of_ble_eq_true rfl⟩ (Nat.le_of_ble_eq_true rfl) (fun _ _ hq => ct_X1_shareOf _ _ hq) (fun q4 => ?_)
    refine si_i2l dX1_cutOf_25 ?_
    refine si_lmul dX1_cutOf_26 ?_
    refine si_lload_n 2 dX1_cutOf_27 rfl rfl ?_
    refine si_ite (fun _ => si_none) (fun hz => ?_)
    refine si_ldiv dX1_cutOf_28 hz ?_
    exact si_lret dX1_cutOf_29 rfl (Nat.le_of_ble_eq_true rfl) (Nat.le_of_ble_eq_true rfl)
  · refine si_lconst (v := 0) dX1_cutOf_11 (by decide) ?_
    refine si_goto 29 dX1_cutOf_12 (by decide) ?_
    exact si_lret dX1_cutOf_29 rfl (Nat.le_of_ble_eq_true rfl) (Nat.le_of_ble_eq_true rfl)
theorem ct_X1_cutOf (l : Launch) (G : GG) {th : Nat} {a1 : Int32} {h : HS} {q : Int64 × HS} (hq : m_X1_cutOf th a1 h = some q) : Ct l yX1_cutOf mi_X1_cutOf G [lvR (some th), lvI a1] h (oL q) := Ct.of (out := oL) (by decide +kernel) rfl rfl (Nat.le_of_ble_eq_true rfl) hq (fun _ _ _ _ _ _ _ _ => s_X1_cutOf th a1 h)
set_option maxHeartbeats 4000000 in
set_option maxRecDepth 100000 in
theorem s_X1_restOf {E : EV} (th : Nat) (a1 : Int32) (h : HS) : Sim E mi_X1_restOf (fin oL) 0 0 0 (largs 0 [lvR (some th), lvI a1]) [] h (m_X1_restOf th a1 h) := by
  unfold m_X1_restOf
  refine si_aload_n 0 dX1_restOf_0 rfl rfl ?_
  refine si_cvL 2 [] dX1_restOf_1 rfl mc_X1_allShares ml_X1_49 im_X1_allShares rfl se_X1_allShares (by decide) rfl ⟨Nat.le_of_ble_eq_true rfl, Nat.le_of_ble_eq_true rfl, Nat.le_of_ble_eq_true rfl, Nat.le_of_ble_eq_true rfl⟩ (Nat.le_of_ble_eq_true rfl) (fun _ _ hq => ct_X1_allShares _ _ hq) (fun q1 => ?_)
  refine si_lstore_n 2 dX1_restOf_4 rfl (by decide) ?_
  refine si_lload_n 2 dX1_restOf_5 rfl rfl ?_
  refine si_lconst (v := 0) dX1_restOf_6 (by decide) ?_
  refine si_lcmp dX1_restOf_7 ?_
  refine si_if_gt 15 dX1_restOf_8 (by decide) ?_ ?_
  · refine si_aload_n 0 dX1_restOf_15 rfl rfl ?_
    refine si_gI 2 8 fl_X1_29 dX1_restOf_16 (by decide) rfl (fun x3 => ?_)
    refine si_i2l dX1_restOf_19 ?_
    refine si_aload_n 0 dX1_restOf_20 rfl rfl ?_
    refine si_iload_n 1 dX1_restOf_21 rfl rfl ?_
    refine si_cvI 2 [lvI (a1)] dX1_restOf_22 rfl mc_X1_shareOf ml_X1_53 im_X1_shareOf rfl se_X1_shareOf (by decide) rfl ⟨Nat.le_of_ble_eq_true rfl, Nat.le_of_ble_eq_true rfl, Nat.le_of_ble_eq_true rfl, Nat.le_of_ble_eq_true rfl⟩ (Nat.le_of_ble_eq_true rfl) (fun _ _ hq => ct_X1_shareOf _ _ hq) (fun q4 => ?_)
    refine si_i2l dX1_restOf_25 ?_
    refine si_lmul dX1_restOf_26 ?_
    refine si_lload_n 2 dX1_restOf_27 rfl rfl ?_
    refine si_ite (fun _ => si_none) (fun hz => ?_)
    refine si_lrem dX1_restOf_28 hz ?_
    exact si_lret dX1_restOf_29 rfl (Nat.le_of_ble_eq_true rfl) (Nat.le_of_ble_eq_true rfl)
  · refine si_lconst (v := 0) dX1_restOf_11 (by decide) ?_
    refine si_goto 29 dX1_restOf_12 (by decide) ?_
    exact si_lret dX1_restOf_29 rfl (Nat.le_of_ble_eq_true rfl) (Nat.le_of_ble_eq_true rfl)
theorem ct_X1_restOf (l : Launch) (G : GG) {th : Nat} {a1 : Int32} {h : HS} {q : Int64 × HS} (hq : m_X1_restOf th a1 h = some q) : Ct l yX1_restOf mi_X1_restOf G [lvR (some th), lvI a1] h (oL q) := Ct.of (out := oL) (by decide +kernel) rfl rfl (Nat.le_of_ble_eq_true rfl) hq (fun _ _ _ _ _ _ _ _ => s_X1_restOf th a1 h)
set_option maxHeartbeats 4000000 in
set_option maxRecDepth 100000 in
theorem X1_placeByRest_b49_s {E : EV} (th : Nat) (go12 : Int32 → Int64 → Int32 → Int32 → HS → Option (Int32 × HS)) (hg12 : ∀ (l1 : Int32) (l2 : Int64) (l4 : Int32) (l5 : Int32) (h : HS), Sim E mi_X1_placeByRest (fin oI) 0 0 12 [(0, lvR (some th)), (1, lvI (l1)), (2, lvJ (l2)), (4, lvI (l4)), (5, lvI (l5))] [] h (go12 l1 l2 l4 l5 h)) (l1 : Int32) (l2 : Int64) (l4 : Int32) (l5 : Int32) (h : HS) : Sim E mi_X1_placeByRest (fin oI) 0 0 49 [(0, lvR (some th)), (1, lvI (l1)), (2, lvJ (l2)), (4, lvI (l4)), (5, lvI (l5))] [] h (X1_placeByRest_b49 th go12 l1 l2 l4 l5 h) := by
  unfold X1_placeByRest_b49
  refine si_iinc 5 (1) dX1_placeByRest_49 rfl (by decide) (by decide) ?_
  refine si_goto 12 dX1_placeByRest_52 (by decide) ?_
  refine si_widen 0 0 (Nat.le_of_ble_eq_true rfl) (Nat.le_of_ble_eq_true rfl) ?_
  refine si_lo [(0, lvR (some th)), (1, lvI (l1)), (2, lvJ (l2)), (4, lvI (l4)), (5, lvI (l5 + (1)))] ⟨rfl, rfl, rfl, rfl, rfl, trivial⟩ ?_
  exact hg12 l1 l2 l4 (l5 + (1)) _
set_option maxHeartbeats 4000000 in
set_option maxRecDepth 100000 in
theorem X1_placeByRest_b46_s {E : EV} (th : Nat) (go12 : Int32 → Int64 → Int32 → Int32 → HS → Option (Int32 × HS)) (hg12 : ∀ (l1 : Int32) (l2 : Int64) (l4 : Int32) (l5 : Int32) (h : HS), Sim E mi_X1_placeByRest (fin oI) 0 0 12 [(0, lvR (some th)), (1, lvI (l1)), (2, lvJ (l2)), (4, lvI (l4)), (5, lvI (l5))] [] h (go12 l1 l2 l4 l5 h)) (l1 : Int32) (l2 : Int64) (l4 : Int32) (l5 : Int32) (h : HS) : Sim E mi_X1_placeByRest (fin oI) 0 0 46 [(0, lvR (some th)), (1, lvI (l1)), (2, lvJ (l2)), (4, lvI (l4)), (5, lvI (l5))] [] h (X1_placeByRest_b46 th go12 l1 l2 l4 l5 h) := by
  unfold X1_placeByRest_b46
  refine si_iinc 4 (1) dX1_placeByRest_46 rfl (by decide) (by decide) ?_
  refine si_widen 0 0 (Nat.le_of_ble_eq_true rfl) (Nat.le_of_ble_eq_true rfl) ?_
  refine si_lo [(0, lvR (some th)), (1, lvI (l1)), (2, lvJ (l2)), (4, lvI (l4 + (1))), (5, lvI (l5))] ⟨rfl, rfl, rfl, rfl, rfl, trivial⟩ ?_
  exact X1_placeByRest_b49_s th go12 hg12 l1 l2 (l4 + (1)) l5 _
set_option maxHeartbeats 4000000 in
set_option maxRecDepth 100000 in
theorem X1_placeByRest_L12_s {E : EV} (th : Nat) (n : Nat) : ∀ (l1 : Int32) (l2 : Int64) (l4 : Int32) (l5 : Int32) (h : HS), Sim E mi_X1_placeByRest (fin oI) 0 0 12 [(0, lvR (some th)), (1, lvI (l1)), (2, lvJ (l2)), (4, lvI (l4)), (5, lvI (l5))] [] h (X1_placeByRest_L12 th n l1 l2 l4 l5 h) := by
  induction n with
  | zero => intro l1 l2 l4 l5 h; exact si_none
  | succ n ih =>
    intro l1 l2 l4 l5 h
    unfold X1_placeByRest_L12
    refine si_iload 5 dX1_placeByRest_12 rfl ?_
    refine si_iconst (v := 3) dX1_placeByRest_14 (by decide) ?_
    refine si_icmp_ge 55 dX1_placeByRest_15 (by decide) ?_ ?_
    · refine si_iload 4 dX1_placeByRest_55 rfl ?_
      exact si_iret dX1_placeByRest_57 rfl (Nat.le_of_ble_eq_true rfl) (Nat.le_of_ble_eq_true rfl)
    · refine si_aload_n 0 dX1_placeByRest_18 rfl rfl ?_
      refine si_iload 5 dX1_placeByRest_19 rfl ?_
      refine si_cvL 2 [lvI (l5)] dX1_placeByRest_21 rfl mc_X1_restOf ml_X1_56 im_X1_restOf rfl se_X1_restOf (by decide) rfl ⟨Nat.le_of_ble_eq_true rfl, Nat.le_of_ble_eq_true rfl, Nat.le_of_ble_eq_true rfl, Nat.le_of_ble_eq_true rfl⟩ (Nat.le_of_ble_eq_true rfl) (fun _ _ hq => ct_X1_restOf _ _ hq) (fun q1 => ?_)
      refine si_lstore 6 dX1_placeByRest_24 (by decide) ?_
      refine si_lload 6 dX1_placeByRest_26 rfl ?_
      refine si_lload_n 2 dX1_placeByRest_28 rfl rfl ?_
      refine si_lcmp dX1_placeByRest_29 ?_
      refine si_if_gt 46 dX1_placeByRest_30 (by decide) ?_ ?_
      · refine si_widen 0 0 (Nat.le_of_ble_eq_true rfl) (Nat.le_of_ble_eq_true rfl) ?_
        refine si_lo [(0, lvR (some th)), (1, lvI (l1)), (2, lvJ (l2)), (4, lvI (l4)), (5, lvI (l5))] ⟨rfl, rfl, rfl, rfl, rfl, trivial⟩ ?_
        exact X1_placeByRest_b46_s th (X1_placeByRest_L12 th n) ih l1 l2 l4 l5 _
      · refine si_lload 6 dX1_placeByRest_33 rfl ?_
        refine si_lload_n 2 dX1_placeByRest_35 rfl rfl ?_
        refine si_lcmp dX1_placeByRest_36 ?_
        refine si_if_ne 49 dX1_placeByRest_37 (by decide) ?_ ?_
        · refine si_iload 5 dX1_placeByRest_40 rfl ?_
          refine si_iload_n 1 dX1_placeByRest_42 rfl rfl ?_
          refine si_icmp_ge 49 dX1_placeByRest_43 (by decide) ?_ ?_
          · refine si_widen 0 0 (Nat.le_of_ble_eq_true rfl) (Nat.le_of_ble_eq_true rfl) ?_
            refine si_lo [(0, lvR (some th)), (1, lvI (l1)), (2, lvJ (l2)), (4, lvI (l4)), (5, lvI (l5))] ⟨rfl, rfl, rfl, rfl, rfl, trivial⟩ ?_
            exact X1_placeByRest_b49_s th (X1_placeByRest_L12 th n) ih l1 l2 l4 l5 _
          · refine si_widen 0 0 (Nat.le_of_ble_eq_true rfl) (Nat.le_of_ble_eq_true rfl) ?_
            refine si_lo [(0, lvR (some th)), (1, lvI (l1)), (2, lvJ (l2)), (4, lvI (l4)), (5, lvI (l5))] ⟨rfl, rfl, rfl, rfl, rfl, trivial⟩ ?_
            exact X1_placeByRest_b46_s th (X1_placeByRest_L12 th n) ih l1 l2 l4 l5 _
        · refine si_widen 0 0 (Nat.le_of_ble_eq_true rfl) (Nat.le_of_ble_eq_true rfl) ?_
          refine si_lo [(0, lvR (some th)), (1, lvI (l1)), (2, lvJ (l2)), (4, lvI (l4)), (5, lvI (l5))] ⟨rfl, rfl, rfl, rfl, rfl, trivial⟩ ?_
          exact X1_placeByRest_b49_s th (X1_placeByRest_L12 th n) ih l1 l2 l4 l5 _
set_option maxHeartbeats 4000000 in
set_option maxRecDepth 100000 in
theorem s_X1_placeByRest {E : EV} (th : Nat) (a1 : Int32) (h : HS) : Sim E mi_X1_placeByRest (fin oI) 0 0 0 (largs 0 [lvR (some th), lvI a1]) [] h (m_X1_placeByRest th a1 h) := by
  unfold m_X1_placeByRest
  refine si_aload_n 0 dX1_placeByRest_0 rfl rfl ?_
  refine si_iload_n 1 dX1_placeByRest_1 rfl rfl ?_
  refine si_cvL 2 [lvI (a1)] dX1_placeByRest_2 rfl mc_X1_restOf ml_X1_56 im_X1_restOf rfl se_X1_restOf (by decide) rfl ⟨Nat.le_of_ble_eq_true rfl, Nat.le_of_ble_eq_true rfl, Nat.le_of_ble_eq_true rfl, Nat.le_of_ble_eq_true rfl⟩ (Nat.le_of_ble_eq_true rfl) (fun _ _ hq => ct_X1_restOf _ _ hq) (fun q1 => ?_)
  refine si_lstore_n 2 dX1_placeByRest_5 rfl (by decide) ?_
  refine si_iconst (v := 0) dX1_placeByRest_6 (by decide) ?_
  refine si_istore 4 dX1_placeByRest_7 (by decide) ?_
  refine si_iconst (v := 0) dX1_placeByRest_9 (by decide) ?_
  refine si_istore 5 dX1_placeByRest_10 (by decide) ?_
  refine si_widen 0 0 (Nat.le_of_ble_eq_true rfl) (Nat.le_of_ble_eq_true rfl) ?_
  refine si_lo [(0, lvR (some th)), (1, lvI (a1)), (2, lvJ (q1.1)), (4, lvI ((0 : Int32))), (5, lvI ((0 : Int32)))] ⟨rfl, rfl, rfl, rfl, rfl, trivial⟩ ?_
  exact X1_placeByRest_L12_s th FU a1 q1.1 ((0 : Int32)) ((0 : Int32)) _
theorem ct_X1_placeByRest (l : Launch) (G : GG) {th : Nat} {a1 : Int32} {h : HS} {q : Int32 × HS} (hq : m_X1_placeByRest th a1 h = some q) : Ct l yX1_placeByRest mi_X1_placeByRest G [lvR (some th), lvI a1] h (oI q) := Ct.of (out := oI) (by decide +kernel) rfl rfl (Nat.le_of_ble_eq_true rfl) hq (fun _ _ _ _ _ _ _ _ => s_X1_placeByRest th a1 h)
set_option maxHeartbeats 4000000 in
set_option maxRecDepth 100000 in
theorem X1_coinsOf_L18_s {E : EV} (th : Nat) (n : Nat) : ∀ (l1 : Int32) (l2 : Int64) (l4 : Int32) (h : HS), Sim E mi_X1_coinsOf (fin oI) 0 0 18 [(0, lvR (some th)), (1, lvI (l1)), (2, lvJ (l2)), (4, lvI (l4))] [] h (X1_coinsOf_L18 th n l1 l2 l4 h) := by
  induction n with
  | zero => intro l1 l2 l4 h; exact si_none
  | succ n ih =>
    intro l1 l2 l4 h
    unfold X1_coinsOf_L18
    refine si_iload 4 dX1_coinsOf_18 rfl ?_
    refine si_iconst (v := 3) dX1_coinsOf_20 (by decide) ?_
    refine si_icmp_ge 39 dX1_coinsOf_21 (by decide) ?_ ?_
    · refine si_aload_n 0 dX1_coinsOf_39 rfl rfl ?_
      refine si_iload_n 1 dX1_coinsOf_40 rfl rfl ?_
      refine si_cvL 2 [lvI (l1)] dX1_coinsOf_41 rfl mc_X1_cutOf ml_X1_41 im_X1_cutOf rfl se_X1_cutOf (by decide) rfl ⟨Nat.le_of_ble_eq_true rfl, Nat.le_of_ble_eq_true rfl, Nat.le_of_ble_eq_true rfl, Nat.le_of_ble_eq_true rfl⟩ (Nat.le_of_ble_eq_true rfl) (fun _ _ hq => ct_X1_cutOf _ _ hq) (fun q1 => ?_)
      refine si_aload_n 0 dX1_coinsOf_44 rfl rfl ?_
      refine si_iload_n 1 dX1_coinsOf_45 rfl rfl ?_
      refine si_cvI 2 [lvI (l1)] dX1_coinsOf_46 rfl mc_X1_placeByRest ml_X1_45 im_X1_placeByRest rfl se_X1_placeByRest (by decide) rfl ⟨Nat.le_of_ble_eq_true rfl, Nat.le_of_ble_eq_true rfl, Nat.le_of_ble_eq_true rfl, Nat.le_of_ble_eq_true rfl⟩ (Nat.le_of_ble_eq_true rfl) (fun _ _ hq => ct_X1_placeByRest _ _ hq) (fun q3 => ?_)
      refine si_i2l dX1_coinsOf_49 ?_
      refine si_lload_n 2 dX1_coinsOf_50 rfl rfl ?_
      refine si_lcmp dX1_coinsOf_51 ?_
      refine si_if_ge 59 dX1_coinsOf_52 (by decide) ?_ ?_
      · refine si_iconst (v := 0) dX1_coinsOf_59 (by decide) ?_
        refine si_i2l dX1_coinsOf_60 ?_
        refine si_ladd dX1_coinsOf_61 ?_
        refine si_l2i dX1_coinsOf_62 ?_
        exact si_iret dX1_coinsOf_63 rfl (Nat.le_of_ble_eq_true rfl) (Nat.le_of_ble_eq_true rfl)
      · refine si_iconst (v := 1) dX1_coinsOf_55 (by decide) ?_
        refine si_goto 60 dX1_coinsOf_56 (by decide) ?_
        refine si_i2l dX1_coinsOf_60 ?_
        refine si_ladd dX1_coinsOf_61 ?_
        refine si_l2i dX1_coinsOf_62 ?_
        exact si_iret dX1_coinsOf_63 rfl (Nat.le_of_ble_eq_true rfl) (Nat.le_of_ble_eq_true rfl)
    · refine si_lload_n 2 dX1_coinsOf_24 rfl rfl ?_
      refine si_aload_n 0 dX1_coinsOf_25 rfl rfl ?_
      refine si_iload 4 dX1_coinsOf_26 rfl ?_
      refine si_cvL 2 [lvI (l4)] dX1_coinsOf_28 rfl mc_X1_cutOf ml_X1_41 im_X1_cutOf rfl se_X1_cutOf (by decide) rfl ⟨Nat.le_of_ble_eq_true rfl, Nat.le_of_ble_eq_true rfl, Nat.le_of_ble_eq_true rfl, Nat.le_of_ble_eq_true rfl⟩ (Nat.le_of_ble_eq_true rfl) (fun _ _ hq => ct_X1_cutOf _ _ hq) (fun q5 => ?_)
      refine si_lsub dX1_coinsOf_31 ?_
      refine si_lstore_n 2 dX1_coinsOf_32 rfl (by decide) ?_
      refine si_iinc 4 (1) dX1_coinsOf_33 rfl (by decide) (by decide) ?_
      refine si_goto 18 dX1_coinsOf_36 (by decide) ?_
      refine si_widen 0 0 (Nat.le_of_ble_eq_true rfl) (Nat.le_of_ble_eq_true rfl) ?_
      refine si_lo [(0, lvR (some th)), (1, lvI (l1)), (2, lvJ (l2 - q5.1)), (4, lvI (l4 + (1)))] ⟨rfl, rfl, rfl, rfl, trivial⟩ ?_
      exact ih l1 (l2 - q5.1) (l4 + (1)) _
set_option maxHeartbeats 4000000 in
set_option maxRecDepth 100000 in
theorem s_X1_coinsOf {E : EV} (th : Nat) (a1 : Int32) (h : HS) : Sim E mi_X1_coinsOf (fin oI) 0 0 0 (largs 0 [lvR (some th), lvI a1]) [] h (m_X1_coinsOf th a1 h) := by
  unfold m_X1_coinsOf
  refine si_aload_n 0 dX1_coinsOf_0 rfl rfl ?_
  refine si_gI 2 8 fl_X1_29 dX1_coinsOf_1 (by decide) rfl (fun x1 => ?_)
  refine si_if_gt 9 dX1_coinsOf_4 (by decide) ?_ ?_
  · refine si_aload_n 0 dX1_coinsOf_9 rfl rfl ?_
    refine si_gI 2 8 fl_X1_29 dX1_coinsOf_10 (by decide) rfl (fun x2 => ?_)
    refine si_i2l dX1_coinsOf_13 ?_
    refine si_lstore_n 2 dX1_coinsOf_14 rfl (by decide) ?_
    refine si_iconst (v := 0) dX1_coinsOf_15 (by decide) ?_
    refine si_istore 4 dX1_coinsOf_16 (by decide) ?_
    refine si_widen 0 0 (Nat.le_of_ble_eq_true rfl) (Nat.le_of_ble_eq_true rfl) ?_
    refine si_lo [(0, lvR (some th)), (1, lvI (a1)), (2, lvJ (x2.toInt64)), (4, lvI ((0 : Int32)))] ⟨rfl, rfl, rfl, rfl, trivial⟩ ?_
    exact X1_coinsOf_L18_s th FU a1 x2.toInt64 ((0 : Int32)) _
  · refine si_iconst (v := 0) dX1_coinsOf_7 (by decide) ?_
    exact si_iret dX1_coinsOf_8 rfl (Nat.le_of_ble_eq_true rfl) (Nat.le_of_ble_eq_true rfl)
theorem ct_X1_coinsOf (l : Launch) (G : GG) {th : Nat} {a1 : Int32} {h : HS} {q : Int32 × HS} (hq : m_X1_coinsOf th a1 h = some q) : Ct l yX1_coinsOf mi_X1_coinsOf G [lvR (some th), lvI a1] h (oI q) := Ct.of (out := oI) (by decide +kernel) rfl rfl (Nat.le_of_ble_eq_true rfl) hq (fun _ _ _ _ _ _ _ _ => s_X1_coinsOf th a1 h)
set_option maxHeartbeats 4000000 in
set_option maxRecDepth 100000 in
theorem s_X2_init {E : EV} (th : Nat) (a1 : Int32) (a2 : Int32) (a3 : Int32) (a4 : Int32) (h : HS) : Sim E mi_X2_init (fin oV) 0 0 0 (largs 0 [lvR (some th), lvI a1, lvI a2, lvI a3, lvI a4]) [] h (m_X2_init th a1 a2 a3 a4 h) := by
  unfold m_X2_init
  refine si_aload_n 0 dX2_init_0 rfl rfl ?_
  refine si_obj dX2_init_1 ob_X2_3 (Nat.le_of_ble_eq_true rfl) (Nat.le_of_ble_eq_true rfl) ?_
  refine si_aload_n 0 dX2_init_4 rfl rfl ?_
  refine si_bipush (v := 51) dX2_init_5 (by decide) ?_
  refine si_newa 51 201 dX2_init_7 rfl (by decide) ac_201 (by decide) (Nat.le_of_ble_eq_true rfl) (Nat.le_of_ble_eq_true rfl) (fun q1 => ?_)
  refine si_pR 3 3 fl_X2_9 dX2_init_9 (by decide) rfl fwi_X2_9 (fun h2 => ?_)
  refine si_aload_n 0 dX2_init_12 rfl rfl ?_
  refine si_iload_n 1 dX2_init_13 rfl rfl ?_
  refine si_pI 3 0 fl_X2_15 dX2_init_14 (by decide) rfl rfl rfl fwi_X2_15 (fun h3 => ?_)
  refine si_aload_n 0 dX2_init_17 rfl rfl ?_
  refine si_iload_n 2 dX2_init_18 rfl rfl ?_
  refine si_pI 3 1 fl_X2_19 dX2_init_19 (by decide) rfl rfl rfl fwi_X2_19 (fun h4 => ?_)
  refine si_aload_n 0 dX2_init_22 rfl rfl ?_
  refine si_iload_n 3 dX2_init_23 rfl rfl ?_
  refine si_pI 3 2 fl_X2_22 dX2_init_24 (by decide) rfl rfl rfl fwi_X2_22 (fun h5 => ?_)
  refine si_aload_n 0 dX2_init_27 rfl rfl ?_
  refine si_gR 3 3 fl_X2_9 dX2_init_28 (by decide) rfl (fun x6 => ?_)
  refine si_iload 4 dX2_init_31 rfl ?_
  refine si_csV [lvR (x6), lvI (a4)] dX2_init_33 rfl mc_J7_fill_53178 ml_X2_25 st_J7_fill_53178 rfl ⟨Nat.le_of_ble_eq_true rfl, Nat.le_of_ble_eq_true rfl, Nat.le_of_ble_eq_true rfl, Nat.le_of_ble_eq_true rfl⟩ (Nat.le_of_ble_eq_true rfl) (fun _ hq => ct_J7_fill_53178 _ _ hq) (fun h7 => ?_)
  exact si_vret dX2_init_36 rfl (Nat.le_of_ble_eq_true rfl) (Nat.le_of_ble_eq_true rfl)
theorem ct_X2_init (l : Launch) (G : GG) {th : Nat} {a1 : Int32} {a2 : Int32} {a3 : Int32} {a4 : Int32} {h : HS} {q : HS} (hq : m_X2_init th a1 a2 a3 a4 h = some q) : Ct l yX2_init mi_X2_init G [lvR (some th), lvI a1, lvI a2, lvI a3, lvI a4] h (oV q) := Ct.of (out := oV) (by decide +kernel) rfl rfl (Nat.le_of_ble_eq_true rfl) hq (fun _ _ _ _ _ _ _ _ => s_X2_init th a1 a2 a3 a4 h)
set_option maxHeartbeats 4000000 in
set_option maxRecDepth 100000 in
theorem X2_sellFrom_L6_s {E : EV} (th : Nat) (n : Nat) : ∀ (l2 : Int32) (l3 : Int32) (h : HS), Sim E mi_X2_sellFrom (fin oV) 0 0 6 [(0, lvR (some th)), (2, lvI (l2)), (3, lvI (l3))] [] h (X2_sellFrom_L6 th n l2 l3 h) := by
  induction n with
  | zero => intro l2 l3 h; exact si_none
  | succ n ih =>
    intro l2 l3 h
    unfold X2_sellFrom_L6
    refine si_iload_n 3 dX2_sellFrom_6 rfl rfl ?_
    refine si_aload_n 0 dX2_sellFrom_7 rfl rfl ?_
    refine si_gR 3 3 fl_X2_9 dX2_sellFrom_8 (by decide) rfl (fun x1 => ?_)
    refine si_aN dX2_sellFrom_11 (fun x2 => ?_)
    refine si_icmp_ge 28 dX2_sellFrom_12 (by decide) ?_ ?_
    · exact si_vret dX2_sellFrom_28 rfl (Nat.le_of_ble_eq_true rfl) (Nat.le_of_ble_eq_true rfl)
    · refine si_aload_n 0 dX2_sellFrom_15 rfl rfl ?_
      refine si_gR 3 3 fl_X2_9 dX2_sellFrom_16 (by decide) rfl (fun x3 => ?_)
      refine si_iload_n 3 dX2_sellFrom_19 rfl rfl ?_
      refine si_iload_n 2 dX2_sellFrom_20 rfl rfl ?_
      refine si_is dX2_sellFrom_21 (fun h4 => ?_)
      refine si_iinc 3 (1) dX2_sellFrom_22 rfl (by decide) (by decide) ?_
      refine si_goto 6 dX2_sellFrom_25 (by decide) ?_
      refine si_widen 0 0 (Nat.le_of_ble_eq_true rfl) (Nat.le_of_ble_eq_true rfl) ?_
      refine si_lo [(0, lvR (some th)), (2, lvI (l2)), (3, lvI (l3 + (1)))] ⟨rfl, rfl, rfl, trivial⟩ ?_
      exact ih l2 (l3 + (1)) _
set_option maxHeartbeats 4000000 in
set_option maxRecDepth 100000 in
theorem s_X2_sellFrom {E : EV} (th : Nat) (a1 : Int32) (a2 : Int32) (h : HS) : Sim E mi_X2_sellFrom (fin oV) 0 0 0 (largs 0 [lvR (some th), lvI a1, lvI a2]) [] h (m_X2_sellFrom th a1 a2 h) := by
  unfold m_X2_sellFrom
  refine si_iload_n 1 dX2_sellFrom_0 rfl rfl ?_
  refine si_iconst (v := 0) dX2_sellFrom_1 (by decide) ?_
  refine si_mmax dX2_sellFrom_2 mm_X2_31 (Nat.le_of_ble_eq_true rfl) (Nat.le_of_ble_eq_true rfl) (Nat.le_of_ble_eq_true rfl) (Nat.le_of_ble_eq_true rfl) ?_
  refine si_istore_n 3 dX2_sellFrom_5 rfl (by decide) ?_
  refine si_widen 0 0 (Nat.le_of_ble_eq_true rfl) (Nat.le_of_ble_eq_true rfl) ?_
  refine si_lo [(0, lvR (some th)), (2, lvI (a2)), (3, lvI ((if a1 < (0 : Int32) then (0 : Int32) else a1)))] ⟨rfl, rfl, rfl, trivial⟩ ?_
  exact X2_sellFrom_L6_s th FU a2 ((if a1 < (0 : Int32) then (0 : Int32) else a1)) _
theorem ct_X2_sellFrom (l : Launch) (G : GG) {th : Nat} {a1 : Int32} {a2 : Int32} {h : HS} {q : HS} (hq : m_X2_sellFrom th a1 a2 h = some q) : Ct l yX2_sellFrom mi_X2_sellFrom G [lvR (some th), lvI a1, lvI a2] h (oV q) := Ct.of (out := oV) (by decide +kernel) rfl rfl (Nat.le_of_ble_eq_true rfl) hq (fun _ _ _ _ _ _ _ _ => s_X2_sellFrom th a1 a2 h)
set_option maxHeartbeats 4000000 in
set_option maxRecDepth 100000 in
theorem s_X2_putRight {E : EV} (th : Nat) (a1 : Int32) (a2 : Int32) (h : HS) : Sim E mi_X2_putRight (fin oV) 0 0 0 (largs 0 [lvR (some th), lvI a1, lvI a2]) [] h (m_X2_putRight th a1 a2 h) := by
  unfold m_X2_putRight
  refine si_iload_n 1 dX2_putRight_0 rfl rfl ?_
  refine si_iconst (v := 0) dX2_putRight_1 (by decide) ?_
  refine si_aload_n 0 dX2_putRight_2 rfl rfl ?_
  refine si_gR 3 3 fl_X2_9 dX2_putRight_3 (by decide) rfl (fun x1 => ?_)
  refine si_aN dX2_putRight_6 (fun x2 => ?_)
  refine si_iconst (v := 1) dX2_putRight_7 (by decide) ?_
  refine si_isub dX2_putRight_8 ?_
  refine si_csI [lvI (a1), lvI ((0 : Int32)), lvI (x2 - (1 : Int32))] dX2_putRight_9 rfl mc_X8_isWithin ml_X2_37 st_X8_isWithin rfl ⟨Nat.le_of_ble_eq_true rfl, Nat.le_of_ble_eq_true rfl, Nat.le_of_ble_eq_true rfl, Nat.le_of_ble_eq_true rfl⟩ (Nat.le_of_ble_eq_true rfl) (fun _ hq => ct_X8_isWithin _ _ hq) (fun q3 => ?_)
  refine si_if_eq 22 dX2_putRight_12 (by decide) ?_ ?_
  · exact si_vret dX2_putRight_22 rfl (Nat.le_of_ble_eq_true rfl) (Nat.le_of_ble_eq_true rfl)
  · refine si_aload_n 0 dX2_putRight_15 rfl rfl ?_
    refine si_gR 3 3 fl_X2_9 dX2_putRight_16 (by decide) rfl (fun x4 => ?_)
    refine si_iload_n 1 dX2_putRight_19 rfl rfl ?_
    refine si_iload_n 2 dX2_putRight_20 rfl rfl ?_
    refine si_is dX2_putRight_21 (fun h5 => ?_)
    exact si_vret dX2_putRight_22 rfl (Nat.le_of_ble_eq_true rfl) (Nat.le_of_ble_eq_true rfl)
theorem ct_X2_putRight (l : Launch) (G : GG) {th : Nat} {a1 : Int32} {a2 : Int32} {h : HS} {q : HS} (hq : m_X2_putRight th a1 a2 h = some q) : Ct l yX2_putRight mi_X2_putRight G [lvR (some th), lvI a1, lvI a2] h (oV q) := Ct.of (out := oV) (by decide +kernel) rfl rfl (Nat.le_of_ble_eq_true rfl) hq (fun _ _ _ _ _ _ _ _ => s_X2_putRight th a1 a2 h)
set_option maxHeartbeats 4000000 in
set_option maxRecDepth 100000 in
theorem s_X2_soldIn {E : EV} (th : Nat) (a1 : Int32) (h : HS) : Sim E mi_X2_soldIn (fin oI) 0 0 0 (largs 0 [lvR (some th), lvI a1]) [] h (m_X2_soldIn th a1 h) := by
  unfold m_X2_soldIn
  refine si_iload_n 1 dX2_soldIn_0 rfl rfl ?_
  refine si_iconst (v := 0) dX2_soldIn_1 (by decide) ?_
  refine si_aload_n 0 dX2_soldIn_2 rfl rfl ?_
  refine si_gR 3 3 fl_X2_9 dX2_soldIn_3 (by decide) rfl (fun x1 => ?_)
  refine si_aN dX2_soldIn_6 (fun x2 => ?_)
  refine si_iconst (v := 1) dX2_soldIn_7 (by decide) ?_
  refine si_isub dX2_soldIn_8 ?_
  refine si_csI [lvI (a1), lvI ((0 : Int32)), lvI (x2 - (1 : Int32))] dX2_soldIn_9 rfl mc_X8_isWithin ml_X2_37 st_X8_isWithin rfl ⟨Nat.le_of_ble_eq_true rfl, Nat.le_of_ble_eq_true rfl, Nat.le_of_ble_eq_true rfl, Nat.le_of_ble_eq_true rfl⟩ (Nat.le_of_ble_eq_true rfl) (fun _ hq => ct_X8_isWithin _ _ hq) (fun q3 => ?_)
  refine si_if_eq 24 dX2_soldIn_12 (by decide) ?_ ?_
  · refine si_iconst (v := 0) dX2_soldIn_24 (by decide) ?_
    exact si_iret dX2_soldIn_25 rfl (Nat.le_of_ble_eq_true rfl) (Nat.le_of_ble_eq_true rfl)
  · refine si_aload_n 0 dX2_soldIn_15 rfl rfl ?_
    refine si_gR 3 3 fl_X2_9 dX2_soldIn_16 (by decide) rfl (fun x4 => ?_)
    refine si_iload_n 1 dX2_soldIn_19 rfl rfl ?_
    refine si_ia dX2_soldIn_20 (fun x5 => ?_)
    refine si_goto 25 dX2_soldIn_21 (by decide) ?_
    exact si_iret dX2_soldIn_25 rfl (Nat.le_of_ble_eq_true rfl) (Nat.le_of_ble_eq_true rfl)
theorem ct_X2_soldIn (l : Launch) (G : GG) {th : Nat} {a1 : Int32} {h : HS} {q : Int32 × HS} (hq : m_X2_soldIn th a1 h = some q) : Ct l yX2_soldIn mi_X2_soldIn G [lvR (some th), lvI a1] h (oI q) := Ct.of (out := oI) (by decide +kernel) rfl rfl (Nat.le_of_ble_eq_true rfl) hq (fun _ _ _ _ _ _ _ _ => s_X2_soldIn th a1 h)
set_option maxHeartbeats 4000000 in
set_option maxRecDepth 100000 in
theorem s_X2_isNearer {E : EV} (th : Nat) (a1 : Option Nat) (a2 : Int32) (h : HS) : Sim E mi_X2_isNearer (fin oI) 0 0 0 (largs 0 [lvR (some th), lvR a1, lvI a2]) [] h (m_X2_isNearer th a1 a2 h) := by
  unfold m_X2_isNearer
  refine si_aload_n 0 dX2_isNearer_0 rfl rfl ?_
  refine si_gI 3 1 fl_X2_19 dX2_isNearer_1 (by decide) rfl (fun x1 => ?_)
  refine si_aload_n 1 dX2_isNearer_4 rfl rfl ?_
  refine si_gI 3 1 fl_X2_19 dX2_isNearer_5 (by decide) rfl (fun x2 => ?_)
  refine si_isub dX2_isNearer_8 ?_
  refine si_istore_n 3 dX2_isNearer_9 rfl (by decide) ?_
  refine si_aload_n 0 dX2_isNearer_10 rfl rfl ?_
  refine si_gI 3 2 fl_X2_22 dX2_isNearer_11 (by decide) rfl (fun x3 => ?_)
  refine si_aload_n 1 dX2_isNearer_14 rfl rfl ?_
  refine si_gI 3 2 fl_X2_22 dX2_isNearer_15 (by decide) rfl (fun x4 => ?_)
  refine si_isub dX2_isNearer_18 ?_
  refine si_istore 4 dX2_isNearer_19 (by decide) ?_
  refine si_iload_n 3 dX2_isNearer_21 rfl rfl ?_
  refine si_iload_n 3 dX2_isNearer_22 rfl rfl ?_
  refine si_imul dX2_isNearer_23 ?_
  refine si_iload 4 dX2_isNearer_24 rfl ?_
  refine si_iload 4 dX2_isNearer_26 rfl ?_
  refine si_imul dX2_isNearer_28 ?_
  refine si_iadd dX2_isNearer_29 ?_
  refine si_iload_n 2 dX2_isNearer_30 rfl rfl ?_
  refine si_iload_n 2 dX2_isNearer_31 rfl rfl ?_
  refine si_imul dX2_isNearer_32 ?_
  refine si_icmp_ge 40 dX2_isNearer_33 (by decide) ?_ ?_
  · refine si_iconst (v := 0) dX2_isNearer_40 (by decide) ?_
    exact si_zret dX2_isNearer_41 rfl rfl (Nat.le_of_ble_eq_true rfl) (Nat.le_of_ble_eq_true rfl)
  · refine si_iconst (v := 1) dX2_isNearer_36 (by decide) ?_
    refine si_goto 41 dX2_isNearer_37 (by decide) ?_
    exact si_zret dX2_isNearer_41 rfl rfl (Nat.le_of_ble_eq_true rfl) (Nat.le_of_ble_eq_true rfl)
theorem ct_X2_isNearer (l : Launch) (G : GG) {th : Nat} {a1 : Option Nat} {a2 : Int32} {h : HS} {q : Int32 × HS} (hq : m_X2_isNearer th a1 a2 h = some q) : Ct l yX2_isNearer mi_X2_isNearer G [lvR (some th), lvR a1, lvI a2] h (oI q) := Ct.of (out := oI) (by decide +kernel) rfl rfl (Nat.le_of_ble_eq_true rfl) hq (fun _ _ _ _ _ _ _ _ => s_X2_isNearer th a1 a2 h)
set_option maxHeartbeats 4000000 in
set_option maxRecDepth 100000 in
theorem s_X3_init {E : EV} (th : Nat) (a1 : Option Nat) (a2 : Int32) (h : HS) : Sim E mi_X3_init (fin oV) 0 0 0 (largs 0 [lvR (some th), lvR a1, lvI a2]) [] h (m_X3_init th a1 a2 h) := by
  unfold m_X3_init
  refine si_aload_n 0 dX3_init_0 rfl rfl ?_
  refine si_obj dX3_init_1 ob_X3_1 (Nat.le_of_ble_eq_true rfl) (Nat.le_of_ble_eq_true rfl) ?_
  refine si_aload_n 0 dX3_init_4 rfl rfl ?_
  refine si_aload_n 1 dX3_init_5 rfl rfl ?_
  refine si_pR 4 0 fl_X3_7 dX3_init_6 (by decide) rfl fwi_X3_7 (fun h1 => ?_)
  refine si_aload_n 0 dX3_init_9 rfl rfl ?_
  refine si_iload_n 2 dX3_init_10 rfl rfl ?_
  refine si_pI 4 1 fl_X3_13 dX3_init_11 (by decide) rfl rfl rfl fwi_X3_13 (fun h2 => ?_)
  exact si_vret dX3_init_14 rfl (Nat.le_of_ble_eq_true rfl) (Nat.le_of_ble_eq_true rfl)
theorem ct_X3_init (l : Launch) (G : GG) {th : Nat} {a1 : Option Nat} {a2 : Int32} {h : HS} {q : HS} (hq : m_X3_init th a1 a2 h = some q) : Ct l yX3_init mi_X3_init G [lvR (some th), lvR a1, lvI a2] h (oV q) := Ct.of (out := oV) (by decide +kernel) rfl rfl (Nat.le_of_ble_eq_true rfl) hq (fun _ _ _ _ _ _ _ _ => s_X3_init th a1 a2 h)
set_option maxHeartbeats 4000000 in
set_option maxRecDepth 100000 in
theorem s_X4_init {E : EV} (th : Nat) (h : HS) : Sim E mi_X4_init (fin oV) 0 0 0 (largs 0 [lvR (some th)]) [] h (m_X4_init th h) := by
  unfold m_X4_init
  refine si_aload_n 0 dX4_init_0 rfl rfl ?_
  refine si_obj dX4_init_1 ob_X4_3 (Nat.le_of_ble_eq_true rfl) (Nat.le_of_ble_eq_true rfl) ?_
  refine si_aload_n 0 dX4_init_4 rfl rfl ?_
  refine si_iconst (v := 5) dX4_init_5 (by decide) ?_
  refine si_newa 5 201 dX4_init_6 rfl (by decide) ac_201 (by decide) (Nat.le_of_ble_eq_true rfl) (Nat.le_of_ble_eq_true rfl) (fun q1 => ?_)
  refine si_pR 5 0 fl_X4_9 dX4_init_8 (by decide) rfl fwi_X4_9 (fun h2 => ?_)
  refine si_aload_n 0 dX4_init_11 rfl rfl ?_
  refine si_bipush (v := 32) dX4_init_12 (by decide) ?_
  refine si_newa 32 201 dX4_init_14 rfl (by decide) ac_201 (by decide) (Nat.le_of_ble_eq_true rfl) (Nat.le_of_ble_eq_true rfl) (fun q3 => ?_)
  refine si_pR 5 1 fl_X4_15 dX4_init_16 (by decide) rfl fwi_X4_15 (fun h4 => ?_)
  refine si_aload_n 0 dX4_init_19 rfl rfl ?_
  refine si_iconst (v := 0) dX4_init_20 (by decide) ?_
  refine si_pI 5 2 fl_X4_18 dX4_init_21 (by decide) rfl rfl rfl (fw_X4_18 _) (fun h5 => ?_)
  exact si_vret dX4_init_24 rfl (Nat.le_of_ble_eq_true rfl) (Nat.le_of_ble_eq_true rfl)
theorem ct_X4_init (l : Launch) (G : GG) {th : Nat} {h : HS} {q : HS} (hq : m_X4_init th h = some q) : Ct l yX4_init mi_X4_init G [lvR (some th)] h (oV q) := Ct.of (out := oV) (by decide +kernel) rfl rfl (Nat.le_of_ble_eq_true rfl) hq (fun _ _ _ _ _ _ _ _ => s_X4_init th h)
set_option maxHeartbeats 4000000 in
set_option maxRecDepth 100000 in
theorem s_X4_tell {E : EV} (th : Nat) (a1 : Int32) (a2 : Int32) (h : HS) : Sim E mi_X4_tell (fin oV) 0 0 0 (largs 0 [lvR (some th), lvI a1, lvI a2]) [] h (m_X4_tell th a1 a2 h) := by
  unfold m_X4_tell
  refine si_iload_n 1 dX4_tell_0 rfl rfl ?_
  refine si_sipush (v := 10000) dX4_tell_1 (by decide) ?_
  refine si_sipush (v := 10000) dX4_tell_4 (by decide) ?_
  refine si_aload_n 0 dX4_tell_7 rfl rfl ?_
  refine si_gR 5 0 fl_X4_9 dX4_tell_8 (by decide) rfl (fun x1 => ?_)
  refine si_aN dX4_tell_11 (fun x2 => ?_)
  refine si_iadd dX4_tell_12 ?_
  refine si_iconst (v := 1) dX4_tell_13 (by decide) ?_
  refine si_isub dX4_tell_14 ?_
  refine si_csI [lvI (a1), lvI ((10000 : Int32)), lvI (((10000 : Int32) + x2) - (1 : Int32))] dX4_tell_15 rfl mc_X8_isWithin ml_X4_22 st_X8_isWithin rfl ⟨Nat.le_of_ble_eq_true rfl, Nat.le_of_ble_eq_true rfl, Nat.le_of_ble_eq_true rfl, Nat.le_of_ble_eq_true rfl⟩ (Nat.le_of_ble_eq_true rfl) (fun _ hq => ct_X8_isWithin _ _ hq) (fun q3 => ?_)
  refine si_if_eq 32 dX4_tell_18 (by decide) ?_ ?_
  · exact si_vret dX4_tell_32 rfl (Nat.le_of_ble_eq_true rfl) (Nat.le_of_ble_eq_true rfl)
  · refine si_aload_n 0 dX4_tell_21 rfl rfl ?_
    refine si_gR 5 0 fl_X4_9 dX4_tell_22 (by decide) rfl (fun x4 => ?_)
    refine si_iload_n 1 dX4_tell_25 rfl rfl ?_
    refine si_sipush (v := 10000) dX4_tell_26 (by decide) ?_
    refine si_isub dX4_tell_29 ?_
    refine si_iload_n 2 dX4_tell_30 rfl rfl ?_
    refine si_is dX4_tell_31 (fun h5 => ?_)
    exact si_vret dX4_tell_32 rfl (Nat.le_of_ble_eq_true rfl) (Nat.le_of_ble_eq_true rfl)
theorem ct_X4_tell (l : Launch) (G : GG) {th : Nat} {a1 : Int32} {a2 : Int32} {h : HS} {q : HS} (hq : m_X4_tell th a1 a2 h = some q) : Ct l yX4_tell mi_X4_tell G [lvR (some th), lvI a1, lvI a2] h (oV q) := Ct.of (out := oV) (by decide +kernel) rfl rfl (Nat.le_of_ble_eq_true rfl) hq (fun _ _ _ _ _ _ _ _ => s_X4_tell th a1 a2 h)
set_option maxHeartbeats 4000000 in
set_option maxRecDepth 100000 in
theorem s_X4_push {E : EV} (th : Nat) (a1 : Int32) (h : HS) : Sim E mi_X4_push (fin oV) 0 0 0 (largs 0 [lvR (some th), lvI a1]) [] h (m_X4_push th a1 h) := by
  unfold m_X4_push
  refine si_aload_n 0 dX4_push_0 rfl rfl ?_
  refine si_gI 5 2 fl_X4_18 dX4_push_1 (by decide) rfl (fun x1 => ?_)
  refine si_if_lt 39 dX4_push_4 (by decide) ?_ ?_
  · exact si_vret dX4_push_39 rfl (Nat.le_of_ble_eq_true rfl) (Nat.le_of_ble_eq_true rfl)
  · refine si_aload_n 0 dX4_push_7 rfl rfl ?_
    refine si_gI 5 2 fl_X4_18 dX4_push_8 (by decide) rfl (fun x2 => ?_)
    refine si_aload_n 0 dX4_push_11 rfl rfl ?_
    refine si_gR 5 1 fl_X4_15 dX4_push_12 (by decide) rfl (fun x3 => ?_)
    refine si_aN dX4_push_15 (fun x4 => ?_)
    refine si_icmp_ge 39 dX4_push_16 (by decide) ?_ ?_
    · exact si_vret dX4_push_39 rfl (Nat.le_of_ble_eq_true rfl) (Nat.le_of_ble_eq_true rfl)
    · refine si_aload_n 0 dX4_push_19 rfl rfl ?_
      refine si_gR 5 1 fl_X4_15 dX4_push_20 (by decide) rfl (fun x5 => ?_)
      refine si_aload_n 0 dX4_push_23 rfl rfl ?_
      refine si_gI 5 2 fl_X4_18 dX4_push_24 (by decide) rfl (fun x6 => ?_)
      refine si_iload_n 1 dX4_push_27 rfl rfl ?_
      refine si_is dX4_push_28 (fun h7 => ?_)
      refine si_aload_n 0 dX4_push_29 rfl rfl ?_
      refine si_dup dX4_push_30 (cat_rf _) ?_
      refine si_gI 5 2 fl_X4_18 dX4_push_31 (by decide) rfl (fun x8 => ?_)
      refine si_iconst (v := 1) dX4_push_34 (by decide) ?_
      refine si_iadd dX4_push_35 ?_
      refine si_pI 5 2 fl_X4_18 dX4_push_36 (by decide) rfl rfl rfl (fw_X4_18 _) (fun h9 => ?_)
      exact si_vret dX4_push_39 rfl (Nat.le_of_ble_eq_true rfl) (Nat.le_of_ble_eq_true rfl)
theorem ct_X4_push (l : Launch) (G : GG) {th : Nat} {a1 : Int32} {h : HS} {q : HS} (hq : m_X4_push th a1 h = some q) : Ct l yX4_push mi_X4_push G [lvR (some th), lvI a1] h (oV q) := Ct.of (out := oV) (by decide +kernel) rfl rfl (Nat.le_of_ble_eq_true rfl) hq (fun _ _ _ _ _ _ _ _ => s_X4_push th a1 h)
set_option maxHeartbeats 4000000 in
set_option maxRecDepth 100000 in
theorem s_X4_pop {E : EV} (th : Nat) (h : HS) : Sim E mi_X4_pop (fin oI) 0 0 0 (largs 0 [lvR (some th)]) [] h (m_X4_pop th h) := by
  unfold m_X4_pop
  refine si_aload_n 0 dX4_pop_0 rfl rfl ?_
  refine si_gI 5 2 fl_X4_18 dX4_pop_1 (by decide) rfl (fun x1 => ?_)
  refine si_if_le 19 dX4_pop_4 (by decide) ?_ ?_
  · refine si_iconst (v := 0) dX4_pop_19 (by decide) ?_
    exact si_iret dX4_pop_20 rfl (Nat.le_of_ble_eq_true rfl) (Nat.le_of_ble_eq_true rfl)
  · refine si_aload_n 0 dX4_pop_7 rfl rfl ?_
    refine si_gI 5 2 fl_X4_18 dX4_pop_8 (by decide) rfl (fun x2 => ?_)
    refine si_aload_n 0 dX4_pop_11 rfl rfl ?_
    refine si_gR 5 1 fl_X4_15 dX4_pop_12 (by decide) rfl (fun x3 => ?_)
    refine si_aN dX4_pop_15 (fun x4 => ?_)
    refine si_icmp_le 21 dX4_pop_16 (by decide) ?_ ?_
    · refine si_aload_n 0 dX4_pop_21 rfl rfl ?_
      refine si_dup dX4_pop_22 (cat_rf _) ?_
      refine si_gI 5 2 fl_X4_18 dX4_pop_23 (by decide) rfl (fun x5 => ?_)
      refine si_iconst (v := 1) dX4_pop_26 (by decide) ?_
      refine si_isub dX4_pop_27 ?_
      refine si_pI 5 2 fl_X4_18 dX4_pop_28 (by decide) rfl rfl rfl (fw_X4_18 _) (fun h6 => ?_)
      refine si_aload_n 0 dX4_pop_31 rfl rfl ?_
      refine si_gR 5 1 fl_X4_15 dX4_pop_32 (by decide) rfl (fun x7 => ?_)
      refine si_aload_n 0 dX4_pop_35 rfl rfl ?_
      refine si_gI 5 2 fl_X4_18 dX4_pop_36 (by decide) rfl (fun x8 => ?_)
      refine si_ia dX4_pop_39 (fun x9 => ?_)
      exact si_iret dX4_pop_40 rfl (Nat.le_of_ble_eq_true rfl) (Nat.le_of_ble_eq_true rfl)
    · refine si_iconst (v := 0) dX4_pop_19 (by decide) ?_
      exact si_iret dX4_pop_20 rfl (Nat.le_of_ble_eq_true rfl) (Nat.le_of_ble_eq_true rfl)
theorem ct_X4_pop (l : Launch) (G : GG) {th : Nat} {h : HS} {q : Int32 × HS} (hq : m_X4_pop th h = some q) : Ct l yX4_pop mi_X4_pop G [lvR (some th)] h (oI q) := Ct.of (out := oI) (by decide +kernel) rfl rfl (Nat.le_of_ble_eq_true rfl) hq (fun _ _ _ _ _ _ _ _ => s_X4_pop th h)
set_option maxHeartbeats 4000000 in
set_option maxRecDepth 100000 in
theorem s_X4_join {E : EV} (a1 : Int32) (a2 : Int32) (a3 : Int32) (h : HS) : Sim E mi_X4_join (fin oI) 0 0 0 (largs 0 [lvI a1, lvI a2, lvI a3]) [] h (m_X4_join a1 a2 a3 h) := by
  unfold m_X4_join
  refine si_iload_n 0 dX4_join_0 rfl rfl ?_
  refine si_ite (fun e0 => ?_) (fun n0 => ?_)
  · refine si_tsIn (10010) 32 e0 dX4_join_1 (by decide) (by decide) rfl (by decide) ?_
    refine si_iload_n 1 dX4_join_32 rfl rfl ?_
    refine si_iload_n 2 dX4_join_33 rfl rfl ?_
    refine si_iadd dX4_join_34 ?_
    exact si_iret dX4_join_35 rfl (Nat.le_of_ble_eq_true rfl) (Nat.le_of_ble_eq_true rfl)
  refine si_ite (fun e1 => ?_) (fun n1 => ?_)
  · refine si_tsIn (10011) 36 e1 dX4_join_1 (by decide) (by decide) rfl (by decide) ?_
    refine si_iload_n 1 dX4_join_36 rfl rfl ?_
    refine si_iload_n 2 dX4_join_37 rfl rfl ?_
    refine si_isub dX4_join_38 ?_
    exact si_iret dX4_join_39 rfl (Nat.le_of_ble_eq_true rfl) (Nat.le_of_ble_eq_true rfl)
  refine si_ite (fun e2 => ?_) (fun n2 => ?_)
  · refine si_tsIn (10012) 40 e2 dX4_join_1 (by decide) (by decide) rfl (by decide) ?_
    refine si_iload_n 1 dX4_join_40 rfl rfl ?_
    refine si_iload_n 2 dX4_join_41 rfl rfl ?_
    refine si_icmp_ge 49 dX4_join_42 (by decide) ?_ ?_
    · refine si_iconst (v := 0) dX4_join_49 (by decide) ?_
      exact si_iret dX4_join_50 rfl (Nat.le_of_ble_eq_true rfl) (Nat.le_of_ble_eq_true rfl)
    · refine si_iconst (v := 1) dX4_join_45 (by decide) ?_
      refine si_goto 50 dX4_join_46 (by decide) ?_
      exact si_iret dX4_join_50 rfl (Nat.le_of_ble_eq_true rfl) (Nat.le_of_ble_eq_true rfl)
  refine si_ite (fun e3 => ?_) (fun n3 => ?_)
  · refine si_tsIn (10013) 51 e3 dX4_join_1 (by decide) (by decide) rfl (by decide) ?_
    refine si_iload_n 1 dX4_join_51 rfl rfl ?_
    refine si_iload_n 2 dX4_join_52 rfl rfl ?_
    refine si_icmp_ne 60 dX4_join_53 (by decide) ?_ ?_
    · refine si_iconst (v := 1) dX4_join_56 (by decide) ?_
      refine si_goto 61 dX4_join_57 (by decide) ?_
      exact si_iret dX4_join_61 rfl (Nat.le_of_ble_eq_true rfl) (Nat.le_of_ble_eq_true rfl)
    · refine si_iconst (v := 0) dX4_join_60 (by decide) ?_
      exact si_iret dX4_join_61 rfl (Nat.le_of_ble_eq_true rfl) (Nat.le_of_ble_eq_true rfl)
  refine si_tsOut 62 dX4_join_1 (by have z0 := lv_neT n0 (a := 10010) (by decide); have z1 := lv_neT n1 (a := 10011) (by decide); have z2 := lv_neT n2 (a := 10012) (by decide); have z3 := lv_neT n3 (a := 10013) (by decide); omega) (by decide) ?_
  refine si_iload_n 1 dX4_join_62 rfl rfl ?_
  refine si_if_eq 74 dX4_join_63 (by decide) ?_ ?_
  · refine si_iconst (v := 0) dX4_join_74 (by decide) ?_
    exact si_iret dX4_join_75 rfl (Nat.le_of_ble_eq_true rfl) (Nat.le_of_ble_eq_true rfl)
  · refine si_iload_n 2 dX4_join_66 rfl rfl ?_
    refine si_if_eq 74 dX4_join_67 (by decide) ?_ ?_
    · refine si_iconst (v := 0) dX4_join_74 (by decide) ?_
      exact si_iret dX4_join_75 rfl (Nat.le_of_ble_eq_true rfl) (Nat.le_of_ble_eq_true rfl)
    · refine si_iconst (v := 1) dX4_join_70 (by decide) ?_
      refine si_goto 75 dX4_join_71 (by decide) ?_
      exact si_iret dX4_join_75 rfl (Nat.le_of_ble_eq_true rfl) (Nat.le_of_ble_eq_true rfl)
theorem ct_X4_join (l : Launch) (G : GG) {a1 : Int32} {a2 : Int32} {a3 : Int32} {h : HS} {q : Int32 × HS} (hq : m_X4_join a1 a2 a3 h = some q) : Ct l yX4_join mi_X4_join G [lvI a1, lvI a2, lvI a3] h (oI q) := Ct.of (out := oI) (by decide +kernel) rfl rfl (Nat.le_of_ble_eq_true rfl) hq (fun _ _ _ _ _ _ _ _ => s_X4_join a1 a2 a3 h)
set_option maxHeartbeats 4000000 in
set_option maxRecDepth 100000 in
theorem s_X4_take {E : EV} (th : Nat) (a1 : Int32) (h : HS) : Sim E mi_X4_take (fin oV) 0 0 0 (largs 0 [lvR (some th), lvI a1]) [] h (m_X4_take th a1 h) := by
  unfold m_X4_take
  refine si_iload_n 1 dX4_take_0 rfl rfl ?_
  refine si_sipush (v := 10000) dX4_take_1 (by decide) ?_
  refine si_icmp_ge 15 dX4_take_4 (by decide) ?_ ?_
  · refine si_iload_n 1 dX4_take_15 rfl rfl ?_
    refine si_sipush (v := 10000) dX4_take_16 (by decide) ?_
    refine si_aload_n 0 dX4_take_19 rfl rfl ?_
    refine si_gR 5 0 fl_X4_9 dX4_take_20 (by decide) rfl (fun x1 => ?_)
    refine si_aN dX4_take_23 (fun x2 => ?_)
    refine si_iadd dX4_take_24 ?_
    refine si_icmp_ge 45 dX4_take_25 (by decide) ?_ ?_
    · refine si_aload_n 0 dX4_take_45 rfl rfl ?_
      refine si_cvI 5 [] dX4_take_46 rfl mc_X4_pop ml_X4_35 im_X4_pop rfl se_X4_pop (by decide) rfl ⟨Nat.le_of_ble_eq_true rfl, Nat.le_of_ble_eq_true rfl, Nat.le_of_ble_eq_true rfl, Nat.le_of_ble_eq_true rfl⟩ (Nat.le_of_ble_eq_true rfl) (fun _ _ hq => ct_X4_pop _ _ hq) (fun q3 => ?_)
      refine si_istore_n 2 dX4_take_49 rfl (by decide) ?_
      refine si_aload_n 0 dX4_take_50 rfl rfl ?_
      refine si_cvI 5 [] dX4_take_51 rfl mc_X4_pop ml_X4_35 im_X4_pop rfl se_X4_pop (by decide) rfl ⟨Nat.le_of_ble_eq_true rfl, Nat.le_of_ble_eq_true rfl, Nat.le_of_ble_eq_true rfl, Nat.le_of_ble_eq_true rfl⟩ (Nat.le_of_ble_eq_true rfl) (fun _ _ hq => ct_X4_pop _ _ hq) (fun q5 => ?_)
      refine si_istore_n 3 dX4_take_54 rfl (by decide) ?_
      refine si_aload_n 0 dX4_take_55 rfl rfl ?_
      refine si_iload_n 1 dX4_take_56 rfl rfl ?_
      refine si_iload_n 3 dX4_take_57 rfl rfl ?_
      refine si_iload_n 2 dX4_take_58 rfl rfl ?_
      refine si_csI [lvI (a1), lvI (q5.1), lvI (q3.1)] dX4_take_59 rfl mc_X4_join ml_X4_42 st_X4_join rfl ⟨Nat.le_of_ble_eq_true rfl, Nat.le_of_ble_eq_true rfl, Nat.le_of_ble_eq_true rfl, Nat.le_of_ble_eq_true rfl⟩ (Nat.le_of_ble_eq_true rfl) (fun _ hq => ct_X4_join _ _ hq) (fun q7 => ?_)
      refine si_cvV 5 [lvI (q7.1)] dX4_take_62 rfl mc_X4_push ml_X4_39 im_X4_push rfl se_X4_push (by decide) rfl ⟨Nat.le_of_ble_eq_true rfl, Nat.le_of_ble_eq_true rfl, Nat.le_of_ble_eq_true rfl, Nat.le_of_ble_eq_true rfl⟩ (Nat.le_of_ble_eq_true rfl) (fun _ _ hq => ct_X4_push _ _ hq) (fun h8 => ?_)
      exact si_vret dX4_take_65 rfl (Nat.le_of_ble_eq_true rfl) (Nat.le_of_ble_eq_true rfl)
    · refine si_aload_n 0 dX4_take_28 rfl rfl ?_
      refine si_aload_n 0 dX4_take_29 rfl rfl ?_
      refine si_gR 5 0 fl_X4_9 dX4_take_30 (by decide) rfl (fun x10 => ?_)
      refine si_iload_n 1 dX4_take_33 rfl rfl ?_
      refine si_sipush (v := 10000) dX4_take_34 (by decide) ?_
      refine si_isub dX4_take_37 ?_
      refine si_ia dX4_take_38 (fun x11 => ?_)
      refine si_cvV 5 [lvI (x11)] dX4_take_39 rfl mc_X4_push ml_X4_39 im_X4_push rfl se_X4_push (by decide) rfl ⟨Nat.le_of_ble_eq_true rfl, Nat.le_of_ble_eq_true rfl, Nat.le_of_ble_eq_true rfl, Nat.le_of_ble_eq_true rfl⟩ (Nat.le_of_ble_eq_true rfl) (fun _ _ hq => ct_X4_push _ _ hq) (fun h12 => ?_)
      refine si_goto 65 dX4_take_42 (by decide) ?_
      exact si_vret dX4_take_65 rfl (Nat.le_of_ble_eq_true rfl) (Nat.le_of_ble_eq_true rfl)
  · refine si_aload_n 0 dX4_take_7 rfl rfl ?_
    refine si_iload_n 1 dX4_take_8 rfl rfl ?_
    refine si_cvV 5 [lvI (a1)] dX4_take_9 rfl mc_X4_push ml_X4_39 im_X4_push rfl se_X4_push (by decide) rfl ⟨Nat.le_of_ble_eq_true rfl, Nat.le_of_ble_eq_true rfl, Nat.le_of_ble_eq_true rfl, Nat.le_of_ble_eq_true rfl⟩ (Nat.le_of_ble_eq_true rfl) (fun _ _ hq => ct_X4_push _ _ hq) (fun h14 => ?_)
    refine si_goto 65 dX4_take_12 (by decide) ?_
    exact si_vret dX4_take_65 rfl (Nat.le_of_ble_eq_true rfl) (Nat.le_of_ble_eq_true rfl)
theorem ct_X4_take (l : Launch) (G : GG) {th : Nat} {a1 : Int32} {h : HS} {q : HS} (hq : m_X4_take th a1 h = some q) : Ct l yX4_take mi_X4_take G [lvR (some th), lvI a1] h (oV q) := Ct.of (out := oV) (by decide +kernel) rfl rfl (Nat.le_of_ble_eq_true rfl) hq (fun _ _ _ _ _ _ _ _ => s_X4_take th a1 h)
set_option maxHeartbeats 4000000 in
set_option maxRecDepth 100000 in
theorem X4_rateBy_b51_s {E : EV} (th : Nat) (go7 : Option Nat → Int32 → HS → Option (Int32 × HS)) (hg7 : ∀ (l1 : Option Nat) (l2 : Int32) (h : HS), Sim E mi_X4_rateBy (fin oI) 0 0 7 [(0, lvR (some th)), (1, lvR (l1)), (2, lvI (l2))] [] h (go7 l1 l2 h)) (l1 : Option Nat) (l2 : Int32) (h : HS) : Sim E mi_X4_rateBy (fin oI) 0 0 51 [(0, lvR (some th)), (1, lvR (l1)), (2, lvI (l2))] [] h (X4_rateBy_b51 th go7 l1 l2 h) := by
  unfold X4_rateBy_b51
  refine si_iinc 2 (1) dX4_rateBy_51 rfl (by decide) (by decide) ?_
  refine si_goto 7 dX4_rateBy_54 (by decide) ?_
  refine si_widen 0 0 (Nat.le_of_ble_eq_true rfl) (Nat.le_of_ble_eq_true rfl) ?_
  refine si_lo [(0, lvR (some th)), (1, lvR (l1)), (2, lvI (l2 + (1)))] ⟨rfl, rfl, rfl, trivial⟩ ?_
  exact hg7 l1 (l2 + (1)) _
set_option maxHeartbeats 4000000 in
set_option maxRecDepth 100000 in
theorem X4_rateBy_L7_s {E : EV} (th : Nat) (n : Nat) : ∀ (l1 : Option Nat) (l2 : Int32) (h : HS), Sim E mi_X4_rateBy (fin oI) 0 0 7 [(0, lvR (some th)), (1, lvR (l1)), (2, lvI (l2))] [] h (X4_rateBy_L7 th n l1 l2 h) := by
  induction n with
  | zero => intro l1 l2 h; exact si_none
  | succ n ih =>
    intro l1 l2 h
    unfold X4_rateBy_L7
    refine si_iload_n 2 dX4_rateBy_7 rfl rfl ?_
    refine si_aload_n 1 dX4_rateBy_8 rfl rfl ?_
    refine si_gR 4 0 fl_X4_26 dX4_rateBy_9 (by decide) rfl (fun x1 => ?_)
    refine si_aN dX4_rateBy_12 (fun x2 => ?_)
    refine si_icmp_ge 57 dX4_rateBy_13 (by decide) ?_ ?_
    · refine si_iconst (v := 0) dX4_rateBy_57 (by decide) ?_
      exact si_iret dX4_rateBy_58 rfl (Nat.le_of_ble_eq_true rfl) (Nat.le_of_ble_eq_true rfl)
    · refine si_aload_n 1 dX4_rateBy_16 rfl rfl ?_
      refine si_gR 4 0 fl_X4_26 dX4_rateBy_17 (by decide) rfl (fun x3 => ?_)
      refine si_iload_n 2 dX4_rateBy_20 rfl rfl ?_
      refine si_ia dX4_rateBy_21 (fun x4 => ?_)
      refine si_istore_n 3 dX4_rateBy_22 rfl (by decide) ?_
      refine si_iload_n 3 dX4_rateBy_23 rfl rfl ?_
      refine si_sipush (v := 20000) dX4_rateBy_24 (by decide) ?_
      refine si_icmp_ge 38 dX4_rateBy_27 (by decide) ?_ ?_
      · refine si_aload_n 0 dX4_rateBy_38 rfl rfl ?_
        refine si_cvI 5 [] dX4_rateBy_39 rfl mc_X4_pop ml_X4_35 im_X4_pop rfl se_X4_pop (by decide) rfl ⟨Nat.le_of_ble_eq_true rfl, Nat.le_of_ble_eq_true rfl, Nat.le_of_ble_eq_true rfl, Nat.le_of_ble_eq_true rfl⟩ (Nat.le_of_ble_eq_true rfl) (fun _ _ hq => ct_X4_pop _ _ hq) (fun q5 => ?_)
        refine si_if_eq 51 dX4_rateBy_42 (by decide) ?_ ?_
        · refine si_widen 0 0 (Nat.le_of_ble_eq_true rfl) (Nat.le_of_ble_eq_true rfl) ?_
          refine si_lo [(0, lvR (some th)), (1, lvR (l1)), (2, lvI (l2))] ⟨rfl, rfl, rfl, trivial⟩ ?_
          exact X4_rateBy_b51_s th (X4_rateBy_L7 th n) ih l1 l2 _
        · refine si_iload_n 3 dX4_rateBy_45 rfl rfl ?_
          refine si_sipush (v := 20000) dX4_rateBy_46 (by decide) ?_
          refine si_isub dX4_rateBy_49 ?_
          exact si_iret dX4_rateBy_50 rfl (Nat.le_of_ble_eq_true rfl) (Nat.le_of_ble_eq_true rfl)
      · refine si_aload_n 0 dX4_rateBy_30 rfl rfl ?_
        refine si_iload_n 3 dX4_rateBy_31 rfl rfl ?_
        refine si_cvV 5 [lvI (x4)] dX4_rateBy_32 rfl mc_X4_take ml_X4_31 im_X4_take rfl se_X4_take (by decide) rfl ⟨Nat.le_of_ble_eq_true rfl, Nat.le_of_ble_eq_true rfl, Nat.le_of_ble_eq_true rfl, Nat.le_of_ble_eq_true rfl⟩ (Nat.le_of_ble_eq_true rfl) (fun _ _ hq => ct_X4_take _ _ hq) (fun h7 => ?_)
        refine si_goto 51 dX4_rateBy_35 (by decide) ?_
        refine si_widen 0 0 (Nat.le_of_ble_eq_true rfl) (Nat.le_of_ble_eq_true rfl) ?_
        refine si_lo [(0, lvR (some th)), (1, lvR (l1)), (2, lvI (l2))] ⟨rfl, rfl, rfl, trivial⟩ ?_
        exact X4_rateBy_b51_s th (X4_rateBy_L7 th n) ih l1 l2 _
set_option maxHeartbeats 4000000 in
set_option maxRecDepth 100000 in
theorem s_X4_rateBy {E : EV} (th : Nat) (a1 : Option Nat) (h : HS) : Sim E mi_X4_rateBy (fin oI) 0 0 0 (largs 0 [lvR (some th), lvR a1]) [] h (m_X4_rateBy th a1 h) := by
  unfold m_X4_rateBy
  refine si_aload_n 0 dX4_rateBy_0 rfl rfl ?_
  refine si_iconst (v := 0) dX4_rateBy_1 (by decide) ?_
  refine si_pI 5 2 fl_X4_18 dX4_rateBy_2 (by decide) rfl rfl rfl (fw_X4_18 _) (fun h1 => ?_)
  refine si_iconst (v := 0) dX4_rateBy_5 (by decide) ?_
  refine si_istore_n 2 dX4_rateBy_6 rfl (by decide) ?_
  refine si_widen 0 0 (Nat.le_of_ble_eq_true rfl) (Nat.le_of_ble_eq_true rfl) ?_
  refine si_lo [(0, lvR (some th)), (1, lvR (a1)), (2, lvI ((0 : Int32)))] ⟨rfl, rfl, rfl, trivial⟩ ?_
  exact X4_rateBy_L7_s th FU a1 ((0 : Int32)) _
theorem ct_X4_rateBy (l : Launch) (G : GG) {th : Nat} {a1 : Option Nat} {h : HS} {q : Int32 × HS} (hq : m_X4_rateBy th a1 h = some q) : Ct l yX4_rateBy mi_X4_rateBy G [lvR (some th), lvR a1] h (oI q) := Ct.of (out := oI) (by decide +kernel) rfl rfl (Nat.le_of_ble_eq_true rfl) hq (fun _ _ _ _ _ _ _ _ => s_X4_rateBy th a1 h)
set_option maxHeartbeats 4000000 in
set_option maxRecDepth 100000 in
theorem s_X5_init {E : EV} (th : Nat) (h : HS) : Sim E mi_X5_init (fin oV) 0 0 0 (largs 0 [lvR (some th)]) [] h (m_X5_init th h) := by
  unfold m_X5_init
  refine si_aload_n 0 dX5_init_0 rfl rfl ?_
  refine si_obj dX5_init_1 ob_X5_3 (Nat.le_of_ble_eq_true rfl) (Nat.le_of_ble_eq_true rfl) ?_
  refine si_aload_n 0 dX5_init_4 rfl rfl ?_
  refine si_sipush (v := 600) dX5_init_5 (by decide) ?_
  refine si_newa 600 203 dX5_init_8 rfl (by decide) ac_203 (by decide) (Nat.le_of_ble_eq_true rfl) (Nat.le_of_ble_eq_true rfl) (fun q1 => ?_)
  refine si_pR 6 0 fl_X5_9 dX5_init_10 (by decide) rfl fwi_X5_9 (fun h2 => ?_)
  refine si_aload_n 0 dX5_init_13 rfl rfl ?_
  refine si_iconst (v := 0) dX5_init_14 (by decide) ?_
  refine si_pI 6 1 fl_X5_15 dX5_init_15 (by decide) rfl rfl rfl (fw_X5_15 _) (fun h3 => ?_)
  exact si_vret dX5_init_18 rfl (Nat.le_of_ble_eq_true rfl) (Nat.le_of_ble_eq_true rfl)
theorem ct_X5_init (l : Launch) (G : GG) {th : Nat} {h : HS} {q : HS} (hq : m_X5_init th h = some q) : Ct l yX5_init mi_X5_init G [lvR (some th)] h (oV q) := Ct.of (out := oV) (by decide +kernel) rfl rfl (Nat.le_of_ble_eq_true rfl) hq (fun _ _ _ _ _ _ _ _ => s_X5_init th h)
set_option maxHeartbeats 4000000 in
set_option maxRecDepth 100000 in
theorem X5_addSign_b22_s {E : EV} (th : Nat) (l1 : Int32) (s0 : Int32) (h : HS) : Sim E mi_X5_addSign (fin oV) 0 0 22 [(0, lvR (some th)), (1, lvI (l1))] [.int (s0)] h (X5_addSign_b22 th l1 s0 h) := by
  unfold X5_addSign_b22
  refine si_istore_n 2 dX5_addSign_22 rfl (by decide) ?_
  refine si_iload_n 2 dX5_addSign_23 rfl rfl ?_
  refine si_if_eq 60 dX5_addSign_24 (by decide) ?_ ?_
  · exact si_vret dX5_addSign_60 rfl (Nat.le_of_ble_eq_true rfl) (Nat.le_of_ble_eq_true rfl)
  · refine si_aload_n 0 dX5_addSign_27 rfl rfl ?_
    refine si_gI 6 1 fl_X5_15 dX5_addSign_28 (by decide) rfl (fun x1 => ?_)
    refine si_aload_n 0 dX5_addSign_31 rfl rfl ?_
    refine si_gR 6 0 fl_X5_9 dX5_addSign_32 (by decide) rfl (fun x2 => ?_)
    refine si_aN dX5_addSign_35 (fun x3 => ?_)
    refine si_icmp_ge 60 dX5_addSign_36 (by decide) ?_ ?_
    · exact si_vret dX5_addSign_60 rfl (Nat.le_of_ble_eq_true rfl) (Nat.le_of_ble_eq_true rfl)
    · refine si_aload_n 0 dX5_addSign_39 rfl rfl ?_
      refine si_gR 6 0 fl_X5_9 dX5_addSign_40 (by decide) rfl (fun x4 => ?_)
      refine si_aload_n 0 dX5_addSign_43 rfl rfl ?_
      refine si_gI 6 1 fl_X5_15 dX5_addSign_44 (by decide) rfl (fun x5 => ?_)
      refine si_iload_n 1 dX5_addSign_47 rfl rfl ?_
      refine si_i2b dX5_addSign_48 ?_
      refine si_bs dX5_addSign_49 (fun h6 => ?_)
      refine si_aload_n 0 dX5_addSign_50 rfl rfl ?_
      refine si_dup dX5_addSign_51 (cat_rf _) ?_
      refine si_gI 6 1 fl_X5_15 dX5_addSign_52 (by decide) rfl (fun x7 => ?_)
      refine si_iconst (v := 1) dX5_addSign_55 (by decide) ?_
      refine si_iadd dX5_addSign_56 ?_
      refine si_pI 6 1 fl_X5_15 dX5_addSign_57 (by decide) rfl rfl rfl (fw_X5_15 _) (fun h8 => ?_)
      exact si_vret dX5_addSign_60 rfl (Nat.le_of_ble_eq_true rfl) (Nat.le_of_ble_eq_true rfl)
set_option maxHeartbeats 4000000 in
set_option maxRecDepth 100000 in
theorem X5_addSign_b17_s {E : EV} (th : Nat) (l1 : Int32) (h : HS) : Sim E mi_X5_addSign (fin oV) 0 0 17 [(0, lvR (some th)), (1, lvI (l1))] [] h (X5_addSign_b17 th l1 h) := by
  unfold X5_addSign_b17
  refine si_iconst (v := 1) dX5_addSign_17 (by decide) ?_
  refine si_goto 22 dX5_addSign_18 (by decide) ?_
  refine si_widen 0 0 (Nat.le_of_ble_eq_true rfl) (Nat.le_of_ble_eq_true rfl) ?_
  refine si_lo [(0, lvR (some th)), (1, lvI (l1))] ⟨rfl, rfl, trivial⟩ ?_
  exact X5_addSign_b22_s th l1 ((1 : Int32)) _
set_option maxHeartbeats 4000000 in
set_option maxRecDepth 100000 in
theorem s_X5_addSign {E : EV} (th : Nat) (a1 : Int32) (h : HS) : Sim E mi_X5_addSign (fin oV) 0 0 0 (largs 0 [lvR (some th), lvI a1]) [] h (m_X5_addSign th a1 h) := by
  unfold m_X5_addSign
  refine si_iload_n 1 dX5_addSign_0 rfl rfl ?_
  refine si_bipush (v := 10) dX5_addSign_1 (by decide) ?_
  refine si_icmp_eq 17 dX5_addSign_3 (by decide) ?_ ?_
  · refine si_widen 0 0 (Nat.le_of_ble_eq_true rfl) (Nat.le_of_ble_eq_true rfl) ?_
    refine si_lo [(0, lvR (some th)), (1, lvI (a1))] ⟨rfl, rfl, trivial⟩ ?_
    exact X5_addSign_b17_s th a1 _
  · refine si_iload_n 1 dX5_addSign_6 rfl rfl ?_
    refine si_bipush (v := 32) dX5_addSign_7 (by decide) ?_
    refine si_bipush (v := 126) dX5_addSign_9 (by decide) ?_
    refine si_csI [lvI (a1), lvI ((32 : Int32)), lvI ((126 : Int32))] dX5_addSign_11 rfl mc_X8_isWithin ml_X5_23 st_X8_isWithin rfl ⟨Nat.le_of_ble_eq_true rfl, Nat.le_of_ble_eq_true rfl, Nat.le_of_ble_eq_true rfl, Nat.le_of_ble_eq_true rfl⟩ (Nat.le_of_ble_eq_true rfl) (fun _ hq => ct_X8_isWithin _ _ hq) (fun q1 => ?_)
    refine si_if_eq 21 dX5_addSign_14 (by decide) ?_ ?_
    · refine si_iconst (v := 0) dX5_addSign_21 (by decide) ?_
      refine si_widen 0 0 (Nat.le_of_ble_eq_true rfl) (Nat.le_of_ble_eq_true rfl) ?_
      refine si_lo [(0, lvR (some th)), (1, lvI (a1))] ⟨rfl, rfl, trivial⟩ ?_
      exact X5_addSign_b22_s th a1 ((0 : Int32)) _
    · refine si_widen 0 0 (Nat.le_of_ble_eq_true rfl) (Nat.le_of_ble_eq_true rfl) ?_
      refine si_lo [(0, lvR (some th)), (1, lvI (a1))] ⟨rfl, rfl, trivial⟩ ?_
      exact X5_addSign_b17_s th a1 _
theorem ct_X5_addSign (l : Launch) (G : GG) {th : Nat} {a1 : Int32} {h : HS} {q : HS} (hq : m_X5_addSign th a1 h = some q) : Ct l yX5_addSign mi_X5_addSign G [lvR (some th), lvI a1] h (oV q) := Ct.of (out := oV) (by decide +kernel) rfl rfl (Nat.le_of_ble_eq_true rfl) hq (fun _ _ _ _ _ _ _ _ => s_X5_addSign th a1 h)
set_option maxHeartbeats 4000000 in
set_option maxRecDepth 100000 in
theorem X5_addBytes_L3_s {E : EV} (th : Nat) (n : Nat) : ∀ (l1 : Int64) (l3 : Int32) (h : HS), Sim E mi_X5_addBytes (fin oV) 0 0 3 [(0, lvR (some th)), (1, lvJ (l1)), (3, lvI (l3))] [] h (X5_addBytes_L3 th n l1 l3 h) := by
  induction n with
  | zero => intro l1 l3 h; exact si_none
  | succ n ih =>
    intro l1 l3 h
    unfold X5_addBytes_L3
    refine si_iload_n 3 dX5_addBytes_3 rfl rfl ?_
    refine si_if_lt 25 dX5_addBytes_4 (by decide) ?_ ?_
    · exact si_vret dX5_addBytes_25 rfl (Nat.le_of_ble_eq_true rfl) (Nat.le_of_ble_eq_true rfl)
    · refine si_aload_n 0 dX5_addBytes_7 rfl rfl ?_
      refine si_lload_n 1 dX5_addBytes_8 rfl rfl ?_
      refine si_iload_n 3 dX5_addBytes_9 rfl rfl ?_
      refine si_lushr dX5_addBytes_10 ?_
      refine si_l2i dX5_addBytes_11 ?_
      refine si_sipush (v := 255) dX5_addBytes_12 (by decide) ?_
      refine si_iand dX5_addBytes_15 ?_
      refine si_cvV 6 [lvI (((lushr l1 l3).toInt32) &&& (255 : Int32))] dX5_addBytes_16 rfl mc_X5_addSign ml_X5_19 im_X5_addSign rfl se_X5_addSign (by decide) rfl ⟨Nat.le_of_ble_eq_true rfl, Nat.le_of_ble_eq_true rfl, Nat.le_of_ble_eq_true rfl, Nat.le_of_ble_eq_true rfl⟩ (Nat.le_of_ble_eq_true rfl) (fun _ _ hq => ct_X5_addSign _ _ hq) (fun h1 => ?_)
      refine si_iinc 3 (-8) dX5_addBytes_19 rfl (by decide) (by decide) ?_
      refine si_goto 3 dX5_addBytes_22 (by decide) ?_
      refine si_widen 0 0 (Nat.le_of_ble_eq_true rfl) (Nat.le_of_ble_eq_true rfl) ?_
      refine si_lo [(0, lvR (some th)), (1, lvJ (l1)), (3, lvI (l3 + (-8)))] ⟨rfl, rfl, rfl, trivial⟩ ?_
      exact ih l1 (l3 + (-8)) _
set_option maxHeartbeats 4000000 in
set_option maxRecDepth 100000 in
theorem s_X5_addBytes {E : EV} (th : Nat) (a1 : Int64) (h : HS) : Sim E mi_X5_addBytes (fin oV) 0 0 0 (largs 0 [lvR (some th), lvJ a1]) [] h (m_X5_addBytes th a1 h) := by
  unfold m_X5_addBytes
  refine si_bipush (v := 56) dX5_addBytes_0 (by decide) ?_
  refine si_istore_n 3 dX5_addBytes_2 rfl (by decide) ?_
  refine si_widen 0 0 (Nat.le_of_ble_eq_true rfl) (Nat.le_of_ble_eq_true rfl) ?_
  refine si_lo [(0, lvR (some th)), (1, lvJ (a1)), (3, lvI ((56 : Int32)))] ⟨rfl, rfl, rfl, trivial⟩ ?_
  exact X5_addBytes_L3_s th FU a1 ((56 : Int32)) _
theorem ct_X5_addBytes (l : Launch) (G : GG) {th : Nat} {a1 : Int64} {h : HS} {q : HS} (hq : m_X5_addBytes th a1 h = some q) : Ct l yX5_addBytes mi_X5_addBytes G [lvR (some th), lvJ a1] h (oV q) := Ct.of (out := oV) (by decide +kernel) rfl rfl (Nat.le_of_ble_eq_true rfl) hq (fun _ _ _ _ _ _ _ _ => s_X5_addBytes th a1 h)
set_option maxHeartbeats 4000000 in
set_option maxRecDepth 100000 in
theorem s_X5_signAt {E : EV} (th : Nat) (a1 : Int32) (h : HS) : Sim E mi_X5_signAt (fin oI) 0 0 0 (largs 0 [lvR (some th), lvI a1]) [] h (m_X5_signAt th a1 h) := by
  unfold m_X5_signAt
  refine si_iload_n 1 dX5_signAt_0 rfl rfl ?_
  refine si_if_lt 30 dX5_signAt_1 (by decide) ?_ ?_
  · refine si_iconst (v := 0) dX5_signAt_30 (by decide) ?_
    exact si_iret dX5_signAt_31 rfl (Nat.le_of_ble_eq_true rfl) (Nat.le_of_ble_eq_true rfl)
  · refine si_iload_n 1 dX5_signAt_4 rfl rfl ?_
    refine si_aload_n 0 dX5_signAt_5 rfl rfl ?_
    refine si_gI 6 1 fl_X5_15 dX5_signAt_6 (by decide) rfl (fun x1 => ?_)
    refine si_icmp_ge 30 dX5_signAt_9 (by decide) ?_ ?_
    · refine si_iconst (v := 0) dX5_signAt_30 (by decide) ?_
      exact si_iret dX5_signAt_31 rfl (Nat.le_of_ble_eq_true rfl) (Nat.le_of_ble_eq_true rfl)
    · refine si_iload_n 1 dX5_signAt_12 rfl rfl ?_
      refine si_aload_n 0 dX5_signAt_13 rfl rfl ?_
      refine si_gR 6 0 fl_X5_9 dX5_signAt_14 (by decide) rfl (fun x2 => ?_)
      refine si_aN dX5_signAt_17 (fun x3 => ?_)
      refine si_icmp_ge 30 dX5_signAt_18 (by decide) ?_ ?_
      · refine si_iconst (v := 0) dX5_signAt_30 (by decide) ?_
        exact si_iret dX5_signAt_31 rfl (Nat.le_of_ble_eq_true rfl) (Nat.le_of_ble_eq_true rfl)
      · refine si_aload_n 0 dX5_signAt_21 rfl rfl ?_
        refine si_gR 6 0 fl_X5_9 dX5_signAt_22 (by decide) rfl (fun x4 => ?_)
        refine si_iload_n 1 dX5_signAt_25 rfl rfl ?_
        refine si_ba 203 (by decide) dX5_signAt_26 (fun x5 => ?_)
        refine si_goto 31 dX5_signAt_27 (by decide) ?_
        exact si_iret dX5_signAt_31 rfl (Nat.le_of_ble_eq_true rfl) (Nat.le_of_ble_eq_true rfl)
theorem ct_X5_signAt (l : Launch) (G : GG) {th : Nat} {a1 : Int32} {h : HS} {q : Int32 × HS} (hq : m_X5_signAt th a1 h = some q) : Ct l yX5_signAt mi_X5_signAt G [lvR (some th), lvI a1] h (oI q) := Ct.of (out := oI) (by decide +kernel) rfl rfl (Nat.le_of_ble_eq_true rfl) hq (fun _ _ _ _ _ _ _ _ => s_X5_signAt th a1 h)
set_option maxHeartbeats 4000000 in
set_option maxRecDepth 100000 in
theorem s_X5_clear {E : EV} (th : Nat) (h : HS) : Sim E mi_X5_clear (fin oV) 0 0 0 (largs 0 [lvR (some th)]) [] h (m_X5_clear th h) := by
  unfold m_X5_clear
  refine si_aload_n 0 dX5_clear_0 rfl rfl ?_
  refine si_iconst (v := 0) dX5_clear_1 (by decide) ?_
  refine si_pI 6 1 fl_X5_15 dX5_clear_2 (by decide) rfl rfl rfl (fw_X5_15 _) (fun h1 => ?_)
  exact si_vret dX5_clear_5 rfl (Nat.le_of_ble_eq_true rfl) (Nat.le_of_ble_eq_true rfl)
theorem ct_X5_clear (l : Launch) (G : GG) {th : Nat} {h : HS} {q : HS} (hq : m_X5_clear th h = some q) : Ct l yX5_clear mi_X5_clear G [lvR (some th)] h (oV q) := Ct.of (out := oV) (by decide +kernel) rfl rfl (Nat.le_of_ble_eq_true rfl) hq (fun _ _ _ _ _ _ _ _ => s_X5_clear th h)
set_option maxHeartbeats 4000000 in
set_option maxRecDepth 100000 in
theorem s_X7_init {E : EV} (th : Nat) (h : HS) : Sim E mi_X7_init (fin oV) 0 0 0 (largs 0 [lvR (some th)]) [] h (m_X7_init th h) := by
  unfold m_X7_init
  refine si_aload_n 0 dX7_init_0 rfl rfl ?_
  refine si_obj dX7_init_1 ob_X7_3 (Nat.le_of_ble_eq_true rfl) (Nat.le_of_ble_eq_true rfl) ?_
  refine si_aload_n 0 dX7_init_4 rfl rfl ?_
  refine si_sipush (v := 601) dX7_init_5 (by decide) ?_
  refine si_newa 601 201 dX7_init_8 rfl (by decide) ac_201 (by decide) (Nat.le_of_ble_eq_true rfl) (Nat.le_of_ble_eq_true rfl) (fun q1 => ?_)
  refine si_pR 8 0 fl_X7_9 dX7_init_10 (by decide) rfl fwi_X7_9 (fun h2 => ?_)
  refine si_aload_n 0 dX7_init_13 rfl rfl ?_
  refine si_sipush (v := 601) dX7_init_14 (by decide) ?_
  refine si_newa 601 201 dX7_init_17 rfl (by decide) ac_201 (by decide) (Nat.le_of_ble_eq_true rfl) (Nat.le_of_ble_eq_true rfl) (fun q3 => ?_)
  refine si_pR 8 1 fl_X7_15 dX7_init_19 (by decide) rfl fwi_X7_15 (fun h4 => ?_)
  refine si_aload_n 0 dX7_init_22 rfl rfl ?_
  refine si_iconst (v := 0) dX7_init_23 (by decide) ?_
  refine si_pI 8 2 fl_X7_18 dX7_init_24 (by decide) rfl rfl rfl (fw_X7_18 _) (fun h5 => ?_)
  exact si_vret dX7_init_27 rfl (Nat.le_of_ble_eq_true rfl) (Nat.le_of_ble_eq_true rfl)
theorem ct_X7_init (l : Launch) (G : GG) {th : Nat} {h : HS} {q : HS} (hq : m_X7_init th h = some q) : Ct l yX7_init mi_X7_init G [lvR (some th)] h (oV q) := Ct.of (out := oV) (by decide +kernel) rfl rfl (Nat.le_of_ble_eq_true rfl) hq (fun _ _ _ _ _ _ _ _ => s_X7_init th h)
set_option maxHeartbeats 4000000 in
set_option maxRecDepth 100000 in
theorem s_X6_init {E : EV} (th : Nat) (h : HS) : Sim E mi_X6_init (fin oV) 0 0 0 (largs 0 [lvR (some th)]) [] h (m_X6_init th h) := by
  unfold m_X6_init
  refine si_aload_n 0 dX6_init_0 rfl rfl ?_
  refine si_obj dX6_init_1 ob_X6_3 (Nat.le_of_ble_eq_true rfl) (Nat.le_of_ble_eq_true rfl) ?_
  refine si_aload_n 0 dX6_init_4 rfl rfl ?_
  refine si_new 8 3 ln_X6_9 dX6_init_5 (by decide) (Nat.le_of_ble_eq_true rfl) (Nat.le_of_ble_eq_true rfl) ?_
  refine si_dup dX6_init_8 (cat_rf _) ?_
  refine si_ciV [] dX6_init_9 rfl mc_X7_init rfl ml_X6_11 im_X7_init rfl rfl ⟨Nat.le_of_ble_eq_true rfl, Nat.le_of_ble_eq_true rfl, Nat.le_of_ble_eq_true rfl, Nat.le_of_ble_eq_true rfl⟩ (Nat.le_of_ble_eq_true rfl) (fun _ hq => ct_X7_init _ _ hq) (fun h1 => ?_)
  refine si_pR 7 0 fl_X6_12 dX6_init_12 (by decide) rfl fwi_X6_12 (fun h2 => ?_)
  refine si_aload_n 0 dX6_init_15 rfl rfl ?_
  refine si_sipush (v := 600) dX6_init_16 (by decide) ?_
  refine si_newa 600 201 dX6_init_19 rfl (by decide) ac_201 (by decide) (Nat.le_of_ble_eq_true rfl) (Nat.le_of_ble_eq_true rfl) (fun q3 => ?_)
  refine si_pR 7 1 fl_X6_18 dX6_init_21 (by decide) rfl fwi_X6_18 (fun h4 => ?_)
  refine si_aload_n 0 dX6_init_24 rfl rfl ?_
  refine si_iconst (v := 0) dX6_init_25 (by decide) ?_
  refine si_pI 7 2 fl_X6_22 dX6_init_26 (by decide) rfl rfl rfl (fw_X6_22 _) (fun h5 => ?_)
  refine si_aload_n 0 dX6_init_29 rfl rfl ?_
  refine si_iconst (v := 0) dX6_init_30 (by decide) ?_
  refine si_pI 7 3 fl_X6_26 dX6_init_31 (by decide) rfl rfl rfl (fw_X6_26 _) (fun h6 => ?_)
  refine si_aload_n 0 dX6_init_34 rfl rfl ?_
  refine si_sipush (v := 10026) dX6_init_35 (by decide) ?_
  refine si_pI 7 4 fl_X6_29 dX6_init_38 (by decide) rfl rfl rfl (fw_X6_29 _) (fun h7 => ?_)
  refine si_aload_n 0 dX6_init_41 rfl rfl ?_
  refine si_iconst (v := 0) dX6_init_42 (by decide) ?_
  refine si_pI 7 5 fl_X6_32 dX6_init_43 (by decide) rfl rfl rfl (fw_X6_32 _) (fun h8 => ?_)
  refine si_aload_n 0 dX6_init_46 rfl rfl ?_
  refine si_iconst (v := 0) dX6_init_47 (by decide) ?_
  refine si_pI 7 6 fl_X6_35 dX6_init_48 (by decide) rfl rfl rfl (fw_X6_35 _) (fun h9 => ?_)
  exact si_vret dX6_init_51 rfl (Nat.le_of_ble_eq_true rfl) (Nat.le_of_ble_eq_true rfl)
theorem ct_X6_init (l : Launch) (G : GG) {th : Nat} {h : HS} {q : HS} (hq : m_X6_init th h = some q) : Ct l yX6_init mi_X6_init G [lvR (some th)] h (oV q) := Ct.of (out := oV) (by decide +kernel) rfl rfl (Nat.le_of_ble_eq_true rfl) hq (fun _ _ _ _ _ _ _ _ => s_X6_init th h)
set_option maxHeartbeats 4000000 in
set_option maxRecDepth 100000 in
theorem s_X7_isDigit {E : EV} (a1 : Int32) (h : HS) : Sim E mi_X7_isDigit (fin oI) 0 0 0 (largs 0 [lvI a1]) [] h (m_X7_isDigit a1 h) := by
  unfold m_X7_isDigit
  refine si_iload_n 0 dX7_isDigit_0 rfl rfl ?_
  refine si_bipush (v := 48) dX7_isDigit_1 (by decide) ?_
  refine si_bipush (v := 57) dX7_isDigit_3 (by decide) ?_
  refine si_csI [lvI (a1), lvI ((48 : Int32)), lvI ((57 : Int32))] dX7_isDigit_5 rfl mc_X8_isWithin ml_X7_56 st_X8_isWithin rfl ⟨Nat.le_of_ble_eq_true rfl, Nat.le_of_ble_eq_true rfl, Nat.le_of_ble_eq_true rfl, Nat.le_of_ble_eq_true rfl⟩ (Nat.le_of_ble_eq_true rfl) (fun _ hq => ct_X8_isWithin _ _ hq) (fun q1 => ?_)
  exact si_bret dX7_isDigit_8 rfl (Nat.le_of_ble_eq_true rfl) (Nat.le_of_ble_eq_true rfl)
theorem ct_X7_isDigit (l : Launch) (G : GG) {a1 : Int32} {h : HS} {q : Int32 × HS} (hq : m_X7_isDigit a1 h = some q) : Ct l yX7_isDigit mi_X7_isDigit G [lvI a1] h (oI q) := Ct.of (out := oI) (by decide +kernel) rfl rfl (Nat.le_of_ble_eq_true rfl) hq (fun _ _ _ _ _ _ _ _ => s_X7_isDigit a1 h)
set_option maxHeartbeats 4000000 in
set_option maxRecDepth 100000 in
theorem s_X7_add {E : EV} (th : Nat) (a1 : Int32) (a2 : Int32) (h : HS) : Sim E mi_X7_add (fin oV) 0 0 0 (largs 0 [lvR (some th), lvI a1, lvI a2]) [] h (m_X7_add th a1 a2 h) := by
  unfold m_X7_add
  refine si_aload_n 0 dX7_add_0 rfl rfl ?_
  refine si_gI 8 2 fl_X7_18 dX7_add_1 (by decide) rfl (fun x1 => ?_)
  refine si_aload_n 0 dX7_add_4 rfl rfl ?_
  refine si_gR 8 0 fl_X7_9 dX7_add_5 (by decide) rfl (fun x2 => ?_)
  refine si_aN dX7_add_8 (fun x3 => ?_)
  refine si_icmp_ge 54 dX7_add_9 (by decide) ?_ ?_
  · exact si_vret dX7_add_54 rfl (Nat.le_of_ble_eq_true rfl) (Nat.le_of_ble_eq_true rfl)
  · refine si_aload_n 0 dX7_add_12 rfl rfl ?_
    refine si_gI 8 2 fl_X7_18 dX7_add_13 (by decide) rfl (fun x4 => ?_)
    refine si_aload_n 0 dX7_add_16 rfl rfl ?_
    refine si_gR 8 1 fl_X7_15 dX7_add_17 (by decide) rfl (fun x5 => ?_)
    refine si_aN dX7_add_20 (fun x6 => ?_)
    refine si_icmp_ge 54 dX7_add_21 (by decide) ?_ ?_
    · exact si_vret dX7_add_54 rfl (Nat.le_of_ble_eq_true rfl) (Nat.le_of_ble_eq_true rfl)
    · refine si_aload_n 0 dX7_add_24 rfl rfl ?_
      refine si_gR 8 0 fl_X7_9 dX7_add_25 (by decide) rfl (fun x7 => ?_)
      refine si_aload_n 0 dX7_add_28 rfl rfl ?_
      refine si_gI 8 2 fl_X7_18 dX7_add_29 (by decide) rfl (fun x8 => ?_)
      refine si_iload_n 1 dX7_add_32 rfl rfl ?_
      refine si_is dX7_add_33 (fun h9 => ?_)
      refine si_aload_n 0 dX7_add_34 rfl rfl ?_
      refine si_gR 8 1 fl_X7_15 dX7_add_35 (by decide) rfl (fun x10 => ?_)
      refine si_aload_n 0 dX7_add_38 rfl rfl ?_
      refine si_gI 8 2 fl_X7_18 dX7_add_39 (by decide) rfl (fun x11 => ?_)
      refine si_iload_n 2 dX7_add_42 rfl rfl ?_
      refine si_is dX7_add_43 (fun h12 => ?_)
      refine si_aload_n 0 dX7_add_44 rfl rfl ?_
      refine si_dup dX7_add_45 (cat_rf _) ?_
      refine si_gI 8 2 fl_X7_18 dX7_add_46 (by decide) rfl (fun x13 => ?_)
      refine si_iconst (v := 1) dX7_add_49 (by decide) ?_
      refine si_iadd dX7_add_50 ?_
      refine si_pI 8 2 fl_X7_18 dX7_add_51 (by decide) rfl rfl rfl (fw_X7_18 _) (fun h14 => ?_)
      exact si_vret dX7_add_54 rfl (Nat.le_of_ble_eq_true rfl) (Nat.le_of_ble_eq_true rfl)
theorem ct_X7_add (l : Launch) (G : GG) {th : Nat} {a1 : Int32} {a2 : Int32} {h : HS} {q : HS} (hq : m_X7_add th a1 a2 h = some q) : Ct l yX7_add mi_X7_add G [lvR (some th), lvI a1, lvI a2] h (oV q) := Ct.of (out := oV) (by decide +kernel) rfl rfl (Nat.le_of_ble_eq_true rfl) hq (fun _ _ _ _ _ _ _ _ => s_X7_add th a1 a2 h)
set_option maxHeartbeats 4000000 in
set_option maxRecDepth 100000 in
theorem X7_addNumber_b47_s {E : EV} (th : Nat) (go5 : Option Nat → Int32 → Int32 → Int32 → HS → Option (Int32 × HS)) (hg5 : ∀ (l1 : Option Nat) (l2 : Int32) (l3 : Int32) (l4 : Int32) (h : HS), Sim E mi_X7_addNumber (fin oI) 0 0 5 [(0, lvR (some th)), (1, lvR (l1)), (2, lvI (l2)), (3, lvI (l3)), (4, lvI (l4))] [] h (go5 l1 l2 l3 l4 h)) (l1 : Option Nat) (l2 : Int32) (l3 : Int32) (l4 : Int32) (h : HS) : Sim E mi_X7_addNumber (fin oI) 0 0 47 [(0, lvR (some th)), (1, lvR (l1)), (2, lvI (l2)), (3, lvI (l3)), (4, lvI (l4))] [] h (X7_addNumber_b47 th go5 l1 l2 l3 l4 h) := by
  unfold X7_addNumber_b47
  refine si_iinc 3 (1) dX7_addNumber_47 rfl (by decide) (by decide) ?_
  refine si_goto 5 dX7_addNumber_50 (by decide) ?_
  refine si_widen 0 0 (Nat.le_of_ble_eq_true rfl) (Nat.le_of_ble_eq_true rfl) ?_
  refine si_lo [(0, lvR (some th)), (1, lvR (l1)), (2, lvI (l2)), (3, lvI (l3 + (1))), (4, lvI (l4))] ⟨rfl, rfl, rfl, rfl, rfl, trivial⟩ ?_
  exact hg5 l1 l2 (l3 + (1)) l4 _
set_option maxHeartbeats 4000000 in
set_option maxRecDepth 100000 in
theorem X7_addNumber_b69_s {E : EV} (th : Nat) (l2 : Int32) (l3 : Int32) (s1 : Int32) (s0 : Option Nat) (h : HS) : Sim E mi_X7_addNumber (fin oI) 0 0 69 [(2, lvI (l2)), (3, lvI (l3))] [.int (s1), va_rf (s0)] h (X7_addNumber_b69 th l2 l3 s1 s0 h) := by
  unfold X7_addNumber_b69
  refine si_iload_n 2 dX7_addNumber_69 rfl rfl ?_
  refine si_cvV 8 [lvI (s1), lvI (l2)] dX7_addNumber_70 rfl mc_X7_add ml_X7_48 im_X7_add rfl se_X7_add (by decide) rfl ⟨Nat.le_of_ble_eq_true rfl, Nat.le_of_ble_eq_true rfl, Nat.le_of_ble_eq_true rfl, Nat.le_of_ble_eq_true rfl⟩ (Nat.le_of_ble_eq_true rfl) (fun _ _ hq => ct_X7_add _ _ hq) (fun h1 => ?_)
  refine si_iload_n 3 dX7_addNumber_73 rfl rfl ?_
  exact si_iret dX7_addNumber_74 rfl (Nat.le_of_ble_eq_true rfl) (Nat.le_of_ble_eq_true rfl)
set_option maxHeartbeats 4000000 in
set_option maxRecDepth 100000 in
theorem X7_addNumber_b53_s {E : EV} (th : Nat) (l2 : Int32) (l3 : Int32) (l4 : Int32) (h : HS) : Sim E mi_X7_addNumber (fin oI) 0 0 53 [(0, lvR (some th)), (2, lvI (l2)), (3, lvI (l3)), (4, lvI (l4))] [] h (X7_addNumber_b53 th l2 l3 l4 h) := by
  unfold X7_addNumber_b53
  refine si_aload_n 0 dX7_addNumber_53 rfl rfl ?_
  refine si_iload_n 3 dX7_addNumber_54 rfl rfl ?_
  refine si_iload_n 2 dX7_addNumber_55 rfl rfl ?_
  refine si_isub dX7_addNumber_56 ?_
  refine si_iconst (v := 4) dX7_addNumber_57 (by decide) ?_
  refine si_icmp_le 67 dX7_addNumber_58 (by decide) ?_ ?_
  · refine si_iload 4 dX7_addNumber_67 rfl ?_
    refine si_widen 0 0 (Nat.le_of_ble_eq_true rfl) (Nat.le_of_ble_eq_true rfl) ?_
    refine si_lo [(2, lvI (l2)), (3, lvI (l3))] ⟨rfl, rfl, trivial⟩ ?_
    exact X7_addNumber_b69_s th l2 l3 l4 (some th) _
  · refine si_sipush (v := 10026) dX7_addNumber_61 (by decide) ?_
    refine si_goto 69 dX7_addNumber_64 (by decide) ?_
    refine si_widen 0 0 (Nat.le_of_ble_eq_true rfl) (Nat.le_of_ble_eq_true rfl) ?_
    refine si_lo [(2, lvI (l2)), (3, lvI (l3))] ⟨rfl, rfl, trivial⟩ ?_
    exact X7_addNumber_b69_s th l2 l3 ((10026 : Int32)) (some th) _
set_option maxHeartbeats 4000000 in
set_option maxRecDepth 100000 in
theorem X7_addNumber_L5_s {E : EV} (th : Nat) (n : Nat) : ∀ (l1 : Option Nat) (l2 : Int32) (l3 : Int32) (l4 : Int32) (h : HS), Sim E mi_X7_addNumber (fin oI) 0 0 5 [(0, lvR (some th)), (1, lvR (l1)), (2, lvI (l2)), (3, lvI (l3)), (4, lvI (l4))] [] h (X7_addNumber_L5 th n l1 l2 l3 l4 h) := by
  induction n with
  | zero => intro l1 l2 l3 l4 h; exact si_none
  | succ n ih =>
    intro l1 l2 l3 l4 h
    unfold X7_addNumber_L5
    refine si_iload_n 3 dX7_addNumber_5 rfl rfl ?_
    refine si_aload_n 1 dX7_addNumber_6 rfl rfl ?_
    refine si_gI 6 1 fl_X7_22 dX7_addNumber_7 (by decide) rfl (fun x1 => ?_)
    refine si_icmp_ge 53 dX7_addNumber_10 (by decide) ?_ ?_
    · refine si_widen 0 0 (Nat.le_of_ble_eq_true rfl) (Nat.le_of_ble_eq_true rfl) ?_
      refine si_lo [(0, lvR (some th)), (2, lvI (l2)), (3, lvI (l3)), (4, lvI (l4))] ⟨rfl, rfl, rfl, rfl, trivial⟩ ?_
      exact X7_addNumber_b53_s th l2 l3 l4 _
    · refine si_aload_n 1 dX7_addNumber_13 rfl rfl ?_
      refine si_iload_n 3 dX7_addNumber_14 rfl rfl ?_
      refine si_cvI 6 [lvI (l3)] dX7_addNumber_15 rfl mc_X5_signAt ml_X7_27 im_X5_signAt rfl se_X5_signAt (by decide) rfl ⟨Nat.le_of_ble_eq_true rfl, Nat.le_of_ble_eq_true rfl, Nat.le_of_ble_eq_true rfl, Nat.le_of_ble_eq_true rfl⟩ (Nat.le_of_ble_eq_true rfl) (fun _ _ hq => ct_X5_signAt _ _ hq) (fun q2 => ?_)
      refine si_csI [lvI (q2.1)] dX7_addNumber_18 rfl mc_X7_isDigit ml_X7_31 st_X7_isDigit rfl ⟨Nat.le_of_ble_eq_true rfl, Nat.le_of_ble_eq_true rfl, Nat.le_of_ble_eq_true rfl, Nat.le_of_ble_eq_true rfl⟩ (Nat.le_of_ble_eq_true rfl) (fun _ hq => ct_X7_isDigit _ _ hq) (fun q4 => ?_)
      refine si_if_eq 53 dX7_addNumber_21 (by decide) ?_ ?_
      · refine si_widen 0 0 (Nat.le_of_ble_eq_true rfl) (Nat.le_of_ble_eq_true rfl) ?_
        refine si_lo [(0, lvR (some th)), (2, lvI (l2)), (3, lvI (l3)), (4, lvI (l4))] ⟨rfl, rfl, rfl, rfl, trivial⟩ ?_
        exact X7_addNumber_b53_s th l2 l3 l4 _
      · refine si_iload_n 3 dX7_addNumber_24 rfl rfl ?_
        refine si_iload_n 2 dX7_addNumber_25 rfl rfl ?_
        refine si_isub dX7_addNumber_26 ?_
        refine si_iconst (v := 4) dX7_addNumber_27 (by decide) ?_
        refine si_icmp_ge 47 dX7_addNumber_28 (by decide) ?_ ?_
        · refine si_widen 0 0 (Nat.le_of_ble_eq_true rfl) (Nat.le_of_ble_eq_true rfl) ?_
          refine si_lo [(0, lvR (some th)), (1, lvR (l1)), (2, lvI (l2)), (3, lvI (l3)), (4, lvI (l4))] ⟨rfl, rfl, rfl, rfl, rfl, trivial⟩ ?_
          exact X7_addNumber_b47_s th (X7_addNumber_L5 th n) ih l1 l2 l3 l4 _
        · refine si_iload 4 dX7_addNumber_31 rfl ?_
          refine si_bipush (v := 10) dX7_addNumber_33 (by decide) ?_
          refine si_imul dX7_addNumber_35 ?_
          refine si_aload_n 1 dX7_addNumber_36 rfl rfl ?_
          refine si_iload_n 3 dX7_addNumber_37 rfl rfl ?_
          refine si_cvI 6 [lvI (l3)] dX7_addNumber_38 rfl mc_X5_signAt ml_X7_27 im_X5_signAt rfl se_X5_signAt (by decide) rfl ⟨Nat.le_of_ble_eq_true rfl, Nat.le_of_ble_eq_true rfl, Nat.le_of_ble_eq_true rfl, Nat.le_of_ble_eq_true rfl⟩ (Nat.le_of_ble_eq_true rfl) (fun _ _ hq => ct_X5_signAt _ _ hq) (fun q5 => ?_)
          refine si_iadd dX7_addNumber_41 ?_
          refine si_bipush (v := 48) dX7_addNumber_42 (by decide) ?_
          refine si_isub dX7_addNumber_44 ?_
          refine si_istore 4 dX7_addNumber_45 (by decide) ?_
          refine si_widen 0 0 (Nat.le_of_ble_eq_true rfl) (Nat.le_of_ble_eq_true rfl) ?_
          refine si_lo [(0, lvR (some th)), (1, lvR (l1)), (2, lvI (l2)), (3, lvI (l3)), (4, lvI (((l4 * (10 : Int32)) + q5.1) - (48 : Int32)))] ⟨rfl, rfl, rfl, rfl, rfl, trivial⟩ ?_
          exact X7_addNumber_b47_s th (X7_addNumber_L5 th n) ih l1 l2 l3 (((l4 * (10 : Int32)) + q5.1) - (48 : Int32)) _
set_option maxHeartbeats 4000000 in
set_option maxRecDepth 100000 in
theorem s_X7_addNumber {E : EV} (th : Nat) (a1 : Option Nat) (a2 : Int32) (h : HS) : Sim E mi_X7_addNumber (fin oI) 0 0 0 (largs 0 [lvR (some th), lvR a1, lvI a2]) [] h (m_X7_addNumber th a1 a2 h) := by
  unfold m_X7_addNumber
  refine si_iload_n 2 dX7_addNumber_0 rfl rfl ?_
  refine si_istore_n 3 dX7_addNumber_1 rfl (by decide) ?_
  refine si_iconst (v := 0) dX7_addNumber_2 (by decide) ?_
  refine si_istore 4 dX7_addNumber_3 (by decide) ?_
  refine si_widen 0 0 (Nat.le_of_ble_eq_true rfl) (Nat.le_of_ble_eq_true rfl) ?_
  refine si_lo [(0, lvR (some th)), (1, lvR (a1)), (2, lvI (a2)), (3, lvI (a2)), (4, lvI ((0 : Int32)))] ⟨rfl, rfl, rfl, rfl, rfl, trivial⟩ ?_
  exact X7_addNumber_L5_s th FU a1 a2 a2 ((0 : Int32)) _
theorem ct_X7_addNumber (l : Launch) (G : GG) {th : Nat} {a1 : Option Nat} {a2 : Int32} {h : HS} {q : Int32 × HS} (hq : m_X7_addNumber th a1 a2 h = some q) : Ct l yX7_addNumber mi_X7_addNumber G [lvR (some th), lvR a1, lvI a2] h (oI q) := Ct.of (out := oI) (by decide +kernel) rfl rfl (Nat.le_of_ble_eq_true rfl) hq (fun _ _ _ _ _ _ _ _ => s_X7_addNumber th a1 a2 h)
set_option maxHeartbeats 4000000 in
set_option maxRecDepth 100000 in
theorem s_X7_isLetter {E : EV} (a1 : Int32) (h : HS) : Sim E mi_X7_isLetter (fin oI) 0 0 0 (largs 0 [lvI a1]) [] h (m_X7_isLetter a1 h) := by
  unfold m_X7_isLetter
  refine si_iload_n 0 dX7_isLetter_0 rfl rfl ?_
  refine si_bipush (v := 97) dX7_isLetter_1 (by decide) ?_
  refine si_bipush (v := 122) dX7_isLetter_3 (by decide) ?_
  refine si_csI [lvI (a1), lvI ((97 : Int32)), lvI ((122 : Int32))] dX7_isLetter_5 rfl mc_X8_isWithin ml_X7_56 st_X8_isWithin rfl ⟨Nat.le_of_ble_eq_true rfl, Nat.le_of_ble_eq_true rfl, Nat.le_of_ble_eq_true rfl, Nat.le_of_ble_eq_true rfl⟩ (Nat.le_of_ble_eq_true rfl) (fun _ hq => ct_X8_isWithin _ _ hq) (fun q1 => ?_)
  exact si_bret dX7_isLetter_8 rfl (Nat.le_of_ble_eq_true rfl) (Nat.le_of_ble_eq_true rfl)
theorem ct_X7_isLetter (l : Launch) (G : GG) {a1 : Int32} {h : HS} {q : Int32 × HS} (hq : m_X7_isLetter a1 h = some q) : Ct l yX7_isLetter mi_X7_isLetter G [lvI a1] h (oI q) := Ct.of (out := oI) (by decide +kernel) rfl rfl (Nat.le_of_ble_eq_true rfl) hq (fun _ _ _ _ _ _ _ _ => s_X7_isLetter a1 h)
set_option maxHeartbeats 4000000 in
set_option maxRecDepth 100000 in
theorem X7_spells_L15_s {E : EV} (n : Nat) : ∀ (l0 : Option Nat) (l1 : Int32) (l3 : Option Nat) (l4 : Int32) (h : HS), Sim E mi_X7_spells (fin oI) 0 0 15 [(0, lvR (l0)), (1, lvI (l1)), (3, lvR (l3)), (4, lvI (l4))] [] h (X7_spells_L15 n l0 l1 l3 l4 h) := by
  induction n with
  | zero => intro l0 l1 l3 l4 h; exact si_none
  | succ n ih =>
    intro l0 l1 l3 l4 h
    unfold X7_spells_L15
    refine si_iload 4 dX7_spells_15 rfl ?_
    refine si_aload_n 3 dX7_spells_17 rfl rfl ?_
    refine si_cvS [] dX7_spells_18 rfl mc_J0_length_8abf5 mw_X7_80 im_J0_length_8abf5 se_J0_length_8abf5 rfl ⟨Nat.le_of_ble_eq_true rfl, Nat.le_of_ble_eq_true rfl, Nat.le_of_ble_eq_true rfl, Nat.le_of_ble_eq_true rfl⟩ (Nat.le_of_ble_eq_true rfl) (fun _ _ hq => ct_J0_length_8abf5 _ _ hq) (fun q1 => ?_)
    refine si_icmp_ge 49 dX7_spells_21 (by decide) ?_ ?_
    · refine si_iconst (v := 1) dX7_spells_49 (by decide) ?_
      exact si_zret dX7_spells_50 rfl rfl (Nat.le_of_ble_eq_true rfl) (Nat.le_of_ble_eq_true rfl)
    · refine si_aload_n 0 dX7_spells_24 rfl rfl ?_
      refine si_iload_n 1 dX7_spells_25 rfl rfl ?_
      refine si_iload 4 dX7_spells_26 rfl ?_
      refine si_iadd dX7_spells_28 ?_
      refine si_cvI 6 [lvI (l1 + l4)] dX7_spells_29 rfl mc_X5_signAt ml_X7_27 im_X5_signAt rfl se_X5_signAt (by decide) rfl ⟨Nat.le_of_ble_eq_true rfl, Nat.le_of_ble_eq_true rfl, Nat.le_of_ble_eq_true rfl, Nat.le_of_ble_eq_true rfl⟩ (Nat.le_of_ble_eq_true rfl) (fun _ _ hq => ct_X5_signAt _ _ hq) (fun q3 => ?_)
      refine si_aload_n 3 dX7_spells_32 rfl rfl ?_
      refine si_iload 4 dX7_spells_33 rfl ?_
      refine si_cvS [lvI (l4)] dX7_spells_35 rfl mc_J0_charAt_5068e mw_X7_85 im_J0_charAt_5068e se_J0_charAt_5068e rfl ⟨Nat.le_of_ble_eq_true rfl, Nat.le_of_ble_eq_true rfl, Nat.le_of_ble_eq_true rfl, Nat.le_of_ble_eq_true rfl⟩ (Nat.le_of_ble_eq_true rfl) (fun _ _ hq => ct_J0_charAt_5068e _ _ hq) (fun q5 => ?_)
      refine si_icmp_eq 43 dX7_spells_38 (by decide) ?_ ?_
      · refine si_iinc 4 (1) dX7_spells_43 rfl (by decide) (by decide) ?_
        refine si_goto 15 dX7_spells_46 (by decide) ?_
        refine si_widen 0 0 (Nat.le_of_ble_eq_true rfl) (Nat.le_of_ble_eq_true rfl) ?_
        refine si_lo [(0, lvR (l0)), (1, lvI (l1)), (3, lvR (l3)), (4, lvI (l4 + (1)))] ⟨rfl, rfl, rfl, rfl, trivial⟩ ?_
        exact ih l0 l1 l3 (l4 + (1)) _
      · refine si_iconst (v := 0) dX7_spells_41 (by decide) ?_
        exact si_zret dX7_spells_42 rfl rfl (Nat.le_of_ble_eq_true rfl) (Nat.le_of_ble_eq_true rfl)
set_option maxHeartbeats 4000000 in
set_option maxRecDepth 100000 in
theorem s_X7_spells {E : EV} (a1 : Option Nat) (a2 : Int32) (a3 : Int32) (a4 : Option Nat) (h : HS) : Sim E mi_X7_spells (fin oI) 0 0 0 (largs 0 [lvR a1, lvI a2, lvI a3, lvR a4]) [] h (m_X7_spells a1 a2 a3 a4 h) := by
  unfold m_X7_spells
  refine si_iload_n 2 dX7_spells_0 rfl rfl ?_
  refine si_iload_n 1 dX7_spells_1 rfl rfl ?_
  refine si_isub dX7_spells_2 ?_
  refine si_aload_n 3 dX7_spells_3 rfl rfl ?_
  refine si_cvS [] dX7_spells_4 rfl mc_J0_length_8abf5 mw_X7_80 im_J0_length_8abf5 se_J0_length_8abf5 rfl ⟨Nat.le_of_ble_eq_true rfl, Nat.le_of_ble_eq_true rfl, Nat.le_of_ble_eq_true rfl, Nat.le_of_ble_eq_true rfl⟩ (Nat.le_of_ble_eq_true rfl) (fun _ _ hq => ct_J0_length_8abf5 _ _ hq) (fun q1 => ?_)
  refine si_icmp_eq 12 dX7_spells_7 (by decide) ?_ ?_
  · refine si_iconst (v := 0) dX7_spells_12 (by decide) ?_
    refine si_istore 4 dX7_spells_13 (by decide) ?_
    refine si_widen 0 0 (Nat.le_of_ble_eq_true rfl) (Nat.le_of_ble_eq_true rfl) ?_
    refine si_lo [(0, lvR (a1)), (1, lvI (a2)), (3, lvR (a4)), (4, lvI ((0 : Int32)))] ⟨rfl, rfl, rfl, rfl, trivial⟩ ?_
    exact X7_spells_L15_s FU a1 a2 a4 ((0 : Int32)) _
  · refine si_iconst (v := 0) dX7_spells_10 (by decide) ?_
    exact si_zret dX7_spells_11 rfl rfl (Nat.le_of_ble_eq_true rfl) (Nat.le_of_ble_eq_true rfl)
theorem ct_X7_spells (l : Launch) (G : GG) {a1 : Option Nat} {a2 : Int32} {a3 : Int32} {a4 : Option Nat} {h : HS} {q : Int32 × HS} (hq : m_X7_spells a1 a2 a3 a4 h = some q) : Ct l yX7_spells mi_X7_spells G [lvR a1, lvI a2, lvI a3, lvR a4] h (oI q) := Ct.of (out := oI) (by decide +kernel) rfl rfl (Nat.le_of_ble_eq_true rfl) hq (fun _ _ _ _ _ _ _ _ => s_X7_spells a1 a2 a3 a4 h)
set_option maxHeartbeats 4000000 in
set_option maxRecDepth 100000 in
theorem s_X7_wordKind {E : EV} (a1 : Option Nat) (a2 : Int32) (a3 : Int32) (h : HS) : Sim E mi_X7_wordKind (fin oI) 0 0 0 (largs 0 [lvR a1, lvI a2, lvI a3]) [] h (m_X7_wordKind a1 a2 a3 h) := by
  unfold m_X7_wordKind
  refine si_aload_n 0 dX7_wordKind_0 rfl rfl ?_
  refine si_iload_n 1 dX7_wordKind_1 rfl rfl ?_
  refine si_iload_n 2 dX7_wordKind_2 rfl rfl ?_
  refine si_ldcS 0 (by decide) rfl rfl dX7_wordKind_3 ?_
  refine si_csI [lvR (a1), lvI (a2), lvI (a3), lvR (some (cs h (1 + 0)))] dX7_wordKind_5 rfl mc_X7_spells ml_X7_62 st_X7_spells rfl ⟨Nat.le_of_ble_eq_true rfl, Nat.le_of_ble_eq_true rfl, Nat.le_of_ble_eq_true rfl, Nat.le_of_ble_eq_true rfl⟩ (Nat.le_of_ble_eq_true rfl) (fun _ hq => ct_X7_spells _ _ hq) (fun q1 => ?_)
  refine si_if_eq 15 dX7_wordKind_8 (by decide) ?_ ?_
  · refine si_aload_n 0 dX7_wordKind_15 rfl rfl ?_
    refine si_iload_n 1 dX7_wordKind_16 rfl rfl ?_
    refine si_iload_n 2 dX7_wordKind_17 rfl rfl ?_
    refine si_ldcS 1 (by decide) rfl rfl dX7_wordKind_18 ?_
    refine si_csI [lvR (a1), lvI (a2), lvI (a3), lvR (some (cs q1.2 (1 + 1)))] dX7_wordKind_20 rfl mc_X7_spells ml_X7_62 st_X7_spells rfl ⟨Nat.le_of_ble_eq_true rfl, Nat.le_of_ble_eq_true rfl, Nat.le_of_ble_eq_true rfl, Nat.le_of_ble_eq_true rfl⟩ (Nat.le_of_ble_eq_true rfl) (fun _ hq => ct_X7_spells _ _ hq) (fun q2 => ?_)
    refine si_if_eq 30 dX7_wordKind_23 (by decide) ?_ ?_
    · refine si_aload_n 0 dX7_wordKind_30 rfl rfl ?_
      refine si_iload_n 1 dX7_wordKind_31 rfl rfl ?_
      refine si_iload_n 2 dX7_wordKind_32 rfl rfl ?_
      refine si_ldcS 2 (by decide) rfl rfl dX7_wordKind_33 ?_
      refine si_csI [lvR (a1), lvI (a2), lvI (a3), lvR (some (cs q2.2 (1 + 2)))] dX7_wordKind_35 rfl mc_X7_spells ml_X7_62 st_X7_spells rfl ⟨Nat.le_of_ble_eq_true rfl, Nat.le_of_ble_eq_true rfl, Nat.le_of_ble_eq_true rfl, Nat.le_of_ble_eq_true rfl⟩ (Nat.le_of_ble_eq_true rfl) (fun _ hq => ct_X7_spells _ _ hq) (fun q3 => ?_)
      refine si_if_eq 45 dX7_wordKind_38 (by decide) ?_ ?_
      · refine si_aload_n 0 dX7_wordKind_45 rfl rfl ?_
        refine si_iload_n 1 dX7_wordKind_46 rfl rfl ?_
        refine si_iload_n 2 dX7_wordKind_47 rfl rfl ?_
        refine si_ldcS 3 (by decide) rfl rfl dX7_wordKind_48 ?_
        refine si_csI [lvR (a1), lvI (a2), lvI (a3), lvR (some (cs q3.2 (1 + 3)))] dX7_wordKind_50 rfl mc_X7_spells ml_X7_62 st_X7_spells rfl ⟨Nat.le_of_ble_eq_true rfl, Nat.le_of_ble_eq_true rfl, Nat.le_of_ble_eq_true rfl, Nat.le_of_ble_eq_true rfl⟩ (Nat.le_of_ble_eq_true rfl) (fun _ hq => ct_X7_spells _ _ hq) (fun q4 => ?_)
        refine si_if_eq 60 dX7_wordKind_53 (by decide) ?_ ?_
        · refine si_aload_n 0 dX7_wordKind_60 rfl rfl ?_
          refine si_iload_n 1 dX7_wordKind_61 rfl rfl ?_
          refine si_iload_n 2 dX7_wordKind_62 rfl rfl ?_
          refine si_ldcS 4 (by decide) rfl rfl dX7_wordKind_63 ?_
          refine si_csI [lvR (a1), lvI (a2), lvI (a3), lvR (some (cs q4.2 (1 + 4)))] dX7_wordKind_65 rfl mc_X7_spells ml_X7_62 st_X7_spells rfl ⟨Nat.le_of_ble_eq_true rfl, Nat.le_of_ble_eq_true rfl, Nat.le_of_ble_eq_true rfl, Nat.le_of_ble_eq_true rfl⟩ (Nat.le_of_ble_eq_true rfl) (fun _ hq => ct_X7_spells _ _ hq) (fun q5 => ?_)
          refine si_if_eq 75 dX7_wordKind_68 (by decide) ?_ ?_
          · refine si_aload_n 0 dX7_wordKind_75 rfl rfl ?_
            refine si_iload_n 1 dX7_wordKind_76 rfl rfl ?_
            refine si_iload_n 2 dX7_wordKind_77 rfl rfl ?_
            refine si_ldcS 5 (by decide) rfl rfl dX7_wordKind_78 ?_
            refine si_csI [lvR (a1), lvI (a2), lvI (a3), lvR (some (cs q5.2 (1 + 5)))] dX7_wordKind_80 rfl mc_X7_spells ml_X7_62 st_X7_spells rfl ⟨Nat.le_of_ble_eq_true rfl, Nat.le_of_ble_eq_true rfl, Nat.le_of_ble_eq_true rfl, Nat.le_of_ble_eq_true rfl⟩ (Nat.le_of_ble_eq_true rfl) (fun _ hq => ct_X7_spells _ _ hq) (fun q6 => ?_)
            refine si_if_eq 90 dX7_wordKind_83 (by decide) ?_ ?_
            · refine si_aload_n 0 dX7_wordKind_90 rfl rfl ?_
              refine si_iload_n 1 dX7_wordKind_91 rfl rfl ?_
              refine si_iload_n 2 dX7_wordKind_92 rfl rfl ?_
              refine si_ldcS 6 (by decide) rfl rfl dX7_wordKind_93 ?_
              refine si_csI [lvR (a1), lvI (a2), lvI (a3), lvR (some (cs q6.2 (1 + 6)))] dX7_wordKind_95 rfl mc_X7_spells ml_X7_62 st_X7_spells rfl ⟨Nat.le_of_ble_eq_true rfl, Nat.le_of_ble_eq_true rfl, Nat.le_of_ble_eq_true rfl, Nat.le_of_ble_eq_true rfl⟩ (Nat.le_of_ble_eq_true rfl) (fun _ hq => ct_X7_spells _ _ hq) (fun q7 => ?_)
              refine si_if_eq 105 dX7_wordKind_98 (by decide) ?_ ?_
              · refine si_aload_n 0 dX7_wordKind_105 rfl rfl ?_
                refine si_iload_n 1 dX7_wordKind_106 rfl rfl ?_
                refine si_iload_n 2 dX7_wordKind_107 rfl rfl ?_
                refine si_ldcS 7 (by decide) rfl rfl dX7_wordKind_108 ?_
                refine si_csI [lvR (a1), lvI (a2), lvI (a3), lvR (some (cs q7.2 (1 + 7)))] dX7_wordKind_110 rfl mc_X7_spells ml_X7_62 st_X7_spells rfl ⟨Nat.le_of_ble_eq_true rfl, Nat.le_of_ble_eq_true rfl, Nat.le_of_ble_eq_true rfl, Nat.le_of_ble_eq_true rfl⟩ (Nat.le_of_ble_eq_true rfl) (fun _ hq => ct_X7_spells _ _ hq) (fun q8 => ?_)
                refine si_if_eq 122 dX7_wordKind_113 (by decide) ?_ ?_
                · refine si_sipush (v := 10026) dX7_wordKind_122 (by decide) ?_
                  exact si_iret dX7_wordKind_125 rfl (Nat.le_of_ble_eq_true rfl) (Nat.le_of_ble_eq_true rfl)
                · refine si_sipush (v := 10004) dX7_wordKind_116 (by decide) ?_
                  refine si_goto 125 dX7_wordKind_119 (by decide) ?_
                  exact si_iret dX7_wordKind_125 rfl (Nat.le_of_ble_eq_true rfl) (Nat.le_of_ble_eq_true rfl)
              · refine si_sipush (v := 10003) dX7_wordKind_101 (by decide) ?_
                exact si_iret dX7_wordKind_104 rfl (Nat.le_of_ble_eq_true rfl) (Nat.le_of_ble_eq_true rfl)
            · refine si_sipush (v := 10002) dX7_wordKind_86 (by decide) ?_
              exact si_iret dX7_wordKind_89 rfl (Nat.le_of_ble_eq_true rfl) (Nat.le_of_ble_eq_true rfl)
          · refine si_sipush (v := 10001) dX7_wordKind_71 (by decide) ?_
            exact si_iret dX7_wordKind_74 rfl (Nat.le_of_ble_eq_true rfl) (Nat.le_of_ble_eq_true rfl)
        · refine si_sipush (v := 10000) dX7_wordKind_56 (by decide) ?_
          exact si_iret dX7_wordKind_59 rfl (Nat.le_of_ble_eq_true rfl) (Nat.le_of_ble_eq_true rfl)
      · refine si_sipush (v := 10014) dX7_wordKind_41 (by decide) ?_
        exact si_iret dX7_wordKind_44 rfl (Nat.le_of_ble_eq_true rfl) (Nat.le_of_ble_eq_true rfl)
    · refine si_sipush (v := 10021) dX7_wordKind_26 (by decide) ?_
      exact si_iret dX7_wordKind_29 rfl (Nat.le_of_ble_eq_true rfl) (Nat.le_of_ble_eq_true rfl)
  · refine si_sipush (v := 10020) dX7_wordKind_11 (by decide) ?_
    exact si_iret dX7_wordKind_14 rfl (Nat.le_of_ble_eq_true rfl) (Nat.le_of_ble_eq_true rfl)
theorem ct_X7_wordKind (l : Launch) (G : GG) {a1 : Option Nat} {a2 : Int32} {a3 : Int32} {h : HS} {q : Int32 × HS} (hq : m_X7_wordKind a1 a2 a3 h = some q) : Ct l yX7_wordKind mi_X7_wordKind G [lvR a1, lvI a2, lvI a3] h (oI q) := Ct.of (out := oI) (by decide +kernel) rfl rfl (Nat.le_of_ble_eq_true rfl) hq (fun _ _ _ _ _ _ _ _ => s_X7_wordKind a1 a2 a3 h)
set_option maxHeartbeats 4000000 in
set_option maxRecDepth 100000 in
theorem X7_addWord_b48_s {E : EV} (th : Nat) (l2 : Int32) (l3 : Int32) (s1 : Int32) (s0 : Option Nat) (h : HS) : Sim E mi_X7_addWord (fin oI) 0 0 48 [(2, lvI (l2)), (3, lvI (l3))] [.int (s1), va_rf (s0)] h (X7_addWord_b48 th l2 l3 s1 s0 h) := by
  unfold X7_addWord_b48
  refine si_iload_n 2 dX7_addWord_48 rfl rfl ?_
  refine si_cvV 8 [lvI (s1), lvI (l2)] dX7_addWord_49 rfl mc_X7_add ml_X7_48 im_X7_add rfl se_X7_add (by decide) rfl ⟨Nat.le_of_ble_eq_true rfl, Nat.le_of_ble_eq_true rfl, Nat.le_of_ble_eq_true rfl, Nat.le_of_ble_eq_true rfl⟩ (Nat.le_of_ble_eq_true rfl) (fun _ _ hq => ct_X7_add _ _ hq) (fun h1 => ?_)
  refine si_iload_n 3 dX7_addWord_52 rfl rfl ?_
  exact si_iret dX7_addWord_53 rfl (Nat.le_of_ble_eq_true rfl) (Nat.le_of_ble_eq_true rfl)
set_option maxHeartbeats 4000000 in
set_option maxRecDepth 100000 in
theorem X7_addWord_b27_s {E : EV} (th : Nat) (l1 : Option Nat) (l2 : Int32) (l3 : Int32) (h : HS) : Sim E mi_X7_addWord (fin oI) 0 0 27 [(0, lvR (some th)), (1, lvR (l1)), (2, lvI (l2)), (3, lvI (l3))] [] h (X7_addWord_b27 th l1 l2 l3 h) := by
  unfold X7_addWord_b27
  refine si_aload_n 0 dX7_addWord_27 rfl rfl ?_
  refine si_iload_n 3 dX7_addWord_28 rfl rfl ?_
  refine si_iload_n 2 dX7_addWord_29 rfl rfl ?_
  refine si_isub dX7_addWord_30 ?_
  refine si_bipush (v := 9) dX7_addWord_31 (by decide) ?_
  refine si_icmp_le 42 dX7_addWord_33 (by decide) ?_ ?_
  · refine si_aload_n 1 dX7_addWord_42 rfl rfl ?_
    refine si_iload_n 2 dX7_addWord_43 rfl rfl ?_
    refine si_iload_n 3 dX7_addWord_44 rfl rfl ?_
    refine si_csI [lvR (l1), lvI (l2), lvI (l3)] dX7_addWord_45 rfl mc_X7_wordKind ml_X7_52 st_X7_wordKind rfl ⟨Nat.le_of_ble_eq_true rfl, Nat.le_of_ble_eq_true rfl, Nat.le_of_ble_eq_true rfl, Nat.le_of_ble_eq_true rfl⟩ (Nat.le_of_ble_eq_true rfl) (fun _ hq => ct_X7_wordKind _ _ hq) (fun q1 => ?_)
    refine si_widen 0 0 (Nat.le_of_ble_eq_true rfl) (Nat.le_of_ble_eq_true rfl) ?_
    refine si_lo [(2, lvI (l2)), (3, lvI (l3))] ⟨rfl, rfl, trivial⟩ ?_
    exact X7_addWord_b48_s th l2 l3 q1.1 (some th) _
  · refine si_sipush (v := 10026) dX7_addWord_36 (by decide) ?_
    refine si_goto 48 dX7_addWord_39 (by decide) ?_
    refine si_widen 0 0 (Nat.le_of_ble_eq_true rfl) (Nat.le_of_ble_eq_true rfl) ?_
    refine si_lo [(2, lvI (l2)), (3, lvI (l3))] ⟨rfl, rfl, trivial⟩ ?_
    exact X7_addWord_b48_s th l2 l3 ((10026 : Int32)) (some th) _
set_option maxHeartbeats 4000000 in
set_option maxRecDepth 100000 in
theorem X7_addWord_L2_s {E : EV} (th : Nat) (n : Nat) : ∀ (l1 : Option Nat) (l2 : Int32) (l3 : Int32) (h : HS), Sim E mi_X7_addWord (fin oI) 0 0 2 [(0, lvR (some th)), (1, lvR (l1)), (2, lvI (l2)), (3, lvI (l3))] [] h (X7_addWord_L2 th n l1 l2 l3 h) := by
  induction n with
  | zero => intro l1 l2 l3 h; exact si_none
  | succ n ih =>
    intro l1 l2 l3 h
    unfold X7_addWord_L2
    refine si_iload_n 3 dX7_addWord_2 rfl rfl ?_
    refine si_aload_n 1 dX7_addWord_3 rfl rfl ?_
    refine si_gI 6 1 fl_X7_22 dX7_addWord_4 (by decide) rfl (fun x1 => ?_)
    refine si_icmp_ge 27 dX7_addWord_7 (by decide) ?_ ?_
    · refine si_widen 0 0 (Nat.le_of_ble_eq_true rfl) (Nat.le_of_ble_eq_true rfl) ?_
      refine si_lo [(0, lvR (some th)), (1, lvR (l1)), (2, lvI (l2)), (3, lvI (l3))] ⟨rfl, rfl, rfl, rfl, trivial⟩ ?_
      exact X7_addWord_b27_s th l1 l2 l3 _
    · refine si_aload_n 1 dX7_addWord_10 rfl rfl ?_
      refine si_iload_n 3 dX7_addWord_11 rfl rfl ?_
      refine si_cvI 6 [lvI (l3)] dX7_addWord_12 rfl mc_X5_signAt ml_X7_27 im_X5_signAt rfl se_X5_signAt (by decide) rfl ⟨Nat.le_of_ble_eq_true rfl, Nat.le_of_ble_eq_true rfl, Nat.le_of_ble_eq_true rfl, Nat.le_of_ble_eq_true rfl⟩ (Nat.le_of_ble_eq_true rfl) (fun _ _ hq => ct_X5_signAt _ _ hq) (fun q2 => ?_)
      refine si_csI [lvI (q2.1)] dX7_addWord_15 rfl mc_X7_isLetter ml_X7_39 st_X7_isLetter rfl ⟨Nat.le_of_ble_eq_true rfl, Nat.le_of_ble_eq_true rfl, Nat.le_of_ble_eq_true rfl, Nat.le_of_ble_eq_true rfl⟩ (Nat.le_of_ble_eq_true rfl) (fun _ hq => ct_X7_isLetter _ _ hq) (fun q4 => ?_)
      refine si_if_eq 27 dX7_addWord_18 (by decide) ?_ ?_
      · refine si_widen 0 0 (Nat.le_of_ble_eq_true rfl) (Nat.le_of_ble_eq_true rfl) ?_
        refine si_lo [(0, lvR (some th)), (1, lvR (l1)), (2, lvI (l2)), (3, lvI (l3))] ⟨rfl, rfl, rfl, rfl, trivial⟩ ?_
        exact X7_addWord_b27_s th l1 l2 l3 _
      · refine si_iinc 3 (1) dX7_addWord_21 rfl (by decide) (by decide) ?_
        refine si_goto 2 dX7_addWord_24 (by decide) ?_
        refine si_widen 0 0 (Nat.le_of_ble_eq_true rfl) (Nat.le_of_ble_eq_true rfl) ?_
        refine si_lo [(0, lvR (some th)), (1, lvR (l1)), (2, lvI (l2)), (3, lvI (l3 + (1)))] ⟨rfl, rfl, rfl, rfl, trivial⟩ ?_
        exact ih l1 l2 (l3 + (1)) _
set_option maxHeartbeats 4000000 in
set_option maxRecDepth 100000 in
theorem s_X7_addWord {E : EV} (th : Nat) (a1 : Option Nat) (a2 : Int32) (h : HS) : Sim E mi_X7_addWord (fin oI) 0 0 0 (largs 0 [lvR (some th), lvR a1, lvI a2]) [] h (m_X7_addWord th a1 a2 h) := by
  unfold m_X7_addWord
  refine si_iload_n 2 dX7_addWord_0 rfl rfl ?_
  refine si_istore_n 3 dX7_addWord_1 rfl (by decide) ?_
  refine si_widen 0 0 (Nat.le_of_ble_eq_true rfl) (Nat.le_of_ble_eq_true rfl) ?_
  refine si_lo [(0, lvR (some th)), (1, lvR (a1)), (2, lvI (a2)), (3, lvI (a2))] ⟨rfl, rfl, rfl, rfl, trivial⟩ ?_
  exact X7_addWord_L2_s th FU a1 a2 a2 _
theorem ct_X7_addWord (l : Launch) (G : GG) {th : Nat} {a1 : Option Nat} {a2 : Int32} {h : HS} {q : Int32 × HS} (hq : m_X7_addWord th a1 a2 h = some q) : Ct l yX7_addWord mi_X7_addWord G [lvR (some th), lvR a1, lvI a2] h (oI q) := Ct.of (out := oI) (by decide +kernel) rfl rfl (Nat.le_of_ble_eq_true rfl) hq (fun _ _ _ _ _ _ _ _ => s_X7_addWord th a1 a2 h)
set_option maxHeartbeats 4000000 in
set_option maxRecDepth 100000 in
theorem s_X7_signKind {E : EV} (a1 : Int32) (h : HS) : Sim E mi_X7_signKind (fin oI) 0 0 0 (largs 0 [lvI a1]) [] h (m_X7_signKind a1 h) := by
  unfold m_X7_signKind
  refine si_iload_n 0 dX7_signKind_0 rfl rfl ?_
  refine si_ite (fun e0 => ?_) (fun n0 => ?_)
  · refine si_tsIn (40) 104 e0 dX7_signKind_1 (by decide) (by decide) rfl (by decide) ?_
    refine si_sipush (v := 10022) dX7_signKind_104 (by decide) ?_
    exact si_iret dX7_signKind_107 rfl (Nat.le_of_ble_eq_true rfl) (Nat.le_of_ble_eq_true rfl)
  refine si_ite (fun e1 => ?_) (fun n1 => ?_)
  · refine si_tsIn (41) 108 e1 dX7_signKind_1 (by decide) (by decide) rfl (by decide) ?_
    refine si_sipush (v := 10023) dX7_signKind_108 (by decide) ?_
    exact si_iret dX7_signKind_111 rfl (Nat.le_of_ble_eq_true rfl) (Nat.le_of_ble_eq_true rfl)
  refine si_ite (fun e2 => ?_) (fun n2 => ?_)
  · refine si_tsIn (42) 132 e2 dX7_signKind_1 (by decide) (by decide) rfl (by decide) ?_
    refine si_sipush (v := 10026) dX7_signKind_132 (by decide) ?_
    exact si_iret dX7_signKind_135 rfl (Nat.le_of_ble_eq_true rfl) (Nat.le_of_ble_eq_true rfl)
  refine si_ite (fun e3 => ?_) (fun n3 => ?_)
  · refine si_tsIn (43) 120 e3 dX7_signKind_1 (by decide) (by decide) rfl (by decide) ?_
    refine si_sipush (v := 10010) dX7_signKind_120 (by decide) ?_
    exact si_iret dX7_signKind_123 rfl (Nat.le_of_ble_eq_true rfl) (Nat.le_of_ble_eq_true rfl)
  refine si_ite (fun e4 => ?_) (fun n4 => ?_)
  · refine si_tsIn (44) 132 e4 dX7_signKind_1 (by decide) (by decide) rfl (by decide) ?_
    refine si_sipush (v := 10026) dX7_signKind_132 (by decide) ?_
    exact si_iret dX7_signKind_135 rfl (Nat.le_of_ble_eq_true rfl) (Nat.le_of_ble_eq_true rfl)
  refine si_ite (fun e5 => ?_) (fun n5 => ?_)
  · refine si_tsIn (45) 124 e5 dX7_signKind_1 (by decide) (by decide) rfl (by decide) ?_
    refine si_sipush (v := 10011) dX7_signKind_124 (by decide) ?_
    exact si_iret dX7_signKind_127 rfl (Nat.le_of_ble_eq_true rfl) (Nat.le_of_ble_eq_true rfl)
  refine si_ite (fun e6 => ?_) (fun n6 => ?_)
  · refine si_tsIn (46) 132 e6 dX7_signKind_1 (by decide) (by decide) rfl (by decide) ?_
    refine si_sipush (v := 10026) dX7_signKind_132 (by decide) ?_
    exact si_iret dX7_signKind_135 rfl (Nat.le_of_ble_eq_true rfl) (Nat.le_of_ble_eq_true rfl)
  refine si_ite (fun e7 => ?_) (fun n7 => ?_)
  · refine si_tsIn (47) 132 e7 dX7_signKind_1 (by decide) (by decide) rfl (by decide) ?_
    refine si_sipush (v := 10026) dX7_signKind_132 (by decide) ?_
    exact si_iret dX7_signKind_135 rfl (Nat.le_of_ble_eq_true rfl) (Nat.le_of_ble_eq_true rfl)
  refine si_ite (fun e8 => ?_) (fun n8 => ?_)
  · refine si_tsIn (48) 132 e8 dX7_signKind_1 (by decide) (by decide) rfl (by decide) ?_
    refine si_sipush (v := 10026) dX7_signKind_132 (by decide) ?_
    exact si_iret dX7_signKind_135 rfl (Nat.le_of_ble_eq_true rfl) (Nat.le_of_ble_eq_true rfl)
  refine si_ite (fun e9 => ?_) (fun n9 => ?_)
  · refine si_tsIn (49) 132 e9 dX7_signKind_1 (by decide) (by decide) rfl (by decide) ?_
    refine si_sipush (v := 10026) dX7_signKind_132 (by decide) ?_
    exact si_iret dX7_signKind_135 rfl (Nat.le_of_ble_eq_true rfl) (Nat.le_of_ble_eq_true rfl)
  refine si_ite (fun e10 => ?_) (fun n10 => ?_)
  · refine si_tsIn (50) 132 e10 dX7_signKind_1 (by decide) (by decide) rfl (by decide) ?_
    refine si_sipush (v := 10026) dX7_signKind_132 (by decide) ?_
    exact si_iret dX7_signKind_135 rfl (Nat.le_of_ble_eq_true rfl) (Nat.le_of_ble_eq_true rfl)
  refine si_ite (fun e11 => ?_) (fun n11 => ?_)
  · refine si_tsIn (51) 132 e11 dX7_signKind_1 (by decide) (by decide) rfl (by decide) ?_
    refine si_sipush (v := 10026) dX7_signKind_132 (by decide) ?_
    exact si_iret dX7_signKind_135 rfl (Nat.le_of_ble_eq_true rfl) (Nat.le_of_ble_eq_true rfl)
  refine si_ite (fun e12 => ?_) (fun n12 => ?_)
  · refine si_tsIn (52) 132 e12 dX7_signKind_1 (by decide) (by decide) rfl (by decide) ?_
    refine si_sipush (v := 10026) dX7_signKind_132 (by decide) ?_
    exact si_iret dX7_signKind_135 rfl (Nat.le_of_ble_eq_true rfl) (Nat.le_of_ble_eq_true rfl)
  refine si_ite (fun e13 => ?_) (fun n13 => ?_)
  · refine si_tsIn (53) 132 e13 dX7_signKind_1 (by decide) (by decide) rfl (by decide) ?_
    refine si_sipush (v := 10026) dX7_signKind_132 (by decide) ?_
    exact si_iret dX7_signKind_135 rfl (Nat.le_of_ble_eq_true rfl) (Nat.le_of_ble_eq_true rfl)
  refine si_ite (fun e14 => ?_) (fun n14 => ?_)
  · refine si_tsIn (54) 132 e14 dX7_signKind_1 (by decide) (by decide) rfl (by decide) ?_
    refine si_sipush (v := 10026) dX7_signKind_132 (by decide) ?_
    exact si_iret dX7_signKind_135 rfl (Nat.le_of_ble_eq_true rfl) (Nat.le_of_ble_eq_true rfl)
  refine si_ite (fun e15 => ?_) (fun n15 => ?_)
  · refine si_tsIn (55) 132 e15 dX7_signKind_1 (by decide) (by decide) rfl (by decide) ?_
    refine si_sipush (v := 10026) dX7_signKind_132 (by decide) ?_
    exact si_iret dX7_signKind_135 rfl (Nat.le_of_ble_eq_true rfl) (Nat.le_of_ble_eq_true rfl)
  refine si_ite (fun e16 => ?_) (fun n16 => ?_)
  · refine si_tsIn (56) 132 e16 dX7_signKind_1 (by decide) (by decide) rfl (by decide) ?_
    refine si_sipush (v := 10026) dX7_signKind_132 (by decide) ?_
    exact si_iret dX7_signKind_135 rfl (Nat.le_of_ble_eq_true rfl) (Nat.le_of_ble_eq_true rfl)
  refine si_ite (fun e17 => ?_) (fun n17 => ?_)
  · refine si_tsIn (57) 132 e17 dX7_signKind_1 (by decide) (by decide) rfl (by decide) ?_
    refine si_sipush (v := 10026) dX7_signKind_132 (by decide) ?_
    exact si_iret dX7_signKind_135 rfl (Nat.le_of_ble_eq_true rfl) (Nat.le_of_ble_eq_true rfl)
  refine si_ite (fun e18 => ?_) (fun n18 => ?_)
  · refine si_tsIn (58) 132 e18 dX7_signKind_1 (by decide) (by decide) rfl (by decide) ?_
    refine si_sipush (v := 10026) dX7_signKind_132 (by decide) ?_
    exact si_iret dX7_signKind_135 rfl (Nat.le_of_ble_eq_true rfl) (Nat.le_of_ble_eq_true rfl)
  refine si_ite (fun e19 => ?_) (fun n19 => ?_)
  · refine si_tsIn (59) 128 e19 dX7_signKind_1 (by decide) (by decide) rfl (by decide) ?_
    refine si_sipush (v := 10024) dX7_signKind_128 (by decide) ?_
    exact si_iret dX7_signKind_131 rfl (Nat.le_of_ble_eq_true rfl) (Nat.le_of_ble_eq_true rfl)
  refine si_ite (fun e20 => ?_) (fun n20 => ?_)
  · refine si_tsIn (60) 112 e20 dX7_signKind_1 (by decide) (by decide) rfl (by decide) ?_
    refine si_sipush (v := 10012) dX7_signKind_112 (by decide) ?_
    exact si_iret dX7_signKind_115 rfl (Nat.le_of_ble_eq_true rfl) (Nat.le_of_ble_eq_true rfl)
  refine si_ite (fun e21 => ?_) (fun n21 => ?_)
  · refine si_tsIn (61) 116 e21 dX7_signKind_1 (by decide) (by decide) rfl (by decide) ?_
    refine si_sipush (v := 10013) dX7_signKind_116 (by decide) ?_
    exact si_iret dX7_signKind_119 rfl (Nat.le_of_ble_eq_true rfl) (Nat.le_of_ble_eq_true rfl)
  refine si_tsOut 132 dX7_signKind_1 (by have z0 := lv_neT n0 (a := 40) (by decide); have z1 := lv_neT n1 (a := 41) (by decide); have z2 := lv_neT n2 (a := 42) (by decide); have z3 := lv_neT n3 (a := 43) (by decide); have z4 := lv_neT n4 (a := 44) (by decide); have z5 := lv_neT n5 (a := 45) (by decide); have z6 := lv_neT n6 (a := 46) (by decide); have z7 := lv_neT n7 (a := 47) (by decide); have z8 := lv_neT n8 (a := 48) (by decide); have z9 := lv_neT n9 (a := 49) (by decide); have z10 := lv_neT n10 (a := 50) (by decide); have z11 := lv_neT n11 (a := 51) (by decide); have z12 := lv_neT n12 (a := 52) (by decide); have z13 := lv_neT n13 (a := 53) (by decide); have z14 := lv_neT n14 (a := 54) (by decide); have z15 := lv_neT n15 (a := 55) (by decide); have z16 := lv_neT n16 (a := 56) (by decide); have z17 := lv_neT n17 (a := 57) (by decide); have z18 := lv_neT n18 (a := 58) (by decide); have z19 := lv_neT n19 (a := 59) (by decide); have z20 := lv_neT n20 (a := 60) (by decide); have z21 := lv_neT n21 (a := 61) (by decide); omega) (by decide) ?_
  refine si_sipush (v := 10026) dX7_signKind_132 (by decide) ?_
  exact si_iret dX7_signKind_135 rfl (Nat.le_of_ble_eq_true rfl) (Nat.le_of_ble_eq_true rfl)
theorem ct_X7_signKind (l : Launch) (G : GG) {a1 : Int32} {h : HS} {q : Int32 × HS} (hq : m_X7_signKind a1 h = some q) : Ct l yX7_signKind mi_X7_signKind G [lvI a1] h (oI q) := Ct.of (out := oI) (by decide +kernel) rfl rfl (Nat.le_of_ble_eq_true rfl) hq (fun _ _ _ _ _ _ _ _ => s_X7_signKind a1 h)
set_option maxHeartbeats 4000000 in
set_option maxRecDepth 100000 in
theorem X7_scan_b94_s {E : EV} (th : Nat) (go9 : Option Nat → Int32 → Int32 → HS → Option (HS)) (hg9 : ∀ (l1 : Option Nat) (l2 : Int32) (l3 : Int32) (h : HS), Sim E mi_X7_scan (fin oV) 0 0 9 [(0, lvR (some th)), (1, lvR (l1)), (2, lvI (l2)), (3, lvI (l3))] [] h (go9 l1 l2 l3 h)) (l1 : Option Nat) (l2 : Int32) (l3 : Int32) (h : HS) : Sim E mi_X7_scan (fin oV) 0 0 94 [(0, lvR (some th)), (1, lvR (l1)), (2, lvI (l2)), (3, lvI (l3))] [] h (X7_scan_b94 th go9 l1 l2 l3 h) := by
  unfold X7_scan_b94
  refine si_iinc 3 (1) dX7_scan_94 rfl (by decide) (by decide) ?_
  refine si_goto 9 dX7_scan_97 (by decide) ?_
  refine si_widen 0 0 (Nat.le_of_ble_eq_true rfl) (Nat.le_of_ble_eq_true rfl) ?_
  refine si_lo [(0, lvR (some th)), (1, lvR (l1)), (2, lvI (l2)), (3, lvI (l3 + (1)))] ⟨rfl, rfl, rfl, rfl, trivial⟩ ?_
  exact hg9 l1 l2 (l3 + (1)) _
set_option maxHeartbeats 4000000 in
set_option maxRecDepth 100000 in
theorem X7_scan_b91_s {E : EV} (th : Nat) (go9 : Option Nat → Int32 → Int32 → HS → Option (HS)) (hg9 : ∀ (l1 : Option Nat) (l2 : Int32) (l3 : Int32) (h : HS), Sim E mi_X7_scan (fin oV) 0 0 9 [(0, lvR (some th)), (1, lvR (l1)), (2, lvI (l2)), (3, lvI (l3))] [] h (go9 l1 l2 l3 h)) (l1 : Option Nat) (l2 : Int32) (l3 : Int32) (h : HS) : Sim E mi_X7_scan (fin oV) 0 0 91 [(0, lvR (some th)), (1, lvR (l1)), (2, lvI (l2)), (3, lvI (l3))] [] h (X7_scan_b91 th go9 l1 l2 l3 h) := by
  unfold X7_scan_b91
  refine si_iinc 2 (1) dX7_scan_91 rfl (by decide) (by decide) ?_
  refine si_widen 0 0 (Nat.le_of_ble_eq_true rfl) (Nat.le_of_ble_eq_true rfl) ?_
  refine si_lo [(0, lvR (some th)), (1, lvR (l1)), (2, lvI (l2 + (1))), (3, lvI (l3))] ⟨rfl, rfl, rfl, rfl, trivial⟩ ?_
  exact X7_scan_b94_s th go9 hg9 l1 (l2 + (1)) l3 _
set_option maxHeartbeats 4000000 in
set_option maxRecDepth 100000 in
theorem X7_scan_b100_s {E : EV} (th : Nat) (l1 : Option Nat) (h : HS) : Sim E mi_X7_scan (fin oV) 0 0 100 [(0, lvR (some th)), (1, lvR (l1))] [] h (X7_scan_b100 th l1 h) := by
  unfold X7_scan_b100
  refine si_aload_n 0 dX7_scan_100 rfl rfl ?_
  refine si_sipush (v := 10025) dX7_scan_101 (by decide) ?_
  refine si_aload_n 1 dX7_scan_104 rfl rfl ?_
  refine si_gI 6 1 fl_X7_22 dX7_scan_105 (by decide) rfl (fun x1 => ?_)
  refine si_cvV 8 [lvI ((10025 : Int32)), lvI (x1)] dX7_scan_108 rfl mc_X7_add ml_X7_48 im_X7_add rfl se_X7_add (by decide) rfl ⟨Nat.le_of_ble_eq_true rfl, Nat.le_of_ble_eq_true rfl, Nat.le_of_ble_eq_true rfl, Nat.le_of_ble_eq_true rfl⟩ (Nat.le_of_ble_eq_true rfl) (fun _ _ hq => ct_X7_add _ _ hq) (fun h2 => ?_)
  exact si_vret dX7_scan_111 rfl (Nat.le_of_ble_eq_true rfl) (Nat.le_of_ble_eq_true rfl)
set_option maxHeartbeats 4000000 in
set_option maxRecDepth 100000 in
theorem X7_scan_L9_s {E : EV} (th : Nat) (n : Nat) : ∀ (l1 : Option Nat) (l2 : Int32) (l3 : Int32) (h : HS), Sim E mi_X7_scan (fin oV) 0 0 9 [(0, lvR (some th)), (1, lvR (l1)), (2, lvI (l2)), (3, lvI (l3))] [] h (X7_scan_L9 th n l1 l2 l3 h) := by
  induction n with
  | zero => intro l1 l2 l3 h; exact si_none
  | succ n ih =>
    intro l1 l2 l3 h
    unfold X7_scan_L9
    refine si_iload_n 3 dX7_scan_9 rfl rfl ?_
    refine si_sipush (v := 600) dX7_scan_10 (by decide) ?_
    refine si_icmp_ge 100 dX7_scan_13 (by decide) ?_ ?_
    · refine si_widen 0 0 (Nat.le_of_ble_eq_true rfl) (Nat.le_of_ble_eq_true rfl) ?_
      refine si_lo [(0, lvR (some th)), (1, lvR (l1))] ⟨rfl, rfl, trivial⟩ ?_
      exact X7_scan_b100_s th l1 _
    · refine si_iload_n 2 dX7_scan_16 rfl rfl ?_
      refine si_aload_n 1 dX7_scan_17 rfl rfl ?_
      refine si_gI 6 1 fl_X7_22 dX7_scan_18 (by decide) rfl (fun x1 => ?_)
      refine si_icmp_ge 100 dX7_scan_21 (by decide) ?_ ?_
      · refine si_widen 0 0 (Nat.le_of_ble_eq_true rfl) (Nat.le_of_ble_eq_true rfl) ?_
        refine si_lo [(0, lvR (some th)), (1, lvR (l1))] ⟨rfl, rfl, trivial⟩ ?_
        exact X7_scan_b100_s th l1 _
      · refine si_aload_n 1 dX7_scan_24 rfl rfl ?_
        refine si_iload_n 2 dX7_scan_25 rfl rfl ?_
        refine si_cvI 6 [lvI (l2)] dX7_scan_26 rfl mc_X5_signAt ml_X7_27 im_X5_signAt rfl se_X5_signAt (by decide) rfl ⟨Nat.le_of_ble_eq_true rfl, Nat.le_of_ble_eq_true rfl, Nat.le_of_ble_eq_true rfl, Nat.le_of_ble_eq_true rfl⟩ (Nat.le_of_ble_eq_true rfl) (fun _ _ hq => ct_X5_signAt _ _ hq) (fun q2 => ?_)
        refine si_istore 4 dX7_scan_29 (by decide) ?_
        refine si_iload 4 dX7_scan_31 rfl ?_
        refine si_csI [lvI (q2.1)] dX7_scan_33 rfl mc_X7_isDigit ml_X7_31 st_X7_isDigit rfl ⟨Nat.le_of_ble_eq_true rfl, Nat.le_of_ble_eq_true rfl, Nat.le_of_ble_eq_true rfl, Nat.le_of_ble_eq_true rfl⟩ (Nat.le_of_ble_eq_true rfl) (fun _ hq => ct_X7_isDigit _ _ hq) (fun q4 => ?_)
        refine si_if_eq 49 dX7_scan_36 (by decide) ?_ ?_
        · refine si_iload 4 dX7_scan_49 rfl ?_
          refine si_csI [lvI (q2.1)] dX7_scan_51 rfl mc_X7_isLetter ml_X7_39 st_X7_isLetter rfl ⟨Nat.le_of_ble_eq_true rfl, Nat.le_of_ble_eq_true rfl, Nat.le_of_ble_eq_true rfl, Nat.le_of_ble_eq_true rfl⟩ (Nat.le_of_ble_eq_true rfl) (fun _ hq => ct_X7_isLetter _ _ hq) (fun q5 => ?_)
          refine si_if_eq 67 dX7_scan_54 (by decide) ?_ ?_
          · refine si_iload 4 dX7_scan_67 rfl ?_
            refine si_bipush (v := 10) dX7_scan_69 (by decide) ?_
            refine si_icmp_eq 91 dX7_scan_71 (by decide) ?_ ?_
            · refine si_widen 0 0 (Nat.le_of_ble_eq_true rfl) (Nat.le_of_ble_eq_true rfl) ?_
              refine si_lo [(0, lvR (some th)), (1, lvR (l1)), (2, lvI (l2)), (3, lvI (l3))] ⟨rfl, rfl, rfl, rfl, trivial⟩ ?_
              exact X7_scan_b91_s th (X7_scan_L9 th n) ih l1 l2 l3 _
            · refine si_iload 4 dX7_scan_74 rfl ?_
              refine si_bipush (v := 32) dX7_scan_76 (by decide) ?_
              refine si_icmp_eq 91 dX7_scan_78 (by decide) ?_ ?_
              · refine si_widen 0 0 (Nat.le_of_ble_eq_true rfl) (Nat.le_of_ble_eq_true rfl) ?_
                refine si_lo [(0, lvR (some th)), (1, lvR (l1)), (2, lvI (l2)), (3, lvI (l3))] ⟨rfl, rfl, rfl, rfl, trivial⟩ ?_
                exact X7_scan_b91_s th (X7_scan_L9 th n) ih l1 l2 l3 _
              · refine si_aload_n 0 dX7_scan_81 rfl rfl ?_
                refine si_iload 4 dX7_scan_82 rfl ?_
                refine si_csI [lvI (q2.1)] dX7_scan_84 rfl mc_X7_signKind ml_X7_45 st_X7_signKind rfl ⟨Nat.le_of_ble_eq_true rfl, Nat.le_of_ble_eq_true rfl, Nat.le_of_ble_eq_true rfl, Nat.le_of_ble_eq_true rfl⟩ (Nat.le_of_ble_eq_true rfl) (fun _ hq => ct_X7_signKind _ _ hq) (fun q6 => ?_)
                refine si_iload_n 2 dX7_scan_87 rfl rfl ?_
                refine si_cvV 8 [lvI (q6.1), lvI (l2)] dX7_scan_88 rfl mc_X7_add ml_X7_48 im_X7_add rfl se_X7_add (by decide) rfl ⟨Nat.le_of_ble_eq_true rfl, Nat.le_of_ble_eq_true rfl, Nat.le_of_ble_eq_true rfl, Nat.le_of_ble_eq_true rfl⟩ (Nat.le_of_ble_eq_true rfl) (fun _ _ hq => ct_X7_add _ _ hq) (fun h7 => ?_)
                refine si_widen 0 0 (Nat.le_of_ble_eq_true rfl) (Nat.le_of_ble_eq_true rfl) ?_
                refine si_lo [(0, lvR (some th)), (1, lvR (l1)), (2, lvI (l2)), (3, lvI (l3))] ⟨rfl, rfl, rfl, rfl, trivial⟩ ?_
                exact X7_scan_b91_s th (X7_scan_L9 th n) ih l1 l2 l3 _
          · refine si_aload_n 0 dX7_scan_57 rfl rfl ?_
            refine si_aload_n 1 dX7_scan_58 rfl rfl ?_
            refine si_iload_n 2 dX7_scan_59 rfl rfl ?_
            refine si_cvI 8 [lvR (l1), lvI (l2)] dX7_scan_60 rfl mc_X7_addWord ml_X7_42 im_X7_addWord rfl se_X7_addWord (by decide) rfl ⟨Nat.le_of_ble_eq_true rfl, Nat.le_of_ble_eq_true rfl, Nat.le_of_ble_eq_true rfl, Nat.le_of_ble_eq_true rfl⟩ (Nat.le_of_ble_eq_true rfl) (fun _ _ hq => ct_X7_addWord _ _ hq) (fun q9 => ?_)
            refine si_istore_n 2 dX7_scan_63 rfl (by decide) ?_
            refine si_goto 94 dX7_scan_64 (by decide) ?_
            refine si_widen 0 0 (Nat.le_of_ble_eq_true rfl) (Nat.le_of_ble_eq_true rfl) ?_
            refine si_lo [(0, lvR (some th)), (1, lvR (l1)), (2, lvI (q9.1)), (3, lvI (l3))] ⟨rfl, rfl, rfl, rfl, trivial⟩ ?_
            exact X7_scan_b94_s th (X7_scan_L9 th n) ih l1 q9.1 l3 _
        · refine si_aload_n 0 dX7_scan_39 rfl rfl ?_
          refine si_aload_n 1 dX7_scan_40 rfl rfl ?_
          refine si_iload_n 2 dX7_scan_41 rfl rfl ?_
          refine si_cvI 8 [lvR (l1), lvI (l2)] dX7_scan_42 rfl mc_X7_addNumber ml_X7_35 im_X7_addNumber rfl se_X7_addNumber (by decide) rfl ⟨Nat.le_of_ble_eq_true rfl, Nat.le_of_ble_eq_true rfl, Nat.le_of_ble_eq_true rfl, Nat.le_of_ble_eq_true rfl⟩ (Nat.le_of_ble_eq_true rfl) (fun _ _ hq => ct_X7_addNumber _ _ hq) (fun q11 => ?_)
          refine si_istore_n 2 dX7_scan_45 rfl (by decide) ?_
          refine si_goto 94 dX7_scan_46 (by decide) ?_
          refine si_widen 0 0 (Nat.le_of_ble_eq_true rfl) (Nat.le_of_ble_eq_true rfl) ?_
          refine si_lo [(0, lvR (some th)), (1, lvR (l1)), (2, lvI (q11.1)), (3, lvI (l3))] ⟨rfl, rfl, rfl, rfl, trivial⟩ ?_
          exact X7_scan_b94_s th (X7_scan_L9 th n) ih l1 q11.1 l3 _
set_option maxHeartbeats 4000000 in
set_option maxRecDepth 100000 in
theorem s_X7_scan {E : EV} (th : Nat) (a1 : Option Nat) (h : HS) : Sim E mi_X7_scan (fin oV) 0 0 0 (largs 0 [lvR (some th), lvR a1]) [] h (m_X7_scan th a1 h) := by
  unfold m_X7_scan
  refine si_aload_n 0 dX7_scan_0 rfl rfl ?_
  refine si_iconst (v := 0) dX7_scan_1 (by decide) ?_
  refine si_pI 8 2 fl_X7_18 dX7_scan_2 (by decide) rfl rfl rfl (fw_X7_18 _) (fun h1 => ?_)
  refine si_iconst (v := 0) dX7_scan_5 (by decide) ?_
  refine si_istore_n 2 dX7_scan_6 rfl (by decide) ?_
  refine si_iconst (v := 0) dX7_scan_7 (by decide) ?_
  refine si_istore_n 3 dX7_scan_8 rfl (by decide) ?_
  refine si_widen 0 0 (Nat.le_of_ble_eq_true rfl) (Nat.le_of_ble_eq_true rfl) ?_
  refine si_lo [(0, lvR (some th)), (1, lvR (a1)), (2, lvI ((0 : Int32))), (3, lvI ((0 : Int32)))] ⟨rfl, rfl, rfl, rfl, trivial⟩ ?_
  exact X7_scan_L9_s th FU a1 ((0 : Int32)) ((0 : Int32)) _
theorem ct_X7_scan (l : Launch) (G : GG) {th : Nat} {a1 : Option Nat} {h : HS} {q : HS} (hq : m_X7_scan th a1 h = some q) : Ct l yX7_scan mi_X7_scan G [lvR (some th), lvR a1] h (oV q) := Ct.of (out := oV) (by decide +kernel) rfl rfl (Nat.le_of_ble_eq_true rfl) hq (fun _ _ _ _ _ _ _ _ => s_X7_scan th a1 h)
set_option maxHeartbeats 4000000 in
set_option maxRecDepth 100000 in
theorem X6_goOn_b75_s {E : EV} (th : Nat) (s1 : Int32) (s0 : Option Nat) (h : HS) : Sim E mi_X6_goOn (fin oV) 0 0 75 [] [.int (s1), va_rf (s0)] h (X6_goOn_b75 th s1 s0 h) := by
  unfold X6_goOn_b75
  refine si_pI 7 4 fl_X6_29 dX6_goOn_75 (by decide) rfl rfl rfl (fw_X6_29 _) (fun h1 => ?_)
  exact si_vret dX6_goOn_78 rfl (Nat.le_of_ble_eq_true rfl) (Nat.le_of_ble_eq_true rfl)
set_option maxHeartbeats 4000000 in
set_option maxRecDepth 100000 in
theorem X6_goOn_b51_s {E : EV} (th : Nat) (s0 : Int32) (h : HS) : Sim E mi_X6_goOn (fin oV) 0 0 51 [(0, lvR (some th))] [.int (s0)] h (X6_goOn_b51 th s0 h) := by
  unfold X6_goOn_b51
  refine si_istore_n 1 dX6_goOn_51 rfl (by decide) ?_
  refine si_aload_n 0 dX6_goOn_52 rfl rfl ?_
  refine si_iload_n 1 dX6_goOn_53 rfl rfl ?_
  refine si_if_eq 72 dX6_goOn_54 (by decide) ?_ ?_
  · refine si_sipush (v := 10026) dX6_goOn_72 (by decide) ?_
    refine si_widen 0 0 (Nat.le_of_ble_eq_true rfl) (Nat.le_of_ble_eq_true rfl) ?_
    refine si_lo [] trivial ?_
    exact X6_goOn_b75_s th ((10026 : Int32)) (some th) _
  · refine si_aload_n 0 dX6_goOn_57 rfl rfl ?_
    refine si_gR 7 0 fl_X6_12 dX6_goOn_58 (by decide) rfl (fun x1 => ?_)
    refine si_gR 8 0 fl_X6_101 dX6_goOn_61 (by decide) rfl (fun x2 => ?_)
    refine si_aload_n 0 dX6_goOn_64 rfl rfl ?_
    refine si_gI 7 3 fl_X6_26 dX6_goOn_65 (by decide) rfl (fun x3 => ?_)
    refine si_ia dX6_goOn_68 (fun x4 => ?_)
    refine si_goto 75 dX6_goOn_69 (by decide) ?_
    refine si_widen 0 0 (Nat.le_of_ble_eq_true rfl) (Nat.le_of_ble_eq_true rfl) ?_
    refine si_lo [] trivial ?_
    exact X6_goOn_b75_s th x4 (some th) _
set_option maxHeartbeats 4000000 in
set_option maxRecDepth 100000 in
theorem X6_goOn_b50_s {E : EV} (th : Nat)  (h : HS) : Sim E mi_X6_goOn (fin oV) 0 0 50 [(0, lvR (some th))] [] h (X6_goOn_b50 th  h) := by
  unfold X6_goOn_b50
  refine si_iconst (v := 0) dX6_goOn_50 (by decide) ?_
  refine si_widen 0 0 (Nat.le_of_ble_eq_true rfl) (Nat.le_of_ble_eq_true rfl) ?_
  refine si_lo [(0, lvR (some th))] ⟨rfl, trivial⟩ ?_
  exact X6_goOn_b51_s th ((0 : Int32)) _
set_option maxHeartbeats 4000000 in
set_option maxRecDepth 100000 in
theorem s_X6_goOn {E : EV} (th : Nat) (h : HS) : Sim E mi_X6_goOn (fin oV) 0 0 0 (largs 0 [lvR (some th)]) [] h (m_X6_goOn th h) := by
  unfold m_X6_goOn
  refine si_aload_n 0 dX6_goOn_0 rfl rfl ?_
  refine si_dup dX6_goOn_1 (cat_rf _) ?_
  refine si_gI 7 3 fl_X6_26 dX6_goOn_2 (by decide) rfl (fun x1 => ?_)
  refine si_iconst (v := 1) dX6_goOn_5 (by decide) ?_
  refine si_iadd dX6_goOn_6 ?_
  refine si_pI 7 3 fl_X6_26 dX6_goOn_7 (by decide) rfl rfl rfl (fw_X6_26 _) (fun h2 => ?_)
  refine si_aload_n 0 dX6_goOn_10 rfl rfl ?_
  refine si_gI 7 3 fl_X6_26 dX6_goOn_11 (by decide) rfl (fun x3 => ?_)
  refine si_if_lt 50 dX6_goOn_14 (by decide) ?_ ?_
  · refine si_widen 0 0 (Nat.le_of_ble_eq_true rfl) (Nat.le_of_ble_eq_true rfl) ?_
    refine si_lo [(0, lvR (some th))] ⟨rfl, trivial⟩ ?_
    exact X6_goOn_b50_s th  _
  · refine si_aload_n 0 dX6_goOn_17 rfl rfl ?_
    refine si_gI 7 3 fl_X6_26 dX6_goOn_18 (by decide) rfl (fun x4 => ?_)
    refine si_aload_n 0 dX6_goOn_21 rfl rfl ?_
    refine si_gR 7 0 fl_X6_12 dX6_goOn_22 (by decide) rfl (fun x5 => ?_)
    refine si_gI 8 2 fl_X6_98 dX6_goOn_25 (by decide) rfl (fun x6 => ?_)
    refine si_icmp_ge 50 dX6_goOn_28 (by decide) ?_ ?_
    · refine si_widen 0 0 (Nat.le_of_ble_eq_true rfl) (Nat.le_of_ble_eq_true rfl) ?_
      refine si_lo [(0, lvR (some th))] ⟨rfl, trivial⟩ ?_
      exact X6_goOn_b50_s th  _
    · refine si_aload_n 0 dX6_goOn_31 rfl rfl ?_
      refine si_gI 7 3 fl_X6_26 dX6_goOn_32 (by decide) rfl (fun x7 => ?_)
      refine si_aload_n 0 dX6_goOn_35 rfl rfl ?_
      refine si_gR 7 0 fl_X6_12 dX6_goOn_36 (by decide) rfl (fun x8 => ?_)
      refine si_gR 8 0 fl_X6_101 dX6_goOn_39 (by decide) rfl (fun x9 => ?_)
      refine si_aN dX6_goOn_42 (fun x10 => ?_)
      refine si_icmp_ge 50 dX6_goOn_43 (by decide) ?_ ?_
      · refine si_widen 0 0 (Nat.le_of_ble_eq_true rfl) (Nat.le_of_ble_eq_true rfl) ?_
        refine si_lo [(0, lvR (some th))] ⟨rfl, trivial⟩ ?_
        exact X6_goOn_b50_s th  _
      · refine si_iconst (v := 1) dX6_goOn_46 (by decide) ?_
        refine si_goto 51 dX6_goOn_47 (by decide) ?_
        refine si_widen 0 0 (Nat.le_of_ble_eq_true rfl) (Nat.le_of_ble_eq_true rfl) ?_
        refine si_lo [(0, lvR (some th))] ⟨rfl, trivial⟩ ?_
        exact X6_goOn_b51_s th ((1 : Int32)) _
theorem ct_X6_goOn (l : Launch) (G : GG) {th : Nat} {h : HS} {q : HS} (hq : m_X6_goOn th h = some q) : Ct l yX6_goOn mi_X6_goOn G [lvR (some th)] h (oV q) := Ct.of (out := oV) (by decide +kernel) rfl rfl (Nat.le_of_ble_eq_true rfl) hq (fun _ _ _ _ _ _ _ _ => s_X6_goOn th h)
set_option maxHeartbeats 4000000 in
set_option maxRecDepth 100000 in
theorem X6_mark_b78_s {E : EV} (th : Nat)  (h : HS) : Sim E mi_X6_mark (fin oV) 0 0 78 [(0, lvR (some th))] [] h (X6_mark_b78 th  h) := by
  unfold X6_mark_b78
  refine si_aload_n 0 dX6_mark_78 rfl rfl ?_
  refine si_sipush (v := 10026) dX6_mark_79 (by decide) ?_
  refine si_pI 7 4 fl_X6_29 dX6_mark_82 (by decide) rfl rfl rfl (fw_X6_29 _) (fun h1 => ?_)
  exact si_vret dX6_mark_85 rfl (Nat.le_of_ble_eq_true rfl) (Nat.le_of_ble_eq_true rfl)
set_option maxHeartbeats 4000000 in
set_option maxRecDepth 100000 in
theorem X6_mark_b73_s {E : EV} (th : Nat) (s3 : Int32) (s2 : Int32) (s1 : Int32) (s0 : Option Nat) (h : HS) : Sim E mi_X6_mark (fin oV) 0 0 73 [(0, lvR (some th))] [.int (s3), .int (s2), .int (s1), va_rf (s0)] h (X6_mark_b73 th s3 s2 s1 s0 h) := by
  unfold X6_mark_b73
  refine si_imul dX6_mark_73 ?_
  refine si_iadd dX6_mark_74 ?_
  refine si_pI 7 6 fl_X6_35 dX6_mark_75 (by decide) rfl rfl rfl (fw_X6_35 _) (fun h1 => ?_)
  refine si_widen 0 0 (Nat.le_of_ble_eq_true rfl) (Nat.le_of_ble_eq_true rfl) ?_
  refine si_lo [(0, lvR (some th))] ⟨rfl, trivial⟩ ?_
  exact X6_mark_b78_s th  _
set_option maxHeartbeats 4000000 in
set_option maxRecDepth 100000 in
theorem X6_mark_b48_s {E : EV} (th : Nat) (l1 : Int32) (s0 : Int32) (h : HS) : Sim E mi_X6_mark (fin oV) 0 0 48 [(0, lvR (some th)), (1, lvI (l1))] [.int (s0)] h (X6_mark_b48 th l1 s0 h) := by
  unfold X6_mark_b48
  refine si_istore_n 2 dX6_mark_48 rfl (by decide) ?_
  refine si_aload_n 0 dX6_mark_49 rfl rfl ?_
  refine si_iload_n 1 dX6_mark_50 rfl rfl ?_
  refine si_bipush (v := 16) dX6_mark_51 (by decide) ?_
  refine si_iload_n 2 dX6_mark_53 rfl rfl ?_
  refine si_if_eq 72 dX6_mark_54 (by decide) ?_ ?_
  · refine si_iconst (v := 0) dX6_mark_72 (by decide) ?_
    refine si_widen 0 0 (Nat.le_of_ble_eq_true rfl) (Nat.le_of_ble_eq_true rfl) ?_
    refine si_lo [(0, lvR (some th))] ⟨rfl, trivial⟩ ?_
    exact X6_mark_b73_s th ((0 : Int32)) ((16 : Int32)) l1 (some th) _
  · refine si_aload_n 0 dX6_mark_57 rfl rfl ?_
    refine si_gR 7 0 fl_X6_12 dX6_mark_58 (by decide) rfl (fun x1 => ?_)
    refine si_gR 8 1 fl_X6_104 dX6_mark_61 (by decide) rfl (fun x2 => ?_)
    refine si_aload_n 0 dX6_mark_64 rfl rfl ?_
    refine si_gI 7 3 fl_X6_26 dX6_mark_65 (by decide) rfl (fun x3 => ?_)
    refine si_ia dX6_mark_68 (fun x4 => ?_)
    refine si_goto 73 dX6_mark_69 (by decide) ?_
    refine si_widen 0 0 (Nat.le_of_ble_eq_true rfl) (Nat.le_of_ble_eq_true rfl) ?_
    refine si_lo [(0, lvR (some th))] ⟨rfl, trivial⟩ ?_
    exact X6_mark_b73_s th x4 ((16 : Int32)) l1 (some th) _
set_option maxHeartbeats 4000000 in
set_option maxRecDepth 100000 in
theorem X6_mark_b47_s {E : EV} (th : Nat) (l1 : Int32) (h : HS) : Sim E mi_X6_mark (fin oV) 0 0 47 [(0, lvR (some th)), (1, lvI (l1))] [] h (X6_mark_b47 th l1 h) := by
  unfold X6_mark_b47
  refine si_iconst (v := 0) dX6_mark_47 (by decide) ?_
  refine si_widen 0 0 (Nat.le_of_ble_eq_true rfl) (Nat.le_of_ble_eq_true rfl) ?_
  refine si_lo [(0, lvR (some th)), (1, lvI (l1))] ⟨rfl, rfl, trivial⟩ ?_
  exact X6_mark_b48_s th l1 ((0 : Int32)) _
set_option maxHeartbeats 4000000 in
set_option maxRecDepth 100000 in
theorem s_X6_mark {E : EV} (th : Nat) (a1 : Int32) (h : HS) : Sim E mi_X6_mark (fin oV) 0 0 0 (largs 0 [lvR (some th), lvI a1]) [] h (m_X6_mark th a1 h) := by
  unfold m_X6_mark
  refine si_aload_n 0 dX6_mark_0 rfl rfl ?_
  refine si_gI 7 6 fl_X6_35 dX6_mark_1 (by decide) rfl (fun x1 => ?_)
  refine si_if_ne 78 dX6_mark_4 (by decide) ?_ ?_
  · refine si_aload_n 0 dX6_mark_7 rfl rfl ?_
    refine si_gI 7 3 fl_X6_26 dX6_mark_8 (by decide) rfl (fun x2 => ?_)
    refine si_if_lt 47 dX6_mark_11 (by decide) ?_ ?_
    · refine si_widen 0 0 (Nat.le_of_ble_eq_true rfl) (Nat.le_of_ble_eq_true rfl) ?_
      refine si_lo [(0, lvR (some th)), (1, lvI (a1))] ⟨rfl, rfl, trivial⟩ ?_
      exact X6_mark_b47_s th a1 _
    · refine si_aload_n 0 dX6_mark_14 rfl rfl ?_
      refine si_gI 7 3 fl_X6_26 dX6_mark_15 (by decide) rfl (fun x3 => ?_)
      refine si_aload_n 0 dX6_mark_18 rfl rfl ?_
      refine si_gR 7 0 fl_X6_12 dX6_mark_19 (by decide) rfl (fun x4 => ?_)
      refine si_gI 8 2 fl_X6_98 dX6_mark_22 (by decide) rfl (fun x5 => ?_)
      refine si_icmp_ge 47 dX6_mark_25 (by decide) ?_ ?_
      · refine si_widen 0 0 (Nat.le_of_ble_eq_true rfl) (Nat.le_of_ble_eq_true rfl) ?_
        refine si_lo [(0, lvR (some th)), (1, lvI (a1))] ⟨rfl, rfl, trivial⟩ ?_
        exact X6_mark_b47_s th a1 _
      · refine si_aload_n 0 dX6_mark_28 rfl rfl ?_
        refine si_gI 7 3 fl_X6_26 dX6_mark_29 (by decide) rfl (fun x6 => ?_)
        refine si_aload_n 0 dX6_mark_32 rfl rfl ?_
        refine si_gR 7 0 fl_X6_12 dX6_mark_33 (by decide) rfl (fun x7 => ?_)
        refine si_gR 8 1 fl_X6_104 dX6_mark_36 (by decide) rfl (fun x8 => ?_)
        refine si_aN dX6_mark_39 (fun x9 => ?_)
        refine si_icmp_ge 47 dX6_mark_40 (by decide) ?_ ?_
        · refine si_widen 0 0 (Nat.le_of_ble_eq_true rfl) (Nat.le_of_ble_eq_true rfl) ?_
          refine si_lo [(0, lvR (some th)), (1, lvI (a1))] ⟨rfl, rfl, trivial⟩ ?_
          exact X6_mark_b47_s th a1 _
        · refine si_iconst (v := 1) dX6_mark_43 (by decide) ?_
          refine si_goto 48 dX6_mark_44 (by decide) ?_
          refine si_widen 0 0 (Nat.le_of_ble_eq_true rfl) (Nat.le_of_ble_eq_true rfl) ?_
          refine si_lo [(0, lvR (some th)), (1, lvI (a1))] ⟨rfl, rfl, trivial⟩ ?_
          exact X6_mark_b48_s th a1 ((1 : Int32)) _
  · refine si_widen 0 0 (Nat.le_of_ble_eq_true rfl) (Nat.le_of_ble_eq_true rfl) ?_
    refine si_lo [(0, lvR (some th))] ⟨rfl, trivial⟩ ?_
    exact X6_mark_b78_s th  _
theorem ct_X6_mark (l : Launch) (G : GG) {th : Nat} {a1 : Int32} {h : HS} {q : HS} (hq : m_X6_mark th a1 h = some q) : Ct l yX6_mark mi_X6_mark G [lvR (some th), lvI a1] h (oV q) := Ct.of (out := oV) (by decide +kernel) rfl rfl (Nat.le_of_ble_eq_true rfl) hq (fun _ _ _ _ _ _ _ _ => s_X6_mark th a1 h)
set_option maxHeartbeats 4000000 in
set_option maxRecDepth 100000 in
theorem s_X6_take {E : EV} (th : Nat) (a1 : Int32) (h : HS) : Sim E mi_X6_take (fin oV) 0 0 0 (largs 0 [lvR (some th), lvI a1]) [] h (m_X6_take th a1 h) := by
  unfold m_X6_take
  refine si_aload_n 0 dX6_take_0 rfl rfl ?_
  refine si_gI 7 4 fl_X6_29 dX6_take_1 (by decide) rfl (fun x1 => ?_)
  refine si_iload_n 1 dX6_take_4 rfl rfl ?_
  refine si_icmp_ne 15 dX6_take_5 (by decide) ?_ ?_
  · refine si_aload_n 0 dX6_take_8 rfl rfl ?_
    refine si_cvV 7 [] dX6_take_9 rfl mc_X6_goOn ml_X6_42 im_X6_goOn rfl se_X6_goOn (by decide) rfl ⟨Nat.le_of_ble_eq_true rfl, Nat.le_of_ble_eq_true rfl, Nat.le_of_ble_eq_true rfl, Nat.le_of_ble_eq_true rfl⟩ (Nat.le_of_ble_eq_true rfl) (fun _ _ hq => ct_X6_goOn _ _ hq) (fun h4 => ?_)
    refine si_goto 20 dX6_take_12 (by decide) ?_
    exact si_vret dX6_take_20 rfl (Nat.le_of_ble_eq_true rfl) (Nat.le_of_ble_eq_true rfl)
  · refine si_aload_n 0 dX6_take_15 rfl rfl ?_
    refine si_iconst (v := 1) dX6_take_16 (by decide) ?_
    refine si_cvV 7 [lvI ((1 : Int32))] dX6_take_17 rfl mc_X6_mark ml_X6_68 im_X6_mark rfl se_X6_mark (by decide) rfl ⟨Nat.le_of_ble_eq_true rfl, Nat.le_of_ble_eq_true rfl, Nat.le_of_ble_eq_true rfl, Nat.le_of_ble_eq_true rfl⟩ (Nat.le_of_ble_eq_true rfl) (fun _ _ hq => ct_X6_mark _ _ hq) (fun h2 => ?_)
    exact si_vret dX6_take_20 rfl (Nat.le_of_ble_eq_true rfl) (Nat.le_of_ble_eq_true rfl)
theorem ct_X6_take (l : Launch) (G : GG) {th : Nat} {a1 : Int32} {h : HS} {q : HS} (hq : m_X6_take th a1 h = some q) : Ct l yX6_take mi_X6_take G [lvR (some th), lvI a1] h (oV q) := Ct.of (out := oV) (by decide +kernel) rfl rfl (Nat.le_of_ble_eq_true rfl) hq (fun _ _ _ _ _ _ _ _ => s_X6_take th a1 h)
set_option maxHeartbeats 4000000 in
set_option maxRecDepth 100000 in
theorem s_X6_takeRate {E : EV} (th : Nat) (h : HS) : Sim E mi_X6_takeRate (fin oI) 0 0 0 (largs 0 [lvR (some th)]) [] h (m_X6_takeRate th h) := by
  unfold m_X6_takeRate
  refine si_aload_n 0 dX6_takeRate_0 rfl rfl ?_
  refine si_gI 7 4 fl_X6_29 dX6_takeRate_1 (by decide) rfl (fun x1 => ?_)
  refine si_istore_n 1 dX6_takeRate_4 rfl (by decide) ?_
  refine si_iload_n 1 dX6_takeRate_5 rfl rfl ?_
  refine si_iconst (v := 0) dX6_takeRate_6 (by decide) ?_
  refine si_sipush (v := 9999) dX6_takeRate_7 (by decide) ?_
  refine si_csI [lvI (x1), lvI ((0 : Int32)), lvI ((9999 : Int32))] dX6_takeRate_10 rfl mc_X8_isWithin ml_X6_85 st_X8_isWithin rfl ⟨Nat.le_of_ble_eq_true rfl, Nat.le_of_ble_eq_true rfl, Nat.le_of_ble_eq_true rfl, Nat.le_of_ble_eq_true rfl⟩ (Nat.le_of_ble_eq_true rfl) (fun _ hq => ct_X8_isWithin _ _ hq) (fun q2 => ?_)
  refine si_if_ne 23 dX6_takeRate_13 (by decide) ?_ ?_
  · refine si_aload_n 0 dX6_takeRate_16 rfl rfl ?_
    refine si_iconst (v := 1) dX6_takeRate_17 (by decide) ?_
    refine si_cvV 7 [lvI ((1 : Int32))] dX6_takeRate_18 rfl mc_X6_mark ml_X6_68 im_X6_mark rfl se_X6_mark (by decide) rfl ⟨Nat.le_of_ble_eq_true rfl, Nat.le_of_ble_eq_true rfl, Nat.le_of_ble_eq_true rfl, Nat.le_of_ble_eq_true rfl⟩ (Nat.le_of_ble_eq_true rfl) (fun _ _ hq => ct_X6_mark _ _ hq) (fun h7 => ?_)
    refine si_iconst (v := 0) dX6_takeRate_21 (by decide) ?_
    exact si_iret dX6_takeRate_22 rfl (Nat.le_of_ble_eq_true rfl) (Nat.le_of_ble_eq_true rfl)
  · refine si_iload_n 1 dX6_takeRate_23 rfl rfl ?_
    refine si_sipush (v := 999) dX6_takeRate_24 (by decide) ?_
    refine si_icmp_le 37 dX6_takeRate_27 (by decide) ?_ ?_
    · refine si_aload_n 0 dX6_takeRate_37 rfl rfl ?_
      refine si_cvV 7 [] dX6_takeRate_38 rfl mc_X6_goOn ml_X6_42 im_X6_goOn rfl se_X6_goOn (by decide) rfl ⟨Nat.le_of_ble_eq_true rfl, Nat.le_of_ble_eq_true rfl, Nat.le_of_ble_eq_true rfl, Nat.le_of_ble_eq_true rfl⟩ (Nat.le_of_ble_eq_true rfl) (fun _ _ hq => ct_X6_goOn _ _ hq) (fun h3 => ?_)
      refine si_iload_n 1 dX6_takeRate_41 rfl rfl ?_
      exact si_iret dX6_takeRate_42 rfl (Nat.le_of_ble_eq_true rfl) (Nat.le_of_ble_eq_true rfl)
    · refine si_aload_n 0 dX6_takeRate_30 rfl rfl ?_
      refine si_iconst (v := 4) dX6_takeRate_31 (by decide) ?_
      refine si_cvV 7 [lvI ((4 : Int32))] dX6_takeRate_32 rfl mc_X6_mark ml_X6_68 im_X6_mark rfl se_X6_mark (by decide) rfl ⟨Nat.le_of_ble_eq_true rfl, Nat.le_of_ble_eq_true rfl, Nat.le_of_ble_eq_true rfl, Nat.le_of_ble_eq_true rfl⟩ (Nat.le_of_ble_eq_true rfl) (fun _ _ hq => ct_X6_mark _ _ hq) (fun h5 => ?_)
      refine si_iconst (v := 0) dX6_takeRate_35 (by decide) ?_
      exact si_iret dX6_takeRate_36 rfl (Nat.le_of_ble_eq_true rfl) (Nat.le_of_ble_eq_true rfl)
theorem ct_X6_takeRate (l : Launch) (G : GG) {th : Nat} {h : HS} {q : Int32 × HS} (hq : m_X6_takeRate th h = some q) : Ct l yX6_takeRate mi_X6_takeRate G [lvR (some th)] h (oI q) := Ct.of (out := oI) (by decide +kernel) rfl rfl (Nat.le_of_ble_eq_true rfl) hq (fun _ _ _ _ _ _ _ _ => s_X6_takeRate th h)
set_option maxHeartbeats 4000000 in
set_option maxRecDepth 100000 in
theorem s_X6_write {E : EV} (th : Nat) (a1 : Int32) (h : HS) : Sim E mi_X6_write (fin oV) 0 0 0 (largs 0 [lvR (some th), lvI a1]) [] h (m_X6_write th a1 h) := by
  unfold m_X6_write
  refine si_aload_n 0 dX6_write_0 rfl rfl ?_
  refine si_gI 7 2 fl_X6_22 dX6_write_1 (by decide) rfl (fun x1 => ?_)
  refine si_if_lt 39 dX6_write_4 (by decide) ?_ ?_
  · exact si_vret dX6_write_39 rfl (Nat.le_of_ble_eq_true rfl) (Nat.le_of_ble_eq_true rfl)
  · refine si_aload_n 0 dX6_write_7 rfl rfl ?_
    refine si_gI 7 2 fl_X6_22 dX6_write_8 (by decide) rfl (fun x2 => ?_)
    refine si_aload_n 0 dX6_write_11 rfl rfl ?_
    refine si_gR 7 1 fl_X6_18 dX6_write_12 (by decide) rfl (fun x3 => ?_)
    refine si_aN dX6_write_15 (fun x4 => ?_)
    refine si_icmp_ge 39 dX6_write_16 (by decide) ?_ ?_
    · exact si_vret dX6_write_39 rfl (Nat.le_of_ble_eq_true rfl) (Nat.le_of_ble_eq_true rfl)
    · refine si_aload_n 0 dX6_write_19 rfl rfl ?_
      refine si_gR 7 1 fl_X6_18 dX6_write_20 (by decide) rfl (fun x5 => ?_)
      refine si_aload_n 0 dX6_write_23 rfl rfl ?_
      refine si_gI 7 2 fl_X6_22 dX6_write_24 (by decide) rfl (fun x6 => ?_)
      refine si_iload_n 1 dX6_write_27 rfl rfl ?_
      refine si_is dX6_write_28 (fun h7 => ?_)
      refine si_aload_n 0 dX6_write_29 rfl rfl ?_
      refine si_dup dX6_write_30 (cat_rf _) ?_
      refine si_gI 7 2 fl_X6_22 dX6_write_31 (by decide) rfl (fun x8 => ?_)
      refine si_iconst (v := 1) dX6_write_34 (by decide) ?_
      refine si_iadd dX6_write_35 ?_
      refine si_pI 7 2 fl_X6_22 dX6_write_36 (by decide) rfl rfl rfl (fw_X6_22 _) (fun h9 => ?_)
      exact si_vret dX6_write_39 rfl (Nat.le_of_ble_eq_true rfl) (Nat.le_of_ble_eq_true rfl)
theorem ct_X6_write (l : Launch) (G : GG) {th : Nat} {a1 : Int32} {h : HS} {q : HS} (hq : m_X6_write th a1 h = some q) : Ct l yX6_write mi_X6_write G [lvR (some th), lvI a1] h (oV q) := Ct.of (out := oV) (by decide +kernel) rfl rfl (Nat.le_of_ble_eq_true rfl) hq (fun _ _ _ _ _ _ _ _ => s_X6_write th a1 h)
set_option maxHeartbeats 4000000 in
set_option maxRecDepth 100000 in
theorem s_X6_rateText {E : EV} (th : Nat) (h : HS) : Sim E mi_X6_rateText (fin oR) 0 0 0 (largs 0 [lvR (some th)]) [] h (m_X6_rateText th h) := by
  unfold m_X6_rateText
  refine si_iconst (v := 0) dX6_rateText_0 (by decide) ?_
  refine si_aload_n 0 dX6_rateText_1 rfl rfl ?_
  refine si_gI 7 2 fl_X6_22 dX6_rateText_2 (by decide) rfl (fun x1 => ?_)
  refine si_aload_n 0 dX6_rateText_5 rfl rfl ?_
  refine si_gR 7 1 fl_X6_18 dX6_rateText_6 (by decide) rfl (fun x2 => ?_)
  refine si_aN dX6_rateText_9 (fun x3 => ?_)
  refine si_mmin dX6_rateText_10 mm_X6_48 (Nat.le_of_ble_eq_true rfl) (Nat.le_of_ble_eq_true rfl) (Nat.le_of_ble_eq_true rfl) (Nat.le_of_ble_eq_true rfl) ?_
  refine si_mmax dX6_rateText_13 mm_X6_54 (Nat.le_of_ble_eq_true rfl) (Nat.le_of_ble_eq_true rfl) (Nat.le_of_ble_eq_true rfl) (Nat.le_of_ble_eq_true rfl) ?_
  refine si_istore_n 1 dX6_rateText_16 rfl (by decide) ?_
  refine si_new 4 2 ln_X6_57 dX6_rateText_17 (by decide) (Nat.le_of_ble_eq_true rfl) (Nat.le_of_ble_eq_true rfl) ?_
  refine si_dup dX6_rateText_20 (cat_rf _) ?_
  refine si_aload_n 0 dX6_rateText_21 rfl rfl ?_
  refine si_gR 7 1 fl_X6_18 dX6_rateText_22 (by decide) rfl (fun x4 => ?_)
  refine si_iload_n 1 dX6_rateText_25 rfl rfl ?_
  refine si_csR [lvR (x4), lvI ((if (0 : Int32) < (if x3 < x1 then x3 else x1) then (if x3 < x1 then x3 else x1) else (0 : Int32)))] dX6_rateText_26 rfl mc_J7_copyOf_59c91 ml_X6_59 st_J7_copyOf_59c91 rfl ⟨Nat.le_of_ble_eq_true rfl, Nat.le_of_ble_eq_true rfl, Nat.le_of_ble_eq_true rfl, Nat.le_of_ble_eq_true rfl⟩ (Nat.le_of_ble_eq_true rfl) (fun _ hq => ct_J7_copyOf_59c91 _ _ hq) (fun q5 => ?_)
  refine si_aload_n 0 dX6_rateText_29 rfl rfl ?_
  refine si_gI 7 5 fl_X6_32 dX6_rateText_30 (by decide) rfl (fun x6 => ?_)
  refine si_ciV [lvR (q5.1), lvI (x6)] dX6_rateText_33 rfl mc_X3_init rfl ml_X6_65 im_X3_init rfl rfl ⟨Nat.le_of_ble_eq_true rfl, Nat.le_of_ble_eq_true rfl, Nat.le_of_ble_eq_true rfl, Nat.le_of_ble_eq_true rfl⟩ (Nat.le_of_ble_eq_true rfl) (fun _ hq => ct_X3_init _ _ hq) (fun h7 => ?_)
  exact si_aret dX6_rateText_36 rfl (Or.inl ⟨_, rfl⟩) (Nat.le_of_ble_eq_true rfl) (Nat.le_of_ble_eq_true rfl)
theorem ct_X6_rateText (l : Launch) (G : GG) {th : Nat} {h : HS} {q : Option Nat × HS} (hq : m_X6_rateText th h = some q) : Ct l yX6_rateText mi_X6_rateText G [lvR (some th)] h (oR q) := Ct.of (out := oR) (by decide +kernel) rfl rfl (Nat.le_of_ble_eq_true rfl) hq (fun _ _ _ _ _ _ _ _ => s_X6_rateText th h)
set_option maxHeartbeats 4000000 in
set_option maxRecDepth 100000 in
theorem s_X8_init {E : EV} (th : Nat) (h : HS) : Sim E mi_X8_init (fin oV) 0 0 0 (largs 0 [lvR (some th)]) [] h (m_X8_init th h) := by
  unfold m_X8_init
  refine si_aload_n 0 dX8_init_0 rfl rfl ?_
  refine si_obj dX8_init_1 ob_X8_3 (Nat.le_of_ble_eq_true rfl) (Nat.le_of_ble_eq_true rfl) ?_
  refine si_aload_n 0 dX8_init_4 rfl rfl ?_
  refine si_new 0 3 ln_X8_9 dX8_init_5 (by decide) (Nat.le_of_ble_eq_true rfl) (Nat.le_of_ble_eq_true rfl) ?_
  refine si_dup dX8_init_8 (cat_rf _) ?_
  refine si_ciV [] dX8_init_9 rfl mc_Jx4a65c_init_da8c8 rfl ml_X8_11 im_Jx4a65c_init_da8c8 rfl rfl ⟨Nat.le_of_ble_eq_true rfl, Nat.le_of_ble_eq_true rfl, Nat.le_of_ble_eq_true rfl, Nat.le_of_ble_eq_true rfl⟩ (Nat.le_of_ble_eq_true rfl) (fun _ hq => ct_Jx4a65c_init_da8c8 _ _ hq) (fun h1 => ?_)
  refine si_pR 9 0 fl_X8_12 dX8_init_12 (by decide) rfl fwi_X8_12 (fun h2 => ?_)
  refine si_aload_n 0 dX8_init_15 rfl rfl ?_
  refine si_new 0 3 ln_X8_9 dX8_init_16 (by decide) (Nat.le_of_ble_eq_true rfl) (Nat.le_of_ble_eq_true rfl) ?_
  refine si_dup dX8_init_19 (cat_rf _) ?_
  refine si_ciV [] dX8_init_20 rfl mc_Jx4a65c_init_da8c8 rfl ml_X8_11 im_Jx4a65c_init_da8c8 rfl rfl ⟨Nat.le_of_ble_eq_true rfl, Nat.le_of_ble_eq_true rfl, Nat.le_of_ble_eq_true rfl, Nat.le_of_ble_eq_true rfl⟩ (Nat.le_of_ble_eq_true rfl) (fun _ hq => ct_Jx4a65c_init_da8c8 _ _ hq) (fun h3 => ?_)
  refine si_pR 9 1 fl_X8_16 dX8_init_23 (by decide) rfl fwi_X8_16 (fun h4 => ?_)
  refine si_aload_n 0 dX8_init_26 rfl rfl ?_
  refine si_new 0 3 ln_X8_9 dX8_init_27 (by decide) (Nat.le_of_ble_eq_true rfl) (Nat.le_of_ble_eq_true rfl) ?_
  refine si_dup dX8_init_30 (cat_rf _) ?_
  refine si_ciV [] dX8_init_31 rfl mc_Jx4a65c_init_da8c8 rfl ml_X8_11 im_Jx4a65c_init_da8c8 rfl rfl ⟨Nat.le_of_ble_eq_true rfl, Nat.le_of_ble_eq_true rfl, Nat.le_of_ble_eq_true rfl, Nat.le_of_ble_eq_true rfl⟩ (Nat.le_of_ble_eq_true rfl) (fun _ hq => ct_Jx4a65c_init_da8c8 _ _ hq) (fun h5 => ?_)
  refine si_pR 9 2 fl_X8_19 dX8_init_34 (by decide) rfl fwi_X8_19 (fun h6 => ?_)
  refine si_aload_n 0 dX8_init_37 rfl rfl ?_
  refine si_new 6 2 ln_X8_22 dX8_init_38 (by decide) (Nat.le_of_ble_eq_true rfl) (Nat.le_of_ble_eq_true rfl) ?_
  refine si_dup dX8_init_41 (cat_rf _) ?_
  refine si_ciV [] dX8_init_42 rfl mc_X5_init rfl ml_X8_24 im_X5_init rfl rfl ⟨Nat.le_of_ble_eq_true rfl, Nat.le_of_ble_eq_true rfl, Nat.le_of_ble_eq_true rfl, Nat.le_of_ble_eq_true rfl⟩ (Nat.le_of_ble_eq_true rfl) (fun _ hq => ct_X5_init _ _ hq) (fun h7 => ?_)
  refine si_pR 9 3 fl_X8_25 dX8_init_45 (by decide) rfl fwi_X8_25 (fun h8 => ?_)
  refine si_aload_n 0 dX8_init_48 rfl rfl ?_
  refine si_new 7 7 ln_X8_29 dX8_init_49 (by decide) (Nat.le_of_ble_eq_true rfl) (Nat.le_of_ble_eq_true rfl) ?_
  refine si_dup dX8_init_52 (cat_rf _) ?_
  refine si_ciV [] dX8_init_53 rfl mc_X6_init rfl ml_X8_31 im_X6_init rfl rfl ⟨Nat.le_of_ble_eq_true rfl, Nat.le_of_ble_eq_true rfl, Nat.le_of_ble_eq_true rfl, Nat.le_of_ble_eq_true rfl⟩ (Nat.le_of_ble_eq_true rfl) (fun _ hq => ct_X6_init _ _ hq) (fun h9 => ?_)
  refine si_pR 9 4 fl_X8_32 dX8_init_56 (by decide) rfl fwi_X8_32 (fun h10 => ?_)
  refine si_aload_n 0 dX8_init_59 rfl rfl ?_
  refine si_new 5 3 ln_X8_36 dX8_init_60 (by decide) (Nat.le_of_ble_eq_true rfl) (Nat.le_of_ble_eq_true rfl) ?_
  refine si_dup dX8_init_63 (cat_rf _) ?_
  refine si_ciV [] dX8_init_64 rfl mc_X4_init rfl ml_X8_38 im_X4_init rfl rfl ⟨Nat.le_of_ble_eq_true rfl, Nat.le_of_ble_eq_true rfl, Nat.le_of_ble_eq_true rfl, Nat.le_of_ble_eq_true rfl⟩ (Nat.le_of_ble_eq_true rfl) (fun _ hq => ct_X4_init _ _ hq) (fun h11 => ?_)
  refine si_pR 9 5 fl_X8_39 dX8_init_67 (by decide) rfl fwi_X8_39 (fun h12 => ?_)
  refine si_aload_n 0 dX8_init_70 rfl rfl ?_
  refine si_bipush (v := 50) dX8_init_71 (by decide) ?_
  refine si_newq 50 205 dX8_init_73 "PanelHouse$RateText" (by decide) cl_X8_43 (by decide) (Nat.le_of_ble_eq_true rfl) (Nat.le_of_ble_eq_true rfl) (fun q13 => ?_)
  refine si_pR 9 6 fl_X8_45 dX8_init_76 (by decide) rfl fwi_X8_45 (fun h14 => ?_)
  refine si_aload_n 0 dX8_init_79 rfl rfl ?_
  refine si_new 4 2 ln_X8_43 dX8_init_80 (by decide) (Nat.le_of_ble_eq_true rfl) (Nat.le_of_ble_eq_true rfl) ?_
  refine si_dup dX8_init_83 (cat_rf _) ?_
  refine si_iconst (v := 0) dX8_init_84 (by decide) ?_
  refine si_newa 0 201 dX8_init_85 rfl (by decide) ac_201 (by decide) (Nat.le_of_ble_eq_true rfl) (Nat.le_of_ble_eq_true rfl) (fun q15 => ?_)
  refine si_iconst (v := 0) dX8_init_87 (by decide) ?_
  refine si_ciV [lvR (q15.1), lvI ((0 : Int32))] dX8_init_88 rfl mc_X3_init rfl ml_X8_49 im_X3_init rfl rfl ⟨Nat.le_of_ble_eq_true rfl, Nat.le_of_ble_eq_true rfl, Nat.le_of_ble_eq_true rfl, Nat.le_of_ble_eq_true rfl⟩ (Nat.le_of_ble_eq_true rfl) (fun _ hq => ct_X3_init _ _ hq) (fun h16 => ?_)
  refine si_pR 9 7 fl_X8_52 dX8_init_91 (by decide) rfl (fw_X8_52 _) (fun h17 => ?_)
  refine si_aload_n 0 dX8_init_94 rfl rfl ?_
  refine si_iconst (v := 0) dX8_init_95 (by decide) ?_
  refine si_pI 9 8 fl_X8_56 dX8_init_96 (by decide) rfl rfl rfl (fw_X8_56 _) (fun h18 => ?_)
  refine si_aload_n 0 dX8_init_99 rfl rfl ?_
  refine si_iconst (v := 0) dX8_init_100 (by decide) ?_
  refine si_pI 9 9 fl_X8_60 dX8_init_101 (by decide) rfl rfl rfl (fw_X8_60 _) (fun h19 => ?_)
  exact si_vret dX8_init_104 rfl (Nat.le_of_ble_eq_true rfl) (Nat.le_of_ble_eq_true rfl)
theorem ct_X8_init (l : Launch) (G : GG) {th : Nat} {h : HS} {q : HS} (hq : m_X8_init th h = some q) : Ct l yX8_init mi_X8_init G [lvR (some th)] h (oV q) := Ct.of (out := oV) (by decide +kernel) rfl rfl (Nat.le_of_ble_eq_true rfl) hq (fun _ _ _ _ _ _ _ _ => s_X8_init th h)
set_option maxHeartbeats 4000000 in
set_option maxRecDepth 100000 in
theorem X8_feature_b37_s {E : EV} (th : Nat) (l1 : Int32) (l2 : Int32) (l3 : Int32) (l4 : Int32) (l5 : Int32) (s0 : Int32) (h : HS) : Sim E mi_X8_feature (fin oI) 0 0 37 [(0, lvR (some th)), (1, lvI (l1)), (2, lvI (l2)), (3, lvI (l3)), (4, lvI (l4)), (5, lvI (l5))] [.int (s0)] h (X8_feature_b37 th l1 l2 l3 l4 l5 s0 h) := by
  unfold X8_feature_b37
  refine si_istore 6 dX8_feature_37 (by decide) ?_
  refine si_iload 6 dX8_feature_39 rfl ?_
  refine si_if_eq 54 dX8_feature_41 (by decide) ?_ ?_
  · refine si_iconst (v := -1) dX8_feature_54 (by decide) ?_
    exact si_iret dX8_feature_55 rfl (Nat.le_of_ble_eq_true rfl) (Nat.le_of_ble_eq_true rfl)
  · refine si_iload_n 3 dX8_feature_44 rfl rfl ?_
    refine si_iload 4 dX8_feature_45 rfl ?_
    refine si_iadd dX8_feature_47 ?_
    refine si_iload 5 dX8_feature_48 rfl ?_
    refine si_iadd dX8_feature_50 ?_
    refine si_if_ne 56 dX8_feature_51 (by decide) ?_ ?_
    · refine si_iconst (v := -1) dX8_feature_54 (by decide) ?_
      exact si_iret dX8_feature_55 rfl (Nat.le_of_ble_eq_true rfl) (Nat.le_of_ble_eq_true rfl)
    · refine si_iload_n 1 dX8_feature_56 rfl rfl ?_
      refine si_iconst (v := 0) dX8_feature_57 (by decide) ?_
      refine si_iconst (v := 3) dX8_feature_58 (by decide) ?_
      refine si_csI [lvI (l1), lvI ((0 : Int32)), lvI ((3 : Int32))] dX8_feature_59 rfl mc_X8_isWithin ml_X8_63 st_X8_isWithin rfl ⟨Nat.le_of_ble_eq_true rfl, Nat.le_of_ble_eq_true rfl, Nat.le_of_ble_eq_true rfl, Nat.le_of_ble_eq_true rfl⟩ (Nat.le_of_ble_eq_true rfl) (fun _ hq => ct_X8_isWithin _ _ hq) (fun q1 => ?_)
      refine si_if_eq 88 dX8_feature_62 (by decide) ?_ ?_
      · refine si_iconst (v := -1) dX8_feature_88 (by decide) ?_
        exact si_iret dX8_feature_89 rfl (Nat.le_of_ble_eq_true rfl) (Nat.le_of_ble_eq_true rfl)
      · refine si_iload_n 2 dX8_feature_65 rfl rfl ?_
        refine si_iconst (v := 0) dX8_feature_66 (by decide) ?_
        refine si_sipush (v := 500) dX8_feature_67 (by decide) ?_
        refine si_csI [lvI (l2), lvI ((0 : Int32)), lvI ((500 : Int32))] dX8_feature_70 rfl mc_X8_isWithin ml_X8_63 st_X8_isWithin rfl ⟨Nat.le_of_ble_eq_true rfl, Nat.le_of_ble_eq_true rfl, Nat.le_of_ble_eq_true rfl, Nat.le_of_ble_eq_true rfl⟩ (Nat.le_of_ble_eq_true rfl) (fun _ hq => ct_X8_isWithin _ _ hq) (fun q2 => ?_)
        refine si_if_eq 88 dX8_feature_73 (by decide) ?_ ?_
        · refine si_iconst (v := -1) dX8_feature_88 (by decide) ?_
          exact si_iret dX8_feature_89 rfl (Nat.le_of_ble_eq_true rfl) (Nat.le_of_ble_eq_true rfl)
        · refine si_aload_n 0 dX8_feature_76 rfl rfl ?_
          refine si_gR 9 0 fl_X8_12 dX8_feature_77 (by decide) rfl (fun x3 => ?_)
          refine si_cvI 0 [] dX8_feature_80 rfl mc_Jx4a65c_size_8abf5 ml_X8_67 im_Jx4a65c_size_8abf5 rfl se_Jx4a65c_size_8abf5 (by decide) rfl ⟨Nat.le_of_ble_eq_true rfl, Nat.le_of_ble_eq_true rfl, Nat.le_of_ble_eq_true rfl, Nat.le_of_ble_eq_true rfl⟩ (Nat.le_of_ble_eq_true rfl) (fun _ _ hq => ct_Jx4a65c_size_8abf5 _ _ hq) (fun q4 => ?_)
          refine si_bipush (v := 10) dX8_feature_83 (by decide) ?_
          refine si_icmp_lt 90 dX8_feature_85 (by decide) ?_ ?_
          · refine si_new 2 9 ln_X8_71 dX8_feature_90 (by decide) (Nat.le_of_ble_eq_true rfl) (Nat.le_of_ble_eq_true rfl) ?_
            refine si_dup dX8_feature_93 (cat_rf _) ?_
            refine si_aload_n 0 dX8_feature_94 rfl rfl ?_
            refine si_gR 9 0 fl_X8_12 dX8_feature_95 (by decide) rfl (fun x6 => ?_)
            refine si_cvI 0 [] dX8_feature_98 rfl mc_Jx4a65c_size_8abf5 ml_X8_67 im_Jx4a65c_size_8abf5 rfl se_Jx4a65c_size_8abf5 (by decide) rfl ⟨Nat.le_of_ble_eq_true rfl, Nat.le_of_ble_eq_true rfl, Nat.le_of_ble_eq_true rfl, Nat.le_of_ble_eq_true rfl⟩ (Nat.le_of_ble_eq_true rfl) (fun _ _ hq => ct_Jx4a65c_size_8abf5 _ _ hq) (fun q7 => ?_)
            refine si_iload_n 1 dX8_feature_101 rfl rfl ?_
            refine si_iload_n 2 dX8_feature_102 rfl rfl ?_
            refine si_iload_n 3 dX8_feature_103 rfl rfl ?_
            refine si_iload 4 dX8_feature_104 rfl ?_
            refine si_iload 5 dX8_feature_106 rfl ?_
            refine si_ciV [lvI (q7.1), lvI (l1), lvI (l2), lvI (l3), lvI (l4), lvI (l5)] dX8_feature_108 rfl mc_X1_init rfl ml_X8_73 im_X1_init rfl rfl ⟨Nat.le_of_ble_eq_true rfl, Nat.le_of_ble_eq_true rfl, Nat.le_of_ble_eq_true rfl, Nat.le_of_ble_eq_true rfl⟩ (Nat.le_of_ble_eq_true rfl) (fun _ hq => ct_X1_init _ _ hq) (fun h9 => ?_)
            refine si_astore 7 dX8_feature_111 (by decide) ?_
            refine si_aload_n 0 dX8_feature_113 rfl rfl ?_
            refine si_gR 9 0 fl_X8_12 dX8_feature_114 (by decide) rfl (fun x10 => ?_)
            refine si_aload 7 dX8_feature_117 rfl ?_
            refine si_cvI 0 [lvR (some (sz q4.2))] dX8_feature_119 rfl mc_Jx4a65c_add_9ea2d ml_X8_76 im_Jx4a65c_add_9ea2d rfl se_Jx4a65c_add_9ea2d (by decide) rfl ⟨Nat.le_of_ble_eq_true rfl, Nat.le_of_ble_eq_true rfl, Nat.le_of_ble_eq_true rfl, Nat.le_of_ble_eq_true rfl⟩ (Nat.le_of_ble_eq_true rfl) (fun _ _ hq => ct_Jx4a65c_add_9ea2d _ _ hq) (fun q11 => ?_)
            refine si_pop dX8_feature_122 rfl ?_
            refine si_aload 7 dX8_feature_123 rfl ?_
            refine si_gI 2 0 fl_X8_80 dX8_feature_125 (by decide) rfl (fun x13 => ?_)
            exact si_iret dX8_feature_128 rfl (Nat.le_of_ble_eq_true rfl) (Nat.le_of_ble_eq_true rfl)
          · refine si_iconst (v := -1) dX8_feature_88 (by decide) ?_
            exact si_iret dX8_feature_89 rfl (Nat.le_of_ble_eq_true rfl) (Nat.le_of_ble_eq_true rfl)
set_option maxHeartbeats 4000000 in
set_option maxRecDepth 100000 in
theorem X8_feature_b36_s {E : EV} (th : Nat) (l1 : Int32) (l2 : Int32) (l3 : Int32) (l4 : Int32) (l5 : Int32) (h : HS) : Sim E mi_X8_feature (fin oI) 0 0 36 [(0, lvR (some th)), (1, lvI (l1)), (2, lvI (l2)), (3, lvI (l3)), (4, lvI (l4)), (5, lvI (l5))] [] h (X8_feature_b36 th l1 l2 l3 l4 l5 h) := by
  unfold X8_feature_b36
  refine si_iconst (v := 0) dX8_feature_36 (by decide) ?_
  refine si_widen 0 0 (Nat.le_of_ble_eq_true rfl) (Nat.le_of_ble_eq_true rfl) ?_
  refine si_lo [(0, lvR (some th)), (1, lvI (l1)), (2, lvI (l2)), (3, lvI (l3)), (4, lvI (l4)), (5, lvI (l5))] ⟨rfl, rfl, rfl, rfl, rfl, rfl, trivial⟩ ?_
  exact X8_feature_b37_s th l1 l2 l3 l4 l5 ((0 : Int32)) _
set_option maxHeartbeats 4000000 in
set_option maxRecDepth 100000 in
theorem s_X8_feature {E : EV} (th : Nat) (a1 : Int32) (a2 : Int32) (a3 : Int32) (a4 : Int32) (a5 : Int32) (h : HS) : Sim E mi_X8_feature (fin oI) 0 0 0 (largs 0 [lvR (some th), lvI a1, lvI a2, lvI a3, lvI a4, lvI a5]) [] h (m_X8_feature th a1 a2 a3 a4 a5 h) := by
  unfold m_X8_feature
  refine si_iload_n 3 dX8_feature_0 rfl rfl ?_
  refine si_iconst (v := 0) dX8_feature_1 (by decide) ?_
  refine si_bipush (v := 100) dX8_feature_2 (by decide) ?_
  refine si_csI [lvI (a3), lvI ((0 : Int32)), lvI ((100 : Int32))] dX8_feature_4 rfl mc_X8_isWithin ml_X8_63 st_X8_isWithin rfl ⟨Nat.le_of_ble_eq_true rfl, Nat.le_of_ble_eq_true rfl, Nat.le_of_ble_eq_true rfl, Nat.le_of_ble_eq_true rfl⟩ (Nat.le_of_ble_eq_true rfl) (fun _ hq => ct_X8_isWithin _ _ hq) (fun q1 => ?_)
  refine si_if_eq 36 dX8_feature_7 (by decide) ?_ ?_
  · refine si_widen 0 0 (Nat.le_of_ble_eq_true rfl) (Nat.le_of_ble_eq_true rfl) ?_
    refine si_lo [(0, lvR (some th)), (1, lvI (a1)), (2, lvI (a2)), (3, lvI (a3)), (4, lvI (a4)), (5, lvI (a5))] ⟨rfl, rfl, rfl, rfl, rfl, rfl, trivial⟩ ?_
    exact X8_feature_b36_s th a1 a2 a3 a4 a5 _
  · refine si_iload 4 dX8_feature_10 rfl ?_
    refine si_iconst (v := 0) dX8_feature_12 (by decide) ?_
    refine si_bipush (v := 100) dX8_feature_13 (by decide) ?_
    refine si_csI [lvI (a4), lvI ((0 : Int32)), lvI ((100 : Int32))] dX8_feature_15 rfl mc_X8_isWithin ml_X8_63 st_X8_isWithin rfl ⟨Nat.le_of_ble_eq_true rfl, Nat.le_of_ble_eq_true rfl, Nat.le_of_ble_eq_true rfl, Nat.le_of_ble_eq_true rfl⟩ (Nat.le_of_ble_eq_true rfl) (fun _ hq => ct_X8_isWithin _ _ hq) (fun q2 => ?_)
    refine si_if_eq 36 dX8_feature_18 (by decide) ?_ ?_
    · refine si_widen 0 0 (Nat.le_of_ble_eq_true rfl) (Nat.le_of_ble_eq_true rfl) ?_
      refine si_lo [(0, lvR (some th)), (1, lvI (a1)), (2, lvI (a2)), (3, lvI (a3)), (4, lvI (a4)), (5, lvI (a5))] ⟨rfl, rfl, rfl, rfl, rfl, rfl, trivial⟩ ?_
      exact X8_feature_b36_s th a1 a2 a3 a4 a5 _
    · refine si_iload 5 dX8_feature_21 rfl ?_
      refine si_iconst (v := 0) dX8_feature_23 (by decide) ?_
      refine si_bipush (v := 100) dX8_feature_24 (by decide) ?_
      refine si_csI [lvI (a5), lvI ((0 : Int32)), lvI ((100 : Int32))] dX8_feature_26 rfl mc_X8_isWithin ml_X8_63 st_X8_isWithin rfl ⟨Nat.le_of_ble_eq_true rfl, Nat.le_of_ble_eq_true rfl, Nat.le_of_ble_eq_true rfl, Nat.le_of_ble_eq_true rfl⟩ (Nat.le_of_ble_eq_true rfl) (fun _ hq => ct_X8_isWithin _ _ hq) (fun q3 => ?_)
      refine si_if_eq 36 dX8_feature_29 (by decide) ?_ ?_
      · refine si_widen 0 0 (Nat.le_of_ble_eq_true rfl) (Nat.le_of_ble_eq_true rfl) ?_
        refine si_lo [(0, lvR (some th)), (1, lvI (a1)), (2, lvI (a2)), (3, lvI (a3)), (4, lvI (a4)), (5, lvI (a5))] ⟨rfl, rfl, rfl, rfl, rfl, rfl, trivial⟩ ?_
        exact X8_feature_b36_s th a1 a2 a3 a4 a5 _
      · refine si_iconst (v := 1) dX8_feature_32 (by decide) ?_
        refine si_goto 37 dX8_feature_33 (by decide) ?_
        refine si_widen 0 0 (Nat.le_of_ble_eq_true rfl) (Nat.le_of_ble_eq_true rfl) ?_
        refine si_lo [(0, lvR (some th)), (1, lvI (a1)), (2, lvI (a2)), (3, lvI (a3)), (4, lvI (a4)), (5, lvI (a5))] ⟨rfl, rfl, rfl, rfl, rfl, rfl, trivial⟩ ?_
        exact X8_feature_b37_s th a1 a2 a3 a4 a5 ((1 : Int32)) _
theorem ct_X8_feature (l : Launch) (G : GG) {th : Nat} {a1 : Int32} {a2 : Int32} {a3 : Int32} {a4 : Int32} {a5 : Int32} {h : HS} {q : Int32 × HS} (hq : m_X8_feature th a1 a2 a3 a4 a5 h = some q) : Ct l yX8_feature mi_X8_feature G [lvR (some th), lvI a1, lvI a2, lvI a3, lvI a4, lvI a5] h (oI q) := Ct.of (out := oI) (by decide +kernel) rfl rfl (Nat.le_of_ble_eq_true rfl) hq (fun _ _ _ _ _ _ _ _ => s_X8_feature th a1 a2 a3 a4 a5 h)
set_option maxHeartbeats 4000000 in
set_option maxRecDepth 100000 in
theorem s_X8_isCirculation {E : EV} (a1 : Int32) (h : HS) : Sim E mi_X8_isCirculation (fin oI) 0 0 0 (largs 0 [lvI a1]) [] h (m_X8_isCirculation a1 h) := by
  unfold m_X8_isCirculation
  refine si_iload_n 0 dX8_isCirculation_0 rfl rfl ?_
  refine si_iconst (v := 1) dX8_isCirculation_1 (by decide) ?_
  refine si_ldc dX8_isCirculation_2 kc_X8_227 ?_
  refine si_csI [lvI (a1), lvI ((1 : Int32)), lvI ((100000 : Int32))] dX8_isCirculation_4 rfl mc_X8_isWithin ml_X8_63 st_X8_isWithin rfl ⟨Nat.le_of_ble_eq_true rfl, Nat.le_of_ble_eq_true rfl, Nat.le_of_ble_eq_true rfl, Nat.le_of_ble_eq_true rfl⟩ (Nat.le_of_ble_eq_true rfl) (fun _ hq => ct_X8_isWithin _ _ hq) (fun q1 => ?_)
  exact si_bret dX8_isCirculation_7 rfl (Nat.le_of_ble_eq_true rfl) (Nat.le_of_ble_eq_true rfl)
theorem ct_X8_isCirculation (l : Launch) (G : GG) {a1 : Int32} {h : HS} {q : Int32 × HS} (hq : m_X8_isCirculation a1 h = some q) : Ct l yX8_isCirculation mi_X8_isCirculation G [lvI a1] h (oI q) := Ct.of (out := oI) (by decide +kernel) rfl rfl (Nat.le_of_ble_eq_true rfl) hq (fun _ _ _ _ _ _ _ _ => s_X8_isCirculation a1 h)
set_option maxHeartbeats 4000000 in
set_option maxRecDepth 100000 in
theorem s_X8_paper {E : EV} (th : Nat) (a1 : Int32) (a2 : Int32) (a3 : Int32) (h : HS) : Sim E mi_X8_paper (fin oI) 0 0 0 (largs 0 [lvR (some th), lvI a1, lvI a2, lvI a3]) [] h (m_X8_paper th a1 a2 a3 h) := by
  unfold m_X8_paper
  refine si_iload_n 1 dX8_paper_0 rfl rfl ?_
  refine si_iconst (v := 0) dX8_paper_1 (by decide) ?_
  refine si_sipush (v := 999) dX8_paper_2 (by decide) ?_
  refine si_csI [lvI (a1), lvI ((0 : Int32)), lvI ((999 : Int32))] dX8_paper_5 rfl mc_X8_isWithin ml_X8_63 st_X8_isWithin rfl ⟨Nat.le_of_ble_eq_true rfl, Nat.le_of_ble_eq_true rfl, Nat.le_of_ble_eq_true rfl, Nat.le_of_ble_eq_true rfl⟩ (Nat.le_of_ble_eq_true rfl) (fun _ hq => ct_X8_isWithin _ _ hq) (fun q1 => ?_)
  refine si_if_eq 29 dX8_paper_8 (by decide) ?_ ?_
  · refine si_iconst (v := -1) dX8_paper_29 (by decide) ?_
    exact si_iret dX8_paper_30 rfl (Nat.le_of_ble_eq_true rfl) (Nat.le_of_ble_eq_true rfl)
  · refine si_iload_n 2 dX8_paper_11 rfl rfl ?_
    refine si_iconst (v := 0) dX8_paper_12 (by decide) ?_
    refine si_sipush (v := 999) dX8_paper_13 (by decide) ?_
    refine si_csI [lvI (a2), lvI ((0 : Int32)), lvI ((999 : Int32))] dX8_paper_16 rfl mc_X8_isWithin ml_X8_63 st_X8_isWithin rfl ⟨Nat.le_of_ble_eq_true rfl, Nat.le_of_ble_eq_true rfl, Nat.le_of_ble_eq_true rfl, Nat.le_of_ble_eq_true rfl⟩ (Nat.le_of_ble_eq_true rfl) (fun _ hq => ct_X8_isWithin _ _ hq) (fun q2 => ?_)
    refine si_if_eq 29 dX8_paper_19 (by decide) ?_ ?_
    · refine si_iconst (v := -1) dX8_paper_29 (by decide) ?_
      exact si_iret dX8_paper_30 rfl (Nat.le_of_ble_eq_true rfl) (Nat.le_of_ble_eq_true rfl)
    · refine si_iload_n 3 dX8_paper_22 rfl rfl ?_
      refine si_csI [lvI (a3)] dX8_paper_23 rfl mc_X8_isCirculation ml_X8_83 st_X8_isCirculation rfl ⟨Nat.le_of_ble_eq_true rfl, Nat.le_of_ble_eq_true rfl, Nat.le_of_ble_eq_true rfl, Nat.le_of_ble_eq_true rfl⟩ (Nat.le_of_ble_eq_true rfl) (fun _ hq => ct_X8_isCirculation _ _ hq) (fun q3 => ?_)
      refine si_if_ne 31 dX8_paper_26 (by decide) ?_ ?_
      · refine si_iconst (v := -1) dX8_paper_29 (by decide) ?_
        exact si_iret dX8_paper_30 rfl (Nat.le_of_ble_eq_true rfl) (Nat.le_of_ble_eq_true rfl)
      · refine si_aload_n 0 dX8_paper_31 rfl rfl ?_
        refine si_gR 9 1 fl_X8_16 dX8_paper_32 (by decide) rfl (fun x4 => ?_)
        refine si_cvI 0 [] dX8_paper_35 rfl mc_Jx4a65c_size_8abf5 ml_X8_67 im_Jx4a65c_size_8abf5 rfl se_Jx4a65c_size_8abf5 (by decide) rfl ⟨Nat.le_of_ble_eq_true rfl, Nat.le_of_ble_eq_true rfl, Nat.le_of_ble_eq_true rfl, Nat.le_of_ble_eq_true rfl⟩ (Nat.le_of_ble_eq_true rfl) (fun _ _ hq => ct_Jx4a65c_size_8abf5 _ _ hq) (fun q5 => ?_)
        refine si_bipush (v := 20) dX8_paper_38 (by decide) ?_
        refine si_icmp_lt 45 dX8_paper_40 (by decide) ?_ ?_
        · refine si_new 3 4 ln_X8_87 dX8_paper_45 (by decide) (Nat.le_of_ble_eq_true rfl) (Nat.le_of_ble_eq_true rfl) ?_
          refine si_dup dX8_paper_48 (cat_rf _) ?_
          refine si_aload_n 0 dX8_paper_49 rfl rfl ?_
          refine si_gR 9 1 fl_X8_16 dX8_paper_50 (by decide) rfl (fun x7 => ?_)
          refine si_cvI 0 [] dX8_paper_53 rfl mc_Jx4a65c_size_8abf5 ml_X8_67 im_Jx4a65c_size_8abf5 rfl se_Jx4a65c_size_8abf5 (by decide) rfl ⟨Nat.le_of_ble_eq_true rfl, Nat.le_of_ble_eq_true rfl, Nat.le_of_ble_eq_true rfl, Nat.le_of_ble_eq_true rfl⟩ (Nat.le_of_ble_eq_true rfl) (fun _ _ hq => ct_Jx4a65c_size_8abf5 _ _ hq) (fun q8 => ?_)
          refine si_iload_n 1 dX8_paper_56 rfl rfl ?_
          refine si_iload_n 2 dX8_paper_57 rfl rfl ?_
          refine si_iload_n 3 dX8_paper_58 rfl rfl ?_
          refine si_ciV [lvI (q8.1), lvI (a1), lvI (a2), lvI (a3)] dX8_paper_59 rfl mc_X2_init rfl ml_X8_89 im_X2_init rfl rfl ⟨Nat.le_of_ble_eq_true rfl, Nat.le_of_ble_eq_true rfl, Nat.le_of_ble_eq_true rfl, Nat.le_of_ble_eq_true rfl⟩ (Nat.le_of_ble_eq_true rfl) (fun _ hq => ct_X2_init _ _ hq) (fun h10 => ?_)
          refine si_astore 4 dX8_paper_62 (by decide) ?_
          refine si_aload_n 0 dX8_paper_64 rfl rfl ?_
          refine si_gR 9 1 fl_X8_16 dX8_paper_65 (by decide) rfl (fun x11 => ?_)
          refine si_aload 4 dX8_paper_68 rfl ?_
          refine si_cvI 0 [lvR (some (sz q5.2))] dX8_paper_70 rfl mc_Jx4a65c_add_9ea2d ml_X8_76 im_Jx4a65c_add_9ea2d rfl se_Jx4a65c_add_9ea2d (by decide) rfl ⟨Nat.le_of_ble_eq_true rfl, Nat.le_of_ble_eq_true rfl, Nat.le_of_ble_eq_true rfl, Nat.le_of_ble_eq_true rfl⟩ (Nat.le_of_ble_eq_true rfl) (fun _ _ hq => ct_Jx4a65c_add_9ea2d _ _ hq) (fun q12 => ?_)
          refine si_pop dX8_paper_73 rfl ?_
          refine si_aload 4 dX8_paper_74 rfl ?_
          refine si_gI 3 0 fl_X8_92 dX8_paper_76 (by decide) rfl (fun x14 => ?_)
          exact si_iret dX8_paper_79 rfl (Nat.le_of_ble_eq_true rfl) (Nat.le_of_ble_eq_true rfl)
        · refine si_iconst (v := -1) dX8_paper_43 (by decide) ?_
          exact si_iret dX8_paper_44 rfl (Nat.le_of_ble_eq_true rfl) (Nat.le_of_ble_eq_true rfl)
theorem ct_X8_paper (l : Launch) (G : GG) {th : Nat} {a1 : Int32} {a2 : Int32} {a3 : Int32} {h : HS} {q : Int32 × HS} (hq : m_X8_paper th a1 a2 a3 h = some q) : Ct l yX8_paper mi_X8_paper G [lvR (some th), lvI a1, lvI a2, lvI a3] h (oI q) := Ct.of (out := oI) (by decide +kernel) rfl rfl (Nat.le_of_ble_eq_true rfl) hq (fun _ _ _ _ _ _ _ _ => s_X8_paper th a1 a2 a3 h)
set_option maxHeartbeats 4000000 in
set_option maxRecDepth 100000 in
theorem s_X8_paperAt {E : EV} (th : Nat) (a1 : Int32) (h : HS) : Sim E mi_X8_paperAt (fin oR) 0 0 0 (largs 0 [lvR (some th), lvI a1]) [] h (m_X8_paperAt th a1 h) := by
  unfold m_X8_paperAt
  refine si_iload_n 1 dX8_paperAt_0 rfl rfl ?_
  refine si_iconst (v := 0) dX8_paperAt_1 (by decide) ?_
  refine si_aload_n 0 dX8_paperAt_2 rfl rfl ?_
  refine si_gR 9 1 fl_X8_16 dX8_paperAt_3 (by decide) rfl (fun x1 => ?_)
  refine si_cvI 0 [] dX8_paperAt_6 rfl mc_Jx4a65c_size_8abf5 ml_X8_67 im_Jx4a65c_size_8abf5 rfl se_Jx4a65c_size_8abf5 (by decide) rfl ⟨Nat.le_of_ble_eq_true rfl, Nat.le_of_ble_eq_true rfl, Nat.le_of_ble_eq_true rfl, Nat.le_of_ble_eq_true rfl⟩ (Nat.le_of_ble_eq_true rfl) (fun _ _ hq => ct_Jx4a65c_size_8abf5 _ _ hq) (fun q2 => ?_)
  refine si_iconst (v := 1) dX8_paperAt_9 (by decide) ?_
  refine si_isub dX8_paperAt_10 ?_
  refine si_csI [lvI (a1), lvI ((0 : Int32)), lvI (q2.1 - (1 : Int32))] dX8_paperAt_11 rfl mc_X8_isWithin ml_X8_63 st_X8_isWithin rfl ⟨Nat.le_of_ble_eq_true rfl, Nat.le_of_ble_eq_true rfl, Nat.le_of_ble_eq_true rfl, Nat.le_of_ble_eq_true rfl⟩ (Nat.le_of_ble_eq_true rfl) (fun _ hq => ct_X8_isWithin _ _ hq) (fun q4 => ?_)
  refine si_if_eq 31 dX8_paperAt_14 (by decide) ?_ ?_
  · refine si_null dX8_paperAt_31 ?_
    exact si_aret dX8_paperAt_32 rfl (Or.inl ⟨_, rfl⟩) (Nat.le_of_ble_eq_true rfl) (Nat.le_of_ble_eq_true rfl)
  · refine si_aload_n 0 dX8_paperAt_17 rfl rfl ?_
    refine si_gR 9 1 fl_X8_16 dX8_paperAt_18 (by decide) rfl (fun x5 => ?_)
    refine si_iload_n 1 dX8_paperAt_21 rfl rfl ?_
    refine si_cvR 0 [lvI (a1)] dX8_paperAt_22 rfl mc_Jx4a65c_get_915e3 ml_X8_114 im_Jx4a65c_get_915e3 rfl se_Jx4a65c_get_915e3 (by decide) rfl ⟨Nat.le_of_ble_eq_true rfl, Nat.le_of_ble_eq_true rfl, Nat.le_of_ble_eq_true rfl, Nat.le_of_ble_eq_true rfl⟩ (Nat.le_of_ble_eq_true rfl) (fun _ _ hq => ct_Jx4a65c_get_915e3 _ _ hq) (fun q6 => ?_)
    refine si_cast 3 rfl cl_X8_87 dX8_paperAt_25 (by decide) ?_
    refine si_goto 32 dX8_paperAt_28 (by decide) ?_
    exact si_aret dX8_paperAt_32 rfl (Or.inl ⟨_, rfl⟩) (Nat.le_of_ble_eq_true rfl) (Nat.le_of_ble_eq_true rfl)
theorem ct_X8_paperAt (l : Launch) (G : GG) {th : Nat} {a1 : Int32} {h : HS} {q : Option Nat × HS} (hq : m_X8_paperAt th a1 h = some q) : Ct l yX8_paperAt mi_X8_paperAt G [lvR (some th), lvI a1] h (oR q) := Ct.of (out := oR) (by decide +kernel) rfl rfl (Nat.le_of_ble_eq_true rfl) hq (fun _ _ _ _ _ _ _ _ => s_X8_paperAt th a1 h)
set_option maxHeartbeats 4000000 in
set_option maxRecDepth 100000 in
theorem s_X8_runningMonth {E : EV} (th : Nat) (h : HS) : Sim E mi_X8_runningMonth (fin oI) 0 0 0 (largs 0 [lvR (some th)]) [] h (m_X8_runningMonth th h) := by
  unfold m_X8_runningMonth
  refine si_aload_n 0 dX8_runningMonth_0 rfl rfl ?_
  refine si_gI 9 9 fl_X8_60 dX8_runningMonth_1 (by decide) rfl (fun x1 => ?_)
  refine si_iconst (v := 4) dX8_runningMonth_4 (by decide) ?_
  refine si_idiv dX8_runningMonth_5 (by decide) ?_
  exact si_iret dX8_runningMonth_6 rfl (Nat.le_of_ble_eq_true rfl) (Nat.le_of_ble_eq_true rfl)
theorem ct_X8_runningMonth (l : Launch) (G : GG) {th : Nat} {h : HS} {q : Int32 × HS} (hq : m_X8_runningMonth th h = some q) : Ct l yX8_runningMonth mi_X8_runningMonth G [lvR (some th)] h (oI q) := Ct.of (out := oI) (by decide +kernel) rfl rfl (Nat.le_of_ble_eq_true rfl) hq (fun _ _ _ _ _ _ _ _ => s_X8_runningMonth th h)
set_option maxHeartbeats 4000000 in
set_option maxRecDepth 100000 in
theorem s_X8_circulation {E : EV} (th : Nat) (a1 : Int32) (a2 : Int32) (h : HS) : Sim E mi_X8_circulation (fin oI) 0 0 0 (largs 0 [lvR (some th), lvI a1, lvI a2]) [] h (m_X8_circulation th a1 a2 h) := by
  unfold m_X8_circulation
  refine si_aload_n 0 dX8_circulation_0 rfl rfl ?_
  refine si_iload_n 1 dX8_circulation_1 rfl rfl ?_
  refine si_cvR 9 [lvI (a1)] dX8_circulation_2 rfl mc_X8_paperAt ml_X8_93 im_X8_paperAt rfl se_X8_paperAt (by decide) rfl ⟨Nat.le_of_ble_eq_true rfl, Nat.le_of_ble_eq_true rfl, Nat.le_of_ble_eq_true rfl, Nat.le_of_ble_eq_true rfl⟩ (Nat.le_of_ble_eq_true rfl) (fun _ _ hq => ct_X8_paperAt _ _ hq) (fun q1 => ?_)
  refine si_astore_n 3 dX8_circulation_5 rfl (by decide) ?_
  refine si_aload_n 3 dX8_circulation_6 rfl rfl ?_
  refine si_ifnull 17 dX8_circulation_7 (by decide) ?_ ?_
  · refine si_iconst (v := 0) dX8_circulation_17 (by decide) ?_
    exact si_zret dX8_circulation_18 rfl rfl (Nat.le_of_ble_eq_true rfl) (Nat.le_of_ble_eq_true rfl)
  · refine si_iload_n 2 dX8_circulation_10 rfl rfl ?_
    refine si_csI [lvI (a2)] dX8_circulation_11 rfl mc_X8_isCirculation ml_X8_83 st_X8_isCirculation rfl ⟨Nat.le_of_ble_eq_true rfl, Nat.le_of_ble_eq_true rfl, Nat.le_of_ble_eq_true rfl, Nat.le_of_ble_eq_true rfl⟩ (Nat.le_of_ble_eq_true rfl) (fun _ hq => ct_X8_isCirculation _ _ hq) (fun q3 => ?_)
    refine si_if_ne 19 dX8_circulation_14 (by decide) ?_ ?_
    · refine si_iconst (v := 0) dX8_circulation_17 (by decide) ?_
      exact si_zret dX8_circulation_18 rfl rfl (Nat.le_of_ble_eq_true rfl) (Nat.le_of_ble_eq_true rfl)
    · refine si_aload_n 3 dX8_circulation_19 rfl rfl ?_
      refine si_aload_n 0 dX8_circulation_20 rfl rfl ?_
      refine si_cvI 9 [] dX8_circulation_21 rfl mc_X8_runningMonth ml_X8_97 im_X8_runningMonth rfl se_X8_runningMonth (by decide) rfl ⟨Nat.le_of_ble_eq_true rfl, Nat.le_of_ble_eq_true rfl, Nat.le_of_ble_eq_true rfl, Nat.le_of_ble_eq_true rfl⟩ (Nat.le_of_ble_eq_true rfl) (fun _ _ hq => ct_X8_runningMonth _ _ hq) (fun q4 => ?_)
      refine si_iload_n 2 dX8_circulation_24 rfl rfl ?_
      refine si_cvV 3 [lvI (q4.1), lvI (a2)] dX8_circulation_25 rfl mc_X2_sellFrom ml_X8_100 im_X2_sellFrom rfl se_X2_sellFrom (by decide) rfl ⟨Nat.le_of_ble_eq_true rfl, Nat.le_of_ble_eq_true rfl, Nat.le_of_ble_eq_true rfl, Nat.le_of_ble_eq_true rfl⟩ (Nat.le_of_ble_eq_true rfl) (fun _ _ hq => ct_X2_sellFrom _ _ hq) (fun h6 => ?_)
      refine si_iconst (v := 1) dX8_circulation_28 (by decide) ?_
      exact si_zret dX8_circulation_29 rfl rfl (Nat.le_of_ble_eq_true rfl) (Nat.le_of_ble_eq_true rfl)
theorem ct_X8_circulation (l : Launch) (G : GG) {th : Nat} {a1 : Int32} {a2 : Int32} {h : HS} {q : Int32 × HS} (hq : m_X8_circulation th a1 a2 h = some q) : Ct l yX8_circulation mi_X8_circulation G [lvR (some th), lvI a1, lvI a2] h (oI q) := Ct.of (out := oI) (by decide +kernel) rfl rfl (Nat.le_of_ble_eq_true rfl) hq (fun _ _ _ _ _ _ _ _ => s_X8_circulation th a1 a2 h)
set_option maxHeartbeats 4000000 in
set_option maxRecDepth 100000 in
theorem X8_reckon_b20_s {E : EV} (th : Nat) (l1 : Option Nat) (l2 : Int32) (l3 : Int32) (s0 : Option Nat) (h : HS) : Sim E mi_X8_reckon (fin oI) 0 0 20 [(0, lvR (some th)), (1, lvR (l1)), (2, lvI (l2)), (3, lvI (l3))] [va_rf (s0)] h (X8_reckon_b20 th l1 l2 l3 s0 h) := by
  unfold X8_reckon_b20
  refine si_astore 4 dX8_reckon_20 (by decide) ?_
  refine si_aload_n 1 dX8_reckon_22 rfl rfl ?_
  refine si_iload_n 2 dX8_reckon_23 rfl rfl ?_
  refine si_cvI 1 [lvI (l2)] dX8_reckon_24 rfl mc_X0_weeksRunIn ml_X8_247 im_X0_weeksRunIn rfl se_X0_weeksRunIn (by decide) rfl ⟨Nat.le_of_ble_eq_true rfl, Nat.le_of_ble_eq_true rfl, Nat.le_of_ble_eq_true rfl, Nat.le_of_ble_eq_true rfl⟩ (Nat.le_of_ble_eq_true rfl) (fun _ _ hq => ct_X0_weeksRunIn _ _ hq) (fun q1 => ?_)
  refine si_istore 5 dX8_reckon_27 (by decide) ?_
  refine si_aload 4 dX8_reckon_29 rfl ?_
  refine si_ifnull 39 dX8_reckon_31 (by decide) ?_ ?_
  · refine si_iconst (v := 0) dX8_reckon_39 (by decide) ?_
    exact si_iret dX8_reckon_40 rfl (Nat.le_of_ble_eq_true rfl) (Nat.le_of_ble_eq_true rfl)
  · refine si_iload 5 dX8_reckon_34 rfl ?_
    refine si_if_ne 41 dX8_reckon_36 (by decide) ?_ ?_
    · refine si_iconst (v := 0) dX8_reckon_39 (by decide) ?_
      exact si_iret dX8_reckon_40 rfl (Nat.le_of_ble_eq_true rfl) (Nat.le_of_ble_eq_true rfl)
    · refine si_aload_n 1 dX8_reckon_41 rfl rfl ?_
      refine si_iload_n 2 dX8_reckon_42 rfl rfl ?_
      refine si_cvI 1 [lvI (l2)] dX8_reckon_43 rfl mc_X0_printedIn ml_X8_250 im_X0_printedIn rfl se_X0_printedIn (by decide) rfl ⟨Nat.le_of_ble_eq_true rfl, Nat.le_of_ble_eq_true rfl, Nat.le_of_ble_eq_true rfl, Nat.le_of_ble_eq_true rfl⟩ (Nat.le_of_ble_eq_true rfl) (fun _ _ hq => ct_X0_printedIn _ _ hq) (fun q3 => ?_)
      refine si_istore 6 dX8_reckon_46 (by decide) ?_
      refine si_aload_n 0 dX8_reckon_48 rfl rfl ?_
      refine si_gR 9 5 fl_X8_39 dX8_reckon_49 (by decide) rfl (fun x5 => ?_)
      refine si_sipush (v := 10000) dX8_reckon_52 (by decide) ?_
      refine si_aload_n 1 dX8_reckon_55 rfl rfl ?_
      refine si_gR 1 1 fl_X8_187 dX8_reckon_56 (by decide) rfl (fun x6 => ?_)
      refine si_gI 2 1 fl_X8_253 dX8_reckon_59 (by decide) rfl (fun x7 => ?_)
      refine si_cvV 5 [lvI ((10000 : Int32)), lvI (x7)] dX8_reckon_62 rfl mc_X4_tell ml_X8_256 im_X4_tell rfl se_X4_tell (by decide) rfl ⟨Nat.le_of_ble_eq_true rfl, Nat.le_of_ble_eq_true rfl, Nat.le_of_ble_eq_true rfl, Nat.le_of_ble_eq_true rfl⟩ (Nat.le_of_ble_eq_true rfl) (fun _ _ hq => ct_X4_tell _ _ hq) (fun h8 => ?_)
      refine si_aload_n 0 dX8_reckon_65 rfl rfl ?_
      refine si_gR 9 5 fl_X8_39 dX8_reckon_66 (by decide) rfl (fun x10 => ?_)
      refine si_sipush (v := 10001) dX8_reckon_69 (by decide) ?_
      refine si_iload_n 3 dX8_reckon_72 rfl rfl ?_
      refine si_sipush (v := 1000) dX8_reckon_73 (by decide) ?_
      refine si_idiv dX8_reckon_76 (by decide) ?_
      refine si_cvV 5 [lvI ((10001 : Int32)), lvI (l3 / (1000 : Int32))] dX8_reckon_77 rfl mc_X4_tell ml_X8_256 im_X4_tell rfl se_X4_tell (by decide) rfl ⟨Nat.le_of_ble_eq_true rfl, Nat.le_of_ble_eq_true rfl, Nat.le_of_ble_eq_true rfl, Nat.le_of_ble_eq_true rfl⟩ (Nat.le_of_ble_eq_true rfl) (fun _ _ hq => ct_X4_tell _ _ hq) (fun h11 => ?_)
      refine si_aload_n 0 dX8_reckon_80 rfl rfl ?_
      refine si_gR 9 5 fl_X8_39 dX8_reckon_81 (by decide) rfl (fun x13 => ?_)
      refine si_sipush (v := 10002) dX8_reckon_84 (by decide) ?_
      refine si_iload 6 dX8_reckon_87 rfl ?_
      refine si_cvV 5 [lvI ((10002 : Int32)), lvI (q3.1)] dX8_reckon_89 rfl mc_X4_tell ml_X8_256 im_X4_tell rfl se_X4_tell (by decide) rfl ⟨Nat.le_of_ble_eq_true rfl, Nat.le_of_ble_eq_true rfl, Nat.le_of_ble_eq_true rfl, Nat.le_of_ble_eq_true rfl⟩ (Nat.le_of_ble_eq_true rfl) (fun _ _ hq => ct_X4_tell _ _ hq) (fun h14 => ?_)
      refine si_aload_n 0 dX8_reckon_92 rfl rfl ?_
      refine si_gR 9 5 fl_X8_39 dX8_reckon_93 (by decide) rfl (fun x16 => ?_)
      refine si_sipush (v := 10003) dX8_reckon_96 (by decide) ?_
      refine si_iload_n 2 dX8_reckon_99 rfl rfl ?_
      refine si_cvV 5 [lvI ((10003 : Int32)), lvI (l2)] dX8_reckon_100 rfl mc_X4_tell ml_X8_256 im_X4_tell rfl se_X4_tell (by decide) rfl ⟨Nat.le_of_ble_eq_true rfl, Nat.le_of_ble_eq_true rfl, Nat.le_of_ble_eq_true rfl, Nat.le_of_ble_eq_true rfl⟩ (Nat.le_of_ble_eq_true rfl) (fun _ _ hq => ct_X4_tell _ _ hq) (fun h17 => ?_)
      refine si_aload_n 0 dX8_reckon_103 rfl rfl ?_
      refine si_gR 9 5 fl_X8_39 dX8_reckon_104 (by decide) rfl (fun x19 => ?_)
      refine si_sipush (v := 10004) dX8_reckon_107 (by decide) ?_
      refine si_iload 5 dX8_reckon_110 rfl ?_
      refine si_cvV 5 [lvI ((10004 : Int32)), lvI (q1.1)] dX8_reckon_112 rfl mc_X4_tell ml_X8_256 im_X4_tell rfl se_X4_tell (by decide) rfl ⟨Nat.le_of_ble_eq_true rfl, Nat.le_of_ble_eq_true rfl, Nat.le_of_ble_eq_true rfl, Nat.le_of_ble_eq_true rfl⟩ (Nat.le_of_ble_eq_true rfl) (fun _ _ hq => ct_X4_tell _ _ hq) (fun h20 => ?_)
      refine si_aload_n 0 dX8_reckon_115 rfl rfl ?_
      refine si_gR 9 5 fl_X8_39 dX8_reckon_116 (by decide) rfl (fun x22 => ?_)
      refine si_aload 4 dX8_reckon_119 rfl ?_
      refine si_cvI 5 [lvR (s0)] dX8_reckon_121 rfl mc_X4_rateBy ml_X8_259 im_X4_rateBy rfl se_X4_rateBy (by decide) rfl ⟨Nat.le_of_ble_eq_true rfl, Nat.le_of_ble_eq_true rfl, Nat.le_of_ble_eq_true rfl, Nat.le_of_ble_eq_true rfl⟩ (Nat.le_of_ble_eq_true rfl) (fun _ _ hq => ct_X4_rateBy _ _ hq) (fun q23 => ?_)
      refine si_i2l dX8_reckon_124 ?_
      refine si_iload 6 dX8_reckon_125 rfl ?_
      refine si_i2l dX8_reckon_127 ?_
      refine si_lmul dX8_reckon_128 ?_
      refine si_iload_n 3 dX8_reckon_129 rfl rfl ?_
      refine si_i2l dX8_reckon_130 ?_
      refine si_lmul dX8_reckon_131 ?_
      refine si_lstore 7 dX8_reckon_132 (by decide) ?_
      refine si_lload 7 dX8_reckon_134 rfl ?_
      refine si_ldc2 dX8_reckon_136 kc_X8_263 ?_
      refine si_ldiv dX8_reckon_139 (by decide) ?_
      refine si_l2i dX8_reckon_140 ?_
      exact si_iret dX8_reckon_141 rfl (Nat.le_of_ble_eq_true rfl) (Nat.le_of_ble_eq_true rfl)
set_option maxHeartbeats 4000000 in
set_option maxRecDepth 100000 in
theorem s_X8_reckon {E : EV} (th : Nat) (a1 : Option Nat) (a2 : Int32) (a3 : Int32) (h : HS) : Sim E mi_X8_reckon (fin oI) 0 0 0 (largs 0 [lvR (some th), lvR a1, lvI a2, lvI a3]) [] h (m_X8_reckon th a1 a2 a3 h) := by
  unfold m_X8_reckon
  refine si_iload_n 2 dX8_reckon_0 rfl rfl ?_
  refine si_iconst (v := 0) dX8_reckon_1 (by decide) ?_
  refine si_bipush (v := 49) dX8_reckon_2 (by decide) ?_
  refine si_csI [lvI (a2), lvI ((0 : Int32)), lvI ((49 : Int32))] dX8_reckon_4 rfl mc_X8_isWithin ml_X8_63 st_X8_isWithin rfl ⟨Nat.le_of_ble_eq_true rfl, Nat.le_of_ble_eq_true rfl, Nat.le_of_ble_eq_true rfl, Nat.le_of_ble_eq_true rfl⟩ (Nat.le_of_ble_eq_true rfl) (fun _ hq => ct_X8_isWithin _ _ hq) (fun q1 => ?_)
  refine si_if_eq 19 dX8_reckon_7 (by decide) ?_ ?_
  · refine si_null dX8_reckon_19 ?_
    refine si_widen 0 0 (Nat.le_of_ble_eq_true rfl) (Nat.le_of_ble_eq_true rfl) ?_
    refine si_lo [(0, lvR (some th)), (1, lvR (a1)), (2, lvI (a2)), (3, lvI (a3))] ⟨rfl, rfl, rfl, rfl, trivial⟩ ?_
    exact X8_reckon_b20_s th a1 a2 a3 none _
  · refine si_aload_n 0 dX8_reckon_10 rfl rfl ?_
    refine si_gR 9 6 fl_X8_45 dX8_reckon_11 (by decide) rfl (fun x2 => ?_)
    refine si_iload_n 2 dX8_reckon_14 rfl rfl ?_
    refine si_ra 205 (by decide) dX8_reckon_15 (fun x3 => ?_)
    refine si_goto 20 dX8_reckon_16 (by decide) ?_
    refine si_widen 0 0 (Nat.le_of_ble_eq_true rfl) (Nat.le_of_ble_eq_true rfl) ?_
    refine si_lo [(0, lvR (some th)), (1, lvR (a1)), (2, lvI (a2)), (3, lvI (a3))] ⟨rfl, rfl, rfl, rfl, trivial⟩ ?_
    exact X8_reckon_b20_s th a1 a2 a3 x3 _
theorem ct_X8_reckon (l : Launch) (G : GG) {th : Nat} {a1 : Option Nat} {a2 : Int32} {a3 : Int32} {h : HS} {q : Int32 × HS} (hq : m_X8_reckon th a1 a2 a3 h = some q) : Ct l yX8_reckon mi_X8_reckon G [lvR (some th), lvR a1, lvI a2, lvI a3] h (oI q) := Ct.of (out := oI) (by decide +kernel) rfl rfl (Nat.le_of_ble_eq_true rfl) hq (fun _ _ _ _ _ _ _ _ => s_X8_reckon th a1 a2 a3 h)
set_option maxHeartbeats 4000000 in
set_option maxRecDepth 100000 in
theorem s_X8_featureAt {E : EV} (th : Nat) (a1 : Int32) (h : HS) : Sim E mi_X8_featureAt (fin oR) 0 0 0 (largs 0 [lvR (some th), lvI a1]) [] h (m_X8_featureAt th a1 h) := by
  unfold m_X8_featureAt
  refine si_iload_n 1 dX8_featureAt_0 rfl rfl ?_
  refine si_iconst (v := 0) dX8_featureAt_1 (by decide) ?_
  refine si_aload_n 0 dX8_featureAt_2 rfl rfl ?_
  refine si_gR 9 0 fl_X8_12 dX8_featureAt_3 (by decide) rfl (fun x1 => ?_)
  refine si_cvI 0 [] dX8_featureAt_6 rfl mc_Jx4a65c_size_8abf5 ml_X8_67 im_Jx4a65c_size_8abf5 rfl se_Jx4a65c_size_8abf5 (by decide) rfl ⟨Nat.le_of_ble_eq_true rfl, Nat.le_of_ble_eq_true rfl, Nat.le_of_ble_eq_true rfl, Nat.le_of_ble_eq_true rfl⟩ (Nat.le_of_ble_eq_true rfl) (fun _ _ hq => ct_Jx4a65c_size_8abf5 _ _ hq) (fun q2 => ?_)
  refine si_iconst (v := 1) dX8_featureAt_9 (by decide) ?_
  refine si_isub dX8_featureAt_10 ?_
  refine si_csI [lvI (a1), lvI ((0 : Int32)), lvI (q2.1 - (1 : Int32))] dX8_featureAt_11 rfl mc_X8_isWithin ml_X8_63 st_X8_isWithin rfl ⟨Nat.le_of_ble_eq_true rfl, Nat.le_of_ble_eq_true rfl, Nat.le_of_ble_eq_true rfl, Nat.le_of_ble_eq_true rfl⟩ (Nat.le_of_ble_eq_true rfl) (fun _ hq => ct_X8_isWithin _ _ hq) (fun q4 => ?_)
  refine si_if_eq 31 dX8_featureAt_14 (by decide) ?_ ?_
  · refine si_null dX8_featureAt_31 ?_
    exact si_aret dX8_featureAt_32 rfl (Or.inl ⟨_, rfl⟩) (Nat.le_of_ble_eq_true rfl) (Nat.le_of_ble_eq_true rfl)
  · refine si_aload_n 0 dX8_featureAt_17 rfl rfl ?_
    refine si_gR 9 0 fl_X8_12 dX8_featureAt_18 (by decide) rfl (fun x5 => ?_)
    refine si_iload_n 1 dX8_featureAt_21 rfl rfl ?_
    refine si_cvR 0 [lvI (a1)] dX8_featureAt_22 rfl mc_Jx4a65c_get_915e3 ml_X8_114 im_Jx4a65c_get_915e3 rfl se_Jx4a65c_get_915e3 (by decide) rfl ⟨Nat.le_of_ble_eq_true rfl, Nat.le_of_ble_eq_true rfl, Nat.le_of_ble_eq_true rfl, Nat.le_of_ble_eq_true rfl⟩ (Nat.le_of_ble_eq_true rfl) (fun _ _ hq => ct_Jx4a65c_get_915e3 _ _ hq) (fun q6 => ?_)
    refine si_cast 2 rfl cl_X8_71 dX8_featureAt_25 (by decide) ?_
    refine si_goto 32 dX8_featureAt_28 (by decide) ?_
    exact si_aret dX8_featureAt_32 rfl (Or.inl ⟨_, rfl⟩) (Nat.le_of_ble_eq_true rfl) (Nat.le_of_ble_eq_true rfl)
theorem ct_X8_featureAt (l : Launch) (G : GG) {th : Nat} {a1 : Int32} {h : HS} {q : Option Nat × HS} (hq : m_X8_featureAt th a1 h = some q) : Ct l yX8_featureAt mi_X8_featureAt G [lvR (some th), lvI a1] h (oR q) := Ct.of (out := oR) (by decide +kernel) rfl rfl (Nat.le_of_ble_eq_true rfl) hq (fun _ _ _ _ _ _ _ _ => s_X8_featureAt th a1 h)
set_option maxHeartbeats 4000000 in
set_option maxRecDepth 100000 in
theorem X8_hasRunning_b60_s {E : EV} (th : Nat) (go2 : Option Nat → Option Nat → Int32 → HS → Option (Int32 × HS)) (hg2 : ∀ (l1 : Option Nat) (l2 : Option Nat) (l3 : Int32) (h : HS), Sim E mi_X8_hasRunning (fin oI) 0 0 2 [(0, lvR (some th)), (1, lvR (l1)), (2, lvR (l2)), (3, lvI (l3))] [] h (go2 l1 l2 l3 h)) (l1 : Option Nat) (l2 : Option Nat) (l3 : Int32) (h : HS) : Sim E mi_X8_hasRunning (fin oI) 0 0 60 [(0, lvR (some th)), (1, lvR (l1)), (2, lvR (l2)), (3, lvI (l3))] [] h (X8_hasRunning_b60 th go2 l1 l2 l3 h) := by
  unfold X8_hasRunning_b60
  refine si_iinc 3 (1) dX8_hasRunning_60 rfl (by decide) (by decide) ?_
  refine si_goto 2 dX8_hasRunning_63 (by decide) ?_
  refine si_widen 0 0 (Nat.le_of_ble_eq_true rfl) (Nat.le_of_ble_eq_true rfl) ?_
  refine si_lo [(0, lvR (some th)), (1, lvR (l1)), (2, lvR (l2)), (3, lvI (l3 + (1)))] ⟨rfl, rfl, rfl, rfl, trivial⟩ ?_
  exact hg2 l1 l2 (l3 + (1)) _
set_option maxHeartbeats 4000000 in
set_option maxRecDepth 100000 in
theorem X8_hasRunning_L2_s {E : EV} (th : Nat) (n : Nat) : ∀ (l1 : Option Nat) (l2 : Option Nat) (l3 : Int32) (h : HS), Sim E mi_X8_hasRunning (fin oI) 0 0 2 [(0, lvR (some th)), (1, lvR (l1)), (2, lvR (l2)), (3, lvI (l3))] [] h (X8_hasRunning_L2 th n l1 l2 l3 h) := by
  induction n with
  | zero => intro l1 l2 l3 h; exact si_none
  | succ n ih =>
    intro l1 l2 l3 h
    unfold X8_hasRunning_L2
    refine si_iload_n 3 dX8_hasRunning_2 rfl rfl ?_
    refine si_aload_n 0 dX8_hasRunning_3 rfl rfl ?_
    refine si_gR 9 2 fl_X8_19 dX8_hasRunning_4 (by decide) rfl (fun x1 => ?_)
    refine si_cvI 0 [] dX8_hasRunning_7 rfl mc_Jx4a65c_size_8abf5 ml_X8_67 im_Jx4a65c_size_8abf5 rfl se_Jx4a65c_size_8abf5 (by decide) rfl ⟨Nat.le_of_ble_eq_true rfl, Nat.le_of_ble_eq_true rfl, Nat.le_of_ble_eq_true rfl, Nat.le_of_ble_eq_true rfl⟩ (Nat.le_of_ble_eq_true rfl) (fun _ _ hq => ct_Jx4a65c_size_8abf5 _ _ hq) (fun q2 => ?_)
    refine si_icmp_ge 66 dX8_hasRunning_10 (by decide) ?_ ?_
    · refine si_iconst (v := 0) dX8_hasRunning_66 (by decide) ?_
      exact si_zret dX8_hasRunning_67 rfl rfl (Nat.le_of_ble_eq_true rfl) (Nat.le_of_ble_eq_true rfl)
    · refine si_aload_n 0 dX8_hasRunning_13 rfl rfl ?_
      refine si_gR 9 2 fl_X8_19 dX8_hasRunning_14 (by decide) rfl (fun x4 => ?_)
      refine si_iload_n 3 dX8_hasRunning_17 rfl rfl ?_
      refine si_cvR 0 [lvI (l3)] dX8_hasRunning_18 rfl mc_Jx4a65c_get_915e3 ml_X8_114 im_Jx4a65c_get_915e3 rfl se_Jx4a65c_get_915e3 (by decide) rfl ⟨Nat.le_of_ble_eq_true rfl, Nat.le_of_ble_eq_true rfl, Nat.le_of_ble_eq_true rfl, Nat.le_of_ble_eq_true rfl⟩ (Nat.le_of_ble_eq_true rfl) (fun _ _ hq => ct_Jx4a65c_get_915e3 _ _ hq) (fun q5 => ?_)
      refine si_cast 1 rfl cl_X8_118 dX8_hasRunning_21 (by decide) ?_
      refine si_astore 4 dX8_hasRunning_24 (by decide) ?_
      refine si_aload 4 dX8_hasRunning_26 rfl ?_
      refine si_gR 1 0 fl_X8_120 dX8_hasRunning_28 (by decide) rfl (fun x7 => ?_)
      refine si_aload_n 1 dX8_hasRunning_31 rfl rfl ?_
      refine si_acmp_ne 60 dX8_hasRunning_32 (by decide) ?_ ?_
      · refine si_aload 4 dX8_hasRunning_35 rfl ?_
        refine si_gR 1 1 fl_X8_187 dX8_hasRunning_37 (by decide) rfl (fun x8 => ?_)
        refine si_aload_n 2 dX8_hasRunning_40 rfl rfl ?_
        refine si_acmp_ne 60 dX8_hasRunning_41 (by decide) ?_ ?_
        · refine si_aload 4 dX8_hasRunning_44 rfl ?_
          refine si_aload_n 0 dX8_hasRunning_46 rfl rfl ?_
          refine si_gI 9 9 fl_X8_60 dX8_hasRunning_47 (by decide) rfl (fun x9 => ?_)
          refine si_iconst (v := 1) dX8_hasRunning_50 (by decide) ?_
          refine si_iadd dX8_hasRunning_51 ?_
          refine si_cvI 1 [lvI (x9 + (1 : Int32))] dX8_hasRunning_52 rfl mc_X0_runsIn ml_X8_194 im_X0_runsIn rfl se_X0_runsIn (by decide) rfl ⟨Nat.le_of_ble_eq_true rfl, Nat.le_of_ble_eq_true rfl, Nat.le_of_ble_eq_true rfl, Nat.le_of_ble_eq_true rfl⟩ (Nat.le_of_ble_eq_true rfl) (fun _ _ hq => ct_X0_runsIn _ _ hq) (fun q10 => ?_)
          refine si_if_eq 60 dX8_hasRunning_55 (by decide) ?_ ?_
          · refine si_widen 0 0 (Nat.le_of_ble_eq_true rfl) (Nat.le_of_ble_eq_true rfl) ?_
            refine si_lo [(0, lvR (some th)), (1, lvR (l1)), (2, lvR (l2)), (3, lvI (l3))] ⟨rfl, rfl, rfl, rfl, trivial⟩ ?_
            exact X8_hasRunning_b60_s th (X8_hasRunning_L2 th n) ih l1 l2 l3 _
          · refine si_iconst (v := 1) dX8_hasRunning_58 (by decide) ?_
            exact si_zret dX8_hasRunning_59 rfl rfl (Nat.le_of_ble_eq_true rfl) (Nat.le_of_ble_eq_true rfl)
        · refine si_widen 0 0 (Nat.le_of_ble_eq_true rfl) (Nat.le_of_ble_eq_true rfl) ?_
          refine si_lo [(0, lvR (some th)), (1, lvR (l1)), (2, lvR (l2)), (3, lvI (l3))] ⟨rfl, rfl, rfl, rfl, trivial⟩ ?_
          exact X8_hasRunning_b60_s th (X8_hasRunning_L2 th n) ih l1 l2 l3 _
      · refine si_widen 0 0 (Nat.le_of_ble_eq_true rfl) (Nat.le_of_ble_eq_true rfl) ?_
        refine si_lo [(0, lvR (some th)), (1, lvR (l1)), (2, lvR (l2)), (3, lvI (l3))] ⟨rfl, rfl, rfl, rfl, trivial⟩ ?_
        exact X8_hasRunning_b60_s th (X8_hasRunning_L2 th n) ih l1 l2 l3 _
set_option maxHeartbeats 4000000 in
set_option maxRecDepth 100000 in
theorem s_X8_hasRunning {E : EV} (th : Nat) (a1 : Option Nat) (a2 : Option Nat) (h : HS) : Sim E mi_X8_hasRunning (fin oI) 0 0 0 (largs 0 [lvR (some th), lvR a1, lvR a2]) [] h (m_X8_hasRunning th a1 a2 h) := by
  unfold m_X8_hasRunning
  refine si_iconst (v := 0) dX8_hasRunning_0 (by decide) ?_
  refine si_istore_n 3 dX8_hasRunning_1 rfl (by decide) ?_
  refine si_widen 0 0 (Nat.le_of_ble_eq_true rfl) (Nat.le_of_ble_eq_true rfl) ?_
  refine si_lo [(0, lvR (some th)), (1, lvR (a1)), (2, lvR (a2)), (3, lvI ((0 : Int32)))] ⟨rfl, rfl, rfl, rfl, trivial⟩ ?_
  exact X8_hasRunning_L2_s th FU a1 a2 ((0 : Int32)) _
theorem ct_X8_hasRunning (l : Launch) (G : GG) {th : Nat} {a1 : Option Nat} {a2 : Option Nat} {h : HS} {q : Int32 × HS} (hq : m_X8_hasRunning th a1 a2 h = some q) : Ct l yX8_hasRunning mi_X8_hasRunning G [lvR (some th), lvR a1, lvR a2] h (oI q) := Ct.of (out := oI) (by decide +kernel) rfl rfl (Nat.le_of_ble_eq_true rfl) hq (fun _ _ _ _ _ _ _ _ => s_X8_hasRunning th a1 a2 h)
set_option maxHeartbeats 4000000 in
set_option maxRecDepth 100000 in
theorem X8_isBarred_b88_s {E : EV} (th : Nat) (go2 : Option Nat → Option Nat → Int32 → HS → Option (Int32 × HS)) (hg2 : ∀ (l1 : Option Nat) (l2 : Option Nat) (l3 : Int32) (h : HS), Sim E mi_X8_isBarred (fin oI) 0 0 2 [(0, lvR (some th)), (1, lvR (l1)), (2, lvR (l2)), (3, lvI (l3))] [] h (go2 l1 l2 l3 h)) (l1 : Option Nat) (l2 : Option Nat) (l3 : Int32) (h : HS) : Sim E mi_X8_isBarred (fin oI) 0 0 88 [(0, lvR (some th)), (1, lvR (l1)), (2, lvR (l2)), (3, lvI (l3))] [] h (X8_isBarred_b88 th go2 l1 l2 l3 h) := by
  unfold X8_isBarred_b88
  refine si_iinc 3 (1) dX8_isBarred_88 rfl (by decide) (by decide) ?_
  refine si_goto 2 dX8_isBarred_91 (by decide) ?_
  refine si_widen 0 0 (Nat.le_of_ble_eq_true rfl) (Nat.le_of_ble_eq_true rfl) ?_
  refine si_lo [(0, lvR (some th)), (1, lvR (l1)), (2, lvR (l2)), (3, lvI (l3 + (1)))] ⟨rfl, rfl, rfl, rfl, trivial⟩ ?_
  exact hg2 l1 l2 (l3 + (1)) _
set_option maxHeartbeats 4000000 in
set_option maxRecDepth 100000 in
theorem X8_isBarred_b63_s {E : EV} (th : Nat) (go2 : Option Nat → Option Nat → Int32 → HS → Option (Int32 × HS)) (hg2 : ∀ (l1 : Option Nat) (l2 : Option Nat) (l3 : Int32) (h : HS), Sim E mi_X8_isBarred (fin oI) 0 0 2 [(0, lvR (some th)), (1, lvR (l1)), (2, lvR (l2)), (3, lvI (l3))] [] h (go2 l1 l2 l3 h)) (l1 : Option Nat) (l2 : Option Nat) (l3 : Int32) (l4 : Option Nat) (s0 : Int32) (h : HS) : Sim E mi_X8_isBarred (fin oI) 0 0 63 [(0, lvR (some th)), (1, lvR (l1)), (2, lvR (l2)), (3, lvI (l3)), (4, lvR (l4))] [.int (s0)] h (X8_isBarred_b63 th go2 l1 l2 l3 l4 s0 h) := by
  unfold X8_isBarred_b63
  refine si_istore 5 dX8_isBarred_63 (by decide) ?_
  refine si_iload 5 dX8_isBarred_65 rfl ?_
  refine si_if_eq 88 dX8_isBarred_67 (by decide) ?_ ?_
  · refine si_widen 0 0 (Nat.le_of_ble_eq_true rfl) (Nat.le_of_ble_eq_true rfl) ?_
    refine si_lo [(0, lvR (some th)), (1, lvR (l1)), (2, lvR (l2)), (3, lvI (l3))] ⟨rfl, rfl, rfl, rfl, trivial⟩ ?_
    exact X8_isBarred_b88_s th go2 hg2 l1 l2 l3 _
  · refine si_aload 4 dX8_isBarred_70 rfl ?_
    refine si_gR 1 0 fl_X8_120 dX8_isBarred_72 (by decide) rfl (fun x1 => ?_)
    refine si_aload_n 1 dX8_isBarred_75 rfl rfl ?_
    refine si_aload_n 2 dX8_isBarred_76 rfl rfl ?_
    refine si_gI 2 2 fl_X8_228 dX8_isBarred_77 (by decide) rfl (fun x2 => ?_)
    refine si_cvI 3 [lvR (l1), lvI (x2)] dX8_isBarred_80 rfl mc_X2_isNearer ml_X8_231 im_X2_isNearer rfl se_X2_isNearer (by decide) rfl ⟨Nat.le_of_ble_eq_true rfl, Nat.le_of_ble_eq_true rfl, Nat.le_of_ble_eq_true rfl, Nat.le_of_ble_eq_true rfl⟩ (Nat.le_of_ble_eq_true rfl) (fun _ _ hq => ct_X2_isNearer _ _ hq) (fun q3 => ?_)
    refine si_if_eq 88 dX8_isBarred_83 (by decide) ?_ ?_
    · refine si_widen 0 0 (Nat.le_of_ble_eq_true rfl) (Nat.le_of_ble_eq_true rfl) ?_
      refine si_lo [(0, lvR (some th)), (1, lvR (l1)), (2, lvR (l2)), (3, lvI (l3))] ⟨rfl, rfl, rfl, rfl, trivial⟩ ?_
      exact X8_isBarred_b88_s th go2 hg2 l1 l2 l3 _
    · refine si_iconst (v := 1) dX8_isBarred_86 (by decide) ?_
      exact si_zret dX8_isBarred_87 rfl rfl (Nat.le_of_ble_eq_true rfl) (Nat.le_of_ble_eq_true rfl)
set_option maxHeartbeats 4000000 in
set_option maxRecDepth 100000 in
theorem X8_isBarred_b62_s {E : EV} (th : Nat) (go2 : Option Nat → Option Nat → Int32 → HS → Option (Int32 × HS)) (hg2 : ∀ (l1 : Option Nat) (l2 : Option Nat) (l3 : Int32) (h : HS), Sim E mi_X8_isBarred (fin oI) 0 0 2 [(0, lvR (some th)), (1, lvR (l1)), (2, lvR (l2)), (3, lvI (l3))] [] h (go2 l1 l2 l3 h)) (l1 : Option Nat) (l2 : Option Nat) (l3 : Int32) (l4 : Option Nat) (h : HS) : Sim E mi_X8_isBarred (fin oI) 0 0 62 [(0, lvR (some th)), (1, lvR (l1)), (2, lvR (l2)), (3, lvI (l3)), (4, lvR (l4))] [] h (X8_isBarred_b62 th go2 l1 l2 l3 l4 h) := by
  unfold X8_isBarred_b62
  refine si_iconst (v := 0) dX8_isBarred_62 (by decide) ?_
  refine si_widen 0 0 (Nat.le_of_ble_eq_true rfl) (Nat.le_of_ble_eq_true rfl) ?_
  refine si_lo [(0, lvR (some th)), (1, lvR (l1)), (2, lvR (l2)), (3, lvI (l3)), (4, lvR (l4))] ⟨rfl, rfl, rfl, rfl, rfl, trivial⟩ ?_
  exact X8_isBarred_b63_s th go2 hg2 l1 l2 l3 l4 ((0 : Int32)) _
set_option maxHeartbeats 4000000 in
set_option maxRecDepth 100000 in
theorem X8_isBarred_L2_s {E : EV} (th : Nat) (n : Nat) : ∀ (l1 : Option Nat) (l2 : Option Nat) (l3 : Int32) (h : HS), Sim E mi_X8_isBarred (fin oI) 0 0 2 [(0, lvR (some th)), (1, lvR (l1)), (2, lvR (l2)), (3, lvI (l3))] [] h (X8_isBarred_L2 th n l1 l2 l3 h) := by
  induction n with
  | zero => intro l1 l2 l3 h; exact si_none
  | succ n ih =>
    intro l1 l2 l3 h
    unfold X8_isBarred_L2
    refine si_iload_n 3 dX8_isBarred_2 rfl rfl ?_
    refine si_aload_n 0 dX8_isBarred_3 rfl rfl ?_
    refine si_gR 9 2 fl_X8_19 dX8_isBarred_4 (by decide) rfl (fun x1 => ?_)
    refine si_cvI 0 [] dX8_isBarred_7 rfl mc_Jx4a65c_size_8abf5 ml_X8_67 im_Jx4a65c_size_8abf5 rfl se_Jx4a65c_size_8abf5 (by decide) rfl ⟨Nat.le_of_ble_eq_true rfl, Nat.le_of_ble_eq_true rfl, Nat.le_of_ble_eq_true rfl, Nat.le_of_ble_eq_true rfl⟩ (Nat.le_of_ble_eq_true rfl) (fun _ _ hq => ct_Jx4a65c_size_8abf5 _ _ hq) (fun q2 => ?_)
    refine si_icmp_ge 94 dX8_isBarred_10 (by decide) ?_ ?_
    · refine si_iconst (v := 0) dX8_isBarred_94 (by decide) ?_
      exact si_zret dX8_isBarred_95 rfl rfl (Nat.le_of_ble_eq_true rfl) (Nat.le_of_ble_eq_true rfl)
    · refine si_aload_n 0 dX8_isBarred_13 rfl rfl ?_
      refine si_gR 9 2 fl_X8_19 dX8_isBarred_14 (by decide) rfl (fun x4 => ?_)
      refine si_iload_n 3 dX8_isBarred_17 rfl rfl ?_
      refine si_cvR 0 [lvI (l3)] dX8_isBarred_18 rfl mc_Jx4a65c_get_915e3 ml_X8_114 im_Jx4a65c_get_915e3 rfl se_Jx4a65c_get_915e3 (by decide) rfl ⟨Nat.le_of_ble_eq_true rfl, Nat.le_of_ble_eq_true rfl, Nat.le_of_ble_eq_true rfl, Nat.le_of_ble_eq_true rfl⟩ (Nat.le_of_ble_eq_true rfl) (fun _ _ hq => ct_Jx4a65c_get_915e3 _ _ hq) (fun q5 => ?_)
      refine si_cast 1 rfl cl_X8_118 dX8_isBarred_21 (by decide) ?_
      refine si_astore 4 dX8_isBarred_24 (by decide) ?_
      refine si_aload 4 dX8_isBarred_26 rfl ?_
      refine si_gR 1 0 fl_X8_120 dX8_isBarred_28 (by decide) rfl (fun x7 => ?_)
      refine si_aload_n 1 dX8_isBarred_31 rfl rfl ?_
      refine si_acmp_eq 62 dX8_isBarred_32 (by decide) ?_ ?_
      · refine si_widen 0 0 (Nat.le_of_ble_eq_true rfl) (Nat.le_of_ble_eq_true rfl) ?_
        refine si_lo [(0, lvR (some th)), (1, lvR (l1)), (2, lvR (l2)), (3, lvI (l3)), (4, lvR (q5.1))] ⟨rfl, rfl, rfl, rfl, rfl, trivial⟩ ?_
        exact X8_isBarred_b62_s th (X8_isBarred_L2 th n) ih l1 l2 l3 q5.1 _
      · refine si_aload 4 dX8_isBarred_35 rfl ?_
        refine si_gR 1 1 fl_X8_187 dX8_isBarred_37 (by decide) rfl (fun x8 => ?_)
        refine si_aload_n 2 dX8_isBarred_40 rfl rfl ?_
        refine si_acmp_ne 62 dX8_isBarred_41 (by decide) ?_ ?_
        · refine si_aload 4 dX8_isBarred_44 rfl ?_
          refine si_aload_n 0 dX8_isBarred_46 rfl rfl ?_
          refine si_gI 9 9 fl_X8_60 dX8_isBarred_47 (by decide) rfl (fun x9 => ?_)
          refine si_iconst (v := 1) dX8_isBarred_50 (by decide) ?_
          refine si_iadd dX8_isBarred_51 ?_
          refine si_cvI 1 [lvI (x9 + (1 : Int32))] dX8_isBarred_52 rfl mc_X0_runsIn ml_X8_194 im_X0_runsIn rfl se_X0_runsIn (by decide) rfl ⟨Nat.le_of_ble_eq_true rfl, Nat.le_of_ble_eq_true rfl, Nat.le_of_ble_eq_true rfl, Nat.le_of_ble_eq_true rfl⟩ (Nat.le_of_ble_eq_true rfl) (fun _ _ hq => ct_X0_runsIn _ _ hq) (fun q10 => ?_)
          refine si_if_eq 62 dX8_isBarred_55 (by decide) ?_ ?_
          · refine si_widen 0 0 (Nat.le_of_ble_eq_true rfl) (Nat.le_of_ble_eq_true rfl) ?_
            refine si_lo [(0, lvR (some th)), (1, lvR (l1)), (2, lvR (l2)), (3, lvI (l3)), (4, lvR (q5.1))] ⟨rfl, rfl, rfl, rfl, rfl, trivial⟩ ?_
            exact X8_isBarred_b62_s th (X8_isBarred_L2 th n) ih l1 l2 l3 q5.1 _
          · refine si_iconst (v := 1) dX8_isBarred_58 (by decide) ?_
            refine si_goto 63 dX8_isBarred_59 (by decide) ?_
            refine si_widen 0 0 (Nat.le_of_ble_eq_true rfl) (Nat.le_of_ble_eq_true rfl) ?_
            refine si_lo [(0, lvR (some th)), (1, lvR (l1)), (2, lvR (l2)), (3, lvI (l3)), (4, lvR (q5.1))] ⟨rfl, rfl, rfl, rfl, rfl, trivial⟩ ?_
            exact X8_isBarred_b63_s th (X8_isBarred_L2 th n) ih l1 l2 l3 q5.1 ((1 : Int32)) _
        · refine si_widen 0 0 (Nat.le_of_ble_eq_true rfl) (Nat.le_of_ble_eq_true rfl) ?_
          refine si_lo [(0, lvR (some th)), (1, lvR (l1)), (2, lvR (l2)), (3, lvI (l3)), (4, lvR (q5.1))] ⟨rfl, rfl, rfl, rfl, rfl, trivial⟩ ?_
          exact X8_isBarred_b62_s th (X8_isBarred_L2 th n) ih l1 l2 l3 q5.1 _
set_option maxHeartbeats 4000000 in
set_option maxRecDepth 100000 in
theorem s_X8_isBarred {E : EV} (th : Nat) (a1 : Option Nat) (a2 : Option Nat) (h : HS) : Sim E mi_X8_isBarred (fin oI) 0 0 0 (largs 0 [lvR (some th), lvR a1, lvR a2]) [] h (m_X8_isBarred th a1 a2 h) := by
  unfold m_X8_isBarred
  refine si_iconst (v := 0) dX8_isBarred_0 (by decide) ?_
  refine si_istore_n 3 dX8_isBarred_1 rfl (by decide) ?_
  refine si_widen 0 0 (Nat.le_of_ble_eq_true rfl) (Nat.le_of_ble_eq_true rfl) ?_
  refine si_lo [(0, lvR (some th)), (1, lvR (a1)), (2, lvR (a2)), (3, lvI ((0 : Int32)))] ⟨rfl, rfl, rfl, rfl, trivial⟩ ?_
  exact X8_isBarred_L2_s th FU a1 a2 ((0 : Int32)) _
theorem ct_X8_isBarred (l : Launch) (G : GG) {th : Nat} {a1 : Option Nat} {a2 : Option Nat} {h : HS} {q : Int32 × HS} (hq : m_X8_isBarred th a1 a2 h = some q) : Ct l yX8_isBarred mi_X8_isBarred G [lvR (some th), lvR a1, lvR a2] h (oI q) := Ct.of (out := oI) (by decide +kernel) rfl rfl (Nat.le_of_ble_eq_true rfl) hq (fun _ _ _ _ _ _ _ _ => s_X8_isBarred th a1 a2 h)
set_option maxHeartbeats 4000000 in
set_option maxRecDepth 100000 in
theorem s_X8_sign {E : EV} (th : Nat) (a1 : Int32) (a2 : Int32) (h : HS) : Sim E mi_X8_sign (fin oI) 0 0 0 (largs 0 [lvR (some th), lvI a1, lvI a2]) [] h (m_X8_sign th a1 a2 h) := by
  unfold m_X8_sign
  refine si_aload_n 0 dX8_sign_0 rfl rfl ?_
  refine si_iload_n 1 dX8_sign_1 rfl rfl ?_
  refine si_cvR 9 [lvI (a1)] dX8_sign_2 rfl mc_X8_paperAt ml_X8_93 im_X8_paperAt rfl se_X8_paperAt (by decide) rfl ⟨Nat.le_of_ble_eq_true rfl, Nat.le_of_ble_eq_true rfl, Nat.le_of_ble_eq_true rfl, Nat.le_of_ble_eq_true rfl⟩ (Nat.le_of_ble_eq_true rfl) (fun _ _ hq => ct_X8_paperAt _ _ hq) (fun q1 => ?_)
  refine si_astore_n 3 dX8_sign_5 rfl (by decide) ?_
  refine si_aload_n 0 dX8_sign_6 rfl rfl ?_
  refine si_iload_n 2 dX8_sign_7 rfl rfl ?_
  refine si_cvR 9 [lvI (a2)] dX8_sign_8 rfl mc_X8_featureAt ml_X8_132 im_X8_featureAt rfl se_X8_featureAt (by decide) rfl ⟨Nat.le_of_ble_eq_true rfl, Nat.le_of_ble_eq_true rfl, Nat.le_of_ble_eq_true rfl, Nat.le_of_ble_eq_true rfl⟩ (Nat.le_of_ble_eq_true rfl) (fun _ _ hq => ct_X8_featureAt _ _ hq) (fun q3 => ?_)
  refine si_astore 4 dX8_sign_11 (by decide) ?_
  refine si_aload_n 3 dX8_sign_13 rfl rfl ?_
  refine si_ifnull 34 dX8_sign_14 (by decide) ?_ ?_
  · refine si_iconst (v := 1) dX8_sign_34 (by decide) ?_
    exact si_iret dX8_sign_35 rfl (Nat.le_of_ble_eq_true rfl) (Nat.le_of_ble_eq_true rfl)
  · refine si_aload 4 dX8_sign_17 rfl ?_
    refine si_ifnull 34 dX8_sign_19 (by decide) ?_ ?_
    · refine si_iconst (v := 1) dX8_sign_34 (by decide) ?_
      exact si_iret dX8_sign_35 rfl (Nat.le_of_ble_eq_true rfl) (Nat.le_of_ble_eq_true rfl)
    · refine si_aload_n 0 dX8_sign_22 rfl rfl ?_
      refine si_gR 9 2 fl_X8_19 dX8_sign_23 (by decide) rfl (fun x5 => ?_)
      refine si_cvI 0 [] dX8_sign_26 rfl mc_Jx4a65c_size_8abf5 ml_X8_67 im_Jx4a65c_size_8abf5 rfl se_Jx4a65c_size_8abf5 (by decide) rfl ⟨Nat.le_of_ble_eq_true rfl, Nat.le_of_ble_eq_true rfl, Nat.le_of_ble_eq_true rfl, Nat.le_of_ble_eq_true rfl⟩ (Nat.le_of_ble_eq_true rfl) (fun _ _ hq => ct_Jx4a65c_size_8abf5 _ _ hq) (fun q6 => ?_)
      refine si_bipush (v := 60) dX8_sign_29 (by decide) ?_
      refine si_icmp_lt 36 dX8_sign_31 (by decide) ?_ ?_
      · refine si_aload_n 0 dX8_sign_36 rfl rfl ?_
        refine si_aload_n 3 dX8_sign_37 rfl rfl ?_
        refine si_aload 4 dX8_sign_38 rfl ?_
        refine si_cvI 9 [lvR (q1.1), lvR (q3.1)] dX8_sign_40 rfl mc_X8_hasRunning ml_X8_136 im_X8_hasRunning rfl se_X8_hasRunning (by decide) rfl ⟨Nat.le_of_ble_eq_true rfl, Nat.le_of_ble_eq_true rfl, Nat.le_of_ble_eq_true rfl, Nat.le_of_ble_eq_true rfl⟩ (Nat.le_of_ble_eq_true rfl) (fun _ _ hq => ct_X8_hasRunning _ _ hq) (fun q8 => ?_)
        refine si_if_eq 48 dX8_sign_43 (by decide) ?_ ?_
        · refine si_aload_n 0 dX8_sign_48 rfl rfl ?_
          refine si_aload_n 3 dX8_sign_49 rfl rfl ?_
          refine si_aload 4 dX8_sign_50 rfl ?_
          refine si_cvI 9 [lvR (q1.1), lvR (q3.1)] dX8_sign_52 rfl mc_X8_isBarred ml_X8_140 im_X8_isBarred rfl se_X8_isBarred (by decide) rfl ⟨Nat.le_of_ble_eq_true rfl, Nat.le_of_ble_eq_true rfl, Nat.le_of_ble_eq_true rfl, Nat.le_of_ble_eq_true rfl⟩ (Nat.le_of_ble_eq_true rfl) (fun _ _ hq => ct_X8_isBarred _ _ hq) (fun q10 => ?_)
          refine si_if_eq 60 dX8_sign_55 (by decide) ?_ ?_
          · refine si_aload 4 dX8_sign_60 rfl ?_
            refine si_gI 2 4 fl_X8_143 dX8_sign_62 (by decide) rfl (fun x12 => ?_)
            refine si_if_eq 70 dX8_sign_65 (by decide) ?_ ?_
            · refine si_aload_n 0 dX8_sign_70 rfl rfl ?_
              refine si_gR 9 2 fl_X8_19 dX8_sign_71 (by decide) rfl (fun x13 => ?_)
              refine si_cvI 0 [] dX8_sign_74 rfl mc_Jx4a65c_size_8abf5 ml_X8_67 im_Jx4a65c_size_8abf5 rfl se_Jx4a65c_size_8abf5 (by decide) rfl ⟨Nat.le_of_ble_eq_true rfl, Nat.le_of_ble_eq_true rfl, Nat.le_of_ble_eq_true rfl, Nat.le_of_ble_eq_true rfl⟩ (Nat.le_of_ble_eq_true rfl) (fun _ _ hq => ct_Jx4a65c_size_8abf5 _ _ hq) (fun q14 => ?_)
              refine si_istore 5 dX8_sign_77 (by decide) ?_
              refine si_aload_n 0 dX8_sign_79 rfl rfl ?_
              refine si_gR 9 2 fl_X8_19 dX8_sign_80 (by decide) rfl (fun x16 => ?_)
              refine si_new 1 11 ln_X8_118 dX8_sign_83 (by decide) (Nat.le_of_ble_eq_true rfl) (Nat.le_of_ble_eq_true rfl) ?_
              refine si_dup dX8_sign_86 (cat_rf _) ?_
              refine si_aload_n 3 dX8_sign_87 rfl rfl ?_
              refine si_aload 4 dX8_sign_88 rfl ?_
              refine si_aload_n 0 dX8_sign_90 rfl rfl ?_
              refine si_gI 9 9 fl_X8_60 dX8_sign_91 (by decide) rfl (fun x17 => ?_)
              refine si_iconst (v := 1) dX8_sign_94 (by decide) ?_
              refine si_iadd dX8_sign_95 ?_
              refine si_ciV [lvR (q1.1), lvR (q3.1), lvI (x17 + (1 : Int32))] dX8_sign_96 rfl mc_X0_init rfl ml_X8_147 im_X0_init rfl rfl ⟨Nat.le_of_ble_eq_true rfl, Nat.le_of_ble_eq_true rfl, Nat.le_of_ble_eq_true rfl, Nat.le_of_ble_eq_true rfl⟩ (Nat.le_of_ble_eq_true rfl) (fun _ hq => ct_X0_init _ _ hq) (fun h18 => ?_)
              refine si_cvI 0 [lvR (some (sz q14.2))] dX8_sign_99 rfl mc_Jx4a65c_add_9ea2d ml_X8_76 im_Jx4a65c_add_9ea2d rfl se_Jx4a65c_add_9ea2d (by decide) rfl ⟨Nat.le_of_ble_eq_true rfl, Nat.le_of_ble_eq_true rfl, Nat.le_of_ble_eq_true rfl, Nat.le_of_ble_eq_true rfl⟩ (Nat.le_of_ble_eq_true rfl) (fun _ _ hq => ct_Jx4a65c_add_9ea2d _ _ hq) (fun q19 => ?_)
              refine si_pop dX8_sign_102 rfl ?_
              refine si_bipush (v := 100) dX8_sign_103 (by decide) ?_
              refine si_iload 5 dX8_sign_105 rfl ?_
              refine si_iadd dX8_sign_107 ?_
              exact si_iret dX8_sign_108 rfl (Nat.le_of_ble_eq_true rfl) (Nat.le_of_ble_eq_true rfl)
            · refine si_iconst (v := 4) dX8_sign_68 (by decide) ?_
              exact si_iret dX8_sign_69 rfl (Nat.le_of_ble_eq_true rfl) (Nat.le_of_ble_eq_true rfl)
          · refine si_iconst (v := 3) dX8_sign_58 (by decide) ?_
            exact si_iret dX8_sign_59 rfl (Nat.le_of_ble_eq_true rfl) (Nat.le_of_ble_eq_true rfl)
        · refine si_iconst (v := 2) dX8_sign_46 (by decide) ?_
          exact si_iret dX8_sign_47 rfl (Nat.le_of_ble_eq_true rfl) (Nat.le_of_ble_eq_true rfl)
      · refine si_iconst (v := 1) dX8_sign_34 (by decide) ?_
        exact si_iret dX8_sign_35 rfl (Nat.le_of_ble_eq_true rfl) (Nat.le_of_ble_eq_true rfl)
theorem ct_X8_sign (l : Launch) (G : GG) {th : Nat} {a1 : Int32} {a2 : Int32} {h : HS} {q : Int32 × HS} (hq : m_X8_sign th a1 a2 h = some q) : Ct l yX8_sign mi_X8_sign G [lvR (some th), lvI a1, lvI a2] h (oI q) := Ct.of (out := oI) (by decide +kernel) rfl rfl (Nat.le_of_ble_eq_true rfl) hq (fun _ _ _ _ _ _ _ _ => s_X8_sign th a1 a2 h)
set_option maxHeartbeats 4000000 in
set_option maxRecDepth 100000 in
theorem s_X8_contractAt {E : EV} (th : Nat) (a1 : Int32) (h : HS) : Sim E mi_X8_contractAt (fin oR) 0 0 0 (largs 0 [lvR (some th), lvI a1]) [] h (m_X8_contractAt th a1 h) := by
  unfold m_X8_contractAt
  refine si_iload_n 1 dX8_contractAt_0 rfl rfl ?_
  refine si_iconst (v := 0) dX8_contractAt_1 (by decide) ?_
  refine si_aload_n 0 dX8_contractAt_2 rfl rfl ?_
  refine si_gR 9 2 fl_X8_19 dX8_contractAt_3 (by decide) rfl (fun x1 => ?_)
  refine si_cvI 0 [] dX8_contractAt_6 rfl mc_Jx4a65c_size_8abf5 ml_X8_67 im_Jx4a65c_size_8abf5 rfl se_Jx4a65c_size_8abf5 (by decide) rfl ⟨Nat.le_of_ble_eq_true rfl, Nat.le_of_ble_eq_true rfl, Nat.le_of_ble_eq_true rfl, Nat.le_of_ble_eq_true rfl⟩ (Nat.le_of_ble_eq_true rfl) (fun _ _ hq => ct_Jx4a65c_size_8abf5 _ _ hq) (fun q2 => ?_)
  refine si_iconst (v := 1) dX8_contractAt_9 (by decide) ?_
  refine si_isub dX8_contractAt_10 ?_
  refine si_csI [lvI (a1), lvI ((0 : Int32)), lvI (q2.1 - (1 : Int32))] dX8_contractAt_11 rfl mc_X8_isWithin ml_X8_63 st_X8_isWithin rfl ⟨Nat.le_of_ble_eq_true rfl, Nat.le_of_ble_eq_true rfl, Nat.le_of_ble_eq_true rfl, Nat.le_of_ble_eq_true rfl⟩ (Nat.le_of_ble_eq_true rfl) (fun _ hq => ct_X8_isWithin _ _ hq) (fun q4 => ?_)
  refine si_if_eq 31 dX8_contractAt_14 (by decide) ?_ ?_
  · refine si_null dX8_contractAt_31 ?_
    exact si_aret dX8_contractAt_32 rfl (Or.inl ⟨_, rfl⟩) (Nat.le_of_ble_eq_true rfl) (Nat.le_of_ble_eq_true rfl)
  · refine si_aload_n 0 dX8_contractAt_17 rfl rfl ?_
    refine si_gR 9 2 fl_X8_19 dX8_contractAt_18 (by decide) rfl (fun x5 => ?_)
    refine si_iload_n 1 dX8_contractAt_21 rfl rfl ?_
    refine si_cvR 0 [lvI (a1)] dX8_contractAt_22 rfl mc_Jx4a65c_get_915e3 ml_X8_114 im_Jx4a65c_get_915e3 rfl se_Jx4a65c_get_915e3 (by decide) rfl ⟨Nat.le_of_ble_eq_true rfl, Nat.le_of_ble_eq_true rfl, Nat.le_of_ble_eq_true rfl, Nat.le_of_ble_eq_true rfl⟩ (Nat.le_of_ble_eq_true rfl) (fun _ _ hq => ct_Jx4a65c_get_915e3 _ _ hq) (fun q6 => ?_)
    refine si_cast 1 rfl cl_X8_118 dX8_contractAt_25 (by decide) ?_
    refine si_goto 32 dX8_contractAt_28 (by decide) ?_
    exact si_aret dX8_contractAt_32 rfl (Or.inl ⟨_, rfl⟩) (Nat.le_of_ble_eq_true rfl) (Nat.le_of_ble_eq_true rfl)
theorem ct_X8_contractAt (l : Launch) (G : GG) {th : Nat} {a1 : Int32} {h : HS} {q : Option Nat × HS} (hq : m_X8_contractAt th a1 h = some q) : Ct l yX8_contractAt mi_X8_contractAt G [lvR (some th), lvI a1] h (oR q) := Ct.of (out := oR) (by decide +kernel) rfl rfl (Nat.le_of_ble_eq_true rfl) hq (fun _ _ _ _ _ _ _ _ => s_X8_contractAt th a1 h)
set_option maxHeartbeats 4000000 in
set_option maxRecDepth 100000 in
theorem s_X8_cancel {E : EV} (th : Nat) (a1 : Int32) (h : HS) : Sim E mi_X8_cancel (fin oI) 0 0 0 (largs 0 [lvR (some th), lvI a1]) [] h (m_X8_cancel th a1 h) := by
  unfold m_X8_cancel
  refine si_aload_n 0 dX8_cancel_0 rfl rfl ?_
  refine si_iload_n 1 dX8_cancel_1 rfl rfl ?_
  refine si_cvR 9 [lvI (a1)] dX8_cancel_2 rfl mc_X8_contractAt ml_X8_150 im_X8_contractAt rfl se_X8_contractAt (by decide) rfl ⟨Nat.le_of_ble_eq_true rfl, Nat.le_of_ble_eq_true rfl, Nat.le_of_ble_eq_true rfl, Nat.le_of_ble_eq_true rfl⟩ (Nat.le_of_ble_eq_true rfl) (fun _ _ hq => ct_X8_contractAt _ _ hq) (fun q1 => ?_)
  refine si_astore_n 2 dX8_cancel_5 rfl (by decide) ?_
  refine si_aload_n 2 dX8_cancel_6 rfl rfl ?_
  refine si_ifnull 18 dX8_cancel_7 (by decide) ?_ ?_
  · refine si_iconst (v := -1) dX8_cancel_18 (by decide) ?_
    exact si_iret dX8_cancel_19 rfl (Nat.le_of_ble_eq_true rfl) (Nat.le_of_ble_eq_true rfl)
  · refine si_aload_n 2 dX8_cancel_10 rfl rfl ?_
    refine si_gI 1 3 fl_X8_154 dX8_cancel_11 (by decide) rfl (fun x3 => ?_)
    refine si_iconst (v := -1) dX8_cancel_14 (by decide) ?_
    refine si_icmp_eq 20 dX8_cancel_15 (by decide) ?_ ?_
    · refine si_aload_n 2 dX8_cancel_20 rfl rfl ?_
      refine si_aload_n 0 dX8_cancel_21 rfl rfl ?_
      refine si_gI 9 9 fl_X8_60 dX8_cancel_22 (by decide) rfl (fun x4 => ?_)
      refine si_iconst (v := 4) dX8_cancel_25 (by decide) ?_
      refine si_iadd dX8_cancel_26 ?_
      refine si_pI 1 3 fl_X8_154 dX8_cancel_27 (by decide) rfl rfl rfl (fw_X8_154 _) (fun h5 => ?_)
      refine si_aload_n 2 dX8_cancel_30 rfl rfl ?_
      refine si_gI 1 3 fl_X8_154 dX8_cancel_31 (by decide) rfl (fun x6 => ?_)
      exact si_iret dX8_cancel_34 rfl (Nat.le_of_ble_eq_true rfl) (Nat.le_of_ble_eq_true rfl)
    · refine si_iconst (v := -1) dX8_cancel_18 (by decide) ?_
      exact si_iret dX8_cancel_19 rfl (Nat.le_of_ble_eq_true rfl) (Nat.le_of_ble_eq_true rfl)
theorem ct_X8_cancel (l : Launch) (G : GG) {th : Nat} {a1 : Int32} {h : HS} {q : Int32 × HS} (hq : m_X8_cancel th a1 h = some q) : Ct l yX8_cancel mi_X8_cancel G [lvR (some th), lvI a1] h (oI q) := Ct.of (out := oI) (by decide +kernel) rfl rfl (Nat.le_of_ble_eq_true rfl) hq (fun _ _ _ _ _ _ _ _ => s_X8_cancel th a1 h)
set_option maxHeartbeats 4000000 in
set_option maxRecDepth 100000 in
theorem s_X8_ill {E : EV} (th : Nat) (a1 : Int32) (a2 : Int32) (h : HS) : Sim E mi_X8_ill (fin oI) 0 0 0 (largs 0 [lvR (some th), lvI a1, lvI a2]) [] h (m_X8_ill th a1 a2 h) := by
  unfold m_X8_ill
  refine si_aload_n 0 dX8_ill_0 rfl rfl ?_
  refine si_iload_n 1 dX8_ill_1 rfl rfl ?_
  refine si_cvR 9 [lvI (a1)] dX8_ill_2 rfl mc_X8_featureAt ml_X8_132 im_X8_featureAt rfl se_X8_featureAt (by decide) rfl ⟨Nat.le_of_ble_eq_true rfl, Nat.le_of_ble_eq_true rfl, Nat.le_of_ble_eq_true rfl, Nat.le_of_ble_eq_true rfl⟩ (Nat.le_of_ble_eq_true rfl) (fun _ _ hq => ct_X8_featureAt _ _ hq) (fun q1 => ?_)
  refine si_astore_n 3 dX8_ill_5 rfl (by decide) ?_
  refine si_aload_n 3 dX8_ill_6 rfl rfl ?_
  refine si_ifnull 20 dX8_ill_7 (by decide) ?_ ?_
  · refine si_iconst (v := 0) dX8_ill_20 (by decide) ?_
    exact si_zret dX8_ill_21 rfl rfl (Nat.le_of_ble_eq_true rfl) (Nat.le_of_ble_eq_true rfl)
  · refine si_iload_n 2 dX8_ill_10 rfl rfl ?_
    refine si_iconst (v := 1) dX8_ill_11 (by decide) ?_
    refine si_bipush (v := 50) dX8_ill_12 (by decide) ?_
    refine si_csI [lvI (a2), lvI ((1 : Int32)), lvI ((50 : Int32))] dX8_ill_14 rfl mc_X8_isWithin ml_X8_63 st_X8_isWithin rfl ⟨Nat.le_of_ble_eq_true rfl, Nat.le_of_ble_eq_true rfl, Nat.le_of_ble_eq_true rfl, Nat.le_of_ble_eq_true rfl⟩ (Nat.le_of_ble_eq_true rfl) (fun _ hq => ct_X8_isWithin _ _ hq) (fun q3 => ?_)
    refine si_if_ne 22 dX8_ill_17 (by decide) ?_ ?_
    · refine si_iconst (v := 0) dX8_ill_20 (by decide) ?_
      exact si_zret dX8_ill_21 rfl rfl (Nat.le_of_ble_eq_true rfl) (Nat.le_of_ble_eq_true rfl)
    · refine si_aload_n 3 dX8_ill_22 rfl rfl ?_
      refine si_aload_n 0 dX8_ill_23 rfl rfl ?_
      refine si_gI 9 9 fl_X8_60 dX8_ill_24 (by decide) rfl (fun x4 => ?_)
      refine si_iload_n 2 dX8_ill_27 rfl rfl ?_
      refine si_iadd dX8_ill_28 ?_
      refine si_pI 2 5 fl_X8_157 dX8_ill_29 (by decide) rfl rfl rfl (fw_X8_157 _) (fun h5 => ?_)
      refine si_iconst (v := 1) dX8_ill_32 (by decide) ?_
      exact si_zret dX8_ill_33 rfl rfl (Nat.le_of_ble_eq_true rfl) (Nat.le_of_ble_eq_true rfl)
theorem ct_X8_ill (l : Launch) (G : GG) {th : Nat} {a1 : Int32} {a2 : Int32} {h : HS} {q : Int32 × HS} (hq : m_X8_ill th a1 a2 h = some q) : Ct l yX8_ill mi_X8_ill G [lvR (some th), lvI a1, lvI a2] h (oI q) := Ct.of (out := oI) (by decide +kernel) rfl rfl (Nat.le_of_ble_eq_true rfl) hq (fun _ _ _ _ _ _ _ _ => s_X8_ill th a1 a2 h)
set_option maxHeartbeats 4000000 in
set_option maxRecDepth 100000 in
theorem s_X8_stop {E : EV} (th : Nat) (a1 : Int32) (a2 : Int32) (h : HS) : Sim E mi_X8_stop (fin oI) 0 0 0 (largs 0 [lvR (some th), lvI a1, lvI a2]) [] h (m_X8_stop th a1 a2 h) := by
  unfold m_X8_stop
  refine si_aload_n 0 dX8_stop_0 rfl rfl ?_
  refine si_iload_n 1 dX8_stop_1 rfl rfl ?_
  refine si_cvR 9 [lvI (a1)] dX8_stop_2 rfl mc_X8_featureAt ml_X8_132 im_X8_featureAt rfl se_X8_featureAt (by decide) rfl ⟨Nat.le_of_ble_eq_true rfl, Nat.le_of_ble_eq_true rfl, Nat.le_of_ble_eq_true rfl, Nat.le_of_ble_eq_true rfl⟩ (Nat.le_of_ble_eq_true rfl) (fun _ _ hq => ct_X8_featureAt _ _ hq) (fun q1 => ?_)
  refine si_astore_n 3 dX8_stop_5 rfl (by decide) ?_
  refine si_aload_n 3 dX8_stop_6 rfl rfl ?_
  refine si_ifnull 18 dX8_stop_7 (by decide) ?_ ?_
  · refine si_iconst (v := 0) dX8_stop_18 (by decide) ?_
    exact si_zret dX8_stop_19 rfl rfl (Nat.le_of_ble_eq_true rfl) (Nat.le_of_ble_eq_true rfl)
  · refine si_aload_n 3 dX8_stop_10 rfl rfl ?_
    refine si_gI 2 4 fl_X8_143 dX8_stop_11 (by decide) rfl (fun x3 => ?_)
    refine si_iload_n 2 dX8_stop_14 rfl rfl ?_
    refine si_icmp_ne 20 dX8_stop_15 (by decide) ?_ ?_
    · refine si_iconst (v := 0) dX8_stop_18 (by decide) ?_
      exact si_zret dX8_stop_19 rfl rfl (Nat.le_of_ble_eq_true rfl) (Nat.le_of_ble_eq_true rfl)
    · refine si_aload_n 3 dX8_stop_20 rfl rfl ?_
      refine si_iload_n 2 dX8_stop_21 rfl rfl ?_
      refine si_pB 2 4 fl_X8_143 dX8_stop_22 (by decide) rfl rfl (fw_X8_143 _) (fun h4 => ?_)
      refine si_iconst (v := 1) dX8_stop_25 (by decide) ?_
      exact si_zret dX8_stop_26 rfl rfl (Nat.le_of_ble_eq_true rfl) (Nat.le_of_ble_eq_true rfl)
theorem ct_X8_stop (l : Launch) (G : GG) {th : Nat} {a1 : Int32} {a2 : Int32} {h : HS} {q : Int32 × HS} (hq : m_X8_stop th a1 a2 h = some q) : Ct l yX8_stop mi_X8_stop G [lvR (some th), lvI a1, lvI a2] h (oI q) := Ct.of (out := oI) (by decide +kernel) rfl rfl (Nat.le_of_ble_eq_true rfl) hq (fun _ _ _ _ _ _ _ _ => s_X8_stop th a1 a2 h)
set_option maxHeartbeats 4000000 in
set_option maxRecDepth 100000 in
theorem s_X8_miss {E : EV} (th : Nat) (a1 : Int32) (h : HS) : Sim E mi_X8_miss (fin oI) 0 0 0 (largs 0 [lvR (some th), lvI a1]) [] h (m_X8_miss th a1 h) := by
  unfold m_X8_miss
  refine si_aload_n 0 dX8_miss_0 rfl rfl ?_
  refine si_iload_n 1 dX8_miss_1 rfl rfl ?_
  refine si_cvR 9 [lvI (a1)] dX8_miss_2 rfl mc_X8_contractAt ml_X8_150 im_X8_contractAt rfl se_X8_contractAt (by decide) rfl ⟨Nat.le_of_ble_eq_true rfl, Nat.le_of_ble_eq_true rfl, Nat.le_of_ble_eq_true rfl, Nat.le_of_ble_eq_true rfl⟩ (Nat.le_of_ble_eq_true rfl) (fun _ _ hq => ct_X8_contractAt _ _ hq) (fun q1 => ?_)
  refine si_astore_n 2 dX8_miss_5 rfl (by decide) ?_
  refine si_aload_n 2 dX8_miss_6 rfl rfl ?_
  refine si_ifnull 23 dX8_miss_7 (by decide) ?_ ?_
  · refine si_iconst (v := 0) dX8_miss_23 (by decide) ?_
    exact si_zret dX8_miss_24 rfl rfl (Nat.le_of_ble_eq_true rfl) (Nat.le_of_ble_eq_true rfl)
  · refine si_aload_n 2 dX8_miss_10 rfl rfl ?_
    refine si_gI 1 4 fl_X8_160 dX8_miss_11 (by decide) rfl (fun x3 => ?_)
    refine si_aload_n 0 dX8_miss_14 rfl rfl ?_
    refine si_gI 9 9 fl_X8_60 dX8_miss_15 (by decide) rfl (fun x4 => ?_)
    refine si_iconst (v := 1) dX8_miss_18 (by decide) ?_
    refine si_iadd dX8_miss_19 ?_
    refine si_icmp_ne 25 dX8_miss_20 (by decide) ?_ ?_
    · refine si_iconst (v := 0) dX8_miss_23 (by decide) ?_
      exact si_zret dX8_miss_24 rfl rfl (Nat.le_of_ble_eq_true rfl) (Nat.le_of_ble_eq_true rfl)
    · refine si_aload_n 2 dX8_miss_25 rfl rfl ?_
      refine si_aload_n 0 dX8_miss_26 rfl rfl ?_
      refine si_gI 9 9 fl_X8_60 dX8_miss_27 (by decide) rfl (fun x5 => ?_)
      refine si_iconst (v := 1) dX8_miss_30 (by decide) ?_
      refine si_iadd dX8_miss_31 ?_
      refine si_pI 1 4 fl_X8_160 dX8_miss_32 (by decide) rfl rfl rfl (fw_X8_160 _) (fun h6 => ?_)
      refine si_iconst (v := 1) dX8_miss_35 (by decide) ?_
      exact si_zret dX8_miss_36 rfl rfl (Nat.le_of_ble_eq_true rfl) (Nat.le_of_ble_eq_true rfl)
theorem ct_X8_miss (l : Launch) (G : GG) {th : Nat} {a1 : Int32} {h : HS} {q : Int32 × HS} (hq : m_X8_miss th a1 h = some q) : Ct l yX8_miss mi_X8_miss G [lvR (some th), lvI a1] h (oI q) := Ct.of (out := oI) (by decide +kernel) rfl rfl (Nat.le_of_ble_eq_true rfl) hq (fun _ _ _ _ _ _ _ _ => s_X8_miss th a1 h)
set_option maxHeartbeats 4000000 in
set_option maxRecDepth 100000 in
theorem s_X8_send {E : EV} (th : Nat) (a1 : Int32) (h : HS) : Sim E mi_X8_send (fin oI) 0 0 0 (largs 0 [lvR (some th), lvI a1]) [] h (m_X8_send th a1 h) := by
  unfold m_X8_send
  refine si_aload_n 0 dX8_send_0 rfl rfl ?_
  refine si_iload_n 1 dX8_send_1 rfl rfl ?_
  refine si_cvR 9 [lvI (a1)] dX8_send_2 rfl mc_X8_contractAt ml_X8_150 im_X8_contractAt rfl se_X8_contractAt (by decide) rfl ⟨Nat.le_of_ble_eq_true rfl, Nat.le_of_ble_eq_true rfl, Nat.le_of_ble_eq_true rfl, Nat.le_of_ble_eq_true rfl⟩ (Nat.le_of_ble_eq_true rfl) (fun _ _ hq => ct_X8_contractAt _ _ hq) (fun q1 => ?_)
  refine si_astore_n 2 dX8_send_5 rfl (by decide) ?_
  refine si_aload_n 2 dX8_send_6 rfl rfl ?_
  refine si_ifnonnull 14 dX8_send_7 (by decide) ?_ ?_
  · refine si_iconst (v := -1) dX8_send_10 (by decide) ?_
    refine si_goto 18 dX8_send_11 (by decide) ?_
    exact si_iret dX8_send_18 rfl (Nat.le_of_ble_eq_true rfl) (Nat.le_of_ble_eq_true rfl)
  · refine si_aload_n 2 dX8_send_14 rfl rfl ?_
    refine si_cvI 1 [] dX8_send_15 rfl mc_X0_sendAgain ml_X8_163 im_X0_sendAgain rfl se_X0_sendAgain (by decide) rfl ⟨Nat.le_of_ble_eq_true rfl, Nat.le_of_ble_eq_true rfl, Nat.le_of_ble_eq_true rfl, Nat.le_of_ble_eq_true rfl⟩ (Nat.le_of_ble_eq_true rfl) (fun _ _ hq => ct_X0_sendAgain _ _ hq) (fun q3 => ?_)
    exact si_iret dX8_send_18 rfl (Nat.le_of_ble_eq_true rfl) (Nat.le_of_ble_eq_true rfl)
theorem ct_X8_send (l : Launch) (G : GG) {th : Nat} {a1 : Int32} {h : HS} {q : Int32 × HS} (hq : m_X8_send th a1 h = some q) : Ct l yX8_send mi_X8_send G [lvR (some th), lvI a1] h (oI q) := Ct.of (out := oI) (by decide +kernel) rfl rfl (Nat.le_of_ble_eq_true rfl) hq (fun _ _ _ _ _ _ _ _ => s_X8_send th a1 h)
set_option maxHeartbeats 4000000 in
set_option maxRecDepth 100000 in
theorem X8_endMonth_L23_s {E : EV} (th : Nat) (n : Nat) : ∀ (l1 : Int32) (l2 : Int32) (h : HS), Sim E mi_X8_endMonth (fin oV) 0 0 23 [(0, lvR (some th)), (1, lvI (l1)), (2, lvI (l2))] [] h (X8_endMonth_L23 th n l1 l2 h) := by
  induction n with
  | zero => intro l1 l2 h; exact si_none
  | succ n ih =>
    intro l1 l2 h
    unfold X8_endMonth_L23
    refine si_iload_n 2 dX8_endMonth_23 rfl rfl ?_
    refine si_aload_n 0 dX8_endMonth_24 rfl rfl ?_
    refine si_gR 9 2 fl_X8_19 dX8_endMonth_25 (by decide) rfl (fun x1 => ?_)
    refine si_cvI 0 [] dX8_endMonth_28 rfl mc_Jx4a65c_size_8abf5 ml_X8_67 im_Jx4a65c_size_8abf5 rfl se_Jx4a65c_size_8abf5 (by decide) rfl ⟨Nat.le_of_ble_eq_true rfl, Nat.le_of_ble_eq_true rfl, Nat.le_of_ble_eq_true rfl, Nat.le_of_ble_eq_true rfl⟩ (Nat.le_of_ble_eq_true rfl) (fun _ _ hq => ct_Jx4a65c_size_8abf5 _ _ hq) (fun q2 => ?_)
    refine si_icmp_ge 70 dX8_endMonth_31 (by decide) ?_ ?_
    · exact si_vret dX8_endMonth_70 rfl (Nat.le_of_ble_eq_true rfl) (Nat.le_of_ble_eq_true rfl)
    · refine si_aload_n 0 dX8_endMonth_34 rfl rfl ?_
      refine si_gR 9 2 fl_X8_19 dX8_endMonth_35 (by decide) rfl (fun x4 => ?_)
      refine si_iload_n 2 dX8_endMonth_38 rfl rfl ?_
      refine si_cvR 0 [lvI (l2)] dX8_endMonth_39 rfl mc_Jx4a65c_get_915e3 ml_X8_114 im_Jx4a65c_get_915e3 rfl se_Jx4a65c_get_915e3 (by decide) rfl ⟨Nat.le_of_ble_eq_true rfl, Nat.le_of_ble_eq_true rfl, Nat.le_of_ble_eq_true rfl, Nat.le_of_ble_eq_true rfl⟩ (Nat.le_of_ble_eq_true rfl) (fun _ _ hq => ct_Jx4a65c_get_915e3 _ _ hq) (fun q5 => ?_)
      refine si_cast 1 rfl cl_X8_118 dX8_endMonth_42 (by decide) ?_
      refine si_astore_n 3 dX8_endMonth_45 rfl (by decide) ?_
      refine si_aload_n 3 dX8_endMonth_46 rfl rfl ?_
      refine si_aload_n 0 dX8_endMonth_47 rfl rfl ?_
      refine si_aload_n 3 dX8_endMonth_48 rfl rfl ?_
      refine si_iload_n 1 dX8_endMonth_49 rfl rfl ?_
      refine si_aload_n 3 dX8_endMonth_50 rfl rfl ?_
      refine si_gR 1 0 fl_X8_120 dX8_endMonth_51 (by decide) rfl (fun x7 => ?_)
      refine si_iload_n 1 dX8_endMonth_54 rfl rfl ?_
      refine si_cvI 3 [lvI (l1)] dX8_endMonth_55 rfl mc_X2_soldIn ml_X8_107 im_X2_soldIn rfl se_X2_soldIn (by decide) rfl ⟨Nat.le_of_ble_eq_true rfl, Nat.le_of_ble_eq_true rfl, Nat.le_of_ble_eq_true rfl, Nat.le_of_ble_eq_true rfl⟩ (Nat.le_of_ble_eq_true rfl) (fun _ _ hq => ct_X2_soldIn _ _ hq) (fun q8 => ?_)
      refine si_cvI 9 [lvR (q5.1), lvI (l1), lvI (q8.1)] dX8_endMonth_58 rfl mc_X8_reckon ml_X8_124 im_X8_reckon rfl se_X8_reckon (by decide) rfl ⟨Nat.le_of_ble_eq_true rfl, Nat.le_of_ble_eq_true rfl, Nat.le_of_ble_eq_true rfl, Nat.le_of_ble_eq_true rfl⟩ (Nat.le_of_ble_eq_true rfl) (fun _ _ hq => ct_X8_reckon _ _ hq) (fun q10 => ?_)
      refine si_cvV 1 [lvI (q10.1)] dX8_endMonth_61 rfl mc_X0_addBill ml_X8_128 im_X0_addBill rfl se_X0_addBill (by decide) rfl ⟨Nat.le_of_ble_eq_true rfl, Nat.le_of_ble_eq_true rfl, Nat.le_of_ble_eq_true rfl, Nat.le_of_ble_eq_true rfl⟩ (Nat.le_of_ble_eq_true rfl) (fun _ _ hq => ct_X0_addBill _ _ hq) (fun h12 => ?_)
      refine si_iinc 2 (1) dX8_endMonth_64 rfl (by decide) (by decide) ?_
      refine si_goto 23 dX8_endMonth_67 (by decide) ?_
      refine si_widen 0 0 (Nat.le_of_ble_eq_true rfl) (Nat.le_of_ble_eq_true rfl) ?_
      refine si_lo [(0, lvR (some th)), (1, lvI (l1)), (2, lvI (l2 + (1)))] ⟨rfl, rfl, rfl, trivial⟩ ?_
      exact ih l1 (l2 + (1)) _
set_option maxHeartbeats 4000000 in
set_option maxRecDepth 100000 in
theorem s_X8_endMonth {E : EV} (th : Nat) (a1 : Int32) (h : HS) : Sim E mi_X8_endMonth (fin oV) 0 0 0 (largs 0 [lvR (some th), lvI a1]) [] h (m_X8_endMonth th a1 h) := by
  unfold m_X8_endMonth
  refine si_iload_n 1 dX8_endMonth_0 rfl rfl ?_
  refine si_iconst (v := 0) dX8_endMonth_1 (by decide) ?_
  refine si_bipush (v := 49) dX8_endMonth_2 (by decide) ?_
  refine si_csI [lvI (a1), lvI ((0 : Int32)), lvI ((49 : Int32))] dX8_endMonth_4 rfl mc_X8_isWithin ml_X8_63 st_X8_isWithin rfl ⟨Nat.le_of_ble_eq_true rfl, Nat.le_of_ble_eq_true rfl, Nat.le_of_ble_eq_true rfl, Nat.le_of_ble_eq_true rfl⟩ (Nat.le_of_ble_eq_true rfl) (fun _ hq => ct_X8_isWithin _ _ hq) (fun q1 => ?_)
  refine si_if_ne 11 dX8_endMonth_7 (by decide) ?_ ?_
  · exact si_vret dX8_endMonth_10 rfl (Nat.le_of_ble_eq_true rfl) (Nat.le_of_ble_eq_true rfl)
  · refine si_aload_n 0 dX8_endMonth_11 rfl rfl ?_
    refine si_gR 9 6 fl_X8_45 dX8_endMonth_12 (by decide) rfl (fun x2 => ?_)
    refine si_iload_n 1 dX8_endMonth_15 rfl rfl ?_
    refine si_aload_n 0 dX8_endMonth_16 rfl rfl ?_
    refine si_gR 9 7 fl_X8_52 dX8_endMonth_17 (by decide) rfl (fun x3 => ?_)
    refine si_rs 205 4 (by decide) (Or.inl ⟨rfl, rfl⟩) dX8_endMonth_20 (fun h4 => ?_)
    refine si_iconst (v := 0) dX8_endMonth_21 (by decide) ?_
    refine si_istore_n 2 dX8_endMonth_22 rfl (by decide) ?_
    refine si_widen 0 0 (Nat.le_of_ble_eq_true rfl) (Nat.le_of_ble_eq_true rfl) ?_
    refine si_lo [(0, lvR (some th)), (1, lvI (a1)), (2, lvI ((0 : Int32)))] ⟨rfl, rfl, rfl, trivial⟩ ?_
    exact X8_endMonth_L23_s th FU a1 ((0 : Int32)) _
theorem ct_X8_endMonth (l : Launch) (G : GG) {th : Nat} {a1 : Int32} {h : HS} {q : HS} (hq : m_X8_endMonth th a1 h = some q) : Ct l yX8_endMonth mi_X8_endMonth G [lvR (some th), lvI a1] h (oV q) := Ct.of (out := oV) (by decide +kernel) rfl rfl (Nat.le_of_ble_eq_true rfl) hq (fun _ _ _ _ _ _ _ _ => s_X8_endMonth th a1 h)
set_option maxHeartbeats 4000000 in
set_option maxRecDepth 100000 in
theorem X8_passWeek_b103_s {E : EV} (th : Nat) (go49 : Int32 → HS → Option (HS)) (hg49 : ∀ (l1 : Int32) (h : HS), Sim E mi_X8_passWeek (fin oV) 0 0 49 [(0, lvR (some th)), (1, lvI (l1))] [] h (go49 l1 h)) (l1 : Int32) (h : HS) : Sim E mi_X8_passWeek (fin oV) 0 0 103 [(0, lvR (some th)), (1, lvI (l1))] [] h (X8_passWeek_b103 th go49 l1 h) := by
  unfold X8_passWeek_b103
  refine si_iinc 1 (1) dX8_passWeek_103 rfl (by decide) (by decide) ?_
  refine si_goto 49 dX8_passWeek_106 (by decide) ?_
  refine si_widen 0 0 (Nat.le_of_ble_eq_true rfl) (Nat.le_of_ble_eq_true rfl) ?_
  refine si_lo [(0, lvR (some th)), (1, lvI (l1 + (1)))] ⟨rfl, rfl, trivial⟩ ?_
  exact hg49 (l1 + (1)) _
set_option maxHeartbeats 4000000 in
set_option maxRecDepth 100000 in
theorem X8_passWeek_L49_s {E : EV} (th : Nat) (n : Nat) : ∀ (l1 : Int32) (h : HS), Sim E mi_X8_passWeek (fin oV) 0 0 49 [(0, lvR (some th)), (1, lvI (l1))] [] h (X8_passWeek_L49 th n l1 h) := by
  induction n with
  | zero => intro l1 h; exact si_none
  | succ n ih =>
    intro l1 h
    unfold X8_passWeek_L49
    refine si_iload_n 1 dX8_passWeek_49 rfl rfl ?_
    refine si_aload_n 0 dX8_passWeek_50 rfl rfl ?_
    refine si_gR 9 2 fl_X8_19 dX8_passWeek_51 (by decide) rfl (fun x1 => ?_)
    refine si_cvI 0 [] dX8_passWeek_54 rfl mc_Jx4a65c_size_8abf5 ml_X8_67 im_Jx4a65c_size_8abf5 rfl se_Jx4a65c_size_8abf5 (by decide) rfl ⟨Nat.le_of_ble_eq_true rfl, Nat.le_of_ble_eq_true rfl, Nat.le_of_ble_eq_true rfl, Nat.le_of_ble_eq_true rfl⟩ (Nat.le_of_ble_eq_true rfl) (fun _ _ hq => ct_Jx4a65c_size_8abf5 _ _ hq) (fun q2 => ?_)
    refine si_icmp_ge 109 dX8_passWeek_57 (by decide) ?_ ?_
    · refine si_aload_n 0 dX8_passWeek_109 rfl rfl ?_
      refine si_gI 9 9 fl_X8_60 dX8_passWeek_110 (by decide) rfl (fun x4 => ?_)
      refine si_iconst (v := 4) dX8_passWeek_113 (by decide) ?_
      refine si_irem dX8_passWeek_114 (by decide) ?_
      refine si_if_ne 130 dX8_passWeek_115 (by decide) ?_ ?_
      · refine si_aload_n 0 dX8_passWeek_118 rfl rfl ?_
        refine si_aload_n 0 dX8_passWeek_119 rfl rfl ?_
        refine si_gI 9 9 fl_X8_60 dX8_passWeek_120 (by decide) rfl (fun x5 => ?_)
        refine si_iconst (v := 4) dX8_passWeek_123 (by decide) ?_
        refine si_idiv dX8_passWeek_124 (by decide) ?_
        refine si_iconst (v := 1) dX8_passWeek_125 (by decide) ?_
        refine si_isub dX8_passWeek_126 ?_
        refine si_cvV 9 [lvI ((x5 / (4 : Int32)) - (1 : Int32))] dX8_passWeek_127 rfl mc_X8_endMonth ml_X8_244 im_X8_endMonth rfl se_X8_endMonth (by decide) rfl ⟨Nat.le_of_ble_eq_true rfl, Nat.le_of_ble_eq_true rfl, Nat.le_of_ble_eq_true rfl, Nat.le_of_ble_eq_true rfl⟩ (Nat.le_of_ble_eq_true rfl) (fun _ _ hq => ct_X8_endMonth _ _ hq) (fun h6 => ?_)
        exact si_vret dX8_passWeek_130 rfl (Nat.le_of_ble_eq_true rfl) (Nat.le_of_ble_eq_true rfl)
      · exact si_vret dX8_passWeek_130 rfl (Nat.le_of_ble_eq_true rfl) (Nat.le_of_ble_eq_true rfl)
    · refine si_aload_n 0 dX8_passWeek_60 rfl rfl ?_
      refine si_gR 9 2 fl_X8_19 dX8_passWeek_61 (by decide) rfl (fun x8 => ?_)
      refine si_iload_n 1 dX8_passWeek_64 rfl rfl ?_
      refine si_cvR 0 [lvI (l1)] dX8_passWeek_65 rfl mc_Jx4a65c_get_915e3 ml_X8_114 im_Jx4a65c_get_915e3 rfl se_Jx4a65c_get_915e3 (by decide) rfl ⟨Nat.le_of_ble_eq_true rfl, Nat.le_of_ble_eq_true rfl, Nat.le_of_ble_eq_true rfl, Nat.le_of_ble_eq_true rfl⟩ (Nat.le_of_ble_eq_true rfl) (fun _ _ hq => ct_Jx4a65c_get_915e3 _ _ hq) (fun q9 => ?_)
      refine si_cast 1 rfl cl_X8_118 dX8_passWeek_68 (by decide) ?_
      refine si_astore_n 2 dX8_passWeek_71 rfl (by decide) ?_
      refine si_aload_n 2 dX8_passWeek_72 rfl rfl ?_
      refine si_aload_n 0 dX8_passWeek_73 rfl rfl ?_
      refine si_gI 9 9 fl_X8_60 dX8_passWeek_74 (by decide) rfl (fun x11 => ?_)
      refine si_cvI 1 [lvI (x11)] dX8_passWeek_77 rfl mc_X0_runsIn ml_X8_194 im_X0_runsIn rfl se_X0_runsIn (by decide) rfl ⟨Nat.le_of_ble_eq_true rfl, Nat.le_of_ble_eq_true rfl, Nat.le_of_ble_eq_true rfl, Nat.le_of_ble_eq_true rfl⟩ (Nat.le_of_ble_eq_true rfl) (fun _ _ hq => ct_X0_runsIn _ _ hq) (fun q12 => ?_)
      refine si_if_eq 103 dX8_passWeek_80 (by decide) ?_ ?_
      · refine si_widen 0 0 (Nat.le_of_ble_eq_true rfl) (Nat.le_of_ble_eq_true rfl) ?_
        refine si_lo [(0, lvR (some th)), (1, lvI (l1))] ⟨rfl, rfl, trivial⟩ ?_
        exact X8_passWeek_b103_s th (X8_passWeek_L49 th n) ih l1 _
      · refine si_aload_n 2 dX8_passWeek_83 rfl rfl ?_
        refine si_aload_n 0 dX8_passWeek_84 rfl rfl ?_
        refine si_gI 9 9 fl_X8_60 dX8_passWeek_85 (by decide) rfl (fun x14 => ?_)
        refine si_cvV 1 [lvI (x14)] dX8_passWeek_88 rfl mc_X0_receive ml_X8_238 im_X0_receive rfl se_X0_receive (by decide) rfl ⟨Nat.le_of_ble_eq_true rfl, Nat.le_of_ble_eq_true rfl, Nat.le_of_ble_eq_true rfl, Nat.le_of_ble_eq_true rfl⟩ (Nat.le_of_ble_eq_true rfl) (fun _ _ hq => ct_X0_receive _ _ hq) (fun h15 => ?_)
        refine si_aload_n 2 dX8_passWeek_91 rfl rfl ?_
        refine si_aload_n 0 dX8_passWeek_92 rfl rfl ?_
        refine si_gI 9 9 fl_X8_60 dX8_passWeek_93 (by decide) rfl (fun x17 => ?_)
        refine si_iconst (v := 1) dX8_passWeek_96 (by decide) ?_
        refine si_isub dX8_passWeek_97 ?_
        refine si_iconst (v := 4) dX8_passWeek_98 (by decide) ?_
        refine si_idiv dX8_passWeek_99 (by decide) ?_
        refine si_cvV 1 [lvI ((x17 - (1 : Int32)) / (4 : Int32))] dX8_passWeek_100 rfl mc_X0_print ml_X8_241 im_X0_print rfl se_X0_print (by decide) rfl ⟨Nat.le_of_ble_eq_true rfl, Nat.le_of_ble_eq_true rfl, Nat.le_of_ble_eq_true rfl, Nat.le_of_ble_eq_true rfl⟩ (Nat.le_of_ble_eq_true rfl) (fun _ _ hq => ct_X0_print _ _ hq) (fun h18 => ?_)
        refine si_widen 0 0 (Nat.le_of_ble_eq_true rfl) (Nat.le_of_ble_eq_true rfl) ?_
        refine si_lo [(0, lvR (some th)), (1, lvI (l1))] ⟨rfl, rfl, trivial⟩ ?_
        exact X8_passWeek_b103_s th (X8_passWeek_L49 th n) ih l1 _
set_option maxHeartbeats 4000000 in
set_option maxRecDepth 100000 in
theorem X8_passWeek_L12_s {E : EV} (th : Nat) (n : Nat) : ∀ (l1 : Int32) (h : HS), Sim E mi_X8_passWeek (fin oV) 0 0 12 [(0, lvR (some th)), (1, lvI (l1))] [] h (X8_passWeek_L12 th n l1 h) := by
  induction n with
  | zero => intro l1 h; exact si_none
  | succ n ih =>
    intro l1 h
    unfold X8_passWeek_L12
    refine si_iload_n 1 dX8_passWeek_12 rfl rfl ?_
    refine si_aload_n 0 dX8_passWeek_13 rfl rfl ?_
    refine si_gR 9 0 fl_X8_12 dX8_passWeek_14 (by decide) rfl (fun x1 => ?_)
    refine si_cvI 0 [] dX8_passWeek_17 rfl mc_Jx4a65c_size_8abf5 ml_X8_67 im_Jx4a65c_size_8abf5 rfl se_Jx4a65c_size_8abf5 (by decide) rfl ⟨Nat.le_of_ble_eq_true rfl, Nat.le_of_ble_eq_true rfl, Nat.le_of_ble_eq_true rfl, Nat.le_of_ble_eq_true rfl⟩ (Nat.le_of_ble_eq_true rfl) (fun _ _ hq => ct_Jx4a65c_size_8abf5 _ _ hq) (fun q2 => ?_)
    refine si_icmp_ge 47 dX8_passWeek_20 (by decide) ?_ ?_
    · refine si_iconst (v := 0) dX8_passWeek_47 (by decide) ?_
      refine si_istore_n 1 dX8_passWeek_48 rfl (by decide) ?_
      refine si_widen 0 0 (Nat.le_of_ble_eq_true rfl) (Nat.le_of_ble_eq_true rfl) ?_
      refine si_lo [(0, lvR (some th)), (1, lvI ((0 : Int32)))] ⟨rfl, rfl, trivial⟩ ?_
      exact X8_passWeek_L49_s th FU ((0 : Int32)) _
    · refine si_aload_n 0 dX8_passWeek_23 rfl rfl ?_
      refine si_gR 9 0 fl_X8_12 dX8_passWeek_24 (by decide) rfl (fun x4 => ?_)
      refine si_iload_n 1 dX8_passWeek_27 rfl rfl ?_
      refine si_cvR 0 [lvI (l1)] dX8_passWeek_28 rfl mc_Jx4a65c_get_915e3 ml_X8_114 im_Jx4a65c_get_915e3 rfl se_Jx4a65c_get_915e3 (by decide) rfl ⟨Nat.le_of_ble_eq_true rfl, Nat.le_of_ble_eq_true rfl, Nat.le_of_ble_eq_true rfl, Nat.le_of_ble_eq_true rfl⟩ (Nat.le_of_ble_eq_true rfl) (fun _ _ hq => ct_Jx4a65c_get_915e3 _ _ hq) (fun q5 => ?_)
      refine si_cast 2 rfl cl_X8_71 dX8_passWeek_31 (by decide) ?_
      refine si_aload_n 0 dX8_passWeek_34 rfl rfl ?_
      refine si_gI 9 9 fl_X8_60 dX8_passWeek_35 (by decide) rfl (fun x7 => ?_)
      refine si_cvV 2 [lvI (x7)] dX8_passWeek_38 rfl mc_X1_draw ml_X8_235 im_X1_draw rfl se_X1_draw (by decide) rfl ⟨Nat.le_of_ble_eq_true rfl, Nat.le_of_ble_eq_true rfl, Nat.le_of_ble_eq_true rfl, Nat.le_of_ble_eq_true rfl⟩ (Nat.le_of_ble_eq_true rfl) (fun _ _ hq => ct_X1_draw _ _ hq) (fun h8 => ?_)
      refine si_iinc 1 (1) dX8_passWeek_41 rfl (by decide) (by decide) ?_
      refine si_goto 12 dX8_passWeek_44 (by decide) ?_
      refine si_widen 0 0 (Nat.le_of_ble_eq_true rfl) (Nat.le_of_ble_eq_true rfl) ?_
      refine si_lo [(0, lvR (some th)), (1, lvI (l1 + (1)))] ⟨rfl, rfl, trivial⟩ ?_
      exact ih (l1 + (1)) _
set_option maxHeartbeats 4000000 in
set_option maxRecDepth 100000 in
theorem s_X8_passWeek {E : EV} (th : Nat) (h : HS) : Sim E mi_X8_passWeek (fin oV) 0 0 0 (largs 0 [lvR (some th)]) [] h (m_X8_passWeek th h) := by
  unfold m_X8_passWeek
  refine si_aload_n 0 dX8_passWeek_0 rfl rfl ?_
  refine si_dup dX8_passWeek_1 (cat_rf _) ?_
  refine si_gI 9 9 fl_X8_60 dX8_passWeek_2 (by decide) rfl (fun x1 => ?_)
  refine si_iconst (v := 1) dX8_passWeek_5 (by decide) ?_
  refine si_iadd dX8_passWeek_6 ?_
  refine si_pI 9 9 fl_X8_60 dX8_passWeek_7 (by decide) rfl rfl rfl (fw_X8_60 _) (fun h2 => ?_)
  refine si_iconst (v := 0) dX8_passWeek_10 (by decide) ?_
  refine si_istore_n 1 dX8_passWeek_11 rfl (by decide) ?_
  refine si_widen 0 0 (Nat.le_of_ble_eq_true rfl) (Nat.le_of_ble_eq_true rfl) ?_
  refine si_lo [(0, lvR (some th)), (1, lvI ((0 : Int32)))] ⟨rfl, rfl, trivial⟩ ?_
  exact X8_passWeek_L12_s th FU ((0 : Int32)) _
theorem ct_X8_passWeek (l : Launch) (G : GG) {th : Nat} {h : HS} {q : HS} (hq : m_X8_passWeek th h = some q) : Ct l yX8_passWeek mi_X8_passWeek G [lvR (some th)] h (oV q) := Ct.of (out := oV) (by decide +kernel) rfl rfl (Nat.le_of_ble_eq_true rfl) hq (fun _ _ _ _ _ _ _ _ => s_X8_passWeek th h)
set_option maxHeartbeats 4000000 in
set_option maxRecDepth 100000 in
theorem X8_weeks_L26_s {E : EV} (th : Nat) (n : Nat) : ∀ (l1 : Int32) (l2 : Int32) (h : HS), Sim E mi_X8_weeks (fin oI) 0 0 26 [(0, lvR (some th)), (1, lvI (l1)), (2, lvI (l2))] [] h (X8_weeks_L26 th n l1 l2 h) := by
  induction n with
  | zero => intro l1 l2 h; exact si_none
  | succ n ih =>
    intro l1 l2 h
    unfold X8_weeks_L26
    refine si_iload_n 2 dX8_weeks_26 rfl rfl ?_
    refine si_iload_n 1 dX8_weeks_27 rfl rfl ?_
    refine si_icmp_ge 41 dX8_weeks_28 (by decide) ?_ ?_
    · refine si_aload_n 0 dX8_weeks_41 rfl rfl ?_
      refine si_gI 9 9 fl_X8_60 dX8_weeks_42 (by decide) rfl (fun x1 => ?_)
      exact si_iret dX8_weeks_45 rfl (Nat.le_of_ble_eq_true rfl) (Nat.le_of_ble_eq_true rfl)
    · refine si_aload_n 0 dX8_weeks_31 rfl rfl ?_
      refine si_cvV 9 [] dX8_weeks_32 rfl mc_X8_passWeek ml_X8_166 im_X8_passWeek rfl se_X8_passWeek (by decide) rfl ⟨Nat.le_of_ble_eq_true rfl, Nat.le_of_ble_eq_true rfl, Nat.le_of_ble_eq_true rfl, Nat.le_of_ble_eq_true rfl⟩ (Nat.le_of_ble_eq_true rfl) (fun _ _ hq => ct_X8_passWeek _ _ hq) (fun h2 => ?_)
      refine si_iinc 2 (1) dX8_weeks_35 rfl (by decide) (by decide) ?_
      refine si_goto 26 dX8_weeks_38 (by decide) ?_
      refine si_widen 0 0 (Nat.le_of_ble_eq_true rfl) (Nat.le_of_ble_eq_true rfl) ?_
      refine si_lo [(0, lvR (some th)), (1, lvI (l1)), (2, lvI (l2 + (1)))] ⟨rfl, rfl, rfl, trivial⟩ ?_
      exact ih l1 (l2 + (1)) _
set_option maxHeartbeats 4000000 in
set_option maxRecDepth 100000 in
theorem s_X8_weeks {E : EV} (th : Nat) (a1 : Int32) (h : HS) : Sim E mi_X8_weeks (fin oI) 0 0 0 (largs 0 [lvR (some th), lvI a1]) [] h (m_X8_weeks th a1 h) := by
  unfold m_X8_weeks
  refine si_iload_n 1 dX8_weeks_0 rfl rfl ?_
  refine si_iconst (v := 0) dX8_weeks_1 (by decide) ?_
  refine si_bipush (v := 30) dX8_weeks_2 (by decide) ?_
  refine si_csI [lvI (a1), lvI ((0 : Int32)), lvI ((30 : Int32))] dX8_weeks_4 rfl mc_X8_isWithin ml_X8_63 st_X8_isWithin rfl ⟨Nat.le_of_ble_eq_true rfl, Nat.le_of_ble_eq_true rfl, Nat.le_of_ble_eq_true rfl, Nat.le_of_ble_eq_true rfl⟩ (Nat.le_of_ble_eq_true rfl) (fun _ hq => ct_X8_isWithin _ _ hq) (fun q1 => ?_)
  refine si_if_eq 22 dX8_weeks_7 (by decide) ?_ ?_
  · refine si_iconst (v := -1) dX8_weeks_22 (by decide) ?_
    exact si_iret dX8_weeks_23 rfl (Nat.le_of_ble_eq_true rfl) (Nat.le_of_ble_eq_true rfl)
  · refine si_aload_n 0 dX8_weeks_10 rfl rfl ?_
    refine si_gI 9 9 fl_X8_60 dX8_weeks_11 (by decide) rfl (fun x2 => ?_)
    refine si_iload_n 1 dX8_weeks_14 rfl rfl ?_
    refine si_iadd dX8_weeks_15 ?_
    refine si_sipush (v := 200) dX8_weeks_16 (by decide) ?_
    refine si_icmp_le 24 dX8_weeks_19 (by decide) ?_ ?_
    · refine si_iconst (v := 0) dX8_weeks_24 (by decide) ?_
      refine si_istore_n 2 dX8_weeks_25 rfl (by decide) ?_
      refine si_widen 0 0 (Nat.le_of_ble_eq_true rfl) (Nat.le_of_ble_eq_true rfl) ?_
      refine si_lo [(0, lvR (some th)), (1, lvI (a1)), (2, lvI ((0 : Int32)))] ⟨rfl, rfl, rfl, trivial⟩ ?_
      exact X8_weeks_L26_s th FU a1 ((0 : Int32)) _
    · refine si_iconst (v := -1) dX8_weeks_22 (by decide) ?_
      exact si_iret dX8_weeks_23 rfl (Nat.le_of_ble_eq_true rfl) (Nat.le_of_ble_eq_true rfl)
theorem ct_X8_weeks (l : Launch) (G : GG) {th : Nat} {a1 : Int32} {h : HS} {q : Int32 × HS} (hq : m_X8_weeks th a1 h = some q) : Ct l yX8_weeks mi_X8_weeks G [lvR (some th), lvI a1] h (oI q) := Ct.of (out := oI) (by decide +kernel) rfl rfl (Nat.le_of_ble_eq_true rfl) hq (fun _ _ _ _ _ _ _ _ => s_X8_weeks th a1 h)
set_option maxHeartbeats 4000000 in
set_option maxRecDepth 100000 in
theorem s_X8_feed {E : EV} (th : Nat) (a1 : Int64) (a2 : Int64) (a3 : Int64) (h : HS) : Sim E mi_X8_feed (fin oI) 0 0 0 (largs 0 [lvR (some th), lvJ a1, lvJ a2, lvJ a3]) [] h (m_X8_feed th a1 a2 a3 h) := by
  unfold m_X8_feed
  refine si_aload_n 0 dX8_feed_0 rfl rfl ?_
  refine si_gR 9 3 fl_X8_25 dX8_feed_1 (by decide) rfl (fun x1 => ?_)
  refine si_lload_n 1 dX8_feed_4 rfl rfl ?_
  refine si_cvV 6 [lvJ (a1)] dX8_feed_5 rfl mc_X5_addBytes ml_X8_169 im_X5_addBytes rfl se_X5_addBytes (by decide) rfl ⟨Nat.le_of_ble_eq_true rfl, Nat.le_of_ble_eq_true rfl, Nat.le_of_ble_eq_true rfl, Nat.le_of_ble_eq_true rfl⟩ (Nat.le_of_ble_eq_true rfl) (fun _ _ hq => ct_X5_addBytes _ _ hq) (fun h2 => ?_)
  refine si_aload_n 0 dX8_feed_8 rfl rfl ?_
  refine si_gR 9 3 fl_X8_25 dX8_feed_9 (by decide) rfl (fun x4 => ?_)
  refine si_lload_n 3 dX8_feed_12 rfl rfl ?_
  refine si_cvV 6 [lvJ (a2)] dX8_feed_13 rfl mc_X5_addBytes ml_X8_169 im_X5_addBytes rfl se_X5_addBytes (by decide) rfl ⟨Nat.le_of_ble_eq_true rfl, Nat.le_of_ble_eq_true rfl, Nat.le_of_ble_eq_true rfl, Nat.le_of_ble_eq_true rfl⟩ (Nat.le_of_ble_eq_true rfl) (fun _ _ hq => ct_X5_addBytes _ _ hq) (fun h5 => ?_)
  refine si_aload_n 0 dX8_feed_16 rfl rfl ?_
  refine si_gR 9 3 fl_X8_25 dX8_feed_17 (by decide) rfl (fun x7 => ?_)
  refine si_lload 5 dX8_feed_20 rfl ?_
  refine si_cvV 6 [lvJ (a3)] dX8_feed_22 rfl mc_X5_addBytes ml_X8_169 im_X5_addBytes rfl se_X5_addBytes (by decide) rfl ⟨Nat.le_of_ble_eq_true rfl, Nat.le_of_ble_eq_true rfl, Nat.le_of_ble_eq_true rfl, Nat.le_of_ble_eq_true rfl⟩ (Nat.le_of_ble_eq_true rfl) (fun _ _ hq => ct_X5_addBytes _ _ hq) (fun h8 => ?_)
  refine si_aload_n 0 dX8_feed_25 rfl rfl ?_
  refine si_gR 9 3 fl_X8_25 dX8_feed_26 (by decide) rfl (fun x10 => ?_)
  refine si_gI 6 1 fl_X8_173 dX8_feed_29 (by decide) rfl (fun x11 => ?_)
  exact si_iret dX8_feed_32 rfl (Nat.le_of_ble_eq_true rfl) (Nat.le_of_ble_eq_true rfl)
theorem ct_X8_feed (l : Launch) (G : GG) {th : Nat} {a1 : Int64} {a2 : Int64} {a3 : Int64} {h : HS} {q : Int32 × HS} (hq : m_X8_feed th a1 a2 a3 h = some q) : Ct l yX8_feed mi_X8_feed G [lvR (some th), lvJ a1, lvJ a2, lvJ a3] h (oI q) := Ct.of (out := oI) (by decide +kernel) rfl rfl (Nat.le_of_ble_eq_true rfl) hq (fun _ _ _ _ _ _ _ _ => s_X8_feed th a1 a2 a3 h)
set_option maxHeartbeats 4000000 in
set_option maxRecDepth 100000 in
theorem s_X8_panel {E : EV} (th : Nat) (a1 : Int32) (h : HS) : Sim E mi_X8_panel (fin oI) 0 0 0 (largs 0 [lvR (some th), lvI a1]) [] h (m_X8_panel th a1 h) := by
  unfold m_X8_panel
  refine si_aload_n 0 dX8_panel_0 rfl rfl ?_
  refine si_iload_n 1 dX8_panel_1 rfl rfl ?_
  refine si_cvR 9 [lvI (a1)] dX8_panel_2 rfl mc_X8_featureAt ml_X8_132 im_X8_featureAt rfl se_X8_featureAt (by decide) rfl ⟨Nat.le_of_ble_eq_true rfl, Nat.le_of_ble_eq_true rfl, Nat.le_of_ble_eq_true rfl, Nat.le_of_ble_eq_true rfl⟩ (Nat.le_of_ble_eq_true rfl) (fun _ _ hq => ct_X8_featureAt _ _ hq) (fun q1 => ?_)
  refine si_astore_n 2 dX8_panel_5 rfl (by decide) ?_
  refine si_aload_n 2 dX8_panel_6 rfl rfl ?_
  refine si_ifnonnull 14 dX8_panel_7 (by decide) ?_ ?_
  · refine si_iconst (v := -1) dX8_panel_10 (by decide) ?_
    refine si_goto 18 dX8_panel_11 (by decide) ?_
    exact si_iret dX8_panel_18 rfl (Nat.le_of_ble_eq_true rfl) (Nat.le_of_ble_eq_true rfl)
  · refine si_aload_n 2 dX8_panel_14 rfl rfl ?_
    refine si_gI 2 6 fl_X8_212 dX8_panel_15 (by decide) rfl (fun x3 => ?_)
    exact si_iret dX8_panel_18 rfl (Nat.le_of_ble_eq_true rfl) (Nat.le_of_ble_eq_true rfl)
theorem ct_X8_panel (l : Launch) (G : GG) {th : Nat} {a1 : Int32} {h : HS} {q : Int32 × HS} (hq : m_X8_panel th a1 h = some q) : Ct l yX8_panel mi_X8_panel G [lvR (some th), lvI a1] h (oI q) := Ct.of (out := oI) (by decide +kernel) rfl rfl (Nat.le_of_ble_eq_true rfl) hq (fun _ _ _ _ _ _ _ _ => s_X8_panel th a1 h)
set_option maxHeartbeats 4000000 in
set_option maxRecDepth 100000 in
theorem s_X8_share {E : EV} (th : Nat) (a1 : Int32) (a2 : Int32) (h : HS) : Sim E mi_X8_share (fin oI) 0 0 0 (largs 0 [lvR (some th), lvI a1, lvI a2]) [] h (m_X8_share th a1 a2 h) := by
  unfold m_X8_share
  refine si_aload_n 0 dX8_share_0 rfl rfl ?_
  refine si_iload_n 1 dX8_share_1 rfl rfl ?_
  refine si_cvR 9 [lvI (a1)] dX8_share_2 rfl mc_X8_featureAt ml_X8_132 im_X8_featureAt rfl se_X8_featureAt (by decide) rfl ⟨Nat.le_of_ble_eq_true rfl, Nat.le_of_ble_eq_true rfl, Nat.le_of_ble_eq_true rfl, Nat.le_of_ble_eq_true rfl⟩ (Nat.le_of_ble_eq_true rfl) (fun _ _ hq => ct_X8_featureAt _ _ hq) (fun q1 => ?_)
  refine si_astore_n 3 dX8_share_5 rfl (by decide) ?_
  refine si_aload_n 3 dX8_share_6 rfl rfl ?_
  refine si_ifnull 19 dX8_share_7 (by decide) ?_ ?_
  · refine si_iconst (v := -1) dX8_share_19 (by decide) ?_
    exact si_iret dX8_share_20 rfl (Nat.le_of_ble_eq_true rfl) (Nat.le_of_ble_eq_true rfl)
  · refine si_iload_n 2 dX8_share_10 rfl rfl ?_
    refine si_iconst (v := 0) dX8_share_11 (by decide) ?_
    refine si_iconst (v := 2) dX8_share_12 (by decide) ?_
    refine si_csI [lvI (a2), lvI ((0 : Int32)), lvI ((2 : Int32))] dX8_share_13 rfl mc_X8_isWithin ml_X8_63 st_X8_isWithin rfl ⟨Nat.le_of_ble_eq_true rfl, Nat.le_of_ble_eq_true rfl, Nat.le_of_ble_eq_true rfl, Nat.le_of_ble_eq_true rfl⟩ (Nat.le_of_ble_eq_true rfl) (fun _ hq => ct_X8_isWithin _ _ hq) (fun q3 => ?_)
    refine si_if_ne 21 dX8_share_16 (by decide) ?_ ?_
    · refine si_iconst (v := -1) dX8_share_19 (by decide) ?_
      exact si_iret dX8_share_20 rfl (Nat.le_of_ble_eq_true rfl) (Nat.le_of_ble_eq_true rfl)
    · refine si_aload_n 3 dX8_share_21 rfl rfl ?_
      refine si_iload_n 2 dX8_share_22 rfl rfl ?_
      refine si_cvI 2 [lvI (a2)] dX8_share_23 rfl mc_X1_coinsOf ml_X8_218 im_X1_coinsOf rfl se_X1_coinsOf (by decide) rfl ⟨Nat.le_of_ble_eq_true rfl, Nat.le_of_ble_eq_true rfl, Nat.le_of_ble_eq_true rfl, Nat.le_of_ble_eq_true rfl⟩ (Nat.le_of_ble_eq_true rfl) (fun _ _ hq => ct_X1_coinsOf _ _ hq) (fun q4 => ?_)
      exact si_iret dX8_share_26 rfl (Nat.le_of_ble_eq_true rfl) (Nat.le_of_ble_eq_true rfl)
theorem ct_X8_share (l : Launch) (G : GG) {th : Nat} {a1 : Int32} {a2 : Int32} {h : HS} {q : Int32 × HS} (hq : m_X8_share th a1 a2 h = some q) : Ct l yX8_share mi_X8_share G [lvR (some th), lvI a1, lvI a2] h (oI q) := Ct.of (out := oI) (by decide +kernel) rfl rfl (Nat.le_of_ble_eq_true rfl) hq (fun _ _ _ _ _ _ _ _ => s_X8_share th a1 a2 h)
set_option maxHeartbeats 4000000 in
set_option maxRecDepth 100000 in
theorem s_X8_sells {E : EV} (th : Nat) (a1 : Int32) (a2 : Int32) (h : HS) : Sim E mi_X8_sells (fin oI) 0 0 0 (largs 0 [lvR (some th), lvI a1, lvI a2]) [] h (m_X8_sells th a1 a2 h) := by
  unfold m_X8_sells
  refine si_aload_n 0 dX8_sells_0 rfl rfl ?_
  refine si_iload_n 1 dX8_sells_1 rfl rfl ?_
  refine si_cvR 9 [lvI (a1)] dX8_sells_2 rfl mc_X8_paperAt ml_X8_93 im_X8_paperAt rfl se_X8_paperAt (by decide) rfl ⟨Nat.le_of_ble_eq_true rfl, Nat.le_of_ble_eq_true rfl, Nat.le_of_ble_eq_true rfl, Nat.le_of_ble_eq_true rfl⟩ (Nat.le_of_ble_eq_true rfl) (fun _ _ hq => ct_X8_paperAt _ _ hq) (fun q1 => ?_)
  refine si_astore_n 3 dX8_sells_5 rfl (by decide) ?_
  refine si_aload_n 3 dX8_sells_6 rfl rfl ?_
  refine si_ifnull 22 dX8_sells_7 (by decide) ?_ ?_
  · refine si_iconst (v := -1) dX8_sells_22 (by decide) ?_
    exact si_iret dX8_sells_23 rfl (Nat.le_of_ble_eq_true rfl) (Nat.le_of_ble_eq_true rfl)
  · refine si_iload_n 2 dX8_sells_10 rfl rfl ?_
    refine si_iconst (v := 0) dX8_sells_11 (by decide) ?_
    refine si_aload_n 0 dX8_sells_12 rfl rfl ?_
    refine si_cvI 9 [] dX8_sells_13 rfl mc_X8_runningMonth ml_X8_97 im_X8_runningMonth rfl se_X8_runningMonth (by decide) rfl ⟨Nat.le_of_ble_eq_true rfl, Nat.le_of_ble_eq_true rfl, Nat.le_of_ble_eq_true rfl, Nat.le_of_ble_eq_true rfl⟩ (Nat.le_of_ble_eq_true rfl) (fun _ _ hq => ct_X8_runningMonth _ _ hq) (fun q3 => ?_)
    refine si_csI [lvI (a2), lvI ((0 : Int32)), lvI (q3.1)] dX8_sells_16 rfl mc_X8_isWithin ml_X8_63 st_X8_isWithin rfl ⟨Nat.le_of_ble_eq_true rfl, Nat.le_of_ble_eq_true rfl, Nat.le_of_ble_eq_true rfl, Nat.le_of_ble_eq_true rfl⟩ (Nat.le_of_ble_eq_true rfl) (fun _ hq => ct_X8_isWithin _ _ hq) (fun q5 => ?_)
    refine si_if_ne 24 dX8_sells_19 (by decide) ?_ ?_
    · refine si_iconst (v := -1) dX8_sells_22 (by decide) ?_
      exact si_iret dX8_sells_23 rfl (Nat.le_of_ble_eq_true rfl) (Nat.le_of_ble_eq_true rfl)
    · refine si_aload_n 3 dX8_sells_24 rfl rfl ?_
      refine si_iload_n 2 dX8_sells_25 rfl rfl ?_
      refine si_cvI 3 [lvI (a2)] dX8_sells_26 rfl mc_X2_soldIn ml_X8_107 im_X2_soldIn rfl se_X2_soldIn (by decide) rfl ⟨Nat.le_of_ble_eq_true rfl, Nat.le_of_ble_eq_true rfl, Nat.le_of_ble_eq_true rfl, Nat.le_of_ble_eq_true rfl⟩ (Nat.le_of_ble_eq_true rfl) (fun _ _ hq => ct_X2_soldIn _ _ hq) (fun q6 => ?_)
      exact si_iret dX8_sells_29 rfl (Nat.le_of_ble_eq_true rfl) (Nat.le_of_ble_eq_true rfl)
theorem ct_X8_sells (l : Launch) (G : GG) {th : Nat} {a1 : Int32} {a2 : Int32} {h : HS} {q : Int32 × HS} (hq : m_X8_sells th a1 a2 h = some q) : Ct l yX8_sells mi_X8_sells G [lvR (some th), lvI a1, lvI a2] h (oI q) := Ct.of (out := oI) (by decide +kernel) rfl rfl (Nat.le_of_ble_eq_true rfl) hq (fun _ _ _ _ _ _ _ _ => s_X8_sells th a1 a2 h)
set_option maxHeartbeats 4000000 in
set_option maxRecDepth 100000 in
theorem X8_runningContracts_b41_s {E : EV} (th : Nat) (go4 : Int32 → Int32 → HS → Option (Int32 × HS)) (hg4 : ∀ (l1 : Int32) (l2 : Int32) (h : HS), Sim E mi_X8_runningContracts (fin oI) 0 0 4 [(0, lvR (some th)), (1, lvI (l1)), (2, lvI (l2))] [] h (go4 l1 l2 h)) (l1 : Int32) (l2 : Int32) (h : HS) : Sim E mi_X8_runningContracts (fin oI) 0 0 41 [(0, lvR (some th)), (1, lvI (l1)), (2, lvI (l2))] [] h (X8_runningContracts_b41 th go4 l1 l2 h) := by
  unfold X8_runningContracts_b41
  refine si_iinc 2 (1) dX8_runningContracts_41 rfl (by decide) (by decide) ?_
  refine si_goto 4 dX8_runningContracts_44 (by decide) ?_
  refine si_widen 0 0 (Nat.le_of_ble_eq_true rfl) (Nat.le_of_ble_eq_true rfl) ?_
  refine si_lo [(0, lvR (some th)), (1, lvI (l1)), (2, lvI (l2 + (1)))] ⟨rfl, rfl, rfl, trivial⟩ ?_
  exact hg4 l1 (l2 + (1)) _
set_option maxHeartbeats 4000000 in
set_option maxRecDepth 100000 in
theorem X8_runningContracts_L4_s {E : EV} (th : Nat) (n : Nat) : ∀ (l1 : Int32) (l2 : Int32) (h : HS), Sim E mi_X8_runningContracts (fin oI) 0 0 4 [(0, lvR (some th)), (1, lvI (l1)), (2, lvI (l2))] [] h (X8_runningContracts_L4 th n l1 l2 h) := by
  induction n with
  | zero => intro l1 l2 h; exact si_none
  | succ n ih =>
    intro l1 l2 h
    unfold X8_runningContracts_L4
    refine si_iload_n 2 dX8_runningContracts_4 rfl rfl ?_
    refine si_aload_n 0 dX8_runningContracts_5 rfl rfl ?_
    refine si_gR 9 2 fl_X8_19 dX8_runningContracts_6 (by decide) rfl (fun x1 => ?_)
    refine si_cvI 0 [] dX8_runningContracts_9 rfl mc_Jx4a65c_size_8abf5 ml_X8_67 im_Jx4a65c_size_8abf5 rfl se_Jx4a65c_size_8abf5 (by decide) rfl ⟨Nat.le_of_ble_eq_true rfl, Nat.le_of_ble_eq_true rfl, Nat.le_of_ble_eq_true rfl, Nat.le_of_ble_eq_true rfl⟩ (Nat.le_of_ble_eq_true rfl) (fun _ _ hq => ct_Jx4a65c_size_8abf5 _ _ hq) (fun q2 => ?_)
    refine si_icmp_ge 47 dX8_runningContracts_12 (by decide) ?_ ?_
    · refine si_iload_n 1 dX8_runningContracts_47 rfl rfl ?_
      exact si_iret dX8_runningContracts_48 rfl (Nat.le_of_ble_eq_true rfl) (Nat.le_of_ble_eq_true rfl)
    · refine si_aload_n 0 dX8_runningContracts_15 rfl rfl ?_
      refine si_gR 9 2 fl_X8_19 dX8_runningContracts_16 (by decide) rfl (fun x4 => ?_)
      refine si_iload_n 2 dX8_runningContracts_19 rfl rfl ?_
      refine si_cvR 0 [lvI (l2)] dX8_runningContracts_20 rfl mc_Jx4a65c_get_915e3 ml_X8_114 im_Jx4a65c_get_915e3 rfl se_Jx4a65c_get_915e3 (by decide) rfl ⟨Nat.le_of_ble_eq_true rfl, Nat.le_of_ble_eq_true rfl, Nat.le_of_ble_eq_true rfl, Nat.le_of_ble_eq_true rfl⟩ (Nat.le_of_ble_eq_true rfl) (fun _ _ hq => ct_Jx4a65c_get_915e3 _ _ hq) (fun q5 => ?_)
      refine si_cast 1 rfl cl_X8_118 dX8_runningContracts_23 (by decide) ?_
      refine si_aload_n 0 dX8_runningContracts_26 rfl rfl ?_
      refine si_gI 9 9 fl_X8_60 dX8_runningContracts_27 (by decide) rfl (fun x7 => ?_)
      refine si_iconst (v := 1) dX8_runningContracts_30 (by decide) ?_
      refine si_iadd dX8_runningContracts_31 ?_
      refine si_cvI 1 [lvI (x7 + (1 : Int32))] dX8_runningContracts_32 rfl mc_X0_runsIn ml_X8_194 im_X0_runsIn rfl se_X0_runsIn (by decide) rfl ⟨Nat.le_of_ble_eq_true rfl, Nat.le_of_ble_eq_true rfl, Nat.le_of_ble_eq_true rfl, Nat.le_of_ble_eq_true rfl⟩ (Nat.le_of_ble_eq_true rfl) (fun _ _ hq => ct_X0_runsIn _ _ hq) (fun q8 => ?_)
      refine si_if_eq 41 dX8_runningContracts_35 (by decide) ?_ ?_
      · refine si_widen 0 0 (Nat.le_of_ble_eq_true rfl) (Nat.le_of_ble_eq_true rfl) ?_
        refine si_lo [(0, lvR (some th)), (1, lvI (l1)), (2, lvI (l2))] ⟨rfl, rfl, rfl, trivial⟩ ?_
        exact X8_runningContracts_b41_s th (X8_runningContracts_L4 th n) ih l1 l2 _
      · refine si_iinc 1 (1) dX8_runningContracts_38 rfl (by decide) (by decide) ?_
        refine si_widen 0 0 (Nat.le_of_ble_eq_true rfl) (Nat.le_of_ble_eq_true rfl) ?_
        refine si_lo [(0, lvR (some th)), (1, lvI (l1 + (1))), (2, lvI (l2))] ⟨rfl, rfl, rfl, trivial⟩ ?_
        exact X8_runningContracts_b41_s th (X8_runningContracts_L4 th n) ih (l1 + (1)) l2 _
set_option maxHeartbeats 4000000 in
set_option maxRecDepth 100000 in
theorem s_X8_runningContracts {E : EV} (th : Nat) (h : HS) : Sim E mi_X8_runningContracts (fin oI) 0 0 0 (largs 0 [lvR (some th)]) [] h (m_X8_runningContracts th h) := by
  unfold m_X8_runningContracts
  refine si_iconst (v := 0) dX8_runningContracts_0 (by decide) ?_
  refine si_istore_n 1 dX8_runningContracts_1 rfl (by decide) ?_
  refine si_iconst (v := 0) dX8_runningContracts_2 (by decide) ?_
  refine si_istore_n 2 dX8_runningContracts_3 rfl (by decide) ?_
  refine si_widen 0 0 (Nat.le_of_ble_eq_true rfl) (Nat.le_of_ble_eq_true rfl) ?_
  refine si_lo [(0, lvR (some th)), (1, lvI ((0 : Int32))), (2, lvI ((0 : Int32)))] ⟨rfl, rfl, rfl, trivial⟩ ?_
  exact X8_runningContracts_L4_s th FU ((0 : Int32)) ((0 : Int32)) _
theorem ct_X8_runningContracts (l : Launch) (G : GG) {th : Nat} {h : HS} {q : Int32 × HS} (hq : m_X8_runningContracts th h = some q) : Ct l yX8_runningContracts mi_X8_runningContracts G [lvR (some th)] h (oI q) := Ct.of (out := oI) (by decide +kernel) rfl rfl (Nat.le_of_ble_eq_true rfl) hq (fun _ _ _ _ _ _ _ _ => s_X8_runningContracts th h)
set_option maxHeartbeats 4000000 in
set_option maxRecDepth 100000 in
theorem s_X8_count {E : EV} (th : Nat) (a1 : Int32) (h : HS) : Sim E mi_X8_count (fin oI) 0 0 0 (largs 0 [lvR (some th), lvI a1]) [] h (m_X8_count th a1 h) := by
  unfold m_X8_count
  refine si_iload_n 1 dX8_count_0 rfl rfl ?_
  refine si_ite (fun e0 => ?_) (fun n0 => ?_)
  · refine si_tsIn (0) 48 e0 dX8_count_1 (by decide) (by decide) rfl (by decide) ?_
    refine si_aload_n 0 dX8_count_48 rfl rfl ?_
    refine si_gR 9 0 fl_X8_12 dX8_count_49 (by decide) rfl (fun x1 => ?_)
    refine si_cvI 0 [] dX8_count_52 rfl mc_Jx4a65c_size_8abf5 ml_X8_67 im_Jx4a65c_size_8abf5 rfl se_Jx4a65c_size_8abf5 (by decide) rfl ⟨Nat.le_of_ble_eq_true rfl, Nat.le_of_ble_eq_true rfl, Nat.le_of_ble_eq_true rfl, Nat.le_of_ble_eq_true rfl⟩ (Nat.le_of_ble_eq_true rfl) (fun _ _ hq => ct_Jx4a65c_size_8abf5 _ _ hq) (fun q2 => ?_)
    exact si_iret dX8_count_55 rfl (Nat.le_of_ble_eq_true rfl) (Nat.le_of_ble_eq_true rfl)
  refine si_ite (fun e1 => ?_) (fun n1 => ?_)
  · refine si_tsIn (1) 56 e1 dX8_count_1 (by decide) (by decide) rfl (by decide) ?_
    refine si_aload_n 0 dX8_count_56 rfl rfl ?_
    refine si_gR 9 1 fl_X8_16 dX8_count_57 (by decide) rfl (fun x4 => ?_)
    refine si_cvI 0 [] dX8_count_60 rfl mc_Jx4a65c_size_8abf5 ml_X8_67 im_Jx4a65c_size_8abf5 rfl se_Jx4a65c_size_8abf5 (by decide) rfl ⟨Nat.le_of_ble_eq_true rfl, Nat.le_of_ble_eq_true rfl, Nat.le_of_ble_eq_true rfl, Nat.le_of_ble_eq_true rfl⟩ (Nat.le_of_ble_eq_true rfl) (fun _ _ hq => ct_Jx4a65c_size_8abf5 _ _ hq) (fun q5 => ?_)
    exact si_iret dX8_count_63 rfl (Nat.le_of_ble_eq_true rfl) (Nat.le_of_ble_eq_true rfl)
  refine si_ite (fun e2 => ?_) (fun n2 => ?_)
  · refine si_tsIn (2) 64 e2 dX8_count_1 (by decide) (by decide) rfl (by decide) ?_
    refine si_aload_n 0 dX8_count_64 rfl rfl ?_
    refine si_gR 9 2 fl_X8_19 dX8_count_65 (by decide) rfl (fun x7 => ?_)
    refine si_cvI 0 [] dX8_count_68 rfl mc_Jx4a65c_size_8abf5 ml_X8_67 im_Jx4a65c_size_8abf5 rfl se_Jx4a65c_size_8abf5 (by decide) rfl ⟨Nat.le_of_ble_eq_true rfl, Nat.le_of_ble_eq_true rfl, Nat.le_of_ble_eq_true rfl, Nat.le_of_ble_eq_true rfl⟩ (Nat.le_of_ble_eq_true rfl) (fun _ _ hq => ct_Jx4a65c_size_8abf5 _ _ hq) (fun q8 => ?_)
    exact si_iret dX8_count_71 rfl (Nat.le_of_ble_eq_true rfl) (Nat.le_of_ble_eq_true rfl)
  refine si_ite (fun e3 => ?_) (fun n3 => ?_)
  · refine si_tsIn (3) 72 e3 dX8_count_1 (by decide) (by decide) rfl (by decide) ?_
    refine si_aload_n 0 dX8_count_72 rfl rfl ?_
    refine si_gI 9 9 fl_X8_60 dX8_count_73 (by decide) rfl (fun x10 => ?_)
    exact si_iret dX8_count_76 rfl (Nat.le_of_ble_eq_true rfl) (Nat.le_of_ble_eq_true rfl)
  refine si_ite (fun e4 => ?_) (fun n4 => ?_)
  · refine si_tsIn (4) 77 e4 dX8_count_1 (by decide) (by decide) rfl (by decide) ?_
    refine si_aload_n 0 dX8_count_77 rfl rfl ?_
    refine si_cvI 9 [] dX8_count_78 rfl mc_X8_runningContracts ml_X8_221 im_X8_runningContracts rfl se_X8_runningContracts (by decide) rfl ⟨Nat.le_of_ble_eq_true rfl, Nat.le_of_ble_eq_true rfl, Nat.le_of_ble_eq_true rfl, Nat.le_of_ble_eq_true rfl⟩ (Nat.le_of_ble_eq_true rfl) (fun _ _ hq => ct_X8_runningContracts _ _ hq) (fun q11 => ?_)
    exact si_iret dX8_count_81 rfl (Nat.le_of_ble_eq_true rfl) (Nat.le_of_ble_eq_true rfl)
  refine si_ite (fun e5 => ?_) (fun n5 => ?_)
  · refine si_tsIn (5) 82 e5 dX8_count_1 (by decide) (by decide) rfl (by decide) ?_
    refine si_aload_n 0 dX8_count_82 rfl rfl ?_
    refine si_gR 9 7 fl_X8_52 dX8_count_83 (by decide) rfl (fun x13 => ?_)
    refine si_gI 4 1 fl_X8_224 dX8_count_86 (by decide) rfl (fun x14 => ?_)
    exact si_iret dX8_count_89 rfl (Nat.le_of_ble_eq_true rfl) (Nat.le_of_ble_eq_true rfl)
  refine si_ite (fun e6 => ?_) (fun n6 => ?_)
  · refine si_tsIn (6) 90 e6 dX8_count_1 (by decide) (by decide) rfl (by decide) ?_
    refine si_aload_n 0 dX8_count_90 rfl rfl ?_
    refine si_gR 9 3 fl_X8_25 dX8_count_91 (by decide) rfl (fun x15 => ?_)
    refine si_gI 6 1 fl_X8_173 dX8_count_94 (by decide) rfl (fun x16 => ?_)
    exact si_iret dX8_count_97 rfl (Nat.le_of_ble_eq_true rfl) (Nat.le_of_ble_eq_true rfl)
  refine si_ite (fun e7 => ?_) (fun n7 => ?_)
  · refine si_tsIn (7) 98 e7 dX8_count_1 (by decide) (by decide) rfl (by decide) ?_
    refine si_aload_n 0 dX8_count_98 rfl rfl ?_
    refine si_gI 9 8 fl_X8_56 dX8_count_99 (by decide) rfl (fun x17 => ?_)
    exact si_iret dX8_count_102 rfl (Nat.le_of_ble_eq_true rfl) (Nat.le_of_ble_eq_true rfl)
  refine si_tsOut 103 dX8_count_1 (by have z0 := lv_neT n0 (a := 0) (by decide); have z1 := lv_neT n1 (a := 1) (by decide); have z2 := lv_neT n2 (a := 2) (by decide); have z3 := lv_neT n3 (a := 3) (by decide); have z4 := lv_neT n4 (a := 4) (by decide); have z5 := lv_neT n5 (a := 5) (by decide); have z6 := lv_neT n6 (a := 6) (by decide); have z7 := lv_neT n7 (a := 7) (by decide); omega) (by decide) ?_
  refine si_iconst (v := -1) dX8_count_103 (by decide) ?_
  exact si_iret dX8_count_104 rfl (Nat.le_of_ble_eq_true rfl) (Nat.le_of_ble_eq_true rfl)
theorem ct_X8_count (l : Launch) (G : GG) {th : Nat} {a1 : Int32} {h : HS} {q : Int32 × HS} (hq : m_X8_count th a1 h = some q) : Ct l yX8_count mi_X8_count G [lvR (some th), lvI a1] h (oI q) := Ct.of (out := oI) (by decide +kernel) rfl rfl (Nat.le_of_ble_eq_true rfl) hq (fun _ _ _ _ _ _ _ _ => s_X8_count th a1 h)
