set_option maxHeartbeats 4000000 in
set_option maxRecDepth 100000 in
theorem s_X9_thrown {E : EV} (th : Nat) (h : HS) : Sim E mi_X9_thrown (fin oI) 0 0 0 (largs 0 [lvR (some th)]) [] h (m_X9_thrown th h) := by
  unfold m_X9_thrown
  refine si_aload_n 0 dX9_thrown_0 rfl rfl ?_
  refine si_gI 10 0 fl_X9_1 dX9_thrown_1 (by decide) rfl (fun x1 => ?_)
  exact si_iret dX9_thrown_4 rfl (Nat.le_of_ble_eq_true rfl) (Nat.le_of_ble_eq_true rfl)
theorem ct_X9_thrown (l : Launch) (G : GG) {th : Nat} {h : HS} {q : Int32 × HS} (hq : m_X9_thrown th h = some q) : Ct l yX9_thrown mi_X9_thrown G [lvR (some th)] h (oI q) := Ct.of (out := oI) (by decide +kernel) rfl rfl (Nat.le_of_ble_eq_true rfl) hq (fun _ _ _ _ _ _ _ _ => s_X9_thrown th h)
set_option maxHeartbeats 4000000 in
set_option maxRecDepth 100000 in
theorem X9_lay_b69_s {E : EV} (th : Nat) (go3 : Int64 → Int32 → HS → Option (HS)) (hg3 : ∀ (l1 : Int64) (l3 : Int32) (h : HS), Sim E mi_X9_lay (fin oV) 0 0 3 [(0, lvR (some th)), (1, lvJ (l1)), (3, lvI (l3))] [] h (go3 l1 l3 h)) (l1 : Int64) (l3 : Int32) (h : HS) : Sim E mi_X9_lay (fin oV) 0 0 69 [(0, lvR (some th)), (1, lvJ (l1)), (3, lvI (l3))] [] h (X9_lay_b69 th go3 l1 l3 h) := by
  unfold X9_lay_b69
  refine si_iinc 3 (-8) dX9_lay_69 rfl (by decide) (by decide) ?_
  refine si_goto 3 dX9_lay_72 (by decide) ?_
  refine si_widen 0 0 (Nat.le_of_ble_eq_true rfl) (Nat.le_of_ble_eq_true rfl) ?_
  refine si_lo [(0, lvR (some th)), (1, lvJ (l1)), (3, lvI (l3 + (-8)))] ⟨rfl, rfl, rfl, trivial⟩ ?_
  exact hg3 l1 (l3 + (-8)) _
set_option maxHeartbeats 4000000 in
set_option maxRecDepth 100000 in
theorem X9_lay_b38_s {E : EV} (th : Nat) (go3 : Int64 → Int32 → HS → Option (HS)) (hg3 : ∀ (l1 : Int64) (l3 : Int32) (h : HS), Sim E mi_X9_lay (fin oV) 0 0 3 [(0, lvR (some th)), (1, lvJ (l1)), (3, lvI (l3))] [] h (go3 l1 l3 h)) (l1 : Int64) (l3 : Int32) (l4 : Int32) (h : HS) : Sim E mi_X9_lay (fin oV) 0 0 38 [(0, lvR (some th)), (1, lvJ (l1)), (3, lvI (l3)), (4, lvI (l4))] [] h (X9_lay_b38 th go3 l1 l3 l4 h) := by
  unfold X9_lay_b38
  refine si_aload_n 0 dX9_lay_38 rfl rfl ?_
  refine si_gI 10 2 fl_X9_11 dX9_lay_39 (by decide) rfl (fun x1 => ?_)
  refine si_sipush (v := 600) dX9_lay_42 (by decide) ?_
  refine si_icmp_ge 69 dX9_lay_45 (by decide) ?_ ?_
  · refine si_widen 0 0 (Nat.le_of_ble_eq_true rfl) (Nat.le_of_ble_eq_true rfl) ?_
    refine si_lo [(0, lvR (some th)), (1, lvJ (l1)), (3, lvI (l3))] ⟨rfl, rfl, rfl, trivial⟩ ?_
    exact X9_lay_b69_s th go3 hg3 l1 l3 _
  · refine si_aload_n 0 dX9_lay_48 rfl rfl ?_
    refine si_gR 10 1 fl_X9_14 dX9_lay_49 (by decide) rfl (fun x2 => ?_)
    refine si_aload_n 0 dX9_lay_52 rfl rfl ?_
    refine si_gI 10 2 fl_X9_11 dX9_lay_53 (by decide) rfl (fun x3 => ?_)
    refine si_iload 4 dX9_lay_56 rfl ?_
    refine si_is dX9_lay_58 (fun h4 => ?_)
    refine si_aload_n 0 dX9_lay_59 rfl rfl ?_
    refine si_dup dX9_lay_60 (cat_rf _) ?_
    refine si_gI 10 2 fl_X9_11 dX9_lay_61 (by decide) rfl (fun x5 => ?_)
    refine si_iconst (v := 1) dX9_lay_64 (by decide) ?_
    refine si_iadd dX9_lay_65 ?_
    refine si_pI 10 2 fl_X9_11 dX9_lay_66 (by decide) rfl rfl rfl (fw_X9_11 _) (fun h6 => ?_)
    refine si_widen 0 0 (Nat.le_of_ble_eq_true rfl) (Nat.le_of_ble_eq_true rfl) ?_
    refine si_lo [(0, lvR (some th)), (1, lvJ (l1)), (3, lvI (l3))] ⟨rfl, rfl, rfl, trivial⟩ ?_
    exact X9_lay_b69_s th go3 hg3 l1 l3 _
set_option maxHeartbeats 4000000 in
set_option maxRecDepth 100000 in
theorem X9_lay_L3_s {E : EV} (th : Nat) (n : Nat) : ∀ (l1 : Int64) (l3 : Int32) (h : HS), Sim E mi_X9_lay (fin oV) 0 0 3 [(0, lvR (some th)), (1, lvJ (l1)), (3, lvI (l3))] [] h (X9_lay_L3 th n l1 l3 h) := by
  induction n with
  | zero => intro l1 l3 h; exact si_none
  | succ n ih =>
    intro l1 l3 h
    unfold X9_lay_L3
    refine si_iload_n 3 dX9_lay_3 rfl rfl ?_
    refine si_if_lt 75 dX9_lay_4 (by decide) ?_ ?_
    · exact si_vret dX9_lay_75 rfl (Nat.le_of_ble_eq_true rfl) (Nat.le_of_ble_eq_true rfl)
    · refine si_lload_n 1 dX9_lay_7 rfl rfl ?_
      refine si_iload_n 3 dX9_lay_8 rfl rfl ?_
      refine si_lshr dX9_lay_9 ?_
      refine si_l2i dX9_lay_10 ?_
      refine si_sipush (v := 255) dX9_lay_11 (by decide) ?_
      refine si_iand dX9_lay_14 ?_
      refine si_istore 4 dX9_lay_15 (by decide) ?_
      refine si_iload 4 dX9_lay_17 rfl ?_
      refine si_bipush (v := 10) dX9_lay_19 (by decide) ?_
      refine si_icmp_eq 38 dX9_lay_21 (by decide) ?_ ?_
      · refine si_widen 0 0 (Nat.le_of_ble_eq_true rfl) (Nat.le_of_ble_eq_true rfl) ?_
        refine si_lo [(0, lvR (some th)), (1, lvJ (l1)), (3, lvI (l3)), (4, lvI (((lshr l1 l3).toInt32) &&& (255 : Int32)))] ⟨rfl, rfl, rfl, rfl, trivial⟩ ?_
        exact X9_lay_b38_s th (X9_lay_L3 th n) ih l1 l3 (((lshr l1 l3).toInt32) &&& (255 : Int32)) _
      · refine si_iload 4 dX9_lay_24 rfl ?_
        refine si_bipush (v := 32) dX9_lay_26 (by decide) ?_
        refine si_icmp_lt 69 dX9_lay_28 (by decide) ?_ ?_
        · refine si_widen 0 0 (Nat.le_of_ble_eq_true rfl) (Nat.le_of_ble_eq_true rfl) ?_
          refine si_lo [(0, lvR (some th)), (1, lvJ (l1)), (3, lvI (l3))] ⟨rfl, rfl, rfl, trivial⟩ ?_
          exact X9_lay_b69_s th (X9_lay_L3 th n) ih l1 l3 _
        · refine si_iload 4 dX9_lay_31 rfl ?_
          refine si_bipush (v := 126) dX9_lay_33 (by decide) ?_
          refine si_icmp_gt 69 dX9_lay_35 (by decide) ?_ ?_
          · refine si_widen 0 0 (Nat.le_of_ble_eq_true rfl) (Nat.le_of_ble_eq_true rfl) ?_
            refine si_lo [(0, lvR (some th)), (1, lvJ (l1)), (3, lvI (l3))] ⟨rfl, rfl, rfl, trivial⟩ ?_
            exact X9_lay_b69_s th (X9_lay_L3 th n) ih l1 l3 _
          · refine si_widen 0 0 (Nat.le_of_ble_eq_true rfl) (Nat.le_of_ble_eq_true rfl) ?_
            refine si_lo [(0, lvR (some th)), (1, lvJ (l1)), (3, lvI (l3)), (4, lvI (((lshr l1 l3).toInt32) &&& (255 : Int32)))] ⟨rfl, rfl, rfl, rfl, trivial⟩ ?_
            exact X9_lay_b38_s th (X9_lay_L3 th n) ih l1 l3 (((lshr l1 l3).toInt32) &&& (255 : Int32)) _
set_option maxHeartbeats 4000000 in
set_option maxRecDepth 100000 in
theorem s_X9_lay {E : EV} (th : Nat) (a1 : Int64) (h : HS) : Sim E mi_X9_lay (fin oV) 0 0 0 (largs 0 [lvR (some th), lvJ a1]) [] h (m_X9_lay th a1 h) := by
  unfold m_X9_lay
  refine si_bipush (v := 56) dX9_lay_0 (by decide) ?_
  refine si_istore_n 3 dX9_lay_2 rfl (by decide) ?_
  refine si_widen 0 0 (Nat.le_of_ble_eq_true rfl) (Nat.le_of_ble_eq_true rfl) ?_
  refine si_lo [(0, lvR (some th)), (1, lvJ (a1)), (3, lvI ((56 : Int32)))] ⟨rfl, rfl, rfl, trivial⟩ ?_
  exact X9_lay_L3_s th FU a1 ((56 : Int32)) _
theorem ct_X9_lay (l : Launch) (G : GG) {th : Nat} {a1 : Int64} {h : HS} {q : HS} (hq : m_X9_lay th a1 h = some q) : Ct l yX9_lay mi_X9_lay G [lvR (some th), lvJ a1] h (oV q) := Ct.of (out := oV) (by decide +kernel) rfl rfl (Nat.le_of_ble_eq_true rfl) hq (fun _ _ _ _ _ _ _ _ => s_X9_lay th a1 h)
set_option maxHeartbeats 4000000 in
set_option maxRecDepth 100000 in
theorem s_X9_feed {E : EV} (th : Nat) (a1 : Int64) (a2 : Int64) (a3 : Int64) (h : HS) : Sim E mi_X9_feed (fin oI) 0 0 0 (largs 0 [lvR (some th), lvJ a1, lvJ a2, lvJ a3]) [] h (m_X9_feed th a1 a2 a3 h) := by
  unfold m_X9_feed
  refine si_aload_n 0 dX9_feed_0 rfl rfl ?_
  refine si_iconst (v := 0) dX9_feed_1 (by decide) ?_
  refine si_pI 10 0 fl_X9_1 dX9_feed_2 (by decide) rfl rfl rfl (fw_X9_1 _) (fun h1 => ?_)
  refine si_aload_n 0 dX9_feed_5 rfl rfl ?_
  refine si_lload_n 1 dX9_feed_6 rfl rfl ?_
  refine si_cvV 10 [lvJ (a1)] dX9_feed_7 rfl mc_X9_lay ml_X9_7 im_X9_lay rfl se_X9_lay (by decide) rfl ⟨Nat.le_of_ble_eq_true rfl, Nat.le_of_ble_eq_true rfl, Nat.le_of_ble_eq_true rfl, Nat.le_of_ble_eq_true rfl⟩ (Nat.le_of_ble_eq_true rfl) (fun _ _ hq => ct_X9_lay _ _ hq) (fun h2 => ?_)
  refine si_aload_n 0 dX9_feed_10 rfl rfl ?_
  refine si_lload_n 3 dX9_feed_11 rfl rfl ?_
  refine si_cvV 10 [lvJ (a2)] dX9_feed_12 rfl mc_X9_lay ml_X9_7 im_X9_lay rfl se_X9_lay (by decide) rfl ⟨Nat.le_of_ble_eq_true rfl, Nat.le_of_ble_eq_true rfl, Nat.le_of_ble_eq_true rfl, Nat.le_of_ble_eq_true rfl⟩ (Nat.le_of_ble_eq_true rfl) (fun _ _ hq => ct_X9_lay _ _ hq) (fun h4 => ?_)
  refine si_aload_n 0 dX9_feed_15 rfl rfl ?_
  refine si_lload 5 dX9_feed_16 rfl ?_
  refine si_cvV 10 [lvJ (a3)] dX9_feed_18 rfl mc_X9_lay ml_X9_7 im_X9_lay rfl se_X9_lay (by decide) rfl ⟨Nat.le_of_ble_eq_true rfl, Nat.le_of_ble_eq_true rfl, Nat.le_of_ble_eq_true rfl, Nat.le_of_ble_eq_true rfl⟩ (Nat.le_of_ble_eq_true rfl) (fun _ _ hq => ct_X9_lay _ _ hq) (fun h6 => ?_)
  refine si_aload_n 0 dX9_feed_21 rfl rfl ?_
  refine si_gI 10 2 fl_X9_11 dX9_feed_22 (by decide) rfl (fun x8 => ?_)
  exact si_iret dX9_feed_25 rfl (Nat.le_of_ble_eq_true rfl) (Nat.le_of_ble_eq_true rfl)
theorem ct_X9_feed (l : Launch) (G : GG) {th : Nat} {a1 : Int64} {a2 : Int64} {a3 : Int64} {h : HS} {q : Int32 × HS} (hq : m_X9_feed th a1 a2 a3 h = some q) : Ct l yX9_feed mi_X9_feed G [lvR (some th), lvJ a1, lvJ a2, lvJ a3] h (oI q) := Ct.of (out := oI) (by decide +kernel) rfl rfl (Nat.le_of_ble_eq_true rfl) hq (fun _ _ _ _ _ _ _ _ => s_X9_feed th a1 a2 a3 h)
set_option maxHeartbeats 4000000 in
set_option maxRecDepth 100000 in
theorem s_X9_init {E : EV} (th : Nat) (h : HS) : Sim E mi_X9_init (fin oV) 0 0 0 (largs 0 [lvR (some th)]) [] h (m_X9_init th h) := by
  unfold m_X9_init
  refine si_aload_n 0 dX9_init_0 rfl rfl ?_
  refine si_obj dX9_init_1 ob_X9_18 (Nat.le_of_ble_eq_true rfl) (Nat.le_of_ble_eq_true rfl) ?_
  refine si_aload_n 0 dX9_init_4 rfl rfl ?_
  refine si_sipush (v := 600) dX9_init_5 (by decide) ?_
  refine si_newa 600 201 dX9_init_8 rfl (by decide) ac_201 (by decide) (Nat.le_of_ble_eq_true rfl) (Nat.le_of_ble_eq_true rfl) (fun q1 => ?_)
  refine si_pR 10 1 fl_X9_14 dX9_init_10 (by decide) rfl fwi_X9_14 (fun h2 => ?_)
  refine si_aload_n 0 dX9_init_13 rfl rfl ?_
  refine si_sipush (v := 602) dX9_init_14 (by decide) ?_
  refine si_newa 602 201 dX9_init_17 rfl (by decide) ac_201 (by decide) (Nat.le_of_ble_eq_true rfl) (Nat.le_of_ble_eq_true rfl) (fun q3 => ?_)
  refine si_pR 10 4 fl_X9_24 dX9_init_19 (by decide) rfl fwi_X9_24 (fun h4 => ?_)
  refine si_aload_n 0 dX9_init_22 rfl rfl ?_
  refine si_sipush (v := 602) dX9_init_23 (by decide) ?_
  refine si_newa 602 201 dX9_init_26 rfl (by decide) ac_201 (by decide) (Nat.le_of_ble_eq_true rfl) (Nat.le_of_ble_eq_true rfl) (fun q5 => ?_)
  refine si_pR 10 5 fl_X9_27 dX9_init_28 (by decide) rfl fwi_X9_27 (fun h6 => ?_)
  refine si_aload_n 0 dX9_init_31 rfl rfl ?_
  refine si_sipush (v := 602) dX9_init_32 (by decide) ?_
  refine si_newa 602 204 dX9_init_35 rfl (by decide) ac_204 (by decide) (Nat.le_of_ble_eq_true rfl) (Nat.le_of_ble_eq_true rfl) (fun q7 => ?_)
  refine si_pR 10 6 fl_X9_30 dX9_init_37 (by decide) rfl fwi_X9_30 (fun h8 => ?_)
  refine si_aload_n 0 dX9_init_40 rfl rfl ?_
  refine si_bipush (v := 8) dX9_init_41 (by decide) ?_
  refine si_newa 8 204 dX9_init_43 rfl (by decide) ac_204 (by decide) (Nat.le_of_ble_eq_true rfl) (Nat.le_of_ble_eq_true rfl) (fun q9 => ?_)
  refine si_dup dX9_init_45 (cat_rf _) ?_
  refine si_iconst (v := 0) dX9_init_46 (by decide) ?_
  refine si_ldc2 dX9_init_47 kc_X9_34 ?_
  refine si_lsr dX9_init_50 (fun h10 => ?_)
  refine si_dup dX9_init_51 (cat_rf _) ?_
  refine si_iconst (v := 1) dX9_init_52 (by decide) ?_
  refine si_ldc2 dX9_init_53 kc_X9_36 ?_
  refine si_lsr dX9_init_56 (fun h11 => ?_)
  refine si_dup dX9_init_57 (cat_rf _) ?_
  refine si_iconst (v := 2) dX9_init_58 (by decide) ?_
  refine si_ldc2 dX9_init_59 kc_X9_38 ?_
  refine si_lsr dX9_init_62 (fun h12 => ?_)
  refine si_dup dX9_init_63 (cat_rf _) ?_
  refine si_iconst (v := 3) dX9_init_64 (by decide) ?_
  refine si_ldc2 dX9_init_65 kc_X9_40 ?_
  refine si_lsr dX9_init_68 (fun h13 => ?_)
  refine si_dup dX9_init_69 (cat_rf _) ?_
  refine si_iconst (v := 4) dX9_init_70 (by decide) ?_
  refine si_ldc2 dX9_init_71 kc_X9_42 ?_
  refine si_lsr dX9_init_74 (fun h14 => ?_)
  refine si_dup dX9_init_75 (cat_rf _) ?_
  refine si_iconst (v := 5) dX9_init_76 (by decide) ?_
  refine si_ldc2 dX9_init_77 kc_X9_44 ?_
  refine si_lsr dX9_init_80 (fun h15 => ?_)
  refine si_dup dX9_init_81 (cat_rf _) ?_
  refine si_bipush (v := 6) dX9_init_82 (by decide) ?_
  refine si_ldc2 dX9_init_84 kc_X9_46 ?_
  refine si_lsr dX9_init_87 (fun h16 => ?_)
  refine si_dup dX9_init_88 (cat_rf _) ?_
  refine si_bipush (v := 7) dX9_init_89 (by decide) ?_
  refine si_ldc2 dX9_init_91 kc_X9_48 ?_
  refine si_lsr dX9_init_94 (fun h17 => ?_)
  refine si_pR 10 9 fl_X9_50 dX9_init_95 (by decide) rfl fwi_X9_50 (fun h18 => ?_)
  refine si_aload_n 0 dX9_init_98 rfl rfl ?_
  refine si_bipush (v := 21) dX9_init_99 (by decide) ?_
  refine si_newa 21 201 dX9_init_101 rfl (by decide) ac_201 (by decide) (Nat.le_of_ble_eq_true rfl) (Nat.le_of_ble_eq_true rfl) (fun q19 => ?_)
  refine si_pR 10 12 fl_X9_53 dX9_init_103 (by decide) rfl fwi_X9_53 (fun h20 => ?_)
  refine si_aload_n 0 dX9_init_106 rfl rfl ?_
  refine si_sipush (v := 336) dX9_init_107 (by decide) ?_
  refine si_newa 336 201 dX9_init_110 rfl (by decide) ac_201 (by decide) (Nat.le_of_ble_eq_true rfl) (Nat.le_of_ble_eq_true rfl) (fun q21 => ?_)
  refine si_pR 10 13 fl_X9_56 dX9_init_112 (by decide) rfl fwi_X9_56 (fun h22 => ?_)
  refine si_aload_n 0 dX9_init_115 rfl rfl ?_
  refine si_sipush (v := 336) dX9_init_116 (by decide) ?_
  refine si_newa 336 201 dX9_init_119 rfl (by decide) ac_201 (by decide) (Nat.le_of_ble_eq_true rfl) (Nat.le_of_ble_eq_true rfl) (fun q23 => ?_)
  refine si_pR 10 14 fl_X9_59 dX9_init_121 (by decide) rfl fwi_X9_59 (fun h24 => ?_)
  refine si_aload_n 0 dX9_init_124 rfl rfl ?_
  refine si_sipush (v := 13860) dX9_init_125 (by decide) ?_
  refine si_newa 13860 201 dX9_init_128 rfl (by decide) ac_201 (by decide) (Nat.le_of_ble_eq_true rfl) (Nat.le_of_ble_eq_true rfl) (fun q25 => ?_)
  refine si_pR 10 15 fl_X9_62 dX9_init_130 (by decide) rfl fwi_X9_62 (fun h26 => ?_)
  refine si_aload_n 0 dX9_init_133 rfl rfl ?_
  refine si_sipush (v := 13860) dX9_init_134 (by decide) ?_
  refine si_newa 13860 201 dX9_init_137 rfl (by decide) ac_201 (by decide) (Nat.le_of_ble_eq_true rfl) (Nat.le_of_ble_eq_true rfl) (fun q27 => ?_)
  refine si_pR 10 16 fl_X9_65 dX9_init_139 (by decide) rfl fwi_X9_65 (fun h28 => ?_)
  refine si_aload_n 0 dX9_init_142 rfl rfl ?_
  refine si_bipush (v := 7) dX9_init_143 (by decide) ?_
  refine si_newa 7 201 dX9_init_145 rfl (by decide) ac_201 (by decide) (Nat.le_of_ble_eq_true rfl) (Nat.le_of_ble_eq_true rfl) (fun q29 => ?_)
  refine si_pR 10 19 fl_X9_68 dX9_init_147 (by decide) rfl fwi_X9_68 (fun h30 => ?_)
  refine si_aload_n 0 dX9_init_150 rfl rfl ?_
  refine si_bipush (v := 7) dX9_init_151 (by decide) ?_
  refine si_newa 7 201 dX9_init_153 rfl (by decide) ac_201 (by decide) (Nat.le_of_ble_eq_true rfl) (Nat.le_of_ble_eq_true rfl) (fun q31 => ?_)
  refine si_pR 10 20 fl_X9_71 dX9_init_155 (by decide) rfl fwi_X9_71 (fun h32 => ?_)
  refine si_aload_n 0 dX9_init_158 rfl rfl ?_
  refine si_bipush (v := 7) dX9_init_159 (by decide) ?_
  refine si_newa 7 201 dX9_init_161 rfl (by decide) ac_201 (by decide) (Nat.le_of_ble_eq_true rfl) (Nat.le_of_ble_eq_true rfl) (fun q33 => ?_)
  refine si_pR 10 21 fl_X9_74 dX9_init_163 (by decide) rfl fwi_X9_74 (fun h34 => ?_)
  refine si_aload_n 0 dX9_init_166 rfl rfl ?_
  refine si_iconst (v := 5) dX9_init_167 (by decide) ?_
  refine si_newa 5 201 dX9_init_168 rfl (by decide) ac_201 (by decide) (Nat.le_of_ble_eq_true rfl) (Nat.le_of_ble_eq_true rfl) (fun q35 => ?_)
  refine si_pR 10 22 fl_X9_77 dX9_init_170 (by decide) rfl fwi_X9_77 (fun h36 => ?_)
  refine si_aload_n 0 dX9_init_173 rfl rfl ?_
  refine si_sipush (v := 660) dX9_init_174 (by decide) ?_
  refine si_newa 660 201 dX9_init_177 rfl (by decide) ac_201 (by decide) (Nat.le_of_ble_eq_true rfl) (Nat.le_of_ble_eq_true rfl) (fun q37 => ?_)
  refine si_pR 10 23 fl_X9_80 dX9_init_179 (by decide) rfl fwi_X9_80 (fun h38 => ?_)
  refine si_aload_n 0 dX9_init_182 rfl rfl ?_
  refine si_bipush (v := 10) dX9_init_183 (by decide) ?_
  refine si_newa 10 201 dX9_init_185 rfl (by decide) ac_201 (by decide) (Nat.le_of_ble_eq_true rfl) (Nat.le_of_ble_eq_true rfl) (fun q39 => ?_)
  refine si_pR 10 26 fl_X9_83 dX9_init_187 (by decide) rfl fwi_X9_83 (fun h40 => ?_)
  refine si_aload_n 0 dX9_init_190 rfl rfl ?_
  refine si_bipush (v := 10) dX9_init_191 (by decide) ?_
  refine si_newa 10 201 dX9_init_193 rfl (by decide) ac_201 (by decide) (Nat.le_of_ble_eq_true rfl) (Nat.le_of_ble_eq_true rfl) (fun q41 => ?_)
  refine si_pR 10 27 fl_X9_86 dX9_init_195 (by decide) rfl fwi_X9_86 (fun h42 => ?_)
  refine si_aload_n 0 dX9_init_198 rfl rfl ?_
  refine si_bipush (v := 30) dX9_init_199 (by decide) ?_
  refine si_newa 30 201 dX9_init_201 rfl (by decide) ac_201 (by decide) (Nat.le_of_ble_eq_true rfl) (Nat.le_of_ble_eq_true rfl) (fun q43 => ?_)
  refine si_pR 10 28 fl_X9_89 dX9_init_203 (by decide) rfl fwi_X9_89 (fun h44 => ?_)
  refine si_aload_n 0 dX9_init_206 rfl rfl ?_
  refine si_bipush (v := 10) dX9_init_207 (by decide) ?_
  refine si_newa 10 202 dX9_init_209 rfl (by decide) ac_202 (by decide) (Nat.le_of_ble_eq_true rfl) (Nat.le_of_ble_eq_true rfl) (fun q45 => ?_)
  refine si_pR 10 29 fl_X9_92 dX9_init_211 (by decide) rfl fwi_X9_92 (fun h46 => ?_)
  refine si_aload_n 0 dX9_init_214 rfl rfl ?_
  refine si_bipush (v := 10) dX9_init_215 (by decide) ?_
  refine si_newa 10 201 dX9_init_217 rfl (by decide) ac_201 (by decide) (Nat.le_of_ble_eq_true rfl) (Nat.le_of_ble_eq_true rfl) (fun q47 => ?_)
  refine si_pR 10 30 fl_X9_96 dX9_init_219 (by decide) rfl fwi_X9_96 (fun h48 => ?_)
  refine si_aload_n 0 dX9_init_222 rfl rfl ?_
  refine si_bipush (v := 10) dX9_init_223 (by decide) ?_
  refine si_newa 10 201 dX9_init_225 rfl (by decide) ac_201 (by decide) (Nat.le_of_ble_eq_true rfl) (Nat.le_of_ble_eq_true rfl) (fun q49 => ?_)
  refine si_pR 10 31 fl_X9_99 dX9_init_227 (by decide) rfl fwi_X9_99 (fun h50 => ?_)
  refine si_aload_n 0 dX9_init_230 rfl rfl ?_
  refine si_sipush (v := 2020) dX9_init_231 (by decide) ?_
  refine si_newa 2020 201 dX9_init_234 rfl (by decide) ac_201 (by decide) (Nat.le_of_ble_eq_true rfl) (Nat.le_of_ble_eq_true rfl) (fun q51 => ?_)
  refine si_pR 10 32 fl_X9_102 dX9_init_236 (by decide) rfl fwi_X9_102 (fun h52 => ?_)
  refine si_aload_n 0 dX9_init_239 rfl rfl ?_
  refine si_bipush (v := 10) dX9_init_240 (by decide) ?_
  refine si_newa 10 201 dX9_init_242 rfl (by decide) ac_201 (by decide) (Nat.le_of_ble_eq_true rfl) (Nat.le_of_ble_eq_true rfl) (fun q53 => ?_)
  refine si_pR 10 33 fl_X9_105 dX9_init_244 (by decide) rfl fwi_X9_105 (fun h54 => ?_)
  refine si_aload_n 0 dX9_init_247 rfl rfl ?_
  refine si_bipush (v := 20) dX9_init_248 (by decide) ?_
  refine si_newa 20 201 dX9_init_250 rfl (by decide) ac_201 (by decide) (Nat.le_of_ble_eq_true rfl) (Nat.le_of_ble_eq_true rfl) (fun q55 => ?_)
  refine si_pR 10 35 fl_X9_108 dX9_init_252 (by decide) rfl fwi_X9_108 (fun h56 => ?_)
  refine si_aload_n 0 dX9_init_255 rfl rfl ?_
  refine si_bipush (v := 20) dX9_init_256 (by decide) ?_
  refine si_newa 20 201 dX9_init_258 rfl (by decide) ac_201 (by decide) (Nat.le_of_ble_eq_true rfl) (Nat.le_of_ble_eq_true rfl) (fun q57 => ?_)
  refine si_pR 10 36 fl_X9_111 dX9_init_260 (by decide) rfl fwi_X9_111 (fun h58 => ?_)
  refine si_aload_n 0 dX9_init_263 rfl rfl ?_
  refine si_bipush (v := 20) dX9_init_264 (by decide) ?_
  refine si_newa 20 201 dX9_init_266 rfl (by decide) ac_201 (by decide) (Nat.le_of_ble_eq_true rfl) (Nat.le_of_ble_eq_true rfl) (fun q59 => ?_)
  refine si_pR 10 37 fl_X9_114 dX9_init_268 (by decide) rfl fwi_X9_114 (fun h60 => ?_)
  refine si_aload_n 0 dX9_init_271 rfl rfl ?_
  refine si_sipush (v := 1020) dX9_init_272 (by decide) ?_
  refine si_newa 1020 201 dX9_init_275 rfl (by decide) ac_201 (by decide) (Nat.le_of_ble_eq_true rfl) (Nat.le_of_ble_eq_true rfl) (fun q61 => ?_)
  refine si_pR 10 38 fl_X9_117 dX9_init_277 (by decide) rfl fwi_X9_117 (fun h62 => ?_)
  refine si_aload_n 0 dX9_init_280 rfl rfl ?_
  refine si_bipush (v := 60) dX9_init_281 (by decide) ?_
  refine si_newa 60 201 dX9_init_283 rfl (by decide) ac_201 (by decide) (Nat.le_of_ble_eq_true rfl) (Nat.le_of_ble_eq_true rfl) (fun q63 => ?_)
  refine si_pR 10 40 fl_X9_120 dX9_init_285 (by decide) rfl fwi_X9_120 (fun h64 => ?_)
  refine si_aload_n 0 dX9_init_288 rfl rfl ?_
  refine si_bipush (v := 60) dX9_init_289 (by decide) ?_
  refine si_newa 60 201 dX9_init_291 rfl (by decide) ac_201 (by decide) (Nat.le_of_ble_eq_true rfl) (Nat.le_of_ble_eq_true rfl) (fun q65 => ?_)
  refine si_pR 10 41 fl_X9_123 dX9_init_293 (by decide) rfl fwi_X9_123 (fun h66 => ?_)
  refine si_aload_n 0 dX9_init_296 rfl rfl ?_
  refine si_bipush (v := 60) dX9_init_297 (by decide) ?_
  refine si_newa 60 201 dX9_init_299 rfl (by decide) ac_201 (by decide) (Nat.le_of_ble_eq_true rfl) (Nat.le_of_ble_eq_true rfl) (fun q67 => ?_)
  refine si_pR 10 42 fl_X9_126 dX9_init_301 (by decide) rfl fwi_X9_126 (fun h68 => ?_)
  refine si_aload_n 0 dX9_init_304 rfl rfl ?_
  refine si_bipush (v := 60) dX9_init_305 (by decide) ?_
  refine si_newa 60 201 dX9_init_307 rfl (by decide) ac_201 (by decide) (Nat.le_of_ble_eq_true rfl) (Nat.le_of_ble_eq_true rfl) (fun q69 => ?_)
  refine si_pR 10 43 fl_X9_129 dX9_init_309 (by decide) rfl fwi_X9_129 (fun h70 => ?_)
  refine si_aload_n 0 dX9_init_312 rfl rfl ?_
  refine si_bipush (v := 60) dX9_init_313 (by decide) ?_
  refine si_newa 60 201 dX9_init_315 rfl (by decide) ac_201 (by decide) (Nat.le_of_ble_eq_true rfl) (Nat.le_of_ble_eq_true rfl) (fun q71 => ?_)
  refine si_pR 10 44 fl_X9_132 dX9_init_317 (by decide) rfl fwi_X9_132 (fun h72 => ?_)
  refine si_aload_n 0 dX9_init_320 rfl rfl ?_
  refine si_bipush (v := 60) dX9_init_321 (by decide) ?_
  refine si_newa 60 201 dX9_init_323 rfl (by decide) ac_201 (by decide) (Nat.le_of_ble_eq_true rfl) (Nat.le_of_ble_eq_true rfl) (fun q73 => ?_)
  refine si_pR 10 45 fl_X9_135 dX9_init_325 (by decide) rfl fwi_X9_135 (fun h74 => ?_)
  refine si_aload_n 0 dX9_init_328 rfl rfl ?_
  refine si_bipush (v := 60) dX9_init_329 (by decide) ?_
  refine si_newa 60 202 dX9_init_331 rfl (by decide) ac_202 (by decide) (Nat.le_of_ble_eq_true rfl) (Nat.le_of_ble_eq_true rfl) (fun q75 => ?_)
  refine si_pR 10 46 fl_X9_138 dX9_init_333 (by decide) rfl fwi_X9_138 (fun h76 => ?_)
  refine si_aload_n 0 dX9_init_336 rfl rfl ?_
  refine si_sipush (v := 12120) dX9_init_337 (by decide) ?_
  refine si_newa 12120 202 dX9_init_340 rfl (by decide) ac_202 (by decide) (Nat.le_of_ble_eq_true rfl) (Nat.le_of_ble_eq_true rfl) (fun q77 => ?_)
  refine si_pR 10 47 fl_X9_141 dX9_init_342 (by decide) rfl fwi_X9_141 (fun h78 => ?_)
  refine si_aload_n 0 dX9_init_345 rfl rfl ?_
  refine si_sipush (v := 3060) dX9_init_346 (by decide) ?_
  refine si_newa 3060 201 dX9_init_349 rfl (by decide) ac_201 (by decide) (Nat.le_of_ble_eq_true rfl) (Nat.le_of_ble_eq_true rfl) (fun q79 => ?_)
  refine si_pR 10 48 fl_X9_144 dX9_init_351 (by decide) rfl fwi_X9_144 (fun h80 => ?_)
  refine si_aload_n 0 dX9_init_354 rfl rfl ?_
  refine si_sipush (v := 3060) dX9_init_355 (by decide) ?_
  refine si_newa 3060 201 dX9_init_358 rfl (by decide) ac_201 (by decide) (Nat.le_of_ble_eq_true rfl) (Nat.le_of_ble_eq_true rfl) (fun q81 => ?_)
  refine si_pR 10 49 fl_X9_147 dX9_init_360 (by decide) rfl fwi_X9_147 (fun h82 => ?_)
  refine si_aload_n 0 dX9_init_363 rfl rfl ?_
  refine si_bipush (v := 60) dX9_init_364 (by decide) ?_
  refine si_newa 60 201 dX9_init_366 rfl (by decide) ac_201 (by decide) (Nat.le_of_ble_eq_true rfl) (Nat.le_of_ble_eq_true rfl) (fun q83 => ?_)
  refine si_pR 10 50 fl_X9_150 dX9_init_368 (by decide) rfl fwi_X9_150 (fun h84 => ?_)
  refine si_aload_n 0 dX9_init_371 rfl rfl ?_
  refine si_bipush (v := 51) dX9_init_372 (by decide) ?_
  refine si_newa 51 201 dX9_init_374 rfl (by decide) ac_201 (by decide) (Nat.le_of_ble_eq_true rfl) (Nat.le_of_ble_eq_true rfl) (fun q85 => ?_)
  refine si_pR 10 51 fl_X9_153 dX9_init_376 (by decide) rfl fwi_X9_153 (fun h86 => ?_)
  refine si_aload_n 0 dX9_init_379 rfl rfl ?_
  refine si_iconst (v := 3) dX9_init_380 (by decide) ?_
  refine si_newa 3 201 dX9_init_381 rfl (by decide) ac_201 (by decide) (Nat.le_of_ble_eq_true rfl) (Nat.le_of_ble_eq_true rfl) (fun q87 => ?_)
  refine si_pR 10 52 fl_X9_156 dX9_init_383 (by decide) rfl fwi_X9_156 (fun h88 => ?_)
  refine si_aload_n 0 dX9_init_386 rfl rfl ?_
  refine si_iconst (v := 3) dX9_init_387 (by decide) ?_
  refine si_newa 3 201 dX9_init_388 rfl (by decide) ac_201 (by decide) (Nat.le_of_ble_eq_true rfl) (Nat.le_of_ble_eq_true rfl) (fun q89 => ?_)
  refine si_pR 10 53 fl_X9_159 dX9_init_390 (by decide) rfl fwi_X9_159 (fun h90 => ?_)
  refine si_aload_n 0 dX9_init_393 rfl rfl ?_
  refine si_iconst (v := -1) dX9_init_394 (by decide) ?_
  refine si_pI 10 11 fl_X9_162 dX9_init_395 (by decide) rfl rfl rfl (fw_X9_162 _) (fun h91 => ?_)
  exact si_vret dX9_init_398 rfl (Nat.le_of_ble_eq_true rfl) (Nat.le_of_ble_eq_true rfl)
theorem ct_X9_init (l : Launch) (G : GG) {th : Nat} {h : HS} {q : HS} (hq : m_X9_init th h = some q) : Ct l yX9_init mi_X9_init G [lvR (some th)] h (oV q) := Ct.of (out := oV) (by decide +kernel) rfl rfl (Nat.le_of_ble_eq_true rfl) hq (fun _ _ _ _ _ _ _ _ => s_X9_init th h)
set_option maxHeartbeats 4000000 in
set_option maxRecDepth 100000 in
theorem s_X9_isLetter {E : EV} (a1 : Int32) (h : HS) : Sim E mi_X9_isLetter (fin oI) 0 0 0 (largs 0 [lvI a1]) [] h (m_X9_isLetter a1 h) := by
  unfold m_X9_isLetter
  refine si_iload_n 0 dX9_isLetter_0 rfl rfl ?_
  refine si_bipush (v := 97) dX9_isLetter_1 (by decide) ?_
  refine si_icmp_lt 16 dX9_isLetter_3 (by decide) ?_ ?_
  · refine si_iconst (v := 0) dX9_isLetter_16 (by decide) ?_
    exact si_zret dX9_isLetter_17 rfl rfl (Nat.le_of_ble_eq_true rfl) (Nat.le_of_ble_eq_true rfl)
  · refine si_iload_n 0 dX9_isLetter_6 rfl rfl ?_
    refine si_bipush (v := 122) dX9_isLetter_7 (by decide) ?_
    refine si_icmp_gt 16 dX9_isLetter_9 (by decide) ?_ ?_
    · refine si_iconst (v := 0) dX9_isLetter_16 (by decide) ?_
      exact si_zret dX9_isLetter_17 rfl rfl (Nat.le_of_ble_eq_true rfl) (Nat.le_of_ble_eq_true rfl)
    · refine si_iconst (v := 1) dX9_isLetter_12 (by decide) ?_
      refine si_goto 17 dX9_isLetter_13 (by decide) ?_
      exact si_zret dX9_isLetter_17 rfl rfl (Nat.le_of_ble_eq_true rfl) (Nat.le_of_ble_eq_true rfl)
theorem ct_X9_isLetter (l : Launch) (G : GG) {a1 : Int32} {h : HS} {q : Int32 × HS} (hq : m_X9_isLetter a1 h = some q) : Ct l yX9_isLetter mi_X9_isLetter G [lvI a1] h (oI q) := Ct.of (out := oI) (by decide +kernel) rfl rfl (Nat.le_of_ble_eq_true rfl) hq (fun _ _ _ _ _ _ _ _ => s_X9_isLetter a1 h)
set_option maxHeartbeats 4000000 in
set_option maxRecDepth 100000 in
theorem s_X9_isDigit {E : EV} (a1 : Int32) (h : HS) : Sim E mi_X9_isDigit (fin oI) 0 0 0 (largs 0 [lvI a1]) [] h (m_X9_isDigit a1 h) := by
  unfold m_X9_isDigit
  refine si_iload_n 0 dX9_isDigit_0 rfl rfl ?_
  refine si_bipush (v := 48) dX9_isDigit_1 (by decide) ?_
  refine si_icmp_lt 16 dX9_isDigit_3 (by decide) ?_ ?_
  · refine si_iconst (v := 0) dX9_isDigit_16 (by decide) ?_
    exact si_zret dX9_isDigit_17 rfl rfl (Nat.le_of_ble_eq_true rfl) (Nat.le_of_ble_eq_true rfl)
  · refine si_iload_n 0 dX9_isDigit_6 rfl rfl ?_
    refine si_bipush (v := 57) dX9_isDigit_7 (by decide) ?_
    refine si_icmp_gt 16 dX9_isDigit_9 (by decide) ?_ ?_
    · refine si_iconst (v := 0) dX9_isDigit_16 (by decide) ?_
      exact si_zret dX9_isDigit_17 rfl rfl (Nat.le_of_ble_eq_true rfl) (Nat.le_of_ble_eq_true rfl)
    · refine si_iconst (v := 1) dX9_isDigit_12 (by decide) ?_
      refine si_goto 17 dX9_isDigit_13 (by decide) ?_
      exact si_zret dX9_isDigit_17 rfl rfl (Nat.le_of_ble_eq_true rfl) (Nat.le_of_ble_eq_true rfl)
theorem ct_X9_isDigit (l : Launch) (G : GG) {a1 : Int32} {h : HS} {q : Int32 × HS} (hq : m_X9_isDigit a1 h = some q) : Ct l yX9_isDigit mi_X9_isDigit G [lvI a1] h (oI q) := Ct.of (out := oI) (by decide +kernel) rfl rfl (Nat.le_of_ble_eq_true rfl) hq (fun _ _ _ _ _ _ _ _ => s_X9_isDigit a1 h)
set_option maxHeartbeats 4000000 in
set_option maxRecDepth 100000 in
theorem s_X9_rank {E : EV} (a1 : Int32) (h : HS) : Sim E mi_X9_rank (fin oI) 0 0 0 (largs 0 [lvI a1]) [] h (m_X9_rank a1 h) := by
  unfold m_X9_rank
  refine si_iload_n 0 dX9_rank_0 rfl rfl ?_
  refine si_csI [lvI (a1)] dX9_rank_1 rfl mc_X9_isLetter ml_X9_165 st_X9_isLetter rfl ⟨Nat.le_of_ble_eq_true rfl, Nat.le_of_ble_eq_true rfl, Nat.le_of_ble_eq_true rfl, Nat.le_of_ble_eq_true rfl⟩ (Nat.le_of_ble_eq_true rfl) (fun _ hq => ct_X9_isLetter _ _ hq) (fun q1 => ?_)
  refine si_if_eq 14 dX9_rank_4 (by decide) ?_ ?_
  · refine si_iload_n 0 dX9_rank_14 rfl rfl ?_
    refine si_bipush (v := 21) dX9_rank_15 (by decide) ?_
    refine si_isub dX9_rank_17 ?_
    exact si_iret dX9_rank_18 rfl (Nat.le_of_ble_eq_true rfl) (Nat.le_of_ble_eq_true rfl)
  · refine si_iload_n 0 dX9_rank_7 rfl rfl ?_
    refine si_bipush (v := 96) dX9_rank_8 (by decide) ?_
    refine si_isub dX9_rank_10 ?_
    refine si_goto 18 dX9_rank_11 (by decide) ?_
    exact si_iret dX9_rank_18 rfl (Nat.le_of_ble_eq_true rfl) (Nat.le_of_ble_eq_true rfl)
theorem ct_X9_rank (l : Launch) (G : GG) {a1 : Int32} {h : HS} {q : Int32 × HS} (hq : m_X9_rank a1 h = some q) : Ct l yX9_rank mi_X9_rank G [lvI a1] h (oI q) := Ct.of (out := oI) (by decide +kernel) rfl rfl (Nat.le_of_ble_eq_true rfl) hq (fun _ _ _ _ _ _ _ _ => s_X9_rank a1 h)
set_option maxHeartbeats 4000000 in
set_option maxRecDepth 100000 in
theorem s_X9_isSignOf {E : EV} (a1 : Int32) (h : HS) : Sim E mi_X9_isSignOf (fin oI) 0 0 0 (largs 0 [lvI a1]) [] h (m_X9_isSignOf a1 h) := by
  unfold m_X9_isSignOf
  refine si_iload_n 0 dX9_isSignOf_0 rfl rfl ?_
  refine si_bipush (v := 40) dX9_isSignOf_1 (by decide) ?_
  refine si_icmp_eq 42 dX9_isSignOf_3 (by decide) ?_ ?_
  · refine si_iconst (v := 1) dX9_isSignOf_42 (by decide) ?_
    refine si_goto 47 dX9_isSignOf_43 (by decide) ?_
    exact si_zret dX9_isSignOf_47 rfl rfl (Nat.le_of_ble_eq_true rfl) (Nat.le_of_ble_eq_true rfl)
  · refine si_iload_n 0 dX9_isSignOf_6 rfl rfl ?_
    refine si_bipush (v := 41) dX9_isSignOf_7 (by decide) ?_
    refine si_icmp_eq 42 dX9_isSignOf_9 (by decide) ?_ ?_
    · refine si_iconst (v := 1) dX9_isSignOf_42 (by decide) ?_
      refine si_goto 47 dX9_isSignOf_43 (by decide) ?_
      exact si_zret dX9_isSignOf_47 rfl rfl (Nat.le_of_ble_eq_true rfl) (Nat.le_of_ble_eq_true rfl)
    · refine si_iload_n 0 dX9_isSignOf_12 rfl rfl ?_
      refine si_bipush (v := 59) dX9_isSignOf_13 (by decide) ?_
      refine si_icmp_eq 42 dX9_isSignOf_15 (by decide) ?_ ?_
      · refine si_iconst (v := 1) dX9_isSignOf_42 (by decide) ?_
        refine si_goto 47 dX9_isSignOf_43 (by decide) ?_
        exact si_zret dX9_isSignOf_47 rfl rfl (Nat.le_of_ble_eq_true rfl) (Nat.le_of_ble_eq_true rfl)
      · refine si_iload_n 0 dX9_isSignOf_18 rfl rfl ?_
        refine si_bipush (v := 61) dX9_isSignOf_19 (by decide) ?_
        refine si_icmp_eq 42 dX9_isSignOf_21 (by decide) ?_ ?_
        · refine si_iconst (v := 1) dX9_isSignOf_42 (by decide) ?_
          refine si_goto 47 dX9_isSignOf_43 (by decide) ?_
          exact si_zret dX9_isSignOf_47 rfl rfl (Nat.le_of_ble_eq_true rfl) (Nat.le_of_ble_eq_true rfl)
        · refine si_iload_n 0 dX9_isSignOf_24 rfl rfl ?_
          refine si_bipush (v := 60) dX9_isSignOf_25 (by decide) ?_
          refine si_icmp_eq 42 dX9_isSignOf_27 (by decide) ?_ ?_
          · refine si_iconst (v := 1) dX9_isSignOf_42 (by decide) ?_
            refine si_goto 47 dX9_isSignOf_43 (by decide) ?_
            exact si_zret dX9_isSignOf_47 rfl rfl (Nat.le_of_ble_eq_true rfl) (Nat.le_of_ble_eq_true rfl)
          · refine si_iload_n 0 dX9_isSignOf_30 rfl rfl ?_
            refine si_bipush (v := 43) dX9_isSignOf_31 (by decide) ?_
            refine si_icmp_eq 42 dX9_isSignOf_33 (by decide) ?_ ?_
            · refine si_iconst (v := 1) dX9_isSignOf_42 (by decide) ?_
              refine si_goto 47 dX9_isSignOf_43 (by decide) ?_
              exact si_zret dX9_isSignOf_47 rfl rfl (Nat.le_of_ble_eq_true rfl) (Nat.le_of_ble_eq_true rfl)
            · refine si_iload_n 0 dX9_isSignOf_36 rfl rfl ?_
              refine si_bipush (v := 45) dX9_isSignOf_37 (by decide) ?_
              refine si_icmp_ne 46 dX9_isSignOf_39 (by decide) ?_ ?_
              · refine si_iconst (v := 1) dX9_isSignOf_42 (by decide) ?_
                refine si_goto 47 dX9_isSignOf_43 (by decide) ?_
                exact si_zret dX9_isSignOf_47 rfl rfl (Nat.le_of_ble_eq_true rfl) (Nat.le_of_ble_eq_true rfl)
              · refine si_iconst (v := 0) dX9_isSignOf_46 (by decide) ?_
                exact si_zret dX9_isSignOf_47 rfl rfl (Nat.le_of_ble_eq_true rfl) (Nat.le_of_ble_eq_true rfl)
theorem ct_X9_isSignOf (l : Launch) (G : GG) {a1 : Int32} {h : HS} {q : Int32 × HS} (hq : m_X9_isSignOf a1 h = some q) : Ct l yX9_isSignOf mi_X9_isSignOf G [lvI a1] h (oI q) := Ct.of (out := oI) (by decide +kernel) rfl rfl (Nat.le_of_ble_eq_true rfl) hq (fun _ _ _ _ _ _ _ _ => s_X9_isSignOf a1 h)
set_option maxHeartbeats 4000000 in
set_option maxRecDepth 100000 in
theorem X9_cutAll_b44_s {E : EV} (th : Nat) (go17 : Int32 → Int32 → HS → Option (HS)) (hg17 : ∀ (l1 : Int32) (l2 : Int32) (h : HS), Sim E mi_X9_cutAll (fin oV) 0 0 17 [(0, lvR (some th)), (1, lvI (l1)), (2, lvI (l2))] [] h (go17 l1 l2 h)) (l1 : Int32) (l2 : Int32) (h : HS) : Sim E mi_X9_cutAll (fin oV) 0 0 44 [(0, lvR (some th)), (1, lvI (l1)), (2, lvI (l2))] [] h (X9_cutAll_b44 th go17 l1 l2 h) := by
  unfold X9_cutAll_b44
  refine si_iinc 2 (1) dX9_cutAll_44 rfl (by decide) (by decide) ?_
  refine si_goto 17 dX9_cutAll_47 (by decide) ?_
  refine si_widen 0 0 (Nat.le_of_ble_eq_true rfl) (Nat.le_of_ble_eq_true rfl) ?_
  refine si_lo [(0, lvR (some th)), (1, lvI (l1)), (2, lvI (l2 + (1)))] ⟨rfl, rfl, rfl, trivial⟩ ?_
  exact hg17 l1 (l2 + (1)) _
set_option maxHeartbeats 4000000 in
set_option maxRecDepth 100000 in
theorem X9_cutAll_b121_s {E : EV} (th : Nat) (go17 : Int32 → Int32 → HS → Option (HS)) (go70 : Int32 → Int32 → Int32 → Int64 → HS → Option (HS)) (hg17 : ∀ (l1 : Int32) (l2 : Int32) (h : HS), Sim E mi_X9_cutAll (fin oV) 0 0 17 [(0, lvR (some th)), (1, lvI (l1)), (2, lvI (l2))] [] h (go17 l1 l2 h)) (hg70 : ∀ (l1 : Int32) (l2 : Int32) (l4 : Int32) (l5 : Int64) (h : HS), Sim E mi_X9_cutAll (fin oV) 0 0 70 [(0, lvR (some th)), (1, lvI (l1)), (2, lvI (l2)), (4, lvI (l4)), (5, lvJ (l5))] [] h (go70 l1 l2 l4 l5 h)) (l1 : Int32) (l2 : Int32) (l4 : Int32) (s0 : Int64) (h : HS) : Sim E mi_X9_cutAll (fin oV) 0 0 121 [(0, lvR (some th)), (1, lvI (l1)), (2, lvI (l2)), (4, lvI (l4))] [.long (s0)] h (X9_cutAll_b121 th go17 go70 l1 l2 l4 s0 h) := by
  unfold X9_cutAll_b121
  refine si_lstore 5 dX9_cutAll_121 (by decide) ?_
  refine si_iinc 2 (1) dX9_cutAll_123 rfl (by decide) (by decide) ?_
  refine si_goto 70 dX9_cutAll_126 (by decide) ?_
  refine si_widen 0 0 (Nat.le_of_ble_eq_true rfl) (Nat.le_of_ble_eq_true rfl) ?_
  refine si_lo [(0, lvR (some th)), (1, lvI (l1)), (2, lvI (l2 + (1))), (4, lvI (l4)), (5, lvJ (s0))] ⟨rfl, rfl, rfl, rfl, rfl, trivial⟩ ?_
  exact hg70 l1 (l2 + (1)) l4 s0 _
set_option maxHeartbeats 4000000 in
set_option maxRecDepth 100000 in
theorem X9_cutAll_b265_s {E : EV} (th : Nat) (go17 : Int32 → Int32 → HS → Option (HS)) (hg17 : ∀ (l1 : Int32) (l2 : Int32) (h : HS), Sim E mi_X9_cutAll (fin oV) 0 0 17 [(0, lvR (some th)), (1, lvI (l1)), (2, lvI (l2))] [] h (go17 l1 l2 h)) (l1 : Int32) (l2 : Int32) (l5 : Int64) (h : HS) : Sim E mi_X9_cutAll (fin oV) 0 0 265 [(0, lvR (some th)), (1, lvI (l1)), (2, lvI (l2)), (5, lvJ (l5))] [] h (X9_cutAll_b265 th go17 l1 l2 l5 h) := by
  unfold X9_cutAll_b265
  refine si_aload_n 0 dX9_cutAll_265 rfl rfl ?_
  refine si_gR 10 6 fl_X9_30 dX9_cutAll_266 (by decide) rfl (fun x1 => ?_)
  refine si_iload_n 1 dX9_cutAll_269 rfl rfl ?_
  refine si_lload 5 dX9_cutAll_270 rfl ?_
  refine si_lsr dX9_cutAll_272 (fun h2 => ?_)
  refine si_iinc 1 (1) dX9_cutAll_273 rfl (by decide) (by decide) ?_
  refine si_goto 17 dX9_cutAll_276 (by decide) ?_
  refine si_widen 0 0 (Nat.le_of_ble_eq_true rfl) (Nat.le_of_ble_eq_true rfl) ?_
  refine si_lo [(0, lvR (some th)), (1, lvI (l1 + (1))), (2, lvI (l2))] ⟨rfl, rfl, rfl, trivial⟩ ?_
  exact hg17 (l1 + (1)) l2 _
set_option maxHeartbeats 4000000 in
set_option maxRecDepth 100000 in
theorem X9_cutAll_b148_s {E : EV} (th : Nat) (go17 : Int32 → Int32 → HS → Option (HS)) (hg17 : ∀ (l1 : Int32) (l2 : Int32) (h : HS), Sim E mi_X9_cutAll (fin oV) 0 0 17 [(0, lvR (some th)), (1, lvI (l1)), (2, lvI (l2))] [] h (go17 l1 l2 h)) (l1 : Int32) (l2 : Int32) (l5 : Int64) (s2 : Int32) (s1 : Int32) (s0 : Option Nat) (h : HS) : Sim E mi_X9_cutAll (fin oV) 0 0 148 [(0, lvR (some th)), (1, lvI (l1)), (2, lvI (l2)), (5, lvJ (l5))] [.int (s2), .int (s1), va_rf (s0)] h (X9_cutAll_b148 th go17 l1 l2 l5 s2 s1 s0 h) := by
  unfold X9_cutAll_b148
  refine si_is dX9_cutAll_148 (fun h1 => ?_)
  refine si_goto 265 dX9_cutAll_149 (by decide) ?_
  refine si_widen 0 0 (Nat.le_of_ble_eq_true rfl) (Nat.le_of_ble_eq_true rfl) ?_
  refine si_lo [(0, lvR (some th)), (1, lvI (l1)), (2, lvI (l2)), (5, lvJ (l5))] ⟨rfl, rfl, rfl, rfl, trivial⟩ ?_
  exact X9_cutAll_b265_s th go17 hg17 l1 l2 l5 _
set_option maxHeartbeats 4000000 in
set_option maxRecDepth 100000 in
theorem X9_cutAll_b129_s {E : EV} (th : Nat) (go17 : Int32 → Int32 → HS → Option (HS)) (hg17 : ∀ (l1 : Int32) (l2 : Int32) (h : HS), Sim E mi_X9_cutAll (fin oV) 0 0 17 [(0, lvR (some th)), (1, lvI (l1)), (2, lvI (l2))] [] h (go17 l1 l2 h)) (l1 : Int32) (l2 : Int32) (l4 : Int32) (l5 : Int64) (h : HS) : Sim E mi_X9_cutAll (fin oV) 0 0 129 [(0, lvR (some th)), (1, lvI (l1)), (2, lvI (l2)), (4, lvI (l4)), (5, lvJ (l5))] [] h (X9_cutAll_b129 th go17 l1 l2 l4 l5 h) := by
  unfold X9_cutAll_b129
  refine si_aload_n 0 dX9_cutAll_129 rfl rfl ?_
  refine si_gR 10 4 fl_X9_24 dX9_cutAll_130 (by decide) rfl (fun x1 => ?_)
  refine si_iload_n 1 dX9_cutAll_133 rfl rfl ?_
  refine si_iload_n 2 dX9_cutAll_134 rfl rfl ?_
  refine si_iload 4 dX9_cutAll_135 rfl ?_
  refine si_isub dX9_cutAll_137 ?_
  refine si_bipush (v := 9) dX9_cutAll_138 (by decide) ?_
  refine si_icmp_le 147 dX9_cutAll_140 (by decide) ?_ ?_
  · refine si_iconst (v := 1) dX9_cutAll_147 (by decide) ?_
    refine si_widen 0 0 (Nat.le_of_ble_eq_true rfl) (Nat.le_of_ble_eq_true rfl) ?_
    refine si_lo [(0, lvR (some th)), (1, lvI (l1)), (2, lvI (l2)), (5, lvJ (l5))] ⟨rfl, rfl, rfl, rfl, trivial⟩ ?_
    exact X9_cutAll_b148_s th go17 hg17 l1 l2 l5 ((1 : Int32)) l1 x1 _
  · refine si_iconst (v := 4) dX9_cutAll_143 (by decide) ?_
    refine si_goto 148 dX9_cutAll_144 (by decide) ?_
    refine si_widen 0 0 (Nat.le_of_ble_eq_true rfl) (Nat.le_of_ble_eq_true rfl) ?_
    refine si_lo [(0, lvR (some th)), (1, lvI (l1)), (2, lvI (l2)), (5, lvJ (l5))] ⟨rfl, rfl, rfl, rfl, trivial⟩ ?_
    exact X9_cutAll_b148_s th go17 hg17 l1 l2 l5 ((4 : Int32)) l1 x1 _
set_option maxHeartbeats 4000000 in
set_option maxRecDepth 100000 in
theorem X9_cutAll_L70_s {E : EV} (th : Nat) (go17 : Int32 → Int32 → HS → Option (HS)) (hg17 : ∀ (l1 : Int32) (l2 : Int32) (h : HS), Sim E mi_X9_cutAll (fin oV) 0 0 17 [(0, lvR (some th)), (1, lvI (l1)), (2, lvI (l2))] [] h (go17 l1 l2 h)) (n : Nat) : ∀ (l1 : Int32) (l2 : Int32) (l4 : Int32) (l5 : Int64) (h : HS), Sim E mi_X9_cutAll (fin oV) 0 0 70 [(0, lvR (some th)), (1, lvI (l1)), (2, lvI (l2)), (4, lvI (l4)), (5, lvJ (l5))] [] h (X9_cutAll_L70 th go17 n l1 l2 l4 l5 h) := by
  induction n with
  | zero => intro l1 l2 l4 l5 h; exact si_none
  | succ n ih =>
    intro l1 l2 l4 l5 h
    unfold X9_cutAll_L70
    refine si_iload_n 2 dX9_cutAll_70 rfl rfl ?_
    refine si_aload_n 0 dX9_cutAll_71 rfl rfl ?_
    refine si_gI 10 3 fl_X9_169 dX9_cutAll_72 (by decide) rfl (fun x1 => ?_)
    refine si_icmp_ge 129 dX9_cutAll_75 (by decide) ?_ ?_
    · refine si_widen 0 0 (Nat.le_of_ble_eq_true rfl) (Nat.le_of_ble_eq_true rfl) ?_
      refine si_lo [(0, lvR (some th)), (1, lvI (l1)), (2, lvI (l2)), (4, lvI (l4)), (5, lvJ (l5))] ⟨rfl, rfl, rfl, rfl, rfl, trivial⟩ ?_
      exact X9_cutAll_b129_s th go17 hg17 l1 l2 l4 l5 _
    · refine si_aload_n 0 dX9_cutAll_78 rfl rfl ?_
      refine si_gR 10 1 fl_X9_14 dX9_cutAll_79 (by decide) rfl (fun x2 => ?_)
      refine si_iload_n 2 dX9_cutAll_82 rfl rfl ?_
      refine si_ia dX9_cutAll_83 (fun x3 => ?_)
      refine si_csI [lvI (x3)] dX9_cutAll_84 rfl mc_X9_isLetter ml_X9_165 st_X9_isLetter rfl ⟨Nat.le_of_ble_eq_true rfl, Nat.le_of_ble_eq_true rfl, Nat.le_of_ble_eq_true rfl, Nat.le_of_ble_eq_true rfl⟩ (Nat.le_of_ble_eq_true rfl) (fun _ hq => ct_X9_isLetter _ _ hq) (fun q4 => ?_)
      refine si_if_eq 129 dX9_cutAll_87 (by decide) ?_ ?_
      · refine si_widen 0 0 (Nat.le_of_ble_eq_true rfl) (Nat.le_of_ble_eq_true rfl) ?_
        refine si_lo [(0, lvR (some th)), (1, lvI (l1)), (2, lvI (l2)), (4, lvI (l4)), (5, lvJ (l5))] ⟨rfl, rfl, rfl, rfl, rfl, trivial⟩ ?_
        exact X9_cutAll_b129_s th go17 hg17 l1 l2 l4 l5 _
      · refine si_iload_n 2 dX9_cutAll_90 rfl rfl ?_
        refine si_iload 4 dX9_cutAll_91 rfl ?_
        refine si_isub dX9_cutAll_93 ?_
        refine si_bipush (v := 9) dX9_cutAll_94 (by decide) ?_
        refine si_icmp_ge 119 dX9_cutAll_96 (by decide) ?_ ?_
        · refine si_lload 5 dX9_cutAll_119 rfl ?_
          refine si_widen 0 0 (Nat.le_of_ble_eq_true rfl) (Nat.le_of_ble_eq_true rfl) ?_
          refine si_lo [(0, lvR (some th)), (1, lvI (l1)), (2, lvI (l2)), (4, lvI (l4))] ⟨rfl, rfl, rfl, rfl, trivial⟩ ?_
          exact X9_cutAll_b121_s th go17 (X9_cutAll_L70 th go17 n) hg17 ih l1 l2 l4 l5 _
        · refine si_ldc2 dX9_cutAll_99 kc_X9_172 ?_
          refine si_lload 5 dX9_cutAll_102 rfl ?_
          refine si_lmul dX9_cutAll_104 ?_
          refine si_aload_n 0 dX9_cutAll_105 rfl rfl ?_
          refine si_gR 10 1 fl_X9_14 dX9_cutAll_106 (by decide) rfl (fun x5 => ?_)
          refine si_iload_n 2 dX9_cutAll_109 rfl rfl ?_
          refine si_ia dX9_cutAll_110 (fun x6 => ?_)
          refine si_csI [lvI (x6)] dX9_cutAll_111 rfl mc_X9_rank ml_X9_174 st_X9_rank rfl ⟨Nat.le_of_ble_eq_true rfl, Nat.le_of_ble_eq_true rfl, Nat.le_of_ble_eq_true rfl, Nat.le_of_ble_eq_true rfl⟩ (Nat.le_of_ble_eq_true rfl) (fun _ hq => ct_X9_rank _ _ hq) (fun q7 => ?_)
          refine si_i2l dX9_cutAll_114 ?_
          refine si_ladd dX9_cutAll_115 ?_
          refine si_goto 121 dX9_cutAll_116 (by decide) ?_
          refine si_widen 0 0 (Nat.le_of_ble_eq_true rfl) (Nat.le_of_ble_eq_true rfl) ?_
          refine si_lo [(0, lvR (some th)), (1, lvI (l1)), (2, lvI (l2)), (4, lvI (l4))] ⟨rfl, rfl, rfl, rfl, trivial⟩ ?_
          exact X9_cutAll_b121_s th go17 (X9_cutAll_L70 th go17 n) hg17 ih l1 l2 l4 (((37 : Int64) * l5) + q7.1.toInt64) _
set_option maxHeartbeats 4000000 in
set_option maxRecDepth 100000 in
theorem X9_cutAll_b210_s {E : EV} (th : Nat) (go17 : Int32 → Int32 → HS → Option (HS)) (go159 : Int32 → Int32 → Int32 → Int64 → HS → Option (HS)) (hg17 : ∀ (l1 : Int32) (l2 : Int32) (h : HS), Sim E mi_X9_cutAll (fin oV) 0 0 17 [(0, lvR (some th)), (1, lvI (l1)), (2, lvI (l2))] [] h (go17 l1 l2 h)) (hg159 : ∀ (l1 : Int32) (l2 : Int32) (l4 : Int32) (l5 : Int64) (h : HS), Sim E mi_X9_cutAll (fin oV) 0 0 159 [(0, lvR (some th)), (1, lvI (l1)), (2, lvI (l2)), (4, lvI (l4)), (5, lvJ (l5))] [] h (go159 l1 l2 l4 l5 h)) (l1 : Int32) (l2 : Int32) (l4 : Int32) (s0 : Int64) (h : HS) : Sim E mi_X9_cutAll (fin oV) 0 0 210 [(0, lvR (some th)), (1, lvI (l1)), (2, lvI (l2)), (4, lvI (l4))] [.long (s0)] h (X9_cutAll_b210 th go17 go159 l1 l2 l4 s0 h) := by
  unfold X9_cutAll_b210
  refine si_lstore 5 dX9_cutAll_210 (by decide) ?_
  refine si_iinc 2 (1) dX9_cutAll_212 rfl (by decide) (by decide) ?_
  refine si_goto 159 dX9_cutAll_215 (by decide) ?_
  refine si_widen 0 0 (Nat.le_of_ble_eq_true rfl) (Nat.le_of_ble_eq_true rfl) ?_
  refine si_lo [(0, lvR (some th)), (1, lvI (l1)), (2, lvI (l2 + (1))), (4, lvI (l4)), (5, lvJ (s0))] ⟨rfl, rfl, rfl, rfl, rfl, trivial⟩ ?_
  exact hg159 l1 (l2 + (1)) l4 s0 _
set_option maxHeartbeats 4000000 in
set_option maxRecDepth 100000 in
theorem X9_cutAll_b236_s {E : EV} (th : Nat) (go17 : Int32 → Int32 → HS → Option (HS)) (hg17 : ∀ (l1 : Int32) (l2 : Int32) (h : HS), Sim E mi_X9_cutAll (fin oV) 0 0 17 [(0, lvR (some th)), (1, lvI (l1)), (2, lvI (l2))] [] h (go17 l1 l2 h)) (l1 : Int32) (l2 : Int32) (l5 : Int64) (s2 : Int32) (s1 : Int32) (s0 : Option Nat) (h : HS) : Sim E mi_X9_cutAll (fin oV) 0 0 236 [(0, lvR (some th)), (1, lvI (l1)), (2, lvI (l2)), (5, lvJ (l5))] [.int (s2), .int (s1), va_rf (s0)] h (X9_cutAll_b236 th go17 l1 l2 l5 s2 s1 s0 h) := by
  unfold X9_cutAll_b236
  refine si_is dX9_cutAll_236 (fun h1 => ?_)
  refine si_goto 265 dX9_cutAll_237 (by decide) ?_
  refine si_widen 0 0 (Nat.le_of_ble_eq_true rfl) (Nat.le_of_ble_eq_true rfl) ?_
  refine si_lo [(0, lvR (some th)), (1, lvI (l1)), (2, lvI (l2)), (5, lvJ (l5))] ⟨rfl, rfl, rfl, rfl, trivial⟩ ?_
  exact X9_cutAll_b265_s th go17 hg17 l1 l2 l5 _
set_option maxHeartbeats 4000000 in
set_option maxRecDepth 100000 in
theorem X9_cutAll_b218_s {E : EV} (th : Nat) (go17 : Int32 → Int32 → HS → Option (HS)) (hg17 : ∀ (l1 : Int32) (l2 : Int32) (h : HS), Sim E mi_X9_cutAll (fin oV) 0 0 17 [(0, lvR (some th)), (1, lvI (l1)), (2, lvI (l2))] [] h (go17 l1 l2 h)) (l1 : Int32) (l2 : Int32) (l4 : Int32) (l5 : Int64) (h : HS) : Sim E mi_X9_cutAll (fin oV) 0 0 218 [(0, lvR (some th)), (1, lvI (l1)), (2, lvI (l2)), (4, lvI (l4)), (5, lvJ (l5))] [] h (X9_cutAll_b218 th go17 l1 l2 l4 l5 h) := by
  unfold X9_cutAll_b218
  refine si_aload_n 0 dX9_cutAll_218 rfl rfl ?_
  refine si_gR 10 4 fl_X9_24 dX9_cutAll_219 (by decide) rfl (fun x1 => ?_)
  refine si_iload_n 1 dX9_cutAll_222 rfl rfl ?_
  refine si_iload_n 2 dX9_cutAll_223 rfl rfl ?_
  refine si_iload 4 dX9_cutAll_224 rfl ?_
  refine si_isub dX9_cutAll_226 ?_
  refine si_iconst (v := 4) dX9_cutAll_227 (by decide) ?_
  refine si_icmp_le 235 dX9_cutAll_228 (by decide) ?_ ?_
  · refine si_iconst (v := 2) dX9_cutAll_235 (by decide) ?_
    refine si_widen 0 0 (Nat.le_of_ble_eq_true rfl) (Nat.le_of_ble_eq_true rfl) ?_
    refine si_lo [(0, lvR (some th)), (1, lvI (l1)), (2, lvI (l2)), (5, lvJ (l5))] ⟨rfl, rfl, rfl, rfl, trivial⟩ ?_
    exact X9_cutAll_b236_s th go17 hg17 l1 l2 l5 ((2 : Int32)) l1 x1 _
  · refine si_iconst (v := 4) dX9_cutAll_231 (by decide) ?_
    refine si_goto 236 dX9_cutAll_232 (by decide) ?_
    refine si_widen 0 0 (Nat.le_of_ble_eq_true rfl) (Nat.le_of_ble_eq_true rfl) ?_
    refine si_lo [(0, lvR (some th)), (1, lvI (l1)), (2, lvI (l2)), (5, lvJ (l5))] ⟨rfl, rfl, rfl, rfl, trivial⟩ ?_
    exact X9_cutAll_b236_s th go17 hg17 l1 l2 l5 ((4 : Int32)) l1 x1 _
set_option maxHeartbeats 4000000 in
set_option maxRecDepth 100000 in
theorem X9_cutAll_L159_s {E : EV} (th : Nat) (go17 : Int32 → Int32 → HS → Option (HS)) (hg17 : ∀ (l1 : Int32) (l2 : Int32) (h : HS), Sim E mi_X9_cutAll (fin oV) 0 0 17 [(0, lvR (some th)), (1, lvI (l1)), (2, lvI (l2))] [] h (go17 l1 l2 h)) (n : Nat) : ∀ (l1 : Int32) (l2 : Int32) (l4 : Int32) (l5 : Int64) (h : HS), Sim E mi_X9_cutAll (fin oV) 0 0 159 [(0, lvR (some th)), (1, lvI (l1)), (2, lvI (l2)), (4, lvI (l4)), (5, lvJ (l5))] [] h (X9_cutAll_L159 th go17 n l1 l2 l4 l5 h) := by
  induction n with
  | zero => intro l1 l2 l4 l5 h; exact si_none
  | succ n ih =>
    intro l1 l2 l4 l5 h
    unfold X9_cutAll_L159
    refine si_iload_n 2 dX9_cutAll_159 rfl rfl ?_
    refine si_aload_n 0 dX9_cutAll_160 rfl rfl ?_
    refine si_gI 10 3 fl_X9_169 dX9_cutAll_161 (by decide) rfl (fun x1 => ?_)
    refine si_icmp_ge 218 dX9_cutAll_164 (by decide) ?_ ?_
    · refine si_widen 0 0 (Nat.le_of_ble_eq_true rfl) (Nat.le_of_ble_eq_true rfl) ?_
      refine si_lo [(0, lvR (some th)), (1, lvI (l1)), (2, lvI (l2)), (4, lvI (l4)), (5, lvJ (l5))] ⟨rfl, rfl, rfl, rfl, rfl, trivial⟩ ?_
      exact X9_cutAll_b218_s th go17 hg17 l1 l2 l4 l5 _
    · refine si_aload_n 0 dX9_cutAll_167 rfl rfl ?_
      refine si_gR 10 1 fl_X9_14 dX9_cutAll_168 (by decide) rfl (fun x2 => ?_)
      refine si_iload_n 2 dX9_cutAll_171 rfl rfl ?_
      refine si_ia dX9_cutAll_172 (fun x3 => ?_)
      refine si_csI [lvI (x3)] dX9_cutAll_173 rfl mc_X9_isDigit ml_X9_178 st_X9_isDigit rfl ⟨Nat.le_of_ble_eq_true rfl, Nat.le_of_ble_eq_true rfl, Nat.le_of_ble_eq_true rfl, Nat.le_of_ble_eq_true rfl⟩ (Nat.le_of_ble_eq_true rfl) (fun _ hq => ct_X9_isDigit _ _ hq) (fun q4 => ?_)
      refine si_if_eq 218 dX9_cutAll_176 (by decide) ?_ ?_
      · refine si_widen 0 0 (Nat.le_of_ble_eq_true rfl) (Nat.le_of_ble_eq_true rfl) ?_
        refine si_lo [(0, lvR (some th)), (1, lvI (l1)), (2, lvI (l2)), (4, lvI (l4)), (5, lvJ (l5))] ⟨rfl, rfl, rfl, rfl, rfl, trivial⟩ ?_
        exact X9_cutAll_b218_s th go17 hg17 l1 l2 l4 l5 _
      · refine si_iload_n 2 dX9_cutAll_179 rfl rfl ?_
        refine si_iload 4 dX9_cutAll_180 rfl ?_
        refine si_isub dX9_cutAll_182 ?_
        refine si_iconst (v := 4) dX9_cutAll_183 (by decide) ?_
        refine si_icmp_ge 208 dX9_cutAll_184 (by decide) ?_ ?_
        · refine si_lload 5 dX9_cutAll_208 rfl ?_
          refine si_widen 0 0 (Nat.le_of_ble_eq_true rfl) (Nat.le_of_ble_eq_true rfl) ?_
          refine si_lo [(0, lvR (some th)), (1, lvI (l1)), (2, lvI (l2)), (4, lvI (l4))] ⟨rfl, rfl, rfl, rfl, trivial⟩ ?_
          exact X9_cutAll_b210_s th go17 (X9_cutAll_L159 th go17 n) hg17 ih l1 l2 l4 l5 _
        · refine si_ldc2 dX9_cutAll_187 kc_X9_181 ?_
          refine si_lload 5 dX9_cutAll_190 rfl ?_
          refine si_lmul dX9_cutAll_192 ?_
          refine si_aload_n 0 dX9_cutAll_193 rfl rfl ?_
          refine si_gR 10 1 fl_X9_14 dX9_cutAll_194 (by decide) rfl (fun x5 => ?_)
          refine si_iload_n 2 dX9_cutAll_197 rfl rfl ?_
          refine si_ia dX9_cutAll_198 (fun x6 => ?_)
          refine si_i2l dX9_cutAll_199 ?_
          refine si_ladd dX9_cutAll_200 ?_
          refine si_ldc2 dX9_cutAll_201 kc_X9_183 ?_
          refine si_lsub dX9_cutAll_204 ?_
          refine si_goto 210 dX9_cutAll_205 (by decide) ?_
          refine si_widen 0 0 (Nat.le_of_ble_eq_true rfl) (Nat.le_of_ble_eq_true rfl) ?_
          refine si_lo [(0, lvR (some th)), (1, lvI (l1)), (2, lvI (l2)), (4, lvI (l4))] ⟨rfl, rfl, rfl, rfl, trivial⟩ ?_
          exact X9_cutAll_b210_s th go17 (X9_cutAll_L159 th go17 n) hg17 ih l1 l2 l4 ((((10 : Int64) * l5) + x6.toInt64) - (48 : Int64)) _
set_option maxHeartbeats 4000000 in
set_option maxRecDepth 100000 in
theorem X9_cutAll_b261_s {E : EV} (th : Nat) (go17 : Int32 → Int32 → HS → Option (HS)) (hg17 : ∀ (l1 : Int32) (l2 : Int32) (h : HS), Sim E mi_X9_cutAll (fin oV) 0 0 17 [(0, lvR (some th)), (1, lvI (l1)), (2, lvI (l2))] [] h (go17 l1 l2 h)) (l1 : Int32) (l2 : Int32) (l5 : Int64) (s2 : Int32) (s1 : Int32) (s0 : Option Nat) (h : HS) : Sim E mi_X9_cutAll (fin oV) 0 0 261 [(0, lvR (some th)), (1, lvI (l1)), (2, lvI (l2)), (5, lvJ (l5))] [.int (s2), .int (s1), va_rf (s0)] h (X9_cutAll_b261 th go17 l1 l2 l5 s2 s1 s0 h) := by
  unfold X9_cutAll_b261
  refine si_is dX9_cutAll_261 (fun h1 => ?_)
  refine si_iinc 2 (1) dX9_cutAll_262 rfl (by decide) (by decide) ?_
  refine si_widen 0 0 (Nat.le_of_ble_eq_true rfl) (Nat.le_of_ble_eq_true rfl) ?_
  refine si_lo [(0, lvR (some th)), (1, lvI (l1)), (2, lvI (l2 + (1))), (5, lvJ (l5))] ⟨rfl, rfl, rfl, rfl, trivial⟩ ?_
  exact X9_cutAll_b265_s th go17 hg17 l1 (l2 + (1)) l5 _
set_option maxHeartbeats 4000000 in
set_option maxRecDepth 100000 in
theorem X9_cutAll_L17_s {E : EV} (th : Nat) (n : Nat) : ∀ (l1 : Int32) (l2 : Int32) (h : HS), Sim E mi_X9_cutAll (fin oV) 0 0 17 [(0, lvR (some th)), (1, lvI (l1)), (2, lvI (l2))] [] h (X9_cutAll_L17 th n l1 l2 h) := by
  induction n with
  | zero => intro l1 l2 h; exact si_none
  | succ n ih =>
    intro l1 l2 h
    unfold X9_cutAll_L17
    refine si_iload_n 2 dX9_cutAll_17 rfl rfl ?_
    refine si_aload_n 0 dX9_cutAll_18 rfl rfl ?_
    refine si_gI 10 3 fl_X9_169 dX9_cutAll_19 (by decide) rfl (fun x1 => ?_)
    refine si_icmp_ge 279 dX9_cutAll_22 (by decide) ?_ ?_
    · refine si_aload_n 0 dX9_cutAll_279 rfl rfl ?_
      refine si_gR 10 4 fl_X9_24 dX9_cutAll_280 (by decide) rfl (fun x2 => ?_)
      refine si_iload_n 1 dX9_cutAll_283 rfl rfl ?_
      refine si_iconst (v := 0) dX9_cutAll_284 (by decide) ?_
      refine si_is dX9_cutAll_285 (fun h3 => ?_)
      refine si_aload_n 0 dX9_cutAll_286 rfl rfl ?_
      refine si_gR 10 5 fl_X9_27 dX9_cutAll_287 (by decide) rfl (fun x4 => ?_)
      refine si_iload_n 1 dX9_cutAll_290 rfl rfl ?_
      refine si_aload_n 0 dX9_cutAll_291 rfl rfl ?_
      refine si_gI 10 3 fl_X9_169 dX9_cutAll_292 (by decide) rfl (fun x5 => ?_)
      refine si_is dX9_cutAll_295 (fun h6 => ?_)
      refine si_aload_n 0 dX9_cutAll_296 rfl rfl ?_
      refine si_iconst (v := 0) dX9_cutAll_297 (by decide) ?_
      refine si_pI 10 7 fl_X9_188 dX9_cutAll_298 (by decide) rfl rfl rfl (fw_X9_188 _) (fun h7 => ?_)
      refine si_aload_n 0 dX9_cutAll_301 rfl rfl ?_
      refine si_iconst (v := 0) dX9_cutAll_302 (by decide) ?_
      refine si_pI 10 8 fl_X9_191 dX9_cutAll_303 (by decide) rfl rfl rfl (fw_X9_191 _) (fun h8 => ?_)
      exact si_vret dX9_cutAll_306 rfl (Nat.le_of_ble_eq_true rfl) (Nat.le_of_ble_eq_true rfl)
    · refine si_aload_n 0 dX9_cutAll_25 rfl rfl ?_
      refine si_gR 10 1 fl_X9_14 dX9_cutAll_26 (by decide) rfl (fun x9 => ?_)
      refine si_iload_n 2 dX9_cutAll_29 rfl rfl ?_
      refine si_ia dX9_cutAll_30 (fun x10 => ?_)
      refine si_istore_n 3 dX9_cutAll_31 rfl (by decide) ?_
      refine si_iload_n 3 dX9_cutAll_32 rfl rfl ?_
      refine si_bipush (v := 10) dX9_cutAll_33 (by decide) ?_
      refine si_icmp_eq 44 dX9_cutAll_35 (by decide) ?_ ?_
      · refine si_widen 0 0 (Nat.le_of_ble_eq_true rfl) (Nat.le_of_ble_eq_true rfl) ?_
        refine si_lo [(0, lvR (some th)), (1, lvI (l1)), (2, lvI (l2))] ⟨rfl, rfl, rfl, trivial⟩ ?_
        exact X9_cutAll_b44_s th (X9_cutAll_L17 th n) ih l1 l2 _
      · refine si_iload_n 3 dX9_cutAll_38 rfl rfl ?_
        refine si_bipush (v := 32) dX9_cutAll_39 (by decide) ?_
        refine si_icmp_ne 50 dX9_cutAll_41 (by decide) ?_ ?_
        · refine si_widen 0 0 (Nat.le_of_ble_eq_true rfl) (Nat.le_of_ble_eq_true rfl) ?_
          refine si_lo [(0, lvR (some th)), (1, lvI (l1)), (2, lvI (l2))] ⟨rfl, rfl, rfl, trivial⟩ ?_
          exact X9_cutAll_b44_s th (X9_cutAll_L17 th n) ih l1 l2 _
        · refine si_iload_n 2 dX9_cutAll_50 rfl rfl ?_
          refine si_istore 4 dX9_cutAll_51 (by decide) ?_
          refine si_lconst (v := 0) dX9_cutAll_53 (by decide) ?_
          refine si_lstore 5 dX9_cutAll_54 (by decide) ?_
          refine si_aload_n 0 dX9_cutAll_56 rfl rfl ?_
          refine si_gR 10 5 fl_X9_27 dX9_cutAll_57 (by decide) rfl (fun x11 => ?_)
          refine si_iload_n 1 dX9_cutAll_60 rfl rfl ?_
          refine si_iload_n 2 dX9_cutAll_61 rfl rfl ?_
          refine si_is dX9_cutAll_62 (fun h12 => ?_)
          refine si_iload_n 3 dX9_cutAll_63 rfl rfl ?_
          refine si_csI [lvI (x10)] dX9_cutAll_64 rfl mc_X9_isLetter ml_X9_165 st_X9_isLetter rfl ⟨Nat.le_of_ble_eq_true rfl, Nat.le_of_ble_eq_true rfl, Nat.le_of_ble_eq_true rfl, Nat.le_of_ble_eq_true rfl⟩ (Nat.le_of_ble_eq_true rfl) (fun _ hq => ct_X9_isLetter _ _ hq) (fun q13 => ?_)
          refine si_if_eq 152 dX9_cutAll_67 (by decide) ?_ ?_
          · refine si_iload_n 3 dX9_cutAll_152 rfl rfl ?_
            refine si_csI [lvI (x10)] dX9_cutAll_153 rfl mc_X9_isDigit ml_X9_178 st_X9_isDigit rfl ⟨Nat.le_of_ble_eq_true rfl, Nat.le_of_ble_eq_true rfl, Nat.le_of_ble_eq_true rfl, Nat.le_of_ble_eq_true rfl⟩ (Nat.le_of_ble_eq_true rfl) (fun _ hq => ct_X9_isDigit _ _ hq) (fun q14 => ?_)
            refine si_if_eq 240 dX9_cutAll_156 (by decide) ?_ ?_
            · refine si_iload_n 3 dX9_cutAll_240 rfl rfl ?_
              refine si_i2l dX9_cutAll_241 ?_
              refine si_lstore 5 dX9_cutAll_242 (by decide) ?_
              refine si_aload_n 0 dX9_cutAll_244 rfl rfl ?_
              refine si_gR 10 4 fl_X9_24 dX9_cutAll_245 (by decide) rfl (fun x15 => ?_)
              refine si_iload_n 1 dX9_cutAll_248 rfl rfl ?_
              refine si_iload_n 3 dX9_cutAll_249 rfl rfl ?_
              refine si_csI [lvI (x10)] dX9_cutAll_250 rfl mc_X9_isSignOf ml_X9_185 st_X9_isSignOf rfl ⟨Nat.le_of_ble_eq_true rfl, Nat.le_of_ble_eq_true rfl, Nat.le_of_ble_eq_true rfl, Nat.le_of_ble_eq_true rfl⟩ (Nat.le_of_ble_eq_true rfl) (fun _ hq => ct_X9_isSignOf _ _ hq) (fun q16 => ?_)
              refine si_if_eq 260 dX9_cutAll_253 (by decide) ?_ ?_
              · refine si_iconst (v := 4) dX9_cutAll_260 (by decide) ?_
                refine si_widen 0 0 (Nat.le_of_ble_eq_true rfl) (Nat.le_of_ble_eq_true rfl) ?_
                refine si_lo [(0, lvR (some th)), (1, lvI (l1)), (2, lvI (l2)), (5, lvJ (x10.toInt64))] ⟨rfl, rfl, rfl, rfl, trivial⟩ ?_
                exact X9_cutAll_b261_s th (X9_cutAll_L17 th n) ih l1 l2 x10.toInt64 ((4 : Int32)) l1 x15 _
              · refine si_iconst (v := 3) dX9_cutAll_256 (by decide) ?_
                refine si_goto 261 dX9_cutAll_257 (by decide) ?_
                refine si_widen 0 0 (Nat.le_of_ble_eq_true rfl) (Nat.le_of_ble_eq_true rfl) ?_
                refine si_lo [(0, lvR (some th)), (1, lvI (l1)), (2, lvI (l2)), (5, lvJ (x10.toInt64))] ⟨rfl, rfl, rfl, rfl, trivial⟩ ?_
                exact X9_cutAll_b261_s th (X9_cutAll_L17 th n) ih l1 l2 x10.toInt64 ((3 : Int32)) l1 x15 _
            · refine si_widen 0 0 (Nat.le_of_ble_eq_true rfl) (Nat.le_of_ble_eq_true rfl) ?_
              refine si_lo [(0, lvR (some th)), (1, lvI (l1)), (2, lvI (l2)), (4, lvI (l2)), (5, lvJ ((0 : Int64)))] ⟨rfl, rfl, rfl, rfl, rfl, trivial⟩ ?_
              exact X9_cutAll_L159_s th (X9_cutAll_L17 th n) ih FU l1 l2 l2 ((0 : Int64)) _
          · refine si_widen 0 0 (Nat.le_of_ble_eq_true rfl) (Nat.le_of_ble_eq_true rfl) ?_
            refine si_lo [(0, lvR (some th)), (1, lvI (l1)), (2, lvI (l2)), (4, lvI (l2)), (5, lvJ ((0 : Int64)))] ⟨rfl, rfl, rfl, rfl, rfl, trivial⟩ ?_
            exact X9_cutAll_L70_s th (X9_cutAll_L17 th n) ih FU l1 l2 l2 ((0 : Int64)) _
set_option maxHeartbeats 4000000 in
set_option maxRecDepth 100000 in
theorem s_X9_cutAll {E : EV} (th : Nat) (h : HS) : Sim E mi_X9_cutAll (fin oV) 0 0 0 (largs 0 [lvR (some th)]) [] h (m_X9_cutAll th h) := by
  unfold m_X9_cutAll
  refine si_aload_n 0 dX9_cutAll_0 rfl rfl ?_
  refine si_aload_n 0 dX9_cutAll_1 rfl rfl ?_
  refine si_gI 10 2 fl_X9_11 dX9_cutAll_2 (by decide) rfl (fun x1 => ?_)
  refine si_pI 10 3 fl_X9_169 dX9_cutAll_5 (by decide) rfl rfl rfl (fw_X9_169 _) (fun h2 => ?_)
  refine si_aload_n 0 dX9_cutAll_8 rfl rfl ?_
  refine si_iconst (v := 0) dX9_cutAll_9 (by decide) ?_
  refine si_pI 10 2 fl_X9_11 dX9_cutAll_10 (by decide) rfl rfl rfl (fw_X9_11 _) (fun h3 => ?_)
  refine si_iconst (v := 0) dX9_cutAll_13 (by decide) ?_
  refine si_istore_n 1 dX9_cutAll_14 rfl (by decide) ?_
  refine si_iconst (v := 0) dX9_cutAll_15 (by decide) ?_
  refine si_istore_n 2 dX9_cutAll_16 rfl (by decide) ?_
  refine si_widen 0 0 (Nat.le_of_ble_eq_true rfl) (Nat.le_of_ble_eq_true rfl) ?_
  refine si_lo [(0, lvR (some th)), (1, lvI ((0 : Int32))), (2, lvI ((0 : Int32)))] ⟨rfl, rfl, rfl, trivial⟩ ?_
  exact X9_cutAll_L17_s th FU ((0 : Int32)) ((0 : Int32)) _
theorem ct_X9_cutAll (l : Launch) (G : GG) {th : Nat} {h : HS} {q : HS} (hq : m_X9_cutAll th h = some q) : Ct l yX9_cutAll mi_X9_cutAll G [lvR (some th)] h (oV q) := Ct.of (out := oV) (by decide +kernel) rfl rfl (Nat.le_of_ble_eq_true rfl) hq (fun _ _ _ _ _ _ _ _ => s_X9_cutAll th h)
set_option maxHeartbeats 4000000 in
set_option maxRecDepth 100000 in
theorem s_X9_wrong {E : EV} (th : Nat) (a1 : Int32) (h : HS) : Sim E mi_X9_wrong (fin oV) 0 0 0 (largs 0 [lvR (some th), lvI a1]) [] h (m_X9_wrong th a1 h) := by
  unfold m_X9_wrong
  refine si_aload_n 0 dX9_wrong_0 rfl rfl ?_
  refine si_gI 10 8 fl_X9_191 dX9_wrong_1 (by decide) rfl (fun x1 => ?_)
  refine si_if_ne 25 dX9_wrong_4 (by decide) ?_ ?_
  · refine si_aload_n 0 dX9_wrong_7 rfl rfl ?_
    refine si_iload_n 1 dX9_wrong_8 rfl rfl ?_
    refine si_bipush (v := 16) dX9_wrong_9 (by decide) ?_
    refine si_aload_n 0 dX9_wrong_11 rfl rfl ?_
    refine si_gR 10 5 fl_X9_27 dX9_wrong_12 (by decide) rfl (fun x2 => ?_)
    refine si_aload_n 0 dX9_wrong_15 rfl rfl ?_
    refine si_gI 10 7 fl_X9_188 dX9_wrong_16 (by decide) rfl (fun x3 => ?_)
    refine si_ia dX9_wrong_19 (fun x4 => ?_)
    refine si_imul dX9_wrong_20 ?_
    refine si_iadd dX9_wrong_21 ?_
    refine si_pI 10 8 fl_X9_191 dX9_wrong_22 (by decide) rfl rfl rfl (fw_X9_191 _) (fun h5 => ?_)
    exact si_vret dX9_wrong_25 rfl (Nat.le_of_ble_eq_true rfl) (Nat.le_of_ble_eq_true rfl)
  · exact si_vret dX9_wrong_25 rfl (Nat.le_of_ble_eq_true rfl) (Nat.le_of_ble_eq_true rfl)
theorem ct_X9_wrong (l : Launch) (G : GG) {th : Nat} {a1 : Int32} {h : HS} {q : HS} (hq : m_X9_wrong th a1 h = some q) : Ct l yX9_wrong mi_X9_wrong G [lvR (some th), lvI a1] h (oV q) := Ct.of (out := oV) (by decide +kernel) rfl rfl (Nat.le_of_ble_eq_true rfl) hq (fun _ _ _ _ _ _ _ _ => s_X9_wrong th a1 h)
set_option maxHeartbeats 4000000 in
set_option maxRecDepth 100000 in
theorem s_X9_isSign {E : EV} (th : Nat) (a1 : Int32) (h : HS) : Sim E mi_X9_isSign (fin oI) 0 0 0 (largs 0 [lvR (some th), lvI a1]) [] h (m_X9_isSign th a1 h) := by
  unfold m_X9_isSign
  refine si_aload_n 0 dX9_isSign_0 rfl rfl ?_
  refine si_gI 10 8 fl_X9_191 dX9_isSign_1 (by decide) rfl (fun x1 => ?_)
  refine si_if_ne 39 dX9_isSign_4 (by decide) ?_ ?_
  · refine si_aload_n 0 dX9_isSign_7 rfl rfl ?_
    refine si_gR 10 4 fl_X9_24 dX9_isSign_8 (by decide) rfl (fun x2 => ?_)
    refine si_aload_n 0 dX9_isSign_11 rfl rfl ?_
    refine si_gI 10 7 fl_X9_188 dX9_isSign_12 (by decide) rfl (fun x3 => ?_)
    refine si_ia dX9_isSign_15 (fun x4 => ?_)
    refine si_iconst (v := 3) dX9_isSign_16 (by decide) ?_
    refine si_icmp_ne 39 dX9_isSign_17 (by decide) ?_ ?_
    · refine si_aload_n 0 dX9_isSign_20 rfl rfl ?_
      refine si_gR 10 6 fl_X9_30 dX9_isSign_21 (by decide) rfl (fun x5 => ?_)
      refine si_aload_n 0 dX9_isSign_24 rfl rfl ?_
      refine si_gI 10 7 fl_X9_188 dX9_isSign_25 (by decide) rfl (fun x6 => ?_)
      refine si_la dX9_isSign_28 (fun x7 => ?_)
      refine si_iload_n 1 dX9_isSign_29 rfl rfl ?_
      refine si_i2l dX9_isSign_30 ?_
      refine si_lcmp dX9_isSign_31 ?_
      refine si_if_ne 39 dX9_isSign_32 (by decide) ?_ ?_
      · refine si_iconst (v := 1) dX9_isSign_35 (by decide) ?_
        refine si_goto 40 dX9_isSign_36 (by decide) ?_
        exact si_zret dX9_isSign_40 rfl rfl (Nat.le_of_ble_eq_true rfl) (Nat.le_of_ble_eq_true rfl)
      · refine si_iconst (v := 0) dX9_isSign_39 (by decide) ?_
        exact si_zret dX9_isSign_40 rfl rfl (Nat.le_of_ble_eq_true rfl) (Nat.le_of_ble_eq_true rfl)
    · refine si_iconst (v := 0) dX9_isSign_39 (by decide) ?_
      exact si_zret dX9_isSign_40 rfl rfl (Nat.le_of_ble_eq_true rfl) (Nat.le_of_ble_eq_true rfl)
  · refine si_iconst (v := 0) dX9_isSign_39 (by decide) ?_
    exact si_zret dX9_isSign_40 rfl rfl (Nat.le_of_ble_eq_true rfl) (Nat.le_of_ble_eq_true rfl)
theorem ct_X9_isSign (l : Launch) (G : GG) {th : Nat} {a1 : Int32} {h : HS} {q : Int32 × HS} (hq : m_X9_isSign th a1 h = some q) : Ct l yX9_isSign mi_X9_isSign G [lvR (some th), lvI a1] h (oI q) := Ct.of (out := oI) (by decide +kernel) rfl rfl (Nat.le_of_ble_eq_true rfl) hq (fun _ _ _ _ _ _ _ _ => s_X9_isSign th a1 h)
set_option maxHeartbeats 4000000 in
set_option maxRecDepth 100000 in
theorem s_X9_isWord {E : EV} (th : Nat) (a1 : Int32) (h : HS) : Sim E mi_X9_isWord (fin oI) 0 0 0 (largs 0 [lvR (some th), lvI a1]) [] h (m_X9_isWord th a1 h) := by
  unfold m_X9_isWord
  refine si_aload_n 0 dX9_isWord_0 rfl rfl ?_
  refine si_gI 10 8 fl_X9_191 dX9_isWord_1 (by decide) rfl (fun x1 => ?_)
  refine si_if_ne 43 dX9_isWord_4 (by decide) ?_ ?_
  · refine si_aload_n 0 dX9_isWord_7 rfl rfl ?_
    refine si_gR 10 4 fl_X9_24 dX9_isWord_8 (by decide) rfl (fun x2 => ?_)
    refine si_aload_n 0 dX9_isWord_11 rfl rfl ?_
    refine si_gI 10 7 fl_X9_188 dX9_isWord_12 (by decide) rfl (fun x3 => ?_)
    refine si_ia dX9_isWord_15 (fun x4 => ?_)
    refine si_iconst (v := 1) dX9_isWord_16 (by decide) ?_
    refine si_icmp_ne 43 dX9_isWord_17 (by decide) ?_ ?_
    · refine si_aload_n 0 dX9_isWord_20 rfl rfl ?_
      refine si_gR 10 6 fl_X9_30 dX9_isWord_21 (by decide) rfl (fun x5 => ?_)
      refine si_aload_n 0 dX9_isWord_24 rfl rfl ?_
      refine si_gI 10 7 fl_X9_188 dX9_isWord_25 (by decide) rfl (fun x6 => ?_)
      refine si_la dX9_isWord_28 (fun x7 => ?_)
      refine si_aload_n 0 dX9_isWord_29 rfl rfl ?_
      refine si_gR 10 9 fl_X9_50 dX9_isWord_30 (by decide) rfl (fun x8 => ?_)
      refine si_iload_n 1 dX9_isWord_33 rfl rfl ?_
      refine si_la dX9_isWord_34 (fun x9 => ?_)
      refine si_lcmp dX9_isWord_35 ?_
      refine si_if_ne 43 dX9_isWord_36 (by decide) ?_ ?_
      · refine si_iconst (v := 1) dX9_isWord_39 (by decide) ?_
        refine si_goto 44 dX9_isWord_40 (by decide) ?_
        exact si_zret dX9_isWord_44 rfl rfl (Nat.le_of_ble_eq_true rfl) (Nat.le_of_ble_eq_true rfl)
      · refine si_iconst (v := 0) dX9_isWord_43 (by decide) ?_
        exact si_zret dX9_isWord_44 rfl rfl (Nat.le_of_ble_eq_true rfl) (Nat.le_of_ble_eq_true rfl)
    · refine si_iconst (v := 0) dX9_isWord_43 (by decide) ?_
      exact si_zret dX9_isWord_44 rfl rfl (Nat.le_of_ble_eq_true rfl) (Nat.le_of_ble_eq_true rfl)
  · refine si_iconst (v := 0) dX9_isWord_43 (by decide) ?_
    exact si_zret dX9_isWord_44 rfl rfl (Nat.le_of_ble_eq_true rfl) (Nat.le_of_ble_eq_true rfl)
theorem ct_X9_isWord (l : Launch) (G : GG) {th : Nat} {a1 : Int32} {h : HS} {q : Int32 × HS} (hq : m_X9_isWord th a1 h = some q) : Ct l yX9_isWord mi_X9_isWord G [lvR (some th), lvI a1] h (oI q) := Ct.of (out := oI) (by decide +kernel) rfl rfl (Nat.le_of_ble_eq_true rfl) hq (fun _ _ _ _ _ _ _ _ => s_X9_isWord th a1 h)
set_option maxHeartbeats 4000000 in
set_option maxRecDepth 100000 in
theorem s_X9_takeSign {E : EV} (th : Nat) (a1 : Int32) (h : HS) : Sim E mi_X9_takeSign (fin oV) 0 0 0 (largs 0 [lvR (some th), lvI a1]) [] h (m_X9_takeSign th a1 h) := by
  unfold m_X9_takeSign
  refine si_aload_n 0 dX9_takeSign_0 rfl rfl ?_
  refine si_iload_n 1 dX9_takeSign_1 rfl rfl ?_
  refine si_cvI 10 [lvI (a1)] dX9_takeSign_2 rfl mc_X9_isSign ml_X9_194 im_X9_isSign rfl se_X9_isSign (by decide) rfl ⟨Nat.le_of_ble_eq_true rfl, Nat.le_of_ble_eq_true rfl, Nat.le_of_ble_eq_true rfl, Nat.le_of_ble_eq_true rfl⟩ (Nat.le_of_ble_eq_true rfl) (fun _ _ hq => ct_X9_isSign _ _ hq) (fun q1 => ?_)
  refine si_if_eq 21 dX9_takeSign_5 (by decide) ?_ ?_
  · refine si_aload_n 0 dX9_takeSign_21 rfl rfl ?_
    refine si_iconst (v := 1) dX9_takeSign_22 (by decide) ?_
    refine si_cvV 10 [lvI ((1 : Int32))] dX9_takeSign_23 rfl mc_X9_wrong ml_X9_197 im_X9_wrong rfl se_X9_wrong (by decide) rfl ⟨Nat.le_of_ble_eq_true rfl, Nat.le_of_ble_eq_true rfl, Nat.le_of_ble_eq_true rfl, Nat.le_of_ble_eq_true rfl⟩ (Nat.le_of_ble_eq_true rfl) (fun _ _ hq => ct_X9_wrong _ _ hq) (fun h3 => ?_)
    exact si_vret dX9_takeSign_26 rfl (Nat.le_of_ble_eq_true rfl) (Nat.le_of_ble_eq_true rfl)
  · refine si_aload_n 0 dX9_takeSign_8 rfl rfl ?_
    refine si_dup dX9_takeSign_9 (cat_rf _) ?_
    refine si_gI 10 7 fl_X9_188 dX9_takeSign_10 (by decide) rfl (fun x5 => ?_)
    refine si_iconst (v := 1) dX9_takeSign_13 (by decide) ?_
    refine si_iadd dX9_takeSign_14 ?_
    refine si_pI 10 7 fl_X9_188 dX9_takeSign_15 (by decide) rfl rfl rfl (fw_X9_188 _) (fun h6 => ?_)
    refine si_goto 26 dX9_takeSign_18 (by decide) ?_
    exact si_vret dX9_takeSign_26 rfl (Nat.le_of_ble_eq_true rfl) (Nat.le_of_ble_eq_true rfl)
theorem ct_X9_takeSign (l : Launch) (G : GG) {th : Nat} {a1 : Int32} {h : HS} {q : HS} (hq : m_X9_takeSign th a1 h = some q) : Ct l yX9_takeSign mi_X9_takeSign G [lvR (some th), lvI a1] h (oV q) := Ct.of (out := oV) (by decide +kernel) rfl rfl (Nat.le_of_ble_eq_true rfl) hq (fun _ _ _ _ _ _ _ _ => s_X9_takeSign th a1 h)
set_option maxHeartbeats 4000000 in
set_option maxRecDepth 100000 in
theorem X9_hasSign_b20_s {E : EV} (th : Nat) (l2 : Int32) (s2 : Int32) (s1 : Int32) (s0 : Option Nat) (h : HS) : Sim E mi_X9_hasSign (fin oI) 0 0 20 [(2, lvI (l2))] [.int (s2), .int (s1), va_rf (s0)] h (X9_hasSign_b20 th l2 s2 s1 s0 h) := by
  unfold X9_hasSign_b20
  refine si_iadd dX9_hasSign_20 ?_
  refine si_pI 10 7 fl_X9_188 dX9_hasSign_21 (by decide) rfl rfl rfl (fw_X9_188 _) (fun h1 => ?_)
  refine si_iload_n 2 dX9_hasSign_24 rfl rfl ?_
  exact si_bret dX9_hasSign_25 rfl (Nat.le_of_ble_eq_true rfl) (Nat.le_of_ble_eq_true rfl)
set_option maxHeartbeats 4000000 in
set_option maxRecDepth 100000 in
theorem s_X9_hasSign {E : EV} (th : Nat) (a1 : Int32) (h : HS) : Sim E mi_X9_hasSign (fin oI) 0 0 0 (largs 0 [lvR (some th), lvI a1]) [] h (m_X9_hasSign th a1 h) := by
  unfold m_X9_hasSign
  refine si_aload_n 0 dX9_hasSign_0 rfl rfl ?_
  refine si_iload_n 1 dX9_hasSign_1 rfl rfl ?_
  refine si_cvI 10 [lvI (a1)] dX9_hasSign_2 rfl mc_X9_isSign ml_X9_194 im_X9_isSign rfl se_X9_isSign (by decide) rfl ⟨Nat.le_of_ble_eq_true rfl, Nat.le_of_ble_eq_true rfl, Nat.le_of_ble_eq_true rfl, Nat.le_of_ble_eq_true rfl⟩ (Nat.le_of_ble_eq_true rfl) (fun _ _ hq => ct_X9_isSign _ _ hq) (fun q1 => ?_)
  refine si_istore_n 2 dX9_hasSign_5 rfl (by decide) ?_
  refine si_aload_n 0 dX9_hasSign_6 rfl rfl ?_
  refine si_dup dX9_hasSign_7 (cat_rf _) ?_
  refine si_gI 10 7 fl_X9_188 dX9_hasSign_8 (by decide) rfl (fun x3 => ?_)
  refine si_iload_n 2 dX9_hasSign_11 rfl rfl ?_
  refine si_if_eq 19 dX9_hasSign_12 (by decide) ?_ ?_
  · refine si_iconst (v := 0) dX9_hasSign_19 (by decide) ?_
    refine si_widen 0 0 (Nat.le_of_ble_eq_true rfl) (Nat.le_of_ble_eq_true rfl) ?_
    refine si_lo [(2, lvI (q1.1))] ⟨rfl, trivial⟩ ?_
    exact X9_hasSign_b20_s th q1.1 ((0 : Int32)) x3 (some th) _
  · refine si_iconst (v := 1) dX9_hasSign_15 (by decide) ?_
    refine si_goto 20 dX9_hasSign_16 (by decide) ?_
    refine si_widen 0 0 (Nat.le_of_ble_eq_true rfl) (Nat.le_of_ble_eq_true rfl) ?_
    refine si_lo [(2, lvI (q1.1))] ⟨rfl, trivial⟩ ?_
    exact X9_hasSign_b20_s th q1.1 ((1 : Int32)) x3 (some th) _
theorem ct_X9_hasSign (l : Launch) (G : GG) {th : Nat} {a1 : Int32} {h : HS} {q : Int32 × HS} (hq : m_X9_hasSign th a1 h = some q) : Ct l yX9_hasSign mi_X9_hasSign G [lvR (some th), lvI a1] h (oI q) := Ct.of (out := oI) (by decide +kernel) rfl rfl (Nat.le_of_ble_eq_true rfl) hq (fun _ _ _ _ _ _ _ _ => s_X9_hasSign th a1 h)
set_option maxHeartbeats 4000000 in
set_option maxRecDepth 100000 in
theorem X9_hasWord_b20_s {E : EV} (th : Nat) (l2 : Int32) (s2 : Int32) (s1 : Int32) (s0 : Option Nat) (h : HS) : Sim E mi_X9_hasWord (fin oI) 0 0 20 [(2, lvI (l2))] [.int (s2), .int (s1), va_rf (s0)] h (X9_hasWord_b20 th l2 s2 s1 s0 h) := by
  unfold X9_hasWord_b20
  refine si_iadd dX9_hasWord_20 ?_
  refine si_pI 10 7 fl_X9_188 dX9_hasWord_21 (by decide) rfl rfl rfl (fw_X9_188 _) (fun h1 => ?_)
  refine si_iload_n 2 dX9_hasWord_24 rfl rfl ?_
  exact si_bret dX9_hasWord_25 rfl (Nat.le_of_ble_eq_true rfl) (Nat.le_of_ble_eq_true rfl)
set_option maxHeartbeats 4000000 in
set_option maxRecDepth 100000 in
theorem s_X9_hasWord {E : EV} (th : Nat) (a1 : Int32) (h : HS) : Sim E mi_X9_hasWord (fin oI) 0 0 0 (largs 0 [lvR (some th), lvI a1]) [] h (m_X9_hasWord th a1 h) := by
  unfold m_X9_hasWord
  refine si_aload_n 0 dX9_hasWord_0 rfl rfl ?_
  refine si_iload_n 1 dX9_hasWord_1 rfl rfl ?_
  refine si_cvI 10 [lvI (a1)] dX9_hasWord_2 rfl mc_X9_isWord ml_X9_201 im_X9_isWord rfl se_X9_isWord (by decide) rfl ⟨Nat.le_of_ble_eq_true rfl, Nat.le_of_ble_eq_true rfl, Nat.le_of_ble_eq_true rfl, Nat.le_of_ble_eq_true rfl⟩ (Nat.le_of_ble_eq_true rfl) (fun _ _ hq => ct_X9_isWord _ _ hq) (fun q1 => ?_)
  refine si_istore_n 2 dX9_hasWord_5 rfl (by decide) ?_
  refine si_aload_n 0 dX9_hasWord_6 rfl rfl ?_
  refine si_dup dX9_hasWord_7 (cat_rf _) ?_
  refine si_gI 10 7 fl_X9_188 dX9_hasWord_8 (by decide) rfl (fun x3 => ?_)
  refine si_iload_n 2 dX9_hasWord_11 rfl rfl ?_
  refine si_if_eq 19 dX9_hasWord_12 (by decide) ?_ ?_
  · refine si_iconst (v := 0) dX9_hasWord_19 (by decide) ?_
    refine si_widen 0 0 (Nat.le_of_ble_eq_true rfl) (Nat.le_of_ble_eq_true rfl) ?_
    refine si_lo [(2, lvI (q1.1))] ⟨rfl, trivial⟩ ?_
    exact X9_hasWord_b20_s th q1.1 ((0 : Int32)) x3 (some th) _
  · refine si_iconst (v := 1) dX9_hasWord_15 (by decide) ?_
    refine si_goto 20 dX9_hasWord_16 (by decide) ?_
    refine si_widen 0 0 (Nat.le_of_ble_eq_true rfl) (Nat.le_of_ble_eq_true rfl) ?_
    refine si_lo [(2, lvI (q1.1))] ⟨rfl, trivial⟩ ?_
    exact X9_hasWord_b20_s th q1.1 ((1 : Int32)) x3 (some th) _
theorem ct_X9_hasWord (l : Launch) (G : GG) {th : Nat} {a1 : Int32} {h : HS} {q : Int32 × HS} (hq : m_X9_hasWord th a1 h = some q) : Ct l yX9_hasWord mi_X9_hasWord G [lvR (some th), lvI a1] h (oI q) := Ct.of (out := oI) (by decide +kernel) rfl rfl (Nat.le_of_ble_eq_true rfl) hq (fun _ _ _ _ _ _ _ _ => s_X9_hasWord th a1 h)
set_option maxHeartbeats 4000000 in
set_option maxRecDepth 100000 in
theorem s_X9_takeWord {E : EV} (th : Nat) (a1 : Int32) (h : HS) : Sim E mi_X9_takeWord (fin oV) 0 0 0 (largs 0 [lvR (some th), lvI a1]) [] h (m_X9_takeWord th a1 h) := by
  unfold m_X9_takeWord
  refine si_aload_n 0 dX9_takeWord_0 rfl rfl ?_
  refine si_iload_n 1 dX9_takeWord_1 rfl rfl ?_
  refine si_cvI 10 [lvI (a1)] dX9_takeWord_2 rfl mc_X9_hasWord ml_X9_204 im_X9_hasWord rfl se_X9_hasWord (by decide) rfl ⟨Nat.le_of_ble_eq_true rfl, Nat.le_of_ble_eq_true rfl, Nat.le_of_ble_eq_true rfl, Nat.le_of_ble_eq_true rfl⟩ (Nat.le_of_ble_eq_true rfl) (fun _ _ hq => ct_X9_hasWord _ _ hq) (fun q1 => ?_)
  refine si_if_ne 13 dX9_takeWord_5 (by decide) ?_ ?_
  · refine si_aload_n 0 dX9_takeWord_8 rfl rfl ?_
    refine si_iconst (v := 1) dX9_takeWord_9 (by decide) ?_
    refine si_cvV 10 [lvI ((1 : Int32))] dX9_takeWord_10 rfl mc_X9_wrong ml_X9_197 im_X9_wrong rfl se_X9_wrong (by decide) rfl ⟨Nat.le_of_ble_eq_true rfl, Nat.le_of_ble_eq_true rfl, Nat.le_of_ble_eq_true rfl, Nat.le_of_ble_eq_true rfl⟩ (Nat.le_of_ble_eq_true rfl) (fun _ _ hq => ct_X9_wrong _ _ hq) (fun h3 => ?_)
    exact si_vret dX9_takeWord_13 rfl (Nat.le_of_ble_eq_true rfl) (Nat.le_of_ble_eq_true rfl)
  · exact si_vret dX9_takeWord_13 rfl (Nat.le_of_ble_eq_true rfl) (Nat.le_of_ble_eq_true rfl)
theorem ct_X9_takeWord (l : Launch) (G : GG) {th : Nat} {a1 : Int32} {h : HS} {q : HS} (hq : m_X9_takeWord th a1 h = some q) : Ct l yX9_takeWord mi_X9_takeWord G [lvR (some th), lvI a1] h (oV q) := Ct.of (out := oV) (by decide +kernel) rfl rfl (Nat.le_of_ble_eq_true rfl) hq (fun _ _ _ _ _ _ _ _ => s_X9_takeWord th a1 h)
set_option maxHeartbeats 4000000 in
set_option maxRecDepth 100000 in
theorem s_X9_emit {E : EV} (th : Nat) (a1 : Int32) (a2 : Int32) (h : HS) : Sim E mi_X9_emit (fin oV) 0 0 0 (largs 0 [lvR (some th), lvI a1, lvI a2]) [] h (m_X9_emit th a1 a2 h) := by
  unfold m_X9_emit
  refine si_aload_n 0 dX9_emit_0 rfl rfl ?_
  refine si_gR 10 15 fl_X9_62 dX9_emit_1 (by decide) rfl (fun x1 => ?_)
  refine si_sipush (v := 13200) dX9_emit_4 (by decide) ?_
  refine si_aload_n 0 dX9_emit_7 rfl rfl ?_
  refine si_gI 10 17 fl_X9_207 dX9_emit_8 (by decide) rfl (fun x2 => ?_)
  refine si_iadd dX9_emit_11 ?_
  refine si_iload_n 1 dX9_emit_12 rfl rfl ?_
  refine si_is dX9_emit_13 (fun h3 => ?_)
  refine si_aload_n 0 dX9_emit_14 rfl rfl ?_
  refine si_gR 10 16 fl_X9_65 dX9_emit_15 (by decide) rfl (fun x4 => ?_)
  refine si_sipush (v := 13200) dX9_emit_18 (by decide) ?_
  refine si_aload_n 0 dX9_emit_21 rfl rfl ?_
  refine si_gI 10 17 fl_X9_207 dX9_emit_22 (by decide) rfl (fun x5 => ?_)
  refine si_iadd dX9_emit_25 ?_
  refine si_iload_n 2 dX9_emit_26 rfl rfl ?_
  refine si_is dX9_emit_27 (fun h6 => ?_)
  refine si_aload_n 0 dX9_emit_28 rfl rfl ?_
  refine si_dup dX9_emit_29 (cat_rf _) ?_
  refine si_gI 10 17 fl_X9_207 dX9_emit_30 (by decide) rfl (fun x7 => ?_)
  refine si_iconst (v := 1) dX9_emit_33 (by decide) ?_
  refine si_iadd dX9_emit_34 ?_
  refine si_pI 10 17 fl_X9_207 dX9_emit_35 (by decide) rfl rfl rfl (fw_X9_207 _) (fun h8 => ?_)
  exact si_vret dX9_emit_38 rfl (Nat.le_of_ble_eq_true rfl) (Nat.le_of_ble_eq_true rfl)
theorem ct_X9_emit (l : Launch) (G : GG) {th : Nat} {a1 : Int32} {a2 : Int32} {h : HS} {q : HS} (hq : m_X9_emit th a1 a2 h = some q) : Ct l yX9_emit mi_X9_emit G [lvR (some th), lvI a1, lvI a2] h (oV q) := Ct.of (out := oV) (by decide +kernel) rfl rfl (Nat.le_of_ble_eq_true rfl) hq (fun _ _ _ _ _ _ _ _ => s_X9_emit th a1 a2 h)
set_option maxHeartbeats 4000000 in
set_option maxRecDepth 100000 in
theorem s_X9_opens {E : EV} (th : Nat) (h : HS) : Sim E mi_X9_opens (fin oV) 0 0 0 (largs 0 [lvR (some th)]) [] h (m_X9_opens th h) := by
  unfold m_X9_opens
  refine si_aload_n 0 dX9_opens_0 rfl rfl ?_
  refine si_gR 10 19 fl_X9_68 dX9_opens_1 (by decide) rfl (fun x1 => ?_)
  refine si_aload_n 0 dX9_opens_4 rfl rfl ?_
  refine si_gI 10 18 fl_X9_227 dX9_opens_5 (by decide) rfl (fun x2 => ?_)
  refine si_iconst (v := 0) dX9_opens_8 (by decide) ?_
  refine si_is dX9_opens_9 (fun h3 => ?_)
  refine si_aload_n 0 dX9_opens_10 rfl rfl ?_
  refine si_gR 10 20 fl_X9_71 dX9_opens_11 (by decide) rfl (fun x4 => ?_)
  refine si_aload_n 0 dX9_opens_14 rfl rfl ?_
  refine si_gI 10 18 fl_X9_227 dX9_opens_15 (by decide) rfl (fun x5 => ?_)
  refine si_iconst (v := 0) dX9_opens_18 (by decide) ?_
  refine si_is dX9_opens_19 (fun h6 => ?_)
  refine si_aload_n 0 dX9_opens_20 rfl rfl ?_
  refine si_gR 10 21 fl_X9_74 dX9_opens_21 (by decide) rfl (fun x7 => ?_)
  refine si_aload_n 0 dX9_opens_24 rfl rfl ?_
  refine si_gI 10 18 fl_X9_227 dX9_opens_25 (by decide) rfl (fun x8 => ?_)
  refine si_iconst (v := 0) dX9_opens_28 (by decide) ?_
  refine si_is dX9_opens_29 (fun h9 => ?_)
  exact si_vret dX9_opens_30 rfl (Nat.le_of_ble_eq_true rfl) (Nat.le_of_ble_eq_true rfl)
theorem ct_X9_opens (l : Launch) (G : GG) {th : Nat} {h : HS} {q : HS} (hq : m_X9_opens th h = some q) : Ct l yX9_opens mi_X9_opens G [lvR (some th)] h (oV q) := Ct.of (out := oV) (by decide +kernel) rfl rfl (Nat.le_of_ble_eq_true rfl) hq (fun _ _ _ _ _ _ _ _ => s_X9_opens th h)
set_option maxHeartbeats 4000000 in
set_option maxRecDepth 100000 in
theorem X9_partWord_L2_s {E : EV} (th : Nat) (n : Nat) : ∀ (l1 : Int32) (h : HS), Sim E mi_X9_partWord (fin oI) 0 0 2 [(0, lvR (some th)), (1, lvI (l1))] [] h (X9_partWord_L2 th n l1 h) := by
  induction n with
  | zero => intro l1 h; exact si_none
  | succ n ih =>
    intro l1 h
    unfold X9_partWord_L2
    refine si_iload_n 1 dX9_partWord_2 rfl rfl ?_
    refine si_iconst (v := 5) dX9_partWord_3 (by decide) ?_
    refine si_icmp_ge 25 dX9_partWord_4 (by decide) ?_ ?_
    · refine si_iconst (v := -1) dX9_partWord_25 (by decide) ?_
      exact si_iret dX9_partWord_26 rfl (Nat.le_of_ble_eq_true rfl) (Nat.le_of_ble_eq_true rfl)
    · refine si_aload_n 0 dX9_partWord_7 rfl rfl ?_
      refine si_iconst (v := 3) dX9_partWord_8 (by decide) ?_
      refine si_iload_n 1 dX9_partWord_9 rfl rfl ?_
      refine si_iadd dX9_partWord_10 ?_
      refine si_cvI 10 [lvI ((3 : Int32) + l1)] dX9_partWord_11 rfl mc_X9_isWord ml_X9_201 im_X9_isWord rfl se_X9_isWord (by decide) rfl ⟨Nat.le_of_ble_eq_true rfl, Nat.le_of_ble_eq_true rfl, Nat.le_of_ble_eq_true rfl, Nat.le_of_ble_eq_true rfl⟩ (Nat.le_of_ble_eq_true rfl) (fun _ _ hq => ct_X9_isWord _ _ hq) (fun q1 => ?_)
      refine si_if_eq 19 dX9_partWord_14 (by decide) ?_ ?_
      · refine si_iinc 1 (1) dX9_partWord_19 rfl (by decide) (by decide) ?_
        refine si_goto 2 dX9_partWord_22 (by decide) ?_
        refine si_widen 0 0 (Nat.le_of_ble_eq_true rfl) (Nat.le_of_ble_eq_true rfl) ?_
        refine si_lo [(0, lvR (some th)), (1, lvI (l1 + (1)))] ⟨rfl, rfl, trivial⟩ ?_
        exact ih (l1 + (1)) _
      · refine si_iload_n 1 dX9_partWord_17 rfl rfl ?_
        exact si_iret dX9_partWord_18 rfl (Nat.le_of_ble_eq_true rfl) (Nat.le_of_ble_eq_true rfl)
set_option maxHeartbeats 4000000 in
set_option maxRecDepth 100000 in
theorem s_X9_partWord {E : EV} (th : Nat) (h : HS) : Sim E mi_X9_partWord (fin oI) 0 0 0 (largs 0 [lvR (some th)]) [] h (m_X9_partWord th h) := by
  unfold m_X9_partWord
  refine si_iconst (v := 0) dX9_partWord_0 (by decide) ?_
  refine si_istore_n 1 dX9_partWord_1 rfl (by decide) ?_
  refine si_widen 0 0 (Nat.le_of_ble_eq_true rfl) (Nat.le_of_ble_eq_true rfl) ?_
  refine si_lo [(0, lvR (some th)), (1, lvI ((0 : Int32)))] ⟨rfl, rfl, trivial⟩ ?_
  exact X9_partWord_L2_s th FU ((0 : Int32)) _
theorem ct_X9_partWord (l : Launch) (G : GG) {th : Nat} {h : HS} {q : Int32 × HS} (hq : m_X9_partWord th h = some q) : Ct l yX9_partWord mi_X9_partWord G [lvR (some th)] h (oI q) := Ct.of (out := oI) (by decide +kernel) rfl rfl (Nat.le_of_ble_eq_true rfl) hq (fun _ _ _ _ _ _ _ _ => s_X9_partWord th h)
set_option maxHeartbeats 4000000 in
set_option maxRecDepth 100000 in
theorem X9_part_b121_s {E : EV} (th : Nat) (s2 : Int32) (s1 : Int32) (s0 : Option Nat) (h : HS) : Sim E mi_X9_part (fin oI) 0 0 121 [(0, lvR (some th))] [.int (s2), .int (s1), va_rf (s0)] h (X9_part_b121 th s2 s1 s0 h) := by
  unfold X9_part_b121
  refine si_cvV 10 [lvI (s1), lvI (s2)] dX9_part_121 rfl mc_X9_emit ml_X9_239 im_X9_emit rfl se_X9_emit (by decide) rfl ⟨Nat.le_of_ble_eq_true rfl, Nat.le_of_ble_eq_true rfl, Nat.le_of_ble_eq_true rfl, Nat.le_of_ble_eq_true rfl⟩ (Nat.le_of_ble_eq_true rfl) (fun _ _ hq => ct_X9_emit _ _ hq) (fun h1 => ?_)
  refine si_aload_n 0 dX9_part_124 rfl rfl ?_
  refine si_dup dX9_part_125 (cat_rf _) ?_
  refine si_gI 10 7 fl_X9_188 dX9_part_126 (by decide) rfl (fun x3 => ?_)
  refine si_iconst (v := 1) dX9_part_129 (by decide) ?_
  refine si_iadd dX9_part_130 ?_
  refine si_pI 10 7 fl_X9_188 dX9_part_131 (by decide) rfl rfl rfl (fw_X9_188 _) (fun h4 => ?_)
  refine si_iconst (v := 0) dX9_part_134 (by decide) ?_
  exact si_zret dX9_part_135 rfl rfl (Nat.le_of_ble_eq_true rfl) (Nat.le_of_ble_eq_true rfl)
set_option maxHeartbeats 4000000 in
set_option maxRecDepth 100000 in
theorem X9_part_b103_s {E : EV} (th : Nat) (l1 : Int32) (s1 : Int32) (s0 : Option Nat) (h : HS) : Sim E mi_X9_part (fin oI) 0 0 103 [(0, lvR (some th)), (1, lvI (l1))] [.int (s1), va_rf (s0)] h (X9_part_b103 th l1 s1 s0 h) := by
  unfold X9_part_b103
  refine si_iload_n 1 dX9_part_103 rfl rfl ?_
  refine si_if_ge 120 dX9_part_104 (by decide) ?_ ?_
  · refine si_iload_n 1 dX9_part_120 rfl rfl ?_
    refine si_widen 0 0 (Nat.le_of_ble_eq_true rfl) (Nat.le_of_ble_eq_true rfl) ?_
    refine si_lo [(0, lvR (some th))] ⟨rfl, trivial⟩ ?_
    exact X9_part_b121_s th l1 s1 s0 _
  · refine si_aload_n 0 dX9_part_107 rfl rfl ?_
    refine si_gR 10 6 fl_X9_30 dX9_part_108 (by decide) rfl (fun x1 => ?_)
    refine si_aload_n 0 dX9_part_111 rfl rfl ?_
    refine si_gI 10 7 fl_X9_188 dX9_part_112 (by decide) rfl (fun x2 => ?_)
    refine si_la dX9_part_115 (fun x3 => ?_)
    refine si_l2i dX9_part_116 ?_
    refine si_goto 121 dX9_part_117 (by decide) ?_
    refine si_widen 0 0 (Nat.le_of_ble_eq_true rfl) (Nat.le_of_ble_eq_true rfl) ?_
    refine si_lo [(0, lvR (some th))] ⟨rfl, trivial⟩ ?_
    exact X9_part_b121_s th x3.toInt32 s1 s0 _
set_option maxHeartbeats 4000000 in
set_option maxRecDepth 100000 in
theorem X9_part_b59_s {E : EV} (th : Nat) (l1 : Int32) (h : HS) : Sim E mi_X9_part (fin oI) 0 0 59 [(0, lvR (some th)), (1, lvI (l1))] [] h (X9_part_b59 th l1 h) := by
  unfold X9_part_b59
  refine si_aload_n 0 dX9_part_59 rfl rfl ?_
  refine si_gI 10 8 fl_X9_191 dX9_part_60 (by decide) rfl (fun x1 => ?_)
  refine si_if_le 68 dX9_part_63 (by decide) ?_ ?_
  · refine si_aload_n 0 dX9_part_68 rfl rfl ?_
    refine si_bipush (v := 40) dX9_part_69 (by decide) ?_
    refine si_cvI 10 [lvI ((40 : Int32))] dX9_part_71 rfl mc_X9_hasSign ml_X9_250 im_X9_hasSign rfl se_X9_hasSign (by decide) rfl ⟨Nat.le_of_ble_eq_true rfl, Nat.le_of_ble_eq_true rfl, Nat.le_of_ble_eq_true rfl, Nat.le_of_ble_eq_true rfl⟩ (Nat.le_of_ble_eq_true rfl) (fun _ _ hq => ct_X9_hasSign _ _ hq) (fun q2 => ?_)
    refine si_if_eq 93 dX9_part_74 (by decide) ?_ ?_
    · refine si_aload_n 0 dX9_part_93 rfl rfl ?_
      refine si_iload_n 1 dX9_part_94 rfl rfl ?_
      refine si_if_ge 102 dX9_part_95 (by decide) ?_ ?_
      · refine si_iconst (v := 2) dX9_part_102 (by decide) ?_
        refine si_widen 0 0 (Nat.le_of_ble_eq_true rfl) (Nat.le_of_ble_eq_true rfl) ?_
        refine si_lo [(0, lvR (some th)), (1, lvI (l1))] ⟨rfl, rfl, trivial⟩ ?_
        exact X9_part_b103_s th l1 ((2 : Int32)) (some th) _
      · refine si_iconst (v := 1) dX9_part_98 (by decide) ?_
        refine si_goto 103 dX9_part_99 (by decide) ?_
        refine si_widen 0 0 (Nat.le_of_ble_eq_true rfl) (Nat.le_of_ble_eq_true rfl) ?_
        refine si_lo [(0, lvR (some th)), (1, lvI (l1))] ⟨rfl, rfl, trivial⟩ ?_
        exact X9_part_b103_s th l1 ((1 : Int32)) (some th) _
    · refine si_aload_n 0 dX9_part_77 rfl rfl ?_
      refine si_dup dX9_part_78 (cat_rf _) ?_
      refine si_gI 10 18 fl_X9_227 dX9_part_79 (by decide) rfl (fun x4 => ?_)
      refine si_iconst (v := 1) dX9_part_82 (by decide) ?_
      refine si_iadd dX9_part_83 ?_
      refine si_pI 10 18 fl_X9_227 dX9_part_84 (by decide) rfl rfl rfl (fw_X9_227 _) (fun h5 => ?_)
      refine si_aload_n 0 dX9_part_87 rfl rfl ?_
      refine si_cvV 10 [] dX9_part_88 rfl mc_X9_opens ml_X9_230 im_X9_opens rfl se_X9_opens (by decide) rfl ⟨Nat.le_of_ble_eq_true rfl, Nat.le_of_ble_eq_true rfl, Nat.le_of_ble_eq_true rfl, Nat.le_of_ble_eq_true rfl⟩ (Nat.le_of_ble_eq_true rfl) (fun _ _ hq => ct_X9_opens _ _ hq) (fun h6 => ?_)
      refine si_iconst (v := 1) dX9_part_91 (by decide) ?_
      exact si_zret dX9_part_92 rfl rfl (Nat.le_of_ble_eq_true rfl) (Nat.le_of_ble_eq_true rfl)
  · refine si_iconst (v := 0) dX9_part_66 (by decide) ?_
    exact si_zret dX9_part_67 rfl rfl (Nat.le_of_ble_eq_true rfl) (Nat.le_of_ble_eq_true rfl)
set_option maxHeartbeats 4000000 in
set_option maxRecDepth 100000 in
theorem X9_part_b46_s {E : EV} (th : Nat) (l1 : Int32) (h : HS) : Sim E mi_X9_part (fin oI) 0 0 46 [(0, lvR (some th)), (1, lvI (l1))] [] h (X9_part_b46 th l1 h) := by
  unfold X9_part_b46
  refine si_aload_n 0 dX9_part_46 rfl rfl ?_
  refine si_gI 10 18 fl_X9_227 dX9_part_47 (by decide) rfl (fun x1 => ?_)
  refine si_iconst (v := 5) dX9_part_50 (by decide) ?_
  refine si_icmp_ne 59 dX9_part_51 (by decide) ?_ ?_
  · refine si_aload_n 0 dX9_part_54 rfl rfl ?_
    refine si_iconst (v := 5) dX9_part_55 (by decide) ?_
    refine si_cvV 10 [lvI ((5 : Int32))] dX9_part_56 rfl mc_X9_wrong ml_X9_197 im_X9_wrong rfl se_X9_wrong (by decide) rfl ⟨Nat.le_of_ble_eq_true rfl, Nat.le_of_ble_eq_true rfl, Nat.le_of_ble_eq_true rfl, Nat.le_of_ble_eq_true rfl⟩ (Nat.le_of_ble_eq_true rfl) (fun _ _ hq => ct_X9_wrong _ _ hq) (fun h2 => ?_)
    refine si_widen 0 0 (Nat.le_of_ble_eq_true rfl) (Nat.le_of_ble_eq_true rfl) ?_
    refine si_lo [(0, lvR (some th)), (1, lvI (l1))] ⟨rfl, rfl, trivial⟩ ?_
    exact X9_part_b59_s th l1 _
  · refine si_widen 0 0 (Nat.le_of_ble_eq_true rfl) (Nat.le_of_ble_eq_true rfl) ?_
    refine si_lo [(0, lvR (some th)), (1, lvI (l1))] ⟨rfl, rfl, trivial⟩ ?_
    exact X9_part_b59_s th l1 _
set_option maxHeartbeats 4000000 in
set_option maxRecDepth 100000 in
theorem s_X9_part {E : EV} (th : Nat) (h : HS) : Sim E mi_X9_part (fin oI) 0 0 0 (largs 0 [lvR (some th)]) [] h (m_X9_part th h) := by
  unfold m_X9_part
  refine si_aload_n 0 dX9_part_0 rfl rfl ?_
  refine si_cvI 10 [] dX9_part_1 rfl mc_X9_partWord ml_X9_246 im_X9_partWord rfl se_X9_partWord (by decide) rfl ⟨Nat.le_of_ble_eq_true rfl, Nat.le_of_ble_eq_true rfl, Nat.le_of_ble_eq_true rfl, Nat.le_of_ble_eq_true rfl⟩ (Nat.le_of_ble_eq_true rfl) (fun _ _ hq => ct_X9_partWord _ _ hq) (fun q1 => ?_)
  refine si_istore_n 1 dX9_part_4 rfl (by decide) ?_
  refine si_aload_n 0 dX9_part_5 rfl rfl ?_
  refine si_gI 10 8 fl_X9_191 dX9_part_6 (by decide) rfl (fun x3 => ?_)
  refine si_if_ne 46 dX9_part_9 (by decide) ?_ ?_
  · refine si_aload_n 0 dX9_part_12 rfl rfl ?_
    refine si_gR 10 4 fl_X9_24 dX9_part_13 (by decide) rfl (fun x4 => ?_)
    refine si_aload_n 0 dX9_part_16 rfl rfl ?_
    refine si_gI 10 7 fl_X9_188 dX9_part_17 (by decide) rfl (fun x5 => ?_)
    refine si_ia dX9_part_20 (fun x6 => ?_)
    refine si_iconst (v := 2) dX9_part_21 (by decide) ?_
    refine si_icmp_eq 46 dX9_part_22 (by decide) ?_ ?_
    · refine si_widen 0 0 (Nat.le_of_ble_eq_true rfl) (Nat.le_of_ble_eq_true rfl) ?_
      refine si_lo [(0, lvR (some th)), (1, lvI (q1.1))] ⟨rfl, rfl, trivial⟩ ?_
      exact X9_part_b46_s th q1.1 _
    · refine si_aload_n 0 dX9_part_25 rfl rfl ?_
      refine si_bipush (v := 40) dX9_part_26 (by decide) ?_
      refine si_cvI 10 [lvI ((40 : Int32))] dX9_part_28 rfl mc_X9_isSign ml_X9_194 im_X9_isSign rfl se_X9_isSign (by decide) rfl ⟨Nat.le_of_ble_eq_true rfl, Nat.le_of_ble_eq_true rfl, Nat.le_of_ble_eq_true rfl, Nat.le_of_ble_eq_true rfl⟩ (Nat.le_of_ble_eq_true rfl) (fun _ _ hq => ct_X9_isSign _ _ hq) (fun q7 => ?_)
      refine si_if_ne 46 dX9_part_31 (by decide) ?_ ?_
      · refine si_iload_n 1 dX9_part_34 rfl rfl ?_
        refine si_if_ge 46 dX9_part_35 (by decide) ?_ ?_
        · refine si_widen 0 0 (Nat.le_of_ble_eq_true rfl) (Nat.le_of_ble_eq_true rfl) ?_
          refine si_lo [(0, lvR (some th)), (1, lvI (q1.1))] ⟨rfl, rfl, trivial⟩ ?_
          exact X9_part_b46_s th q1.1 _
        · refine si_aload_n 0 dX9_part_38 rfl rfl ?_
          refine si_iconst (v := 1) dX9_part_39 (by decide) ?_
          refine si_cvV 10 [lvI ((1 : Int32))] dX9_part_40 rfl mc_X9_wrong ml_X9_197 im_X9_wrong rfl se_X9_wrong (by decide) rfl ⟨Nat.le_of_ble_eq_true rfl, Nat.le_of_ble_eq_true rfl, Nat.le_of_ble_eq_true rfl, Nat.le_of_ble_eq_true rfl⟩ (Nat.le_of_ble_eq_true rfl) (fun _ _ hq => ct_X9_wrong _ _ hq) (fun h9 => ?_)
          refine si_goto 59 dX9_part_43 (by decide) ?_
          refine si_widen 0 0 (Nat.le_of_ble_eq_true rfl) (Nat.le_of_ble_eq_true rfl) ?_
          refine si_lo [(0, lvR (some th)), (1, lvI (q1.1))] ⟨rfl, rfl, trivial⟩ ?_
          exact X9_part_b59_s th q1.1 _
      · refine si_widen 0 0 (Nat.le_of_ble_eq_true rfl) (Nat.le_of_ble_eq_true rfl) ?_
        refine si_lo [(0, lvR (some th)), (1, lvI (q1.1))] ⟨rfl, rfl, trivial⟩ ?_
        exact X9_part_b46_s th q1.1 _
  · refine si_widen 0 0 (Nat.le_of_ble_eq_true rfl) (Nat.le_of_ble_eq_true rfl) ?_
    refine si_lo [(0, lvR (some th)), (1, lvI (q1.1))] ⟨rfl, rfl, trivial⟩ ?_
    exact X9_part_b46_s th q1.1 _
theorem ct_X9_part (l : Launch) (G : GG) {th : Nat} {h : HS} {q : Int32 × HS} (hq : m_X9_part th h = some q) : Ct l yX9_part mi_X9_part G [lvR (some th)] h (oI q) := Ct.of (out := oI) (by decide +kernel) rfl rfl (Nat.le_of_ble_eq_true rfl) hq (fun _ _ _ _ _ _ _ _ => s_X9_part th h)
set_option maxHeartbeats 4000000 in
set_option maxRecDepth 100000 in
theorem X9_goesOnBehind_b83_s {E : EV} (th : Nat) (s2 : Int32) (s1 : Int32) (s0 : Option Nat) (h : HS) : Sim E mi_X9_goesOnBehind (fin oI) 0 0 83 [(0, lvR (some th))] [.int (s2), .int (s1), va_rf (s0)] h (X9_goesOnBehind_b83 th s2 s1 s0 h) := by
  unfold X9_goesOnBehind_b83
  refine si_is dX9_goesOnBehind_83 (fun h1 => ?_)
  refine si_aload_n 0 dX9_goesOnBehind_84 rfl rfl ?_
  refine si_dup dX9_goesOnBehind_85 (cat_rf _) ?_
  refine si_gI 10 7 fl_X9_188 dX9_goesOnBehind_86 (by decide) rfl (fun x2 => ?_)
  refine si_iconst (v := 1) dX9_goesOnBehind_89 (by decide) ?_
  refine si_iadd dX9_goesOnBehind_90 ?_
  refine si_pI 10 7 fl_X9_188 dX9_goesOnBehind_91 (by decide) rfl rfl rfl (fw_X9_188 _) (fun h3 => ?_)
  refine si_iconst (v := 1) dX9_goesOnBehind_94 (by decide) ?_
  exact si_zret dX9_goesOnBehind_95 rfl rfl (Nat.le_of_ble_eq_true rfl) (Nat.le_of_ble_eq_true rfl)
set_option maxHeartbeats 4000000 in
set_option maxRecDepth 100000 in
theorem X9_goesOnBehind_b61_s {E : EV} (th : Nat)  (h : HS) : Sim E mi_X9_goesOnBehind (fin oI) 0 0 61 [(0, lvR (some th))] [] h (X9_goesOnBehind_b61 th  h) := by
  unfold X9_goesOnBehind_b61
  refine si_aload_n 0 dX9_goesOnBehind_61 rfl rfl ?_
  refine si_gR 10 19 fl_X9_68 dX9_goesOnBehind_62 (by decide) rfl (fun x1 => ?_)
  refine si_aload_n 0 dX9_goesOnBehind_65 rfl rfl ?_
  refine si_gI 10 18 fl_X9_227 dX9_goesOnBehind_66 (by decide) rfl (fun x2 => ?_)
  refine si_aload_n 0 dX9_goesOnBehind_69 rfl rfl ?_
  refine si_bipush (v := 43) dX9_goesOnBehind_70 (by decide) ?_
  refine si_cvI 10 [lvI ((43 : Int32))] dX9_goesOnBehind_72 rfl mc_X9_isSign ml_X9_194 im_X9_isSign rfl se_X9_isSign (by decide) rfl ⟨Nat.le_of_ble_eq_true rfl, Nat.le_of_ble_eq_true rfl, Nat.le_of_ble_eq_true rfl, Nat.le_of_ble_eq_true rfl⟩ (Nat.le_of_ble_eq_true rfl) (fun _ _ hq => ct_X9_isSign _ _ hq) (fun q3 => ?_)
  refine si_if_eq 82 dX9_goesOnBehind_75 (by decide) ?_ ?_
  · refine si_iconst (v := 4) dX9_goesOnBehind_82 (by decide) ?_
    refine si_widen 0 0 (Nat.le_of_ble_eq_true rfl) (Nat.le_of_ble_eq_true rfl) ?_
    refine si_lo [(0, lvR (some th))] ⟨rfl, trivial⟩ ?_
    exact X9_goesOnBehind_b83_s th ((4 : Int32)) x2 x1 _
  · refine si_iconst (v := 3) dX9_goesOnBehind_78 (by decide) ?_
    refine si_goto 83 dX9_goesOnBehind_79 (by decide) ?_
    refine si_widen 0 0 (Nat.le_of_ble_eq_true rfl) (Nat.le_of_ble_eq_true rfl) ?_
    refine si_lo [(0, lvR (some th))] ⟨rfl, trivial⟩ ?_
    exact X9_goesOnBehind_b83_s th ((3 : Int32)) x2 x1 _
set_option maxHeartbeats 4000000 in
set_option maxRecDepth 100000 in
theorem X9_goesOnBehind_b218_s {E : EV} (th : Nat) (go0 : HS → Option (Int32 × HS)) (hg0 : ∀  (h : HS), Sim E mi_X9_goesOnBehind (fin oI) 0 0 0 [(0, lvR (some th))] [] h (go0  h))  (h : HS) : Sim E mi_X9_goesOnBehind (fin oI) 0 0 218 [(0, lvR (some th))] [] h (X9_goesOnBehind_b218 th go0  h) := by
  unfold X9_goesOnBehind_b218
  refine si_aload_n 0 dX9_goesOnBehind_218 rfl rfl ?_
  refine si_iconst (v := 2) dX9_goesOnBehind_219 (by decide) ?_
  refine si_cvI 10 [lvI ((2 : Int32))] dX9_goesOnBehind_220 rfl mc_X9_isWord ml_X9_201 im_X9_isWord rfl se_X9_isWord (by decide) rfl ⟨Nat.le_of_ble_eq_true rfl, Nat.le_of_ble_eq_true rfl, Nat.le_of_ble_eq_true rfl, Nat.le_of_ble_eq_true rfl⟩ (Nat.le_of_ble_eq_true rfl) (fun _ _ hq => ct_X9_isWord _ _ hq) (fun q1 => ?_)
  refine si_if_eq 249 dX9_goesOnBehind_223 (by decide) ?_ ?_
  · refine si_aload_n 0 dX9_goesOnBehind_249 rfl rfl ?_
    refine si_gI 10 18 fl_X9_227 dX9_goesOnBehind_250 (by decide) rfl (fun x3 => ?_)
    refine si_if_ne 258 dX9_goesOnBehind_253 (by decide) ?_ ?_
    · refine si_iconst (v := 0) dX9_goesOnBehind_256 (by decide) ?_
      exact si_zret dX9_goesOnBehind_257 rfl rfl (Nat.le_of_ble_eq_true rfl) (Nat.le_of_ble_eq_true rfl)
    · refine si_aload_n 0 dX9_goesOnBehind_258 rfl rfl ?_
      refine si_bipush (v := 41) dX9_goesOnBehind_259 (by decide) ?_
      refine si_cvV 10 [lvI ((41 : Int32))] dX9_goesOnBehind_261 rfl mc_X9_takeSign ml_X9_243 im_X9_takeSign rfl se_X9_takeSign (by decide) rfl ⟨Nat.le_of_ble_eq_true rfl, Nat.le_of_ble_eq_true rfl, Nat.le_of_ble_eq_true rfl, Nat.le_of_ble_eq_true rfl⟩ (Nat.le_of_ble_eq_true rfl) (fun _ _ hq => ct_X9_takeSign _ _ hq) (fun h4 => ?_)
      refine si_aload_n 0 dX9_goesOnBehind_264 rfl rfl ?_
      refine si_dup dX9_goesOnBehind_265 (cat_rf _) ?_
      refine si_gI 10 18 fl_X9_227 dX9_goesOnBehind_266 (by decide) rfl (fun x6 => ?_)
      refine si_iconst (v := 1) dX9_goesOnBehind_269 (by decide) ?_
      refine si_isub dX9_goesOnBehind_270 ?_
      refine si_pI 10 18 fl_X9_227 dX9_goesOnBehind_271 (by decide) rfl rfl rfl (fw_X9_227 _) (fun h7 => ?_)
      refine si_goto 0 dX9_goesOnBehind_274 (by decide) ?_
      refine si_widen 0 0 (Nat.le_of_ble_eq_true rfl) (Nat.le_of_ble_eq_true rfl) ?_
      refine si_lo [(0, lvR (some th))] ⟨rfl, trivial⟩ ?_
      exact hg0  _
  · refine si_aload_n 0 dX9_goesOnBehind_226 rfl rfl ?_
    refine si_gR 10 21 fl_X9_74 dX9_goesOnBehind_227 (by decide) rfl (fun x8 => ?_)
    refine si_aload_n 0 dX9_goesOnBehind_230 rfl rfl ?_
    refine si_gI 10 18 fl_X9_227 dX9_goesOnBehind_231 (by decide) rfl (fun x9 => ?_)
    refine si_bipush (v := 7) dX9_goesOnBehind_234 (by decide) ?_
    refine si_is dX9_goesOnBehind_236 (fun h10 => ?_)
    refine si_aload_n 0 dX9_goesOnBehind_237 rfl rfl ?_
    refine si_dup dX9_goesOnBehind_238 (cat_rf _) ?_
    refine si_gI 10 7 fl_X9_188 dX9_goesOnBehind_239 (by decide) rfl (fun x11 => ?_)
    refine si_iconst (v := 1) dX9_goesOnBehind_242 (by decide) ?_
    refine si_iadd dX9_goesOnBehind_243 ?_
    refine si_pI 10 7 fl_X9_188 dX9_goesOnBehind_244 (by decide) rfl rfl rfl (fw_X9_188 _) (fun h12 => ?_)
    refine si_iconst (v := 1) dX9_goesOnBehind_247 (by decide) ?_
    exact si_zret dX9_goesOnBehind_248 rfl rfl (Nat.le_of_ble_eq_true rfl) (Nat.le_of_ble_eq_true rfl)
set_option maxHeartbeats 4000000 in
set_option maxRecDepth 100000 in
theorem X9_goesOnBehind_b189_s {E : EV} (th : Nat) (go0 : HS → Option (Int32 × HS)) (hg0 : ∀  (h : HS), Sim E mi_X9_goesOnBehind (fin oI) 0 0 0 [(0, lvR (some th))] [] h (go0  h))  (h : HS) : Sim E mi_X9_goesOnBehind (fin oI) 0 0 189 [(0, lvR (some th))] [] h (X9_goesOnBehind_b189 th go0  h) := by
  unfold X9_goesOnBehind_b189
  refine si_aload_n 0 dX9_goesOnBehind_189 rfl rfl ?_
  refine si_gR 10 21 fl_X9_74 dX9_goesOnBehind_190 (by decide) rfl (fun x1 => ?_)
  refine si_aload_n 0 dX9_goesOnBehind_193 rfl rfl ?_
  refine si_gI 10 18 fl_X9_227 dX9_goesOnBehind_194 (by decide) rfl (fun x2 => ?_)
  refine si_ia dX9_goesOnBehind_197 (fun x3 => ?_)
  refine si_if_eq 218 dX9_goesOnBehind_198 (by decide) ?_ ?_
  · refine si_widen 0 0 (Nat.le_of_ble_eq_true rfl) (Nat.le_of_ble_eq_true rfl) ?_
    refine si_lo [(0, lvR (some th))] ⟨rfl, trivial⟩ ?_
    exact X9_goesOnBehind_b218_s th go0 hg0  _
  · refine si_aload_n 0 dX9_goesOnBehind_201 rfl rfl ?_
    refine si_bipush (v := 7) dX9_goesOnBehind_202 (by decide) ?_
    refine si_iconst (v := 0) dX9_goesOnBehind_204 (by decide) ?_
    refine si_cvV 10 [lvI ((7 : Int32)), lvI ((0 : Int32))] dX9_goesOnBehind_205 rfl mc_X9_emit ml_X9_239 im_X9_emit rfl se_X9_emit (by decide) rfl ⟨Nat.le_of_ble_eq_true rfl, Nat.le_of_ble_eq_true rfl, Nat.le_of_ble_eq_true rfl, Nat.le_of_ble_eq_true rfl⟩ (Nat.le_of_ble_eq_true rfl) (fun _ _ hq => ct_X9_emit _ _ hq) (fun h4 => ?_)
    refine si_aload_n 0 dX9_goesOnBehind_208 rfl rfl ?_
    refine si_gR 10 21 fl_X9_74 dX9_goesOnBehind_209 (by decide) rfl (fun x6 => ?_)
    refine si_aload_n 0 dX9_goesOnBehind_212 rfl rfl ?_
    refine si_gI 10 18 fl_X9_227 dX9_goesOnBehind_213 (by decide) rfl (fun x7 => ?_)
    refine si_iconst (v := 0) dX9_goesOnBehind_216 (by decide) ?_
    refine si_is dX9_goesOnBehind_217 (fun h8 => ?_)
    refine si_widen 0 0 (Nat.le_of_ble_eq_true rfl) (Nat.le_of_ble_eq_true rfl) ?_
    refine si_lo [(0, lvR (some th))] ⟨rfl, trivial⟩ ?_
    exact X9_goesOnBehind_b218_s th go0 hg0  _
set_option maxHeartbeats 4000000 in
set_option maxRecDepth 100000 in
theorem X9_goesOnBehind_b176_s {E : EV} (th : Nat) (s2 : Int32) (s1 : Int32) (s0 : Option Nat) (h : HS) : Sim E mi_X9_goesOnBehind (fin oI) 0 0 176 [(0, lvR (some th))] [.int (s2), .int (s1), va_rf (s0)] h (X9_goesOnBehind_b176 th s2 s1 s0 h) := by
  unfold X9_goesOnBehind_b176
  refine si_is dX9_goesOnBehind_176 (fun h1 => ?_)
  refine si_aload_n 0 dX9_goesOnBehind_177 rfl rfl ?_
  refine si_dup dX9_goesOnBehind_178 (cat_rf _) ?_
  refine si_gI 10 7 fl_X9_188 dX9_goesOnBehind_179 (by decide) rfl (fun x2 => ?_)
  refine si_iconst (v := 1) dX9_goesOnBehind_182 (by decide) ?_
  refine si_iadd dX9_goesOnBehind_183 ?_
  refine si_pI 10 7 fl_X9_188 dX9_goesOnBehind_184 (by decide) rfl rfl rfl (fw_X9_188 _) (fun h3 => ?_)
  refine si_iconst (v := 1) dX9_goesOnBehind_187 (by decide) ?_
  exact si_zret dX9_goesOnBehind_188 rfl rfl (Nat.le_of_ble_eq_true rfl) (Nat.le_of_ble_eq_true rfl)
set_option maxHeartbeats 4000000 in
set_option maxRecDepth 100000 in
theorem X9_goesOnBehind_b153_s {E : EV} (th : Nat)  (h : HS) : Sim E mi_X9_goesOnBehind (fin oI) 0 0 153 [(0, lvR (some th))] [] h (X9_goesOnBehind_b153 th  h) := by
  unfold X9_goesOnBehind_b153
  refine si_aload_n 0 dX9_goesOnBehind_153 rfl rfl ?_
  refine si_gR 10 20 fl_X9_71 dX9_goesOnBehind_154 (by decide) rfl (fun x1 => ?_)
  refine si_aload_n 0 dX9_goesOnBehind_157 rfl rfl ?_
  refine si_gI 10 18 fl_X9_227 dX9_goesOnBehind_158 (by decide) rfl (fun x2 => ?_)
  refine si_aload_n 0 dX9_goesOnBehind_161 rfl rfl ?_
  refine si_bipush (v := 60) dX9_goesOnBehind_162 (by decide) ?_
  refine si_cvI 10 [lvI ((60 : Int32))] dX9_goesOnBehind_164 rfl mc_X9_isSign ml_X9_194 im_X9_isSign rfl se_X9_isSign (by decide) rfl ⟨Nat.le_of_ble_eq_true rfl, Nat.le_of_ble_eq_true rfl, Nat.le_of_ble_eq_true rfl, Nat.le_of_ble_eq_true rfl⟩ (Nat.le_of_ble_eq_true rfl) (fun _ _ hq => ct_X9_isSign _ _ hq) (fun q3 => ?_)
  refine si_if_eq 174 dX9_goesOnBehind_167 (by decide) ?_ ?_
  · refine si_bipush (v := 6) dX9_goesOnBehind_174 (by decide) ?_
    refine si_widen 0 0 (Nat.le_of_ble_eq_true rfl) (Nat.le_of_ble_eq_true rfl) ?_
    refine si_lo [(0, lvR (some th))] ⟨rfl, trivial⟩ ?_
    exact X9_goesOnBehind_b176_s th ((6 : Int32)) x2 x1 _
  · refine si_iconst (v := 5) dX9_goesOnBehind_170 (by decide) ?_
    refine si_goto 176 dX9_goesOnBehind_171 (by decide) ?_
    refine si_widen 0 0 (Nat.le_of_ble_eq_true rfl) (Nat.le_of_ble_eq_true rfl) ?_
    refine si_lo [(0, lvR (some th))] ⟨rfl, trivial⟩ ?_
    exact X9_goesOnBehind_b176_s th ((5 : Int32)) x2 x1 _
set_option maxHeartbeats 4000000 in
set_option maxRecDepth 100000 in
theorem X9_goesOnBehind_b43_s {E : EV} (th : Nat) (go0 : HS → Option (Int32 × HS)) (hg0 : ∀  (h : HS), Sim E mi_X9_goesOnBehind (fin oI) 0 0 0 [(0, lvR (some th))] [] h (go0  h))  (h : HS) : Sim E mi_X9_goesOnBehind (fin oI) 0 0 43 [(0, lvR (some th))] [] h (X9_goesOnBehind_b43 th go0  h) := by
  unfold X9_goesOnBehind_b43
  refine si_aload_n 0 dX9_goesOnBehind_43 rfl rfl ?_
  refine si_bipush (v := 43) dX9_goesOnBehind_44 (by decide) ?_
  refine si_cvI 10 [lvI ((43 : Int32))] dX9_goesOnBehind_46 rfl mc_X9_isSign ml_X9_194 im_X9_isSign rfl se_X9_isSign (by decide) rfl ⟨Nat.le_of_ble_eq_true rfl, Nat.le_of_ble_eq_true rfl, Nat.le_of_ble_eq_true rfl, Nat.le_of_ble_eq_true rfl⟩ (Nat.le_of_ble_eq_true rfl) (fun _ _ hq => ct_X9_isSign _ _ hq) (fun q1 => ?_)
  refine si_if_ne 61 dX9_goesOnBehind_49 (by decide) ?_ ?_
  · refine si_aload_n 0 dX9_goesOnBehind_52 rfl rfl ?_
    refine si_bipush (v := 45) dX9_goesOnBehind_53 (by decide) ?_
    refine si_cvI 10 [lvI ((45 : Int32))] dX9_goesOnBehind_55 rfl mc_X9_isSign ml_X9_194 im_X9_isSign rfl se_X9_isSign (by decide) rfl ⟨Nat.le_of_ble_eq_true rfl, Nat.le_of_ble_eq_true rfl, Nat.le_of_ble_eq_true rfl, Nat.le_of_ble_eq_true rfl⟩ (Nat.le_of_ble_eq_true rfl) (fun _ _ hq => ct_X9_isSign _ _ hq) (fun q3 => ?_)
    refine si_if_eq 96 dX9_goesOnBehind_58 (by decide) ?_ ?_
    · refine si_aload_n 0 dX9_goesOnBehind_96 rfl rfl ?_
      refine si_gR 10 20 fl_X9_71 dX9_goesOnBehind_97 (by decide) rfl (fun x5 => ?_)
      refine si_aload_n 0 dX9_goesOnBehind_100 rfl rfl ?_
      refine si_gI 10 18 fl_X9_227 dX9_goesOnBehind_101 (by decide) rfl (fun x6 => ?_)
      refine si_ia dX9_goesOnBehind_104 (fun x7 => ?_)
      refine si_if_eq 135 dX9_goesOnBehind_105 (by decide) ?_ ?_
      · refine si_aload_n 0 dX9_goesOnBehind_135 rfl rfl ?_
        refine si_bipush (v := 60) dX9_goesOnBehind_136 (by decide) ?_
        refine si_cvI 10 [lvI ((60 : Int32))] dX9_goesOnBehind_138 rfl mc_X9_isSign ml_X9_194 im_X9_isSign rfl se_X9_isSign (by decide) rfl ⟨Nat.le_of_ble_eq_true rfl, Nat.le_of_ble_eq_true rfl, Nat.le_of_ble_eq_true rfl, Nat.le_of_ble_eq_true rfl⟩ (Nat.le_of_ble_eq_true rfl) (fun _ _ hq => ct_X9_isSign _ _ hq) (fun q8 => ?_)
        refine si_if_ne 153 dX9_goesOnBehind_141 (by decide) ?_ ?_
        · refine si_aload_n 0 dX9_goesOnBehind_144 rfl rfl ?_
          refine si_bipush (v := 61) dX9_goesOnBehind_145 (by decide) ?_
          refine si_cvI 10 [lvI ((61 : Int32))] dX9_goesOnBehind_147 rfl mc_X9_isSign ml_X9_194 im_X9_isSign rfl se_X9_isSign (by decide) rfl ⟨Nat.le_of_ble_eq_true rfl, Nat.le_of_ble_eq_true rfl, Nat.le_of_ble_eq_true rfl, Nat.le_of_ble_eq_true rfl⟩ (Nat.le_of_ble_eq_true rfl) (fun _ _ hq => ct_X9_isSign _ _ hq) (fun q10 => ?_)
          refine si_if_eq 189 dX9_goesOnBehind_150 (by decide) ?_ ?_
          · refine si_widen 0 0 (Nat.le_of_ble_eq_true rfl) (Nat.le_of_ble_eq_true rfl) ?_
            refine si_lo [(0, lvR (some th))] ⟨rfl, trivial⟩ ?_
            exact X9_goesOnBehind_b189_s th go0 hg0  _
          · refine si_widen 0 0 (Nat.le_of_ble_eq_true rfl) (Nat.le_of_ble_eq_true rfl) ?_
            refine si_lo [(0, lvR (some th))] ⟨rfl, trivial⟩ ?_
            exact X9_goesOnBehind_b153_s th  _
        · refine si_widen 0 0 (Nat.le_of_ble_eq_true rfl) (Nat.le_of_ble_eq_true rfl) ?_
          refine si_lo [(0, lvR (some th))] ⟨rfl, trivial⟩ ?_
          exact X9_goesOnBehind_b153_s th  _
      · refine si_aload_n 0 dX9_goesOnBehind_108 rfl rfl ?_
        refine si_aload_n 0 dX9_goesOnBehind_109 rfl rfl ?_
        refine si_gR 10 20 fl_X9_71 dX9_goesOnBehind_110 (by decide) rfl (fun x12 => ?_)
        refine si_aload_n 0 dX9_goesOnBehind_113 rfl rfl ?_
        refine si_gI 10 18 fl_X9_227 dX9_goesOnBehind_114 (by decide) rfl (fun x13 => ?_)
        refine si_ia dX9_goesOnBehind_117 (fun x14 => ?_)
        refine si_iconst (v := 0) dX9_goesOnBehind_118 (by decide) ?_
        refine si_cvV 10 [lvI (x14), lvI ((0 : Int32))] dX9_goesOnBehind_119 rfl mc_X9_emit ml_X9_239 im_X9_emit rfl se_X9_emit (by decide) rfl ⟨Nat.le_of_ble_eq_true rfl, Nat.le_of_ble_eq_true rfl, Nat.le_of_ble_eq_true rfl, Nat.le_of_ble_eq_true rfl⟩ (Nat.le_of_ble_eq_true rfl) (fun _ _ hq => ct_X9_emit _ _ hq) (fun h15 => ?_)
        refine si_aload_n 0 dX9_goesOnBehind_122 rfl rfl ?_
        refine si_gR 10 20 fl_X9_71 dX9_goesOnBehind_123 (by decide) rfl (fun x17 => ?_)
        refine si_aload_n 0 dX9_goesOnBehind_126 rfl rfl ?_
        refine si_gI 10 18 fl_X9_227 dX9_goesOnBehind_127 (by decide) rfl (fun x18 => ?_)
        refine si_iconst (v := 0) dX9_goesOnBehind_130 (by decide) ?_
        refine si_is dX9_goesOnBehind_131 (fun h19 => ?_)
        refine si_goto 189 dX9_goesOnBehind_132 (by decide) ?_
        refine si_widen 0 0 (Nat.le_of_ble_eq_true rfl) (Nat.le_of_ble_eq_true rfl) ?_
        refine si_lo [(0, lvR (some th))] ⟨rfl, trivial⟩ ?_
        exact X9_goesOnBehind_b189_s th go0 hg0  _
    · refine si_widen 0 0 (Nat.le_of_ble_eq_true rfl) (Nat.le_of_ble_eq_true rfl) ?_
      refine si_lo [(0, lvR (some th))] ⟨rfl, trivial⟩ ?_
      exact X9_goesOnBehind_b61_s th  _
  · refine si_widen 0 0 (Nat.le_of_ble_eq_true rfl) (Nat.le_of_ble_eq_true rfl) ?_
    refine si_lo [(0, lvR (some th))] ⟨rfl, trivial⟩ ?_
    exact X9_goesOnBehind_b61_s th  _
set_option maxHeartbeats 4000000 in
set_option maxRecDepth 100000 in
theorem X9_goesOnBehind_L0_s {E : EV} (th : Nat) (n : Nat) : ∀  (h : HS), Sim E mi_X9_goesOnBehind (fin oI) 0 0 0 [(0, lvR (some th))] [] h (X9_goesOnBehind_L0 th n  h) := by
  induction n with
  | zero => intro  h; exact si_none
  | succ n ih =>
    intro  h
    unfold X9_goesOnBehind_L0
    refine si_aload_n 0 dX9_goesOnBehind_0 rfl rfl ?_
    refine si_gI 10 8 fl_X9_191 dX9_goesOnBehind_1 (by decide) rfl (fun x1 => ?_)
    refine si_if_ne 277 dX9_goesOnBehind_4 (by decide) ?_ ?_
    · refine si_aload_n 0 dX9_goesOnBehind_7 rfl rfl ?_
      refine si_gR 10 19 fl_X9_68 dX9_goesOnBehind_8 (by decide) rfl (fun x2 => ?_)
      refine si_aload_n 0 dX9_goesOnBehind_11 rfl rfl ?_
      refine si_gI 10 18 fl_X9_227 dX9_goesOnBehind_12 (by decide) rfl (fun x3 => ?_)
      refine si_ia dX9_goesOnBehind_15 (fun x4 => ?_)
      refine si_if_eq 43 dX9_goesOnBehind_16 (by decide) ?_ ?_
      · refine si_widen 0 0 (Nat.le_of_ble_eq_true rfl) (Nat.le_of_ble_eq_true rfl) ?_
        refine si_lo [(0, lvR (some th))] ⟨rfl, trivial⟩ ?_
        exact X9_goesOnBehind_b43_s th (X9_goesOnBehind_L0 th n) ih  _
      · refine si_aload_n 0 dX9_goesOnBehind_19 rfl rfl ?_
        refine si_aload_n 0 dX9_goesOnBehind_20 rfl rfl ?_
        refine si_gR 10 19 fl_X9_68 dX9_goesOnBehind_21 (by decide) rfl (fun x5 => ?_)
        refine si_aload_n 0 dX9_goesOnBehind_24 rfl rfl ?_
        refine si_gI 10 18 fl_X9_227 dX9_goesOnBehind_25 (by decide) rfl (fun x6 => ?_)
        refine si_ia dX9_goesOnBehind_28 (fun x7 => ?_)
        refine si_iconst (v := 0) dX9_goesOnBehind_29 (by decide) ?_
        refine si_cvV 10 [lvI (x7), lvI ((0 : Int32))] dX9_goesOnBehind_30 rfl mc_X9_emit ml_X9_239 im_X9_emit rfl se_X9_emit (by decide) rfl ⟨Nat.le_of_ble_eq_true rfl, Nat.le_of_ble_eq_true rfl, Nat.le_of_ble_eq_true rfl, Nat.le_of_ble_eq_true rfl⟩ (Nat.le_of_ble_eq_true rfl) (fun _ _ hq => ct_X9_emit _ _ hq) (fun h8 => ?_)
        refine si_aload_n 0 dX9_goesOnBehind_33 rfl rfl ?_
        refine si_gR 10 19 fl_X9_68 dX9_goesOnBehind_34 (by decide) rfl (fun x10 => ?_)
        refine si_aload_n 0 dX9_goesOnBehind_37 rfl rfl ?_
        refine si_gI 10 18 fl_X9_227 dX9_goesOnBehind_38 (by decide) rfl (fun x11 => ?_)
        refine si_iconst (v := 0) dX9_goesOnBehind_41 (by decide) ?_
        refine si_is dX9_goesOnBehind_42 (fun h12 => ?_)
        refine si_widen 0 0 (Nat.le_of_ble_eq_true rfl) (Nat.le_of_ble_eq_true rfl) ?_
        refine si_lo [(0, lvR (some th))] ⟨rfl, trivial⟩ ?_
        exact X9_goesOnBehind_b43_s th (X9_goesOnBehind_L0 th n) ih  _
    · refine si_iconst (v := 0) dX9_goesOnBehind_277 (by decide) ?_
      exact si_zret dX9_goesOnBehind_278 rfl rfl (Nat.le_of_ble_eq_true rfl) (Nat.le_of_ble_eq_true rfl)
set_option maxHeartbeats 4000000 in
set_option maxRecDepth 100000 in
theorem s_X9_goesOnBehind {E : EV} (th : Nat) (h : HS) : Sim E mi_X9_goesOnBehind (fin oI) 0 0 0 (largs 0 [lvR (some th)]) [] h (m_X9_goesOnBehind th h) := by
  unfold m_X9_goesOnBehind
  refine si_widen 0 0 (Nat.le_of_ble_eq_true rfl) (Nat.le_of_ble_eq_true rfl) ?_
  refine si_lo [(0, lvR (some th))] ⟨rfl, trivial⟩ ?_
  exact X9_goesOnBehind_L0_s th FU  _
theorem ct_X9_goesOnBehind (l : Launch) (G : GG) {th : Nat} {h : HS} {q : Int32 × HS} (hq : m_X9_goesOnBehind th h = some q) : Ct l yX9_goesOnBehind mi_X9_goesOnBehind G [lvR (some th)] h (oI q) := Ct.of (out := oI) (by decide +kernel) rfl rfl (Nat.le_of_ble_eq_true rfl) hq (fun _ _ _ _ _ _ _ _ => s_X9_goesOnBehind th h)
set_option maxHeartbeats 4000000 in
set_option maxRecDepth 100000 in
theorem X9_line_b198_s {E : EV} (th : Nat) (go168 : Int32 → HS → Option (HS)) (hg168 : ∀ (l2 : Int32) (h : HS), Sim E mi_X9_line (fin oV) 0 0 168 [(0, lvR (some th)), (2, lvI (l2))] [] h (go168 l2 h)) (s0 : Int32) (h : HS) : Sim E mi_X9_line (fin oV) 0 0 198 [(0, lvR (some th))] [.int (s0)] h (X9_line_b198 th go168 s0 h) := by
  unfold X9_line_b198
  refine si_istore_n 2 dX9_line_198 rfl (by decide) ?_
  refine si_goto 168 dX9_line_199 (by decide) ?_
  refine si_widen 0 0 (Nat.le_of_ble_eq_true rfl) (Nat.le_of_ble_eq_true rfl) ?_
  refine si_lo [(0, lvR (some th)), (2, lvI (s0))] ⟨rfl, rfl, trivial⟩ ?_
  exact hg168 s0 _
set_option maxHeartbeats 4000000 in
set_option maxRecDepth 100000 in
theorem X9_line_b193_s {E : EV} (th : Nat) (go168 : Int32 → HS → Option (HS)) (hg168 : ∀ (l2 : Int32) (h : HS), Sim E mi_X9_line (fin oV) 0 0 168 [(0, lvR (some th)), (2, lvI (l2))] [] h (go168 l2 h))  (h : HS) : Sim E mi_X9_line (fin oV) 0 0 193 [(0, lvR (some th))] [] h (X9_line_b193 th go168  h) := by
  unfold X9_line_b193
  refine si_iconst (v := 1) dX9_line_193 (by decide) ?_
  refine si_goto 198 dX9_line_194 (by decide) ?_
  refine si_widen 0 0 (Nat.le_of_ble_eq_true rfl) (Nat.le_of_ble_eq_true rfl) ?_
  refine si_lo [(0, lvR (some th))] ⟨rfl, trivial⟩ ?_
  exact X9_line_b198_s th go168 hg168 ((1 : Int32)) _
set_option maxHeartbeats 4000000 in
set_option maxRecDepth 100000 in
theorem X9_line_b202_s {E : EV} (th : Nat)  (h : HS) : Sim E mi_X9_line (fin oV) 0 0 202 [(0, lvR (some th))] [] h (X9_line_b202 th  h) := by
  unfold X9_line_b202
  refine si_aload_n 0 dX9_line_202 rfl rfl ?_
  refine si_iconst (v := 0) dX9_line_203 (by decide) ?_
  refine si_iconst (v := 0) dX9_line_204 (by decide) ?_
  refine si_cvV 10 [lvI ((0 : Int32)), lvI ((0 : Int32))] dX9_line_205 rfl mc_X9_emit ml_X9_239 im_X9_emit rfl se_X9_emit (by decide) rfl ⟨Nat.le_of_ble_eq_true rfl, Nat.le_of_ble_eq_true rfl, Nat.le_of_ble_eq_true rfl, Nat.le_of_ble_eq_true rfl⟩ (Nat.le_of_ble_eq_true rfl) (fun _ _ hq => ct_X9_emit _ _ hq) (fun h1 => ?_)
  refine si_aload_n 0 dX9_line_208 rfl rfl ?_
  refine si_bipush (v := 59) dX9_line_209 (by decide) ?_
  refine si_cvV 10 [lvI ((59 : Int32))] dX9_line_211 rfl mc_X9_takeSign ml_X9_243 im_X9_takeSign rfl se_X9_takeSign (by decide) rfl ⟨Nat.le_of_ble_eq_true rfl, Nat.le_of_ble_eq_true rfl, Nat.le_of_ble_eq_true rfl, Nat.le_of_ble_eq_true rfl⟩ (Nat.le_of_ble_eq_true rfl) (fun _ _ hq => ct_X9_takeSign _ _ hq) (fun h3 => ?_)
  refine si_aload_n 0 dX9_line_214 rfl rfl ?_
  refine si_gR 10 12 fl_X9_53 dX9_line_215 (by decide) rfl (fun x5 => ?_)
  refine si_bipush (v := 20) dX9_line_218 (by decide) ?_
  refine si_dup2 dX9_line_220 rfl (cat_rf _) ?_
  refine si_ia dX9_line_221 (fun x6 => ?_)
  refine si_iconst (v := 1) dX9_line_222 (by decide) ?_
  refine si_iadd dX9_line_223 ?_
  refine si_is dX9_line_224 (fun h7 => ?_)
  exact si_vret dX9_line_225 rfl (Nat.le_of_ble_eq_true rfl) (Nat.le_of_ble_eq_true rfl)
set_option maxHeartbeats 4000000 in
set_option maxRecDepth 100000 in
theorem X9_line_L168_s {E : EV} (th : Nat) (n : Nat) : ∀ (l2 : Int32) (h : HS), Sim E mi_X9_line (fin oV) 0 0 168 [(0, lvR (some th)), (2, lvI (l2))] [] h (X9_line_L168 th n l2 h) := by
  induction n with
  | zero => intro l2 h; exact si_none
  | succ n ih =>
    intro l2 h
    unfold X9_line_L168
    refine si_iload_n 2 dX9_line_168 rfl rfl ?_
    refine si_if_eq 202 dX9_line_169 (by decide) ?_ ?_
    · refine si_widen 0 0 (Nat.le_of_ble_eq_true rfl) (Nat.le_of_ble_eq_true rfl) ?_
      refine si_lo [(0, lvR (some th))] ⟨rfl, trivial⟩ ?_
      exact X9_line_b202_s th  _
    · refine si_aload_n 0 dX9_line_172 rfl rfl ?_
      refine si_gI 10 8 fl_X9_191 dX9_line_173 (by decide) rfl (fun x1 => ?_)
      refine si_if_ne 202 dX9_line_176 (by decide) ?_ ?_
      · refine si_aload_n 0 dX9_line_179 rfl rfl ?_
        refine si_cvI 10 [] dX9_line_180 rfl mc_X9_part ml_X9_233 im_X9_part rfl se_X9_part (by decide) rfl ⟨Nat.le_of_ble_eq_true rfl, Nat.le_of_ble_eq_true rfl, Nat.le_of_ble_eq_true rfl, Nat.le_of_ble_eq_true rfl⟩ (Nat.le_of_ble_eq_true rfl) (fun _ _ hq => ct_X9_part _ _ hq) (fun q2 => ?_)
        refine si_if_ne 193 dX9_line_183 (by decide) ?_ ?_
        · refine si_aload_n 0 dX9_line_186 rfl rfl ?_
          refine si_cvI 10 [] dX9_line_187 rfl mc_X9_goesOnBehind ml_X9_236 im_X9_goesOnBehind rfl se_X9_goesOnBehind (by decide) rfl ⟨Nat.le_of_ble_eq_true rfl, Nat.le_of_ble_eq_true rfl, Nat.le_of_ble_eq_true rfl, Nat.le_of_ble_eq_true rfl⟩ (Nat.le_of_ble_eq_true rfl) (fun _ _ hq => ct_X9_goesOnBehind _ _ hq) (fun q4 => ?_)
          refine si_if_eq 197 dX9_line_190 (by decide) ?_ ?_
          · refine si_iconst (v := 0) dX9_line_197 (by decide) ?_
            refine si_widen 0 0 (Nat.le_of_ble_eq_true rfl) (Nat.le_of_ble_eq_true rfl) ?_
            refine si_lo [(0, lvR (some th))] ⟨rfl, trivial⟩ ?_
            exact X9_line_b198_s th (X9_line_L168 th n) ih ((0 : Int32)) _
          · refine si_widen 0 0 (Nat.le_of_ble_eq_true rfl) (Nat.le_of_ble_eq_true rfl) ?_
            refine si_lo [(0, lvR (some th))] ⟨rfl, trivial⟩ ?_
            exact X9_line_b193_s th (X9_line_L168 th n) ih  _
        · refine si_widen 0 0 (Nat.le_of_ble_eq_true rfl) (Nat.le_of_ble_eq_true rfl) ?_
          refine si_lo [(0, lvR (some th))] ⟨rfl, trivial⟩ ?_
          exact X9_line_b193_s th (X9_line_L168 th n) ih  _
      · refine si_widen 0 0 (Nat.le_of_ble_eq_true rfl) (Nat.le_of_ble_eq_true rfl) ?_
        refine si_lo [(0, lvR (some th))] ⟨rfl, trivial⟩ ?_
        exact X9_line_b202_s th  _
set_option maxHeartbeats 4000000 in
set_option maxRecDepth 100000 in
theorem X9_line_b131_s {E : EV} (th : Nat) (l1 : Int32) (s2 : Int32) (s1 : Int32) (s0 : Option Nat) (h : HS) : Sim E mi_X9_line (fin oV) 0 0 131 [(0, lvR (some th)), (1, lvI (l1))] [.int (s2), .int (s1), va_rf (s0)] h (X9_line_b131 th l1 s2 s1 s0 h) := by
  unfold X9_line_b131
  refine si_is dX9_line_131 (fun h1 => ?_)
  refine si_aload_n 0 dX9_line_132 rfl rfl ?_
  refine si_dup dX9_line_133 (cat_rf _) ?_
  refine si_gI 10 7 fl_X9_188 dX9_line_134 (by decide) rfl (fun x2 => ?_)
  refine si_iconst (v := 1) dX9_line_137 (by decide) ?_
  refine si_iadd dX9_line_138 ?_
  refine si_pI 10 7 fl_X9_188 dX9_line_139 (by decide) rfl rfl rfl (fw_X9_188 _) (fun h3 => ?_)
  refine si_aload_n 0 dX9_line_142 rfl rfl ?_
  refine si_iconst (v := 1) dX9_line_143 (by decide) ?_
  refine si_cvV 10 [lvI ((1 : Int32))] dX9_line_144 rfl mc_X9_takeWord ml_X9_224 im_X9_takeWord rfl se_X9_takeWord (by decide) rfl ⟨Nat.le_of_ble_eq_true rfl, Nat.le_of_ble_eq_true rfl, Nat.le_of_ble_eq_true rfl, Nat.le_of_ble_eq_true rfl⟩ (Nat.le_of_ble_eq_true rfl) (fun _ _ hq => ct_X9_takeWord _ _ hq) (fun h4 => ?_)
  refine si_aload_n 0 dX9_line_147 rfl rfl ?_
  refine si_gR 10 14 fl_X9_59 dX9_line_148 (by decide) rfl (fun x6 => ?_)
  refine si_iload_n 1 dX9_line_151 rfl rfl ?_
  refine si_aload_n 0 dX9_line_152 rfl rfl ?_
  refine si_gI 10 17 fl_X9_207 dX9_line_153 (by decide) rfl (fun x7 => ?_)
  refine si_is dX9_line_156 (fun h8 => ?_)
  refine si_aload_n 0 dX9_line_157 rfl rfl ?_
  refine si_iconst (v := 0) dX9_line_158 (by decide) ?_
  refine si_pI 10 18 fl_X9_227 dX9_line_159 (by decide) rfl rfl rfl (fw_X9_227 _) (fun h9 => ?_)
  refine si_aload_n 0 dX9_line_162 rfl rfl ?_
  refine si_cvV 10 [] dX9_line_163 rfl mc_X9_opens ml_X9_230 im_X9_opens rfl se_X9_opens (by decide) rfl ⟨Nat.le_of_ble_eq_true rfl, Nat.le_of_ble_eq_true rfl, Nat.le_of_ble_eq_true rfl, Nat.le_of_ble_eq_true rfl⟩ (Nat.le_of_ble_eq_true rfl) (fun _ _ hq => ct_X9_opens _ _ hq) (fun h10 => ?_)
  refine si_iconst (v := 1) dX9_line_166 (by decide) ?_
  refine si_istore_n 2 dX9_line_167 rfl (by decide) ?_
  refine si_widen 0 0 (Nat.le_of_ble_eq_true rfl) (Nat.le_of_ble_eq_true rfl) ?_
  refine si_lo [(0, lvR (some th)), (2, lvI ((1 : Int32)))] ⟨rfl, rfl, trivial⟩ ?_
  exact X9_line_L168_s th FU ((1 : Int32)) _
set_option maxHeartbeats 4000000 in
set_option maxRecDepth 100000 in
theorem X9_line_b105_s {E : EV} (th : Nat) (l1 : Int32) (h : HS) : Sim E mi_X9_line (fin oV) 0 0 105 [(0, lvR (some th)), (1, lvI (l1))] [] h (X9_line_b105 th l1 h) := by
  unfold X9_line_b105
  refine si_aload_n 0 dX9_line_105 rfl rfl ?_
  refine si_gR 10 13 fl_X9_56 dX9_line_106 (by decide) rfl (fun x1 => ?_)
  refine si_iload_n 1 dX9_line_109 rfl rfl ?_
  refine si_aload_n 0 dX9_line_110 rfl rfl ?_
  refine si_gI 10 8 fl_X9_191 dX9_line_111 (by decide) rfl (fun x2 => ?_)
  refine si_if_le 121 dX9_line_114 (by decide) ?_ ?_
  · refine si_aload_n 0 dX9_line_121 rfl rfl ?_
    refine si_gR 10 6 fl_X9_30 dX9_line_122 (by decide) rfl (fun x3 => ?_)
    refine si_aload_n 0 dX9_line_125 rfl rfl ?_
    refine si_gI 10 7 fl_X9_188 dX9_line_126 (by decide) rfl (fun x4 => ?_)
    refine si_la dX9_line_129 (fun x5 => ?_)
    refine si_l2i dX9_line_130 ?_
    refine si_widen 0 0 (Nat.le_of_ble_eq_true rfl) (Nat.le_of_ble_eq_true rfl) ?_
    refine si_lo [(0, lvR (some th)), (1, lvI (l1))] ⟨rfl, rfl, trivial⟩ ?_
    exact X9_line_b131_s th l1 x5.toInt32 l1 x1 _
  · refine si_iconst (v := 0) dX9_line_117 (by decide) ?_
    refine si_goto 131 dX9_line_118 (by decide) ?_
    refine si_widen 0 0 (Nat.le_of_ble_eq_true rfl) (Nat.le_of_ble_eq_true rfl) ?_
    refine si_lo [(0, lvR (some th)), (1, lvI (l1))] ⟨rfl, rfl, trivial⟩ ?_
    exact X9_line_b131_s th l1 ((0 : Int32)) l1 x1 _
set_option maxHeartbeats 4000000 in
set_option maxRecDepth 100000 in
theorem X9_line_b33_s {E : EV} (th : Nat)  (h : HS) : Sim E mi_X9_line (fin oV) 0 0 33 [(0, lvR (some th))] [] h (X9_line_b33 th  h) := by
  unfold X9_line_b33
  refine si_aload_n 0 dX9_line_33 rfl rfl ?_
  refine si_gI 10 8 fl_X9_191 dX9_line_34 (by decide) rfl (fun x1 => ?_)
  refine si_if_le 41 dX9_line_37 (by decide) ?_ ?_
  · refine si_aload_n 0 dX9_line_41 rfl rfl ?_
    refine si_dup dX9_line_42 (cat_rf _) ?_
    refine si_gI 10 7 fl_X9_188 dX9_line_43 (by decide) rfl (fun x2 => ?_)
    refine si_iconst (v := 1) dX9_line_46 (by decide) ?_
    refine si_iadd dX9_line_47 ?_
    refine si_pI 10 7 fl_X9_188 dX9_line_48 (by decide) rfl rfl rfl (fw_X9_188 _) (fun h3 => ?_)
    refine si_sipush (v := 320) dX9_line_51 (by decide) ?_
    refine si_aload_n 0 dX9_line_54 rfl rfl ?_
    refine si_gR 10 12 fl_X9_53 dX9_line_55 (by decide) rfl (fun x4 => ?_)
    refine si_bipush (v := 20) dX9_line_58 (by decide) ?_
    refine si_ia dX9_line_60 (fun x5 => ?_)
    refine si_iadd dX9_line_61 ?_
    refine si_istore_n 1 dX9_line_62 rfl (by decide) ?_
    refine si_aload_n 0 dX9_line_63 rfl rfl ?_
    refine si_gR 10 4 fl_X9_24 dX9_line_64 (by decide) rfl (fun x6 => ?_)
    refine si_aload_n 0 dX9_line_67 rfl rfl ?_
    refine si_gI 10 7 fl_X9_188 dX9_line_68 (by decide) rfl (fun x7 => ?_)
    refine si_ia dX9_line_71 (fun x8 => ?_)
    refine si_iconst (v := 2) dX9_line_72 (by decide) ?_
    refine si_icmp_eq 84 dX9_line_73 (by decide) ?_ ?_
    · refine si_aload_n 0 dX9_line_84 rfl rfl ?_
      refine si_gR 10 6 fl_X9_30 dX9_line_85 (by decide) rfl (fun x9 => ?_)
      refine si_aload_n 0 dX9_line_88 rfl rfl ?_
      refine si_gI 10 7 fl_X9_188 dX9_line_89 (by decide) rfl (fun x10 => ?_)
      refine si_la dX9_line_92 (fun x11 => ?_)
      refine si_ldc2 dX9_line_93 kc_X9_222 ?_
      refine si_lcmp dX9_line_96 ?_
      refine si_if_le 105 dX9_line_97 (by decide) ?_ ?_
      · refine si_widen 0 0 (Nat.le_of_ble_eq_true rfl) (Nat.le_of_ble_eq_true rfl) ?_
        refine si_lo [(0, lvR (some th)), (1, lvI ((320 : Int32) + x5))] ⟨rfl, rfl, trivial⟩ ?_
        exact X9_line_b105_s th ((320 : Int32) + x5) _
      · refine si_aload_n 0 dX9_line_100 rfl rfl ?_
        refine si_iconst (v := 4) dX9_line_101 (by decide) ?_
        refine si_cvV 10 [lvI ((4 : Int32))] dX9_line_102 rfl mc_X9_wrong ml_X9_197 im_X9_wrong rfl se_X9_wrong (by decide) rfl ⟨Nat.le_of_ble_eq_true rfl, Nat.le_of_ble_eq_true rfl, Nat.le_of_ble_eq_true rfl, Nat.le_of_ble_eq_true rfl⟩ (Nat.le_of_ble_eq_true rfl) (fun _ _ hq => ct_X9_wrong _ _ hq) (fun h12 => ?_)
        refine si_widen 0 0 (Nat.le_of_ble_eq_true rfl) (Nat.le_of_ble_eq_true rfl) ?_
        refine si_lo [(0, lvR (some th)), (1, lvI ((320 : Int32) + x5))] ⟨rfl, rfl, trivial⟩ ?_
        exact X9_line_b105_s th ((320 : Int32) + x5) _
    · refine si_aload_n 0 dX9_line_76 rfl rfl ?_
      refine si_iconst (v := 1) dX9_line_77 (by decide) ?_
      refine si_cvV 10 [lvI ((1 : Int32))] dX9_line_78 rfl mc_X9_wrong ml_X9_197 im_X9_wrong rfl se_X9_wrong (by decide) rfl ⟨Nat.le_of_ble_eq_true rfl, Nat.le_of_ble_eq_true rfl, Nat.le_of_ble_eq_true rfl, Nat.le_of_ble_eq_true rfl⟩ (Nat.le_of_ble_eq_true rfl) (fun _ _ hq => ct_X9_wrong _ _ hq) (fun h14 => ?_)
      refine si_goto 105 dX9_line_81 (by decide) ?_
      refine si_widen 0 0 (Nat.le_of_ble_eq_true rfl) (Nat.le_of_ble_eq_true rfl) ?_
      refine si_lo [(0, lvR (some th)), (1, lvI ((320 : Int32) + x5))] ⟨rfl, rfl, trivial⟩ ?_
      exact X9_line_b105_s th ((320 : Int32) + x5) _
  · exact si_vret dX9_line_40 rfl (Nat.le_of_ble_eq_true rfl) (Nat.le_of_ble_eq_true rfl)
set_option maxHeartbeats 4000000 in
set_option maxRecDepth 100000 in
theorem s_X9_line {E : EV} (th : Nat) (h : HS) : Sim E mi_X9_line (fin oV) 0 0 0 (largs 0 [lvR (some th)]) [] h (m_X9_line th h) := by
  unfold m_X9_line
  refine si_aload_n 0 dX9_line_0 rfl rfl ?_
  refine si_iconst (v := 0) dX9_line_1 (by decide) ?_
  refine si_cvI 10 [lvI ((0 : Int32))] dX9_line_2 rfl mc_X9_isWord ml_X9_201 im_X9_isWord rfl se_X9_isWord (by decide) rfl ⟨Nat.le_of_ble_eq_true rfl, Nat.le_of_ble_eq_true rfl, Nat.le_of_ble_eq_true rfl, Nat.le_of_ble_eq_true rfl⟩ (Nat.le_of_ble_eq_true rfl) (fun _ _ hq => ct_X9_isWord _ _ hq) (fun q1 => ?_)
  refine si_if_ne 16 dX9_line_5 (by decide) ?_ ?_
  · refine si_aload_n 0 dX9_line_8 rfl rfl ?_
    refine si_iconst (v := 1) dX9_line_9 (by decide) ?_
    refine si_cvV 10 [lvI ((1 : Int32))] dX9_line_10 rfl mc_X9_wrong ml_X9_197 im_X9_wrong rfl se_X9_wrong (by decide) rfl ⟨Nat.le_of_ble_eq_true rfl, Nat.le_of_ble_eq_true rfl, Nat.le_of_ble_eq_true rfl, Nat.le_of_ble_eq_true rfl⟩ (Nat.le_of_ble_eq_true rfl) (fun _ _ hq => ct_X9_wrong _ _ hq) (fun h7 => ?_)
    refine si_goto 33 dX9_line_13 (by decide) ?_
    refine si_widen 0 0 (Nat.le_of_ble_eq_true rfl) (Nat.le_of_ble_eq_true rfl) ?_
    refine si_lo [(0, lvR (some th))] ⟨rfl, trivial⟩ ?_
    exact X9_line_b33_s th  _
  · refine si_aload_n 0 dX9_line_16 rfl rfl ?_
    refine si_gR 10 12 fl_X9_53 dX9_line_17 (by decide) rfl (fun x3 => ?_)
    refine si_bipush (v := 20) dX9_line_20 (by decide) ?_
    refine si_ia dX9_line_22 (fun x4 => ?_)
    refine si_bipush (v := 16) dX9_line_23 (by decide) ?_
    refine si_icmp_ne 33 dX9_line_25 (by decide) ?_ ?_
    · refine si_aload_n 0 dX9_line_28 rfl rfl ?_
      refine si_iconst (v := 5) dX9_line_29 (by decide) ?_
      refine si_cvV 10 [lvI ((5 : Int32))] dX9_line_30 rfl mc_X9_wrong ml_X9_197 im_X9_wrong rfl se_X9_wrong (by decide) rfl ⟨Nat.le_of_ble_eq_true rfl, Nat.le_of_ble_eq_true rfl, Nat.le_of_ble_eq_true rfl, Nat.le_of_ble_eq_true rfl⟩ (Nat.le_of_ble_eq_true rfl) (fun _ _ hq => ct_X9_wrong _ _ hq) (fun h5 => ?_)
      refine si_widen 0 0 (Nat.le_of_ble_eq_true rfl) (Nat.le_of_ble_eq_true rfl) ?_
      refine si_lo [(0, lvR (some th))] ⟨rfl, trivial⟩ ?_
      exact X9_line_b33_s th  _
    · refine si_widen 0 0 (Nat.le_of_ble_eq_true rfl) (Nat.le_of_ble_eq_true rfl) ?_
      refine si_lo [(0, lvR (some th))] ⟨rfl, trivial⟩ ?_
      exact X9_line_b33_s th  _
theorem ct_X9_line (l : Launch) (G : GG) {th : Nat} {h : HS} {q : HS} (hq : m_X9_line th h = some q) : Ct l yX9_line mi_X9_line G [lvR (some th)] h (oV q) := Ct.of (out := oV) (by decide +kernel) rfl rfl (Nat.le_of_ble_eq_true rfl) hq (fun _ _ _ _ _ _ _ _ => s_X9_line th h)
set_option maxHeartbeats 4000000 in
set_option maxRecDepth 100000 in
theorem X9_keeps_L64_s {E : EV} (th : Nat) (n : Nat) : ∀ (l1 : Int32) (h : HS), Sim E mi_X9_keeps (fin oV) 0 0 64 [(0, lvR (some th)), (1, lvI (l1))] [] h (X9_keeps_L64 th n l1 h) := by
  induction n with
  | zero => intro l1 h; exact si_none
  | succ n ih =>
    intro l1 h
    unfold X9_keeps_L64
    refine si_iload_n 1 dX9_keeps_64 rfl rfl ?_
    refine si_aload_n 0 dX9_keeps_65 rfl rfl ?_
    refine si_gI 10 17 fl_X9_207 dX9_keeps_66 (by decide) rfl (fun x1 => ?_)
    refine si_icmp_ge 128 dX9_keeps_69 (by decide) ?_ ?_
    · refine si_aload_n 0 dX9_keeps_128 rfl rfl ?_
      refine si_gR 10 12 fl_X9_53 dX9_keeps_129 (by decide) rfl (fun x2 => ?_)
      refine si_aload_n 0 dX9_keeps_132 rfl rfl ?_
      refine si_gI 10 10 fl_X9_210 dX9_keeps_133 (by decide) rfl (fun x3 => ?_)
      refine si_aload_n 0 dX9_keeps_136 rfl rfl ?_
      refine si_gR 10 12 fl_X9_53 dX9_keeps_137 (by decide) rfl (fun x4 => ?_)
      refine si_bipush (v := 20) dX9_keeps_140 (by decide) ?_
      refine si_ia dX9_keeps_142 (fun x5 => ?_)
      refine si_is dX9_keeps_143 (fun h6 => ?_)
      refine si_aload_n 0 dX9_keeps_144 rfl rfl ?_
      refine si_aload_n 0 dX9_keeps_145 rfl rfl ?_
      refine si_gI 10 10 fl_X9_210 dX9_keeps_146 (by decide) rfl (fun x7 => ?_)
      refine si_pI 10 11 fl_X9_162 dX9_keeps_149 (by decide) rfl rfl rfl (fw_X9_162 _) (fun h8 => ?_)
      refine si_aload_n 0 dX9_keeps_152 rfl rfl ?_
      refine si_dup dX9_keeps_153 (cat_rf _) ?_
      refine si_gI 10 10 fl_X9_210 dX9_keeps_154 (by decide) rfl (fun x9 => ?_)
      refine si_iconst (v := 1) dX9_keeps_157 (by decide) ?_
      refine si_iadd dX9_keeps_158 ?_
      refine si_pI 10 10 fl_X9_210 dX9_keeps_159 (by decide) rfl rfl rfl (fw_X9_210 _) (fun h10 => ?_)
      exact si_vret dX9_keeps_162 rfl (Nat.le_of_ble_eq_true rfl) (Nat.le_of_ble_eq_true rfl)
    · refine si_aload_n 0 dX9_keeps_72 rfl rfl ?_
      refine si_gR 10 15 fl_X9_62 dX9_keeps_73 (by decide) rfl (fun x11 => ?_)
      refine si_sipush (v := 660) dX9_keeps_76 (by decide) ?_
      refine si_aload_n 0 dX9_keeps_79 rfl rfl ?_
      refine si_gI 10 10 fl_X9_210 dX9_keeps_80 (by decide) rfl (fun x12 => ?_)
      refine si_imul dX9_keeps_83 ?_
      refine si_iload_n 1 dX9_keeps_84 rfl rfl ?_
      refine si_iadd dX9_keeps_85 ?_
      refine si_aload_n 0 dX9_keeps_86 rfl rfl ?_
      refine si_gR 10 15 fl_X9_62 dX9_keeps_87 (by decide) rfl (fun x13 => ?_)
      refine si_sipush (v := 13200) dX9_keeps_90 (by decide) ?_
      refine si_iload_n 1 dX9_keeps_93 rfl rfl ?_
      refine si_iadd dX9_keeps_94 ?_
      refine si_ia dX9_keeps_95 (fun x14 => ?_)
      refine si_is dX9_keeps_96 (fun h15 => ?_)
      refine si_aload_n 0 dX9_keeps_97 rfl rfl ?_
      refine si_gR 10 16 fl_X9_65 dX9_keeps_98 (by decide) rfl (fun x16 => ?_)
      refine si_sipush (v := 660) dX9_keeps_101 (by decide) ?_
      refine si_aload_n 0 dX9_keeps_104 rfl rfl ?_
      refine si_gI 10 10 fl_X9_210 dX9_keeps_105 (by decide) rfl (fun x17 => ?_)
      refine si_imul dX9_keeps_108 ?_
      refine si_iload_n 1 dX9_keeps_109 rfl rfl ?_
      refine si_iadd dX9_keeps_110 ?_
      refine si_aload_n 0 dX9_keeps_111 rfl rfl ?_
      refine si_gR 10 16 fl_X9_65 dX9_keeps_112 (by decide) rfl (fun x18 => ?_)
      refine si_sipush (v := 13200) dX9_keeps_115 (by decide) ?_
      refine si_iload_n 1 dX9_keeps_118 rfl rfl ?_
      refine si_iadd dX9_keeps_119 ?_
      refine si_ia dX9_keeps_120 (fun x19 => ?_)
      refine si_is dX9_keeps_121 (fun h20 => ?_)
      refine si_iinc 1 (1) dX9_keeps_122 rfl (by decide) (by decide) ?_
      refine si_goto 64 dX9_keeps_125 (by decide) ?_
      refine si_widen 0 0 (Nat.le_of_ble_eq_true rfl) (Nat.le_of_ble_eq_true rfl) ?_
      refine si_lo [(0, lvR (some th)), (1, lvI (l1 + (1)))] ⟨rfl, rfl, trivial⟩ ?_
      exact ih (l1 + (1)) _
set_option maxHeartbeats 4000000 in
set_option maxRecDepth 100000 in
theorem X9_keeps_L2_s {E : EV} (th : Nat) (n : Nat) : ∀ (l1 : Int32) (h : HS), Sim E mi_X9_keeps (fin oV) 0 0 2 [(0, lvR (some th)), (1, lvI (l1))] [] h (X9_keeps_L2 th n l1 h) := by
  induction n with
  | zero => intro l1 h; exact si_none
  | succ n ih =>
    intro l1 h
    unfold X9_keeps_L2
    refine si_iload_n 1 dX9_keeps_2 rfl rfl ?_
    refine si_bipush (v := 16) dX9_keeps_3 (by decide) ?_
    refine si_icmp_ge 62 dX9_keeps_5 (by decide) ?_ ?_
    · refine si_iconst (v := 0) dX9_keeps_62 (by decide) ?_
      refine si_istore_n 1 dX9_keeps_63 rfl (by decide) ?_
      refine si_widen 0 0 (Nat.le_of_ble_eq_true rfl) (Nat.le_of_ble_eq_true rfl) ?_
      refine si_lo [(0, lvR (some th)), (1, lvI ((0 : Int32)))] ⟨rfl, rfl, trivial⟩ ?_
      exact X9_keeps_L64_s th FU ((0 : Int32)) _
    · refine si_aload_n 0 dX9_keeps_8 rfl rfl ?_
      refine si_gR 10 13 fl_X9_56 dX9_keeps_9 (by decide) rfl (fun x1 => ?_)
      refine si_bipush (v := 16) dX9_keeps_12 (by decide) ?_
      refine si_aload_n 0 dX9_keeps_14 rfl rfl ?_
      refine si_gI 10 10 fl_X9_210 dX9_keeps_15 (by decide) rfl (fun x2 => ?_)
      refine si_imul dX9_keeps_18 ?_
      refine si_iload_n 1 dX9_keeps_19 rfl rfl ?_
      refine si_iadd dX9_keeps_20 ?_
      refine si_aload_n 0 dX9_keeps_21 rfl rfl ?_
      refine si_gR 10 13 fl_X9_56 dX9_keeps_22 (by decide) rfl (fun x3 => ?_)
      refine si_sipush (v := 320) dX9_keeps_25 (by decide) ?_
      refine si_iload_n 1 dX9_keeps_28 rfl rfl ?_
      refine si_iadd dX9_keeps_29 ?_
      refine si_ia dX9_keeps_30 (fun x4 => ?_)
      refine si_is dX9_keeps_31 (fun h5 => ?_)
      refine si_aload_n 0 dX9_keeps_32 rfl rfl ?_
      refine si_gR 10 14 fl_X9_59 dX9_keeps_33 (by decide) rfl (fun x6 => ?_)
      refine si_bipush (v := 16) dX9_keeps_36 (by decide) ?_
      refine si_aload_n 0 dX9_keeps_38 rfl rfl ?_
      refine si_gI 10 10 fl_X9_210 dX9_keeps_39 (by decide) rfl (fun x7 => ?_)
      refine si_imul dX9_keeps_42 ?_
      refine si_iload_n 1 dX9_keeps_43 rfl rfl ?_
      refine si_iadd dX9_keeps_44 ?_
      refine si_aload_n 0 dX9_keeps_45 rfl rfl ?_
      refine si_gR 10 14 fl_X9_59 dX9_keeps_46 (by decide) rfl (fun x8 => ?_)
      refine si_sipush (v := 320) dX9_keeps_49 (by decide) ?_
      refine si_iload_n 1 dX9_keeps_52 rfl rfl ?_
      refine si_iadd dX9_keeps_53 ?_
      refine si_ia dX9_keeps_54 (fun x9 => ?_)
      refine si_is dX9_keeps_55 (fun h10 => ?_)
      refine si_iinc 1 (1) dX9_keeps_56 rfl (by decide) (by decide) ?_
      refine si_goto 2 dX9_keeps_59 (by decide) ?_
      refine si_widen 0 0 (Nat.le_of_ble_eq_true rfl) (Nat.le_of_ble_eq_true rfl) ?_
      refine si_lo [(0, lvR (some th)), (1, lvI (l1 + (1)))] ⟨rfl, rfl, trivial⟩ ?_
      exact ih (l1 + (1)) _
set_option maxHeartbeats 4000000 in
set_option maxRecDepth 100000 in
theorem s_X9_keeps {E : EV} (th : Nat) (h : HS) : Sim E mi_X9_keeps (fin oV) 0 0 0 (largs 0 [lvR (some th)]) [] h (m_X9_keeps th h) := by
  unfold m_X9_keeps
  refine si_iconst (v := 0) dX9_keeps_0 (by decide) ?_
  refine si_istore_n 1 dX9_keeps_1 rfl (by decide) ?_
  refine si_widen 0 0 (Nat.le_of_ble_eq_true rfl) (Nat.le_of_ble_eq_true rfl) ?_
  refine si_lo [(0, lvR (some th)), (1, lvI ((0 : Int32)))] ⟨rfl, rfl, trivial⟩ ?_
  exact X9_keeps_L2_s th FU ((0 : Int32)) _
theorem ct_X9_keeps (l : Launch) (G : GG) {th : Nat} {h : HS} {q : HS} (hq : m_X9_keeps th h = some q) : Ct l yX9_keeps mi_X9_keeps G [lvR (some th)] h (oV q) := Ct.of (out := oV) (by decide +kernel) rfl rfl (Nat.le_of_ble_eq_true rfl) hq (fun _ _ _ _ _ _ _ _ => s_X9_keeps th h)
set_option maxHeartbeats 4000000 in
set_option maxRecDepth 100000 in
theorem X9_text_b75_s {E : EV} (th : Nat)  (h : HS) : Sim E mi_X9_text (fin oI) 0 0 75 [(0, lvR (some th))] [] h (X9_text_b75 th  h) := by
  unfold X9_text_b75
  refine si_aload_n 0 dX9_text_75 rfl rfl ?_
  refine si_gI 10 8 fl_X9_191 dX9_text_76 (by decide) rfl (fun x1 => ?_)
  exact si_iret dX9_text_79 rfl (Nat.le_of_ble_eq_true rfl) (Nat.le_of_ble_eq_true rfl)
set_option maxHeartbeats 4000000 in
set_option maxRecDepth 100000 in
theorem X9_text_b64_s {E : EV} (th : Nat)  (h : HS) : Sim E mi_X9_text (fin oI) 0 0 64 [(0, lvR (some th))] [] h (X9_text_b64 th  h) := by
  unfold X9_text_b64
  refine si_aload_n 0 dX9_text_64 rfl rfl ?_
  refine si_gI 10 8 fl_X9_191 dX9_text_65 (by decide) rfl (fun x1 => ?_)
  refine si_if_ne 75 dX9_text_68 (by decide) ?_ ?_
  · refine si_aload_n 0 dX9_text_71 rfl rfl ?_
    refine si_cvV 10 [] dX9_text_72 rfl mc_X9_keeps ml_X9_219 im_X9_keeps rfl se_X9_keeps (by decide) rfl ⟨Nat.le_of_ble_eq_true rfl, Nat.le_of_ble_eq_true rfl, Nat.le_of_ble_eq_true rfl, Nat.le_of_ble_eq_true rfl⟩ (Nat.le_of_ble_eq_true rfl) (fun _ _ hq => ct_X9_keeps _ _ hq) (fun h2 => ?_)
    refine si_widen 0 0 (Nat.le_of_ble_eq_true rfl) (Nat.le_of_ble_eq_true rfl) ?_
    refine si_lo [(0, lvR (some th))] ⟨rfl, trivial⟩ ?_
    exact X9_text_b75_s th  _
  · refine si_widen 0 0 (Nat.le_of_ble_eq_true rfl) (Nat.le_of_ble_eq_true rfl) ?_
    refine si_lo [(0, lvR (some th))] ⟨rfl, trivial⟩ ?_
    exact X9_text_b75_s th  _
set_option maxHeartbeats 4000000 in
set_option maxRecDepth 100000 in
theorem X9_text_L38_s {E : EV} (th : Nat) (n : Nat) : ∀  (h : HS), Sim E mi_X9_text (fin oI) 0 0 38 [(0, lvR (some th))] [] h (X9_text_L38 th n  h) := by
  induction n with
  | zero => intro  h; exact si_none
  | succ n ih =>
    intro  h
    unfold X9_text_L38
    refine si_aload_n 0 dX9_text_38 rfl rfl ?_
    refine si_gI 10 8 fl_X9_191 dX9_text_39 (by decide) rfl (fun x1 => ?_)
    refine si_if_ne 64 dX9_text_42 (by decide) ?_ ?_
    · refine si_aload_n 0 dX9_text_45 rfl rfl ?_
      refine si_gR 10 4 fl_X9_24 dX9_text_46 (by decide) rfl (fun x2 => ?_)
      refine si_aload_n 0 dX9_text_49 rfl rfl ?_
      refine si_gI 10 7 fl_X9_188 dX9_text_50 (by decide) rfl (fun x3 => ?_)
      refine si_ia dX9_text_53 (fun x4 => ?_)
      refine si_if_eq 64 dX9_text_54 (by decide) ?_ ?_
      · refine si_widen 0 0 (Nat.le_of_ble_eq_true rfl) (Nat.le_of_ble_eq_true rfl) ?_
        refine si_lo [(0, lvR (some th))] ⟨rfl, trivial⟩ ?_
        exact X9_text_b64_s th  _
      · refine si_aload_n 0 dX9_text_57 rfl rfl ?_
        refine si_cvV 10 [] dX9_text_58 rfl mc_X9_line ml_X9_216 im_X9_line rfl se_X9_line (by decide) rfl ⟨Nat.le_of_ble_eq_true rfl, Nat.le_of_ble_eq_true rfl, Nat.le_of_ble_eq_true rfl, Nat.le_of_ble_eq_true rfl⟩ (Nat.le_of_ble_eq_true rfl) (fun _ _ hq => ct_X9_line _ _ hq) (fun h5 => ?_)
        refine si_goto 38 dX9_text_61 (by decide) ?_
        refine si_widen 0 0 (Nat.le_of_ble_eq_true rfl) (Nat.le_of_ble_eq_true rfl) ?_
        refine si_lo [(0, lvR (some th))] ⟨rfl, trivial⟩ ?_
        exact ih  _
    · refine si_widen 0 0 (Nat.le_of_ble_eq_true rfl) (Nat.le_of_ble_eq_true rfl) ?_
      refine si_lo [(0, lvR (some th))] ⟨rfl, trivial⟩ ?_
      exact X9_text_b64_s th  _
set_option maxHeartbeats 4000000 in
set_option maxRecDepth 100000 in
theorem s_X9_text {E : EV} (th : Nat) (h : HS) : Sim E mi_X9_text (fin oI) 0 0 0 (largs 0 [lvR (some th)]) [] h (m_X9_text th h) := by
  unfold m_X9_text
  refine si_aload_n 0 dX9_text_0 rfl rfl ?_
  refine si_iconst (v := 0) dX9_text_1 (by decide) ?_
  refine si_pI 10 0 fl_X9_1 dX9_text_2 (by decide) rfl rfl rfl (fw_X9_1 _) (fun h1 => ?_)
  refine si_aload_n 0 dX9_text_5 rfl rfl ?_
  refine si_gI 10 10 fl_X9_210 dX9_text_6 (by decide) rfl (fun x2 => ?_)
  refine si_bipush (v := 20) dX9_text_9 (by decide) ?_
  refine si_icmp_ne 21 dX9_text_11 (by decide) ?_ ?_
  · refine si_aload_n 0 dX9_text_14 rfl rfl ?_
    refine si_iconst (v := 0) dX9_text_15 (by decide) ?_
    refine si_pI 10 2 fl_X9_11 dX9_text_16 (by decide) rfl rfl rfl (fw_X9_11 _) (fun h8 => ?_)
    refine si_iconst (v := -1) dX9_text_19 (by decide) ?_
    exact si_iret dX9_text_20 rfl (Nat.le_of_ble_eq_true rfl) (Nat.le_of_ble_eq_true rfl)
  · refine si_aload_n 0 dX9_text_21 rfl rfl ?_
    refine si_cvV 10 [] dX9_text_22 rfl mc_X9_cutAll ml_X9_213 im_X9_cutAll rfl se_X9_cutAll (by decide) rfl ⟨Nat.le_of_ble_eq_true rfl, Nat.le_of_ble_eq_true rfl, Nat.le_of_ble_eq_true rfl, Nat.le_of_ble_eq_true rfl⟩ (Nat.le_of_ble_eq_true rfl) (fun _ _ hq => ct_X9_cutAll _ _ hq) (fun h3 => ?_)
    refine si_aload_n 0 dX9_text_25 rfl rfl ?_
    refine si_gR 10 12 fl_X9_53 dX9_text_26 (by decide) rfl (fun x5 => ?_)
    refine si_bipush (v := 20) dX9_text_29 (by decide) ?_
    refine si_iconst (v := 0) dX9_text_31 (by decide) ?_
    refine si_is dX9_text_32 (fun h6 => ?_)
    refine si_aload_n 0 dX9_text_33 rfl rfl ?_
    refine si_iconst (v := 0) dX9_text_34 (by decide) ?_
    refine si_pI 10 17 fl_X9_207 dX9_text_35 (by decide) rfl rfl rfl (fw_X9_207 _) (fun h7 => ?_)
    refine si_widen 0 0 (Nat.le_of_ble_eq_true rfl) (Nat.le_of_ble_eq_true rfl) ?_
    refine si_lo [(0, lvR (some th))] ⟨rfl, trivial⟩ ?_
    exact X9_text_L38_s th FU  _
theorem ct_X9_text (l : Launch) (G : GG) {th : Nat} {h : HS} {q : Int32 × HS} (hq : m_X9_text th h = some q) : Ct l yX9_text mi_X9_text G [lvR (some th)] h (oI q) := Ct.of (out := oI) (by decide +kernel) rfl rfl (Nat.le_of_ble_eq_true rfl) hq (fun _ _ _ _ _ _ _ _ => s_X9_text th h)
set_option maxHeartbeats 4000000 in
set_option maxRecDepth 100000 in
theorem X9_worth_b186_s {E : EV} (th : Nat) (go4 : Int32 → Int32 → HS → Option (Int32 × HS)) (hg4 : ∀ (l2 : Int32) (l3 : Int32) (h : HS), Sim E mi_X9_worth (fin oI) 0 0 4 [(0, lvR (some th)), (2, lvI (l2)), (3, lvI (l3))] [] h (go4 l2 l3 h)) (l2 : Int32) (l3 : Int32) (h : HS) : Sim E mi_X9_worth (fin oI) 0 0 186 [(0, lvR (some th)), (2, lvI (l2)), (3, lvI (l3))] [] h (X9_worth_b186 th go4 l2 l3 h) := by
  unfold X9_worth_b186
  refine si_iinc 2 (1) dX9_worth_186 rfl (by decide) (by decide) ?_
  refine si_goto 4 dX9_worth_189 (by decide) ?_
  refine si_widen 0 0 (Nat.le_of_ble_eq_true rfl) (Nat.le_of_ble_eq_true rfl) ?_
  refine si_lo [(0, lvR (some th)), (2, lvI (l2 + (1))), (3, lvI (l3))] ⟨rfl, rfl, rfl, trivial⟩ ?_
  exact hg4 (l2 + (1)) l3 _
set_option maxHeartbeats 4000000 in
set_option maxRecDepth 100000 in
theorem X9_worth_b64_s {E : EV} (th : Nat) (go4 : Int32 → Int32 → HS → Option (Int32 × HS)) (hg4 : ∀ (l2 : Int32) (l3 : Int32) (h : HS), Sim E mi_X9_worth (fin oI) 0 0 4 [(0, lvR (some th)), (2, lvI (l2)), (3, lvI (l3))] [] h (go4 l2 l3 h)) (l2 : Int32) (l3 : Int32) (s2 : Int32) (s1 : Int32) (s0 : Option Nat) (h : HS) : Sim E mi_X9_worth (fin oI) 0 0 64 [(0, lvR (some th)), (2, lvI (l2)), (3, lvI (l3))] [.int (s2), .int (s1), va_rf (s0)] h (X9_worth_b64 th go4 l2 l3 s2 s1 s0 h) := by
  unfold X9_worth_b64
  refine si_is dX9_worth_64 (fun h1 => ?_)
  refine si_iinc 3 (1) dX9_worth_65 rfl (by decide) (by decide) ?_
  refine si_goto 186 dX9_worth_68 (by decide) ?_
  refine si_widen 0 0 (Nat.le_of_ble_eq_true rfl) (Nat.le_of_ble_eq_true rfl) ?_
  refine si_lo [(0, lvR (some th)), (2, lvI (l2)), (3, lvI (l3 + (1)))] ⟨rfl, rfl, rfl, trivial⟩ ?_
  exact X9_worth_b186_s th go4 hg4 l2 (l3 + (1)) _
set_option maxHeartbeats 4000000 in
set_option maxRecDepth 100000 in
theorem X9_worth_b33_s {E : EV} (th : Nat) (go4 : Int32 → Int32 → HS → Option (Int32 × HS)) (hg4 : ∀ (l2 : Int32) (l3 : Int32) (h : HS), Sim E mi_X9_worth (fin oI) 0 0 4 [(0, lvR (some th)), (2, lvI (l2)), (3, lvI (l3))] [] h (go4 l2 l3 h)) (l2 : Int32) (l3 : Int32) (l4 : Int32) (h : HS) : Sim E mi_X9_worth (fin oI) 0 0 33 [(0, lvR (some th)), (2, lvI (l2)), (3, lvI (l3)), (4, lvI (l4))] [] h (X9_worth_b33 th go4 l2 l3 l4 h) := by
  unfold X9_worth_b33
  refine si_aload_n 0 dX9_worth_33 rfl rfl ?_
  refine si_gR 10 23 fl_X9_80 dX9_worth_34 (by decide) rfl (fun x1 => ?_)
  refine si_iload_n 3 dX9_worth_37 rfl rfl ?_
  refine si_iload 4 dX9_worth_38 rfl ?_
  refine si_iconst (v := 1) dX9_worth_40 (by decide) ?_
  refine si_icmp_ne 53 dX9_worth_41 (by decide) ?_ ?_
  · refine si_aload_n 0 dX9_worth_44 rfl rfl ?_
    refine si_gR 10 16 fl_X9_65 dX9_worth_45 (by decide) rfl (fun x6 => ?_)
    refine si_iload_n 2 dX9_worth_48 rfl rfl ?_
    refine si_ia dX9_worth_49 (fun x7 => ?_)
    refine si_goto 64 dX9_worth_50 (by decide) ?_
    refine si_widen 0 0 (Nat.le_of_ble_eq_true rfl) (Nat.le_of_ble_eq_true rfl) ?_
    refine si_lo [(0, lvR (some th)), (2, lvI (l2)), (3, lvI (l3))] ⟨rfl, rfl, rfl, trivial⟩ ?_
    exact X9_worth_b64_s th go4 hg4 l2 l3 x7 l3 x1 _
  · refine si_aload_n 0 dX9_worth_53 rfl rfl ?_
    refine si_gR 10 22 fl_X9_77 dX9_worth_54 (by decide) rfl (fun x2 => ?_)
    refine si_aload_n 0 dX9_worth_57 rfl rfl ?_
    refine si_gR 10 16 fl_X9_65 dX9_worth_58 (by decide) rfl (fun x3 => ?_)
    refine si_iload_n 2 dX9_worth_61 rfl rfl ?_
    refine si_ia dX9_worth_62 (fun x4 => ?_)
    refine si_ia dX9_worth_63 (fun x5 => ?_)
    refine si_widen 0 0 (Nat.le_of_ble_eq_true rfl) (Nat.le_of_ble_eq_true rfl) ?_
    refine si_lo [(0, lvR (some th)), (2, lvI (l2)), (3, lvI (l3))] ⟨rfl, rfl, rfl, trivial⟩ ?_
    exact X9_worth_b64_s th go4 hg4 l2 l3 x5 l3 x1 _
set_option maxHeartbeats 4000000 in
set_option maxRecDepth 100000 in
theorem X9_worth_b185_s {E : EV} (th : Nat) (go4 : Int32 → Int32 → HS → Option (Int32 × HS)) (hg4 : ∀ (l2 : Int32) (l3 : Int32) (h : HS), Sim E mi_X9_worth (fin oI) 0 0 4 [(0, lvR (some th)), (2, lvI (l2)), (3, lvI (l3))] [] h (go4 l2 l3 h)) (l2 : Int32) (l3 : Int32) (s2 : Int32) (s1 : Int32) (s0 : Option Nat) (h : HS) : Sim E mi_X9_worth (fin oI) 0 0 185 [(0, lvR (some th)), (2, lvI (l2)), (3, lvI (l3))] [.int (s2), .int (s1), va_rf (s0)] h (X9_worth_b185 th go4 l2 l3 s2 s1 s0 h) := by
  unfold X9_worth_b185
  refine si_is dX9_worth_185 (fun h1 => ?_)
  refine si_widen 0 0 (Nat.le_of_ble_eq_true rfl) (Nat.le_of_ble_eq_true rfl) ?_
  refine si_lo [(0, lvR (some th)), (2, lvI (l2)), (3, lvI (l3))] ⟨rfl, rfl, rfl, trivial⟩ ?_
  exact X9_worth_b186_s th go4 hg4 l2 l3 _
set_option maxHeartbeats 4000000 in
set_option maxRecDepth 100000 in
theorem X9_worth_b184_s {E : EV} (th : Nat) (go4 : Int32 → Int32 → HS → Option (Int32 × HS)) (hg4 : ∀ (l2 : Int32) (l3 : Int32) (h : HS), Sim E mi_X9_worth (fin oI) 0 0 4 [(0, lvR (some th)), (2, lvI (l2)), (3, lvI (l3))] [] h (go4 l2 l3 h)) (l2 : Int32) (l3 : Int32) (s1 : Int32) (s0 : Option Nat) (h : HS) : Sim E mi_X9_worth (fin oI) 0 0 184 [(0, lvR (some th)), (2, lvI (l2)), (3, lvI (l3))] [.int (s1), va_rf (s0)] h (X9_worth_b184 th go4 l2 l3 s1 s0 h) := by
  unfold X9_worth_b184
  refine si_iconst (v := 0) dX9_worth_184 (by decide) ?_
  refine si_widen 0 0 (Nat.le_of_ble_eq_true rfl) (Nat.le_of_ble_eq_true rfl) ?_
  refine si_lo [(0, lvR (some th)), (2, lvI (l2)), (3, lvI (l3))] ⟨rfl, rfl, rfl, trivial⟩ ?_
  exact X9_worth_b185_s th go4 hg4 l2 l3 ((0 : Int32)) s1 s0 _
set_option maxHeartbeats 4000000 in
set_option maxRecDepth 100000 in
theorem X9_worth_L4_s {E : EV} (th : Nat) (n : Nat) : ∀ (l2 : Int32) (l3 : Int32) (h : HS), Sim E mi_X9_worth (fin oI) 0 0 4 [(0, lvR (some th)), (2, lvI (l2)), (3, lvI (l3))] [] h (X9_worth_L4 th n l2 l3 h) := by
  induction n with
  | zero => intro l2 l3 h; exact si_none
  | succ n ih =>
    intro l2 l3 h
    unfold X9_worth_L4
    refine si_aload_n 0 dX9_worth_4 rfl rfl ?_
    refine si_gR 10 15 fl_X9_62 dX9_worth_5 (by decide) rfl (fun x1 => ?_)
    refine si_iload_n 2 dX9_worth_8 rfl rfl ?_
    refine si_ia dX9_worth_9 (fun x2 => ?_)
    refine si_if_eq 192 dX9_worth_10 (by decide) ?_ ?_
    · refine si_aload_n 0 dX9_worth_192 rfl rfl ?_
      refine si_gR 10 23 fl_X9_80 dX9_worth_193 (by decide) rfl (fun x3 => ?_)
      refine si_iconst (v := 0) dX9_worth_196 (by decide) ?_
      refine si_ia dX9_worth_197 (fun x4 => ?_)
      exact si_iret dX9_worth_198 rfl (Nat.le_of_ble_eq_true rfl) (Nat.le_of_ble_eq_true rfl)
    · refine si_aload_n 0 dX9_worth_13 rfl rfl ?_
      refine si_gR 10 15 fl_X9_62 dX9_worth_14 (by decide) rfl (fun x5 => ?_)
      refine si_iload_n 2 dX9_worth_17 rfl rfl ?_
      refine si_ia dX9_worth_18 (fun x6 => ?_)
      refine si_istore 4 dX9_worth_19 (by decide) ?_
      refine si_iload 4 dX9_worth_21 rfl ?_
      refine si_iconst (v := 1) dX9_worth_23 (by decide) ?_
      refine si_icmp_eq 33 dX9_worth_24 (by decide) ?_ ?_
      · refine si_widen 0 0 (Nat.le_of_ble_eq_true rfl) (Nat.le_of_ble_eq_true rfl) ?_
        refine si_lo [(0, lvR (some th)), (2, lvI (l2)), (3, lvI (l3)), (4, lvI (x6))] ⟨rfl, rfl, rfl, rfl, trivial⟩ ?_
        exact X9_worth_b33_s th (X9_worth_L4 th n) ih l2 l3 x6 _
      · refine si_iload 4 dX9_worth_27 rfl ?_
        refine si_iconst (v := 2) dX9_worth_29 (by decide) ?_
        refine si_icmp_ne 71 dX9_worth_30 (by decide) ?_ ?_
        · refine si_widen 0 0 (Nat.le_of_ble_eq_true rfl) (Nat.le_of_ble_eq_true rfl) ?_
          refine si_lo [(0, lvR (some th)), (2, lvI (l2)), (3, lvI (l3)), (4, lvI (x6))] ⟨rfl, rfl, rfl, rfl, trivial⟩ ?_
          exact X9_worth_b33_s th (X9_worth_L4 th n) ih l2 l3 x6 _
        · refine si_iinc 3 (-1) dX9_worth_71 rfl (by decide) (by decide) ?_
          refine si_aload_n 0 dX9_worth_74 rfl rfl ?_
          refine si_gR 10 23 fl_X9_80 dX9_worth_75 (by decide) rfl (fun x7 => ?_)
          refine si_iload_n 3 dX9_worth_78 rfl rfl ?_
          refine si_ia dX9_worth_79 (fun x8 => ?_)
          refine si_istore 5 dX9_worth_80 (by decide) ?_
          refine si_aload_n 0 dX9_worth_82 rfl rfl ?_
          refine si_gR 10 23 fl_X9_80 dX9_worth_83 (by decide) rfl (fun x9 => ?_)
          refine si_iload_n 3 dX9_worth_86 rfl rfl ?_
          refine si_iconst (v := 1) dX9_worth_87 (by decide) ?_
          refine si_isub dX9_worth_88 ?_
          refine si_ia dX9_worth_89 (fun x10 => ?_)
          refine si_istore 6 dX9_worth_90 (by decide) ?_
          refine si_aload_n 0 dX9_worth_92 rfl rfl ?_
          refine si_gR 10 23 fl_X9_80 dX9_worth_93 (by decide) rfl (fun x11 => ?_)
          refine si_iload_n 3 dX9_worth_96 rfl rfl ?_
          refine si_iconst (v := 1) dX9_worth_97 (by decide) ?_
          refine si_isub dX9_worth_98 ?_
          refine si_iload 4 dX9_worth_99 rfl ?_
          refine si_iconst (v := 3) dX9_worth_101 (by decide) ?_
          refine si_icmp_ne 113 dX9_worth_102 (by decide) ?_ ?_
          · refine si_iload 6 dX9_worth_105 rfl ?_
            refine si_iload 5 dX9_worth_107 rfl ?_
            refine si_iadd dX9_worth_109 ?_
            refine si_goto 185 dX9_worth_110 (by decide) ?_
            refine si_widen 0 0 (Nat.le_of_ble_eq_true rfl) (Nat.le_of_ble_eq_true rfl) ?_
            refine si_lo [(0, lvR (some th)), (2, lvI (l2)), (3, lvI (l3 + (-1)))] ⟨rfl, rfl, rfl, trivial⟩ ?_
            exact X9_worth_b185_s th (X9_worth_L4 th n) ih l2 (l3 + (-1)) (x10 + x8) ((l3 + (-1)) - (1 : Int32)) x11 _
          · refine si_iload 4 dX9_worth_113 rfl ?_
            refine si_iconst (v := 4) dX9_worth_115 (by decide) ?_
            refine si_icmp_ne 127 dX9_worth_116 (by decide) ?_ ?_
            · refine si_iload 6 dX9_worth_119 rfl ?_
              refine si_iload 5 dX9_worth_121 rfl ?_
              refine si_isub dX9_worth_123 ?_
              refine si_goto 185 dX9_worth_124 (by decide) ?_
              refine si_widen 0 0 (Nat.le_of_ble_eq_true rfl) (Nat.le_of_ble_eq_true rfl) ?_
              refine si_lo [(0, lvR (some th)), (2, lvI (l2)), (3, lvI (l3 + (-1)))] ⟨rfl, rfl, rfl, trivial⟩ ?_
              exact X9_worth_b185_s th (X9_worth_L4 th n) ih l2 (l3 + (-1)) (x10 - x8) ((l3 + (-1)) - (1 : Int32)) x11 _
            · refine si_iload 4 dX9_worth_127 rfl ?_
              refine si_iconst (v := 5) dX9_worth_129 (by decide) ?_
              refine si_icmp_ne 148 dX9_worth_130 (by decide) ?_ ?_
              · refine si_iload 6 dX9_worth_133 rfl ?_
                refine si_iload 5 dX9_worth_135 rfl ?_
                refine si_icmp_ge 144 dX9_worth_137 (by decide) ?_ ?_
                · refine si_iconst (v := 0) dX9_worth_144 (by decide) ?_
                  refine si_goto 185 dX9_worth_145 (by decide) ?_
                  refine si_widen 0 0 (Nat.le_of_ble_eq_true rfl) (Nat.le_of_ble_eq_true rfl) ?_
                  refine si_lo [(0, lvR (some th)), (2, lvI (l2)), (3, lvI (l3 + (-1)))] ⟨rfl, rfl, rfl, trivial⟩ ?_
                  exact X9_worth_b185_s th (X9_worth_L4 th n) ih l2 (l3 + (-1)) ((0 : Int32)) ((l3 + (-1)) - (1 : Int32)) x11 _
                · refine si_iconst (v := 1) dX9_worth_140 (by decide) ?_
                  refine si_goto 185 dX9_worth_141 (by decide) ?_
                  refine si_widen 0 0 (Nat.le_of_ble_eq_true rfl) (Nat.le_of_ble_eq_true rfl) ?_
                  refine si_lo [(0, lvR (some th)), (2, lvI (l2)), (3, lvI (l3 + (-1)))] ⟨rfl, rfl, rfl, trivial⟩ ?_
                  exact X9_worth_b185_s th (X9_worth_L4 th n) ih l2 (l3 + (-1)) ((1 : Int32)) ((l3 + (-1)) - (1 : Int32)) x11 _
              · refine si_iload 4 dX9_worth_148 rfl ?_
                refine si_bipush (v := 6) dX9_worth_150 (by decide) ?_
                refine si_icmp_ne 170 dX9_worth_152 (by decide) ?_ ?_
                · refine si_iload 6 dX9_worth_155 rfl ?_
                  refine si_iload 5 dX9_worth_157 rfl ?_
                  refine si_icmp_ne 166 dX9_worth_159 (by decide) ?_ ?_
                  · refine si_iconst (v := 1) dX9_worth_162 (by decide) ?_
                    refine si_goto 185 dX9_worth_163 (by decide) ?_
                    refine si_widen 0 0 (Nat.le_of_ble_eq_true rfl) (Nat.le_of_ble_eq_true rfl) ?_
                    refine si_lo [(0, lvR (some th)), (2, lvI (l2)), (3, lvI (l3 + (-1)))] ⟨rfl, rfl, rfl, trivial⟩ ?_
                    exact X9_worth_b185_s th (X9_worth_L4 th n) ih l2 (l3 + (-1)) ((1 : Int32)) ((l3 + (-1)) - (1 : Int32)) x11 _
                  · refine si_iconst (v := 0) dX9_worth_166 (by decide) ?_
                    refine si_goto 185 dX9_worth_167 (by decide) ?_
                    refine si_widen 0 0 (Nat.le_of_ble_eq_true rfl) (Nat.le_of_ble_eq_true rfl) ?_
                    refine si_lo [(0, lvR (some th)), (2, lvI (l2)), (3, lvI (l3 + (-1)))] ⟨rfl, rfl, rfl, trivial⟩ ?_
                    exact X9_worth_b185_s th (X9_worth_L4 th n) ih l2 (l3 + (-1)) ((0 : Int32)) ((l3 + (-1)) - (1 : Int32)) x11 _
                · refine si_iload 6 dX9_worth_170 rfl ?_
                  refine si_if_eq 184 dX9_worth_172 (by decide) ?_ ?_
                  · refine si_widen 0 0 (Nat.le_of_ble_eq_true rfl) (Nat.le_of_ble_eq_true rfl) ?_
                    refine si_lo [(0, lvR (some th)), (2, lvI (l2)), (3, lvI (l3 + (-1)))] ⟨rfl, rfl, rfl, trivial⟩ ?_
                    exact X9_worth_b184_s th (X9_worth_L4 th n) ih l2 (l3 + (-1)) ((l3 + (-1)) - (1 : Int32)) x11 _
                  · refine si_iload 5 dX9_worth_175 rfl ?_
                    refine si_if_eq 184 dX9_worth_177 (by decide) ?_ ?_
                    · refine si_widen 0 0 (Nat.le_of_ble_eq_true rfl) (Nat.le_of_ble_eq_true rfl) ?_
                      refine si_lo [(0, lvR (some th)), (2, lvI (l2)), (3, lvI (l3 + (-1)))] ⟨rfl, rfl, rfl, trivial⟩ ?_
                      exact X9_worth_b184_s th (X9_worth_L4 th n) ih l2 (l3 + (-1)) ((l3 + (-1)) - (1 : Int32)) x11 _
                    · refine si_iconst (v := 1) dX9_worth_180 (by decide) ?_
                      refine si_goto 185 dX9_worth_181 (by decide) ?_
                      refine si_widen 0 0 (Nat.le_of_ble_eq_true rfl) (Nat.le_of_ble_eq_true rfl) ?_
                      refine si_lo [(0, lvR (some th)), (2, lvI (l2)), (3, lvI (l3 + (-1)))] ⟨rfl, rfl, rfl, trivial⟩ ?_
                      exact X9_worth_b185_s th (X9_worth_L4 th n) ih l2 (l3 + (-1)) ((1 : Int32)) ((l3 + (-1)) - (1 : Int32)) x11 _
set_option maxHeartbeats 4000000 in
set_option maxRecDepth 100000 in
theorem s_X9_worth {E : EV} (th : Nat) (a1 : Int32) (h : HS) : Sim E mi_X9_worth (fin oI) 0 0 0 (largs 0 [lvR (some th), lvI a1]) [] h (m_X9_worth th a1 h) := by
  unfold m_X9_worth
  refine si_iload_n 1 dX9_worth_0 rfl rfl ?_
  refine si_istore_n 2 dX9_worth_1 rfl (by decide) ?_
  refine si_iconst (v := 0) dX9_worth_2 (by decide) ?_
  refine si_istore_n 3 dX9_worth_3 rfl (by decide) ?_
  refine si_widen 0 0 (Nat.le_of_ble_eq_true rfl) (Nat.le_of_ble_eq_true rfl) ?_
  refine si_lo [(0, lvR (some th)), (2, lvI (a1)), (3, lvI ((0 : Int32)))] ⟨rfl, rfl, rfl, trivial⟩ ?_
  exact X9_worth_L4_s th FU a1 ((0 : Int32)) _
theorem ct_X9_worth (l : Launch) (G : GG) {th : Nat} {a1 : Int32} {h : HS} {q : Int32 × HS} (hq : m_X9_worth th a1 h = some q) : Ct l yX9_worth mi_X9_worth G [lvR (some th), lvI a1] h (oI q) := Ct.of (out := oI) (by decide +kernel) rfl rfl (Nat.le_of_ble_eq_true rfl) hq (fun _ _ _ _ _ _ _ _ => s_X9_worth th a1 h)
set_option maxHeartbeats 4000000 in
set_option maxRecDepth 100000 in
theorem s_X9_within {E : EV} (a1 : Int32) (a2 : Int32) (a3 : Int32) (h : HS) : Sim E mi_X9_within (fin oI) 0 0 0 (largs 0 [lvI a1, lvI a2, lvI a3]) [] h (m_X9_within a1 a2 a3 h) := by
  unfold m_X9_within
  refine si_iload_n 0 dX9_within_0 rfl rfl ?_
  refine si_iload_n 1 dX9_within_1 rfl rfl ?_
  refine si_icmp_lt 14 dX9_within_2 (by decide) ?_ ?_
  · refine si_iconst (v := 0) dX9_within_14 (by decide) ?_
    exact si_zret dX9_within_15 rfl rfl (Nat.le_of_ble_eq_true rfl) (Nat.le_of_ble_eq_true rfl)
  · refine si_iload_n 0 dX9_within_5 rfl rfl ?_
    refine si_iload_n 2 dX9_within_6 rfl rfl ?_
    refine si_icmp_gt 14 dX9_within_7 (by decide) ?_ ?_
    · refine si_iconst (v := 0) dX9_within_14 (by decide) ?_
      exact si_zret dX9_within_15 rfl rfl (Nat.le_of_ble_eq_true rfl) (Nat.le_of_ble_eq_true rfl)
    · refine si_iconst (v := 1) dX9_within_10 (by decide) ?_
      refine si_goto 15 dX9_within_11 (by decide) ?_
      exact si_zret dX9_within_15 rfl rfl (Nat.le_of_ble_eq_true rfl) (Nat.le_of_ble_eq_true rfl)
theorem ct_X9_within (l : Launch) (G : GG) {a1 : Int32} {a2 : Int32} {a3 : Int32} {h : HS} {q : Int32 × HS} (hq : m_X9_within a1 a2 a3 h = some q) : Ct l yX9_within mi_X9_within G [lvI a1, lvI a2, lvI a3] h (oI q) := Ct.of (out := oI) (by decide +kernel) rfl rfl (Nat.le_of_ble_eq_true rfl) hq (fun _ _ _ _ _ _ _ _ => s_X9_within a1 a2 a3 h)
set_option maxHeartbeats 4000000 in
set_option maxRecDepth 100000 in
theorem s_X9_feature {E : EV} (th : Nat) (a1 : Int32) (a2 : Int32) (a3 : Int32) (a4 : Int32) (a5 : Int32) (h : HS) : Sim E mi_X9_feature (fin oI) 0 0 0 (largs 0 [lvR (some th), lvI a1, lvI a2, lvI a3, lvI a4, lvI a5]) [] h (m_X9_feature th a1 a2 a3 a4 a5 h) := by
  unfold m_X9_feature
  refine si_aload_n 0 dX9_feature_0 rfl rfl ?_
  refine si_iconst (v := 0) dX9_feature_1 (by decide) ?_
  refine si_pI 10 0 fl_X9_1 dX9_feature_2 (by decide) rfl rfl rfl (fw_X9_1 _) (fun h1 => ?_)
  refine si_iload_n 1 dX9_feature_5 rfl rfl ?_
  refine si_iconst (v := 0) dX9_feature_6 (by decide) ?_
  refine si_iconst (v := 3) dX9_feature_7 (by decide) ?_
  refine si_csI [lvI (a1), lvI ((0 : Int32)), lvI ((3 : Int32))] dX9_feature_8 rfl mc_X9_within ml_X9_253 st_X9_within rfl ⟨Nat.le_of_ble_eq_true rfl, Nat.le_of_ble_eq_true rfl, Nat.le_of_ble_eq_true rfl, Nat.le_of_ble_eq_true rfl⟩ (Nat.le_of_ble_eq_true rfl) (fun _ hq => ct_X9_within _ _ hq) (fun q2 => ?_)
  refine si_if_eq 76 dX9_feature_11 (by decide) ?_ ?_
  · refine si_iconst (v := -1) dX9_feature_76 (by decide) ?_
    exact si_iret dX9_feature_77 rfl (Nat.le_of_ble_eq_true rfl) (Nat.le_of_ble_eq_true rfl)
  · refine si_iload_n 2 dX9_feature_14 rfl rfl ?_
    refine si_iconst (v := 0) dX9_feature_15 (by decide) ?_
    refine si_sipush (v := 500) dX9_feature_16 (by decide) ?_
    refine si_csI [lvI (a2), lvI ((0 : Int32)), lvI ((500 : Int32))] dX9_feature_19 rfl mc_X9_within ml_X9_253 st_X9_within rfl ⟨Nat.le_of_ble_eq_true rfl, Nat.le_of_ble_eq_true rfl, Nat.le_of_ble_eq_true rfl, Nat.le_of_ble_eq_true rfl⟩ (Nat.le_of_ble_eq_true rfl) (fun _ hq => ct_X9_within _ _ hq) (fun q3 => ?_)
    refine si_if_eq 76 dX9_feature_22 (by decide) ?_ ?_
    · refine si_iconst (v := -1) dX9_feature_76 (by decide) ?_
      exact si_iret dX9_feature_77 rfl (Nat.le_of_ble_eq_true rfl) (Nat.le_of_ble_eq_true rfl)
    · refine si_iload_n 3 dX9_feature_25 rfl rfl ?_
      refine si_iconst (v := 0) dX9_feature_26 (by decide) ?_
      refine si_bipush (v := 100) dX9_feature_27 (by decide) ?_
      refine si_csI [lvI (a3), lvI ((0 : Int32)), lvI ((100 : Int32))] dX9_feature_29 rfl mc_X9_within ml_X9_253 st_X9_within rfl ⟨Nat.le_of_ble_eq_true rfl, Nat.le_of_ble_eq_true rfl, Nat.le_of_ble_eq_true rfl, Nat.le_of_ble_eq_true rfl⟩ (Nat.le_of_ble_eq_true rfl) (fun _ hq => ct_X9_within _ _ hq) (fun q4 => ?_)
      refine si_if_eq 76 dX9_feature_32 (by decide) ?_ ?_
      · refine si_iconst (v := -1) dX9_feature_76 (by decide) ?_
        exact si_iret dX9_feature_77 rfl (Nat.le_of_ble_eq_true rfl) (Nat.le_of_ble_eq_true rfl)
      · refine si_iload 4 dX9_feature_35 rfl ?_
        refine si_iconst (v := 0) dX9_feature_37 (by decide) ?_
        refine si_bipush (v := 100) dX9_feature_38 (by decide) ?_
        refine si_csI [lvI (a4), lvI ((0 : Int32)), lvI ((100 : Int32))] dX9_feature_40 rfl mc_X9_within ml_X9_253 st_X9_within rfl ⟨Nat.le_of_ble_eq_true rfl, Nat.le_of_ble_eq_true rfl, Nat.le_of_ble_eq_true rfl, Nat.le_of_ble_eq_true rfl⟩ (Nat.le_of_ble_eq_true rfl) (fun _ hq => ct_X9_within _ _ hq) (fun q5 => ?_)
        refine si_if_eq 76 dX9_feature_43 (by decide) ?_ ?_
        · refine si_iconst (v := -1) dX9_feature_76 (by decide) ?_
          exact si_iret dX9_feature_77 rfl (Nat.le_of_ble_eq_true rfl) (Nat.le_of_ble_eq_true rfl)
        · refine si_iload 5 dX9_feature_46 rfl ?_
          refine si_iconst (v := 0) dX9_feature_48 (by decide) ?_
          refine si_bipush (v := 100) dX9_feature_49 (by decide) ?_
          refine si_csI [lvI (a5), lvI ((0 : Int32)), lvI ((100 : Int32))] dX9_feature_51 rfl mc_X9_within ml_X9_253 st_X9_within rfl ⟨Nat.le_of_ble_eq_true rfl, Nat.le_of_ble_eq_true rfl, Nat.le_of_ble_eq_true rfl, Nat.le_of_ble_eq_true rfl⟩ (Nat.le_of_ble_eq_true rfl) (fun _ hq => ct_X9_within _ _ hq) (fun q6 => ?_)
          refine si_if_eq 76 dX9_feature_54 (by decide) ?_ ?_
          · refine si_iconst (v := -1) dX9_feature_76 (by decide) ?_
            exact si_iret dX9_feature_77 rfl (Nat.le_of_ble_eq_true rfl) (Nat.le_of_ble_eq_true rfl)
          · refine si_iload_n 3 dX9_feature_57 rfl rfl ?_
            refine si_iload 4 dX9_feature_58 rfl ?_
            refine si_iadd dX9_feature_60 ?_
            refine si_iload 5 dX9_feature_61 rfl ?_
            refine si_iadd dX9_feature_63 ?_
            refine si_if_eq 76 dX9_feature_64 (by decide) ?_ ?_
            · refine si_iconst (v := -1) dX9_feature_76 (by decide) ?_
              exact si_iret dX9_feature_77 rfl (Nat.le_of_ble_eq_true rfl) (Nat.le_of_ble_eq_true rfl)
            · refine si_aload_n 0 dX9_feature_67 rfl rfl ?_
              refine si_gI 10 25 fl_X9_257 dX9_feature_68 (by decide) rfl (fun x7 => ?_)
              refine si_bipush (v := 10) dX9_feature_71 (by decide) ?_
              refine si_icmp_ne 78 dX9_feature_73 (by decide) ?_ ?_
              · refine si_iconst (v := -1) dX9_feature_76 (by decide) ?_
                exact si_iret dX9_feature_77 rfl (Nat.le_of_ble_eq_true rfl) (Nat.le_of_ble_eq_true rfl)
              · refine si_aload_n 0 dX9_feature_78 rfl rfl ?_
                refine si_gR 10 26 fl_X9_83 dX9_feature_79 (by decide) rfl (fun x8 => ?_)
                refine si_aload_n 0 dX9_feature_82 rfl rfl ?_
                refine si_gI 10 25 fl_X9_257 dX9_feature_83 (by decide) rfl (fun x9 => ?_)
                refine si_iload_n 1 dX9_feature_86 rfl rfl ?_
                refine si_is dX9_feature_87 (fun h10 => ?_)
                refine si_aload_n 0 dX9_feature_88 rfl rfl ?_
                refine si_gR 10 27 fl_X9_86 dX9_feature_89 (by decide) rfl (fun x11 => ?_)
                refine si_aload_n 0 dX9_feature_92 rfl rfl ?_
                refine si_gI 10 25 fl_X9_257 dX9_feature_93 (by decide) rfl (fun x12 => ?_)
                refine si_iload_n 2 dX9_feature_96 rfl rfl ?_
                refine si_is dX9_feature_97 (fun h13 => ?_)
                refine si_aload_n 0 dX9_feature_98 rfl rfl ?_
                refine si_gR 10 28 fl_X9_89 dX9_feature_99 (by decide) rfl (fun x14 => ?_)
                refine si_iconst (v := 3) dX9_feature_102 (by decide) ?_
                refine si_aload_n 0 dX9_feature_103 rfl rfl ?_
                refine si_gI 10 25 fl_X9_257 dX9_feature_104 (by decide) rfl (fun x15 => ?_)
                refine si_imul dX9_feature_107 ?_
                refine si_iload_n 3 dX9_feature_108 rfl rfl ?_
                refine si_is dX9_feature_109 (fun h16 => ?_)
                refine si_aload_n 0 dX9_feature_110 rfl rfl ?_
                refine si_gR 10 28 fl_X9_89 dX9_feature_111 (by decide) rfl (fun x17 => ?_)
                refine si_iconst (v := 3) dX9_feature_114 (by decide) ?_
                refine si_aload_n 0 dX9_feature_115 rfl rfl ?_
                refine si_gI 10 25 fl_X9_257 dX9_feature_116 (by decide) rfl (fun x18 => ?_)
                refine si_imul dX9_feature_119 ?_
                refine si_iconst (v := 1) dX9_feature_120 (by decide) ?_
                refine si_iadd dX9_feature_121 ?_
                refine si_iload 4 dX9_feature_122 rfl ?_
                refine si_is dX9_feature_124 (fun h19 => ?_)
                refine si_aload_n 0 dX9_feature_125 rfl rfl ?_
                refine si_gR 10 28 fl_X9_89 dX9_feature_126 (by decide) rfl (fun x20 => ?_)
                refine si_iconst (v := 3) dX9_feature_129 (by decide) ?_
                refine si_aload_n 0 dX9_feature_130 rfl rfl ?_
                refine si_gI 10 25 fl_X9_257 dX9_feature_131 (by decide) rfl (fun x21 => ?_)
                refine si_imul dX9_feature_134 ?_
                refine si_iconst (v := 2) dX9_feature_135 (by decide) ?_
                refine si_iadd dX9_feature_136 ?_
                refine si_iload 5 dX9_feature_137 rfl ?_
                refine si_is dX9_feature_139 (fun h22 => ?_)
                refine si_aload_n 0 dX9_feature_140 rfl rfl ?_
                refine si_dup dX9_feature_141 (cat_rf _) ?_
                refine si_gI 10 25 fl_X9_257 dX9_feature_142 (by decide) rfl (fun x23 => ?_)
                refine si_iconst (v := 1) dX9_feature_145 (by decide) ?_
                refine si_iadd dX9_feature_146 ?_
                refine si_pI 10 25 fl_X9_257 dX9_feature_147 (by decide) rfl rfl rfl (fw_X9_257 _) (fun h24 => ?_)
                refine si_aload_n 0 dX9_feature_150 rfl rfl ?_
                refine si_gI 10 25 fl_X9_257 dX9_feature_151 (by decide) rfl (fun x25 => ?_)
                refine si_iconst (v := 1) dX9_feature_154 (by decide) ?_
                refine si_isub dX9_feature_155 ?_
                exact si_iret dX9_feature_156 rfl (Nat.le_of_ble_eq_true rfl) (Nat.le_of_ble_eq_true rfl)
theorem ct_X9_feature (l : Launch) (G : GG) {th : Nat} {a1 : Int32} {a2 : Int32} {a3 : Int32} {a4 : Int32} {a5 : Int32} {h : HS} {q : Int32 × HS} (hq : m_X9_feature th a1 a2 a3 a4 a5 h = some q) : Ct l yX9_feature mi_X9_feature G [lvR (some th), lvI a1, lvI a2, lvI a3, lvI a4, lvI a5] h (oI q) := Ct.of (out := oI) (by decide +kernel) rfl rfl (Nat.le_of_ble_eq_true rfl) hq (fun _ _ _ _ _ _ _ _ => s_X9_feature th a1 a2 a3 a4 a5 h)
set_option maxHeartbeats 4000000 in
set_option maxRecDepth 100000 in
theorem X9_paper_L82_s {E : EV} (th : Nat) (n : Nat) : ∀ (l3 : Int32) (l4 : Int32) (h : HS), Sim E mi_X9_paper (fin oI) 0 0 82 [(0, lvR (some th)), (3, lvI (l3)), (4, lvI (l4))] [] h (X9_paper_L82 th n l3 l4 h) := by
  induction n with
  | zero => intro l3 l4 h; exact si_none
  | succ n ih =>
    intro l3 l4 h
    unfold X9_paper_L82
    refine si_iload 4 dX9_paper_82 rfl ?_
    refine si_aload_n 0 dX9_paper_84 rfl rfl ?_
    refine si_gI 10 24 fl_X9_264 dX9_paper_85 (by decide) rfl (fun x1 => ?_)
    refine si_iconst (v := 4) dX9_paper_88 (by decide) ?_
    refine si_idiv dX9_paper_89 (by decide) ?_
    refine si_icmp_ge 115 dX9_paper_90 (by decide) ?_ ?_
    · refine si_aload_n 0 dX9_paper_115 rfl rfl ?_
      refine si_dup dX9_paper_116 (cat_rf _) ?_
      refine si_gI 10 34 fl_X9_261 dX9_paper_117 (by decide) rfl (fun x2 => ?_)
      refine si_iconst (v := 1) dX9_paper_120 (by decide) ?_
      refine si_iadd dX9_paper_121 ?_
      refine si_pI 10 34 fl_X9_261 dX9_paper_122 (by decide) rfl rfl rfl (fw_X9_261 _) (fun h3 => ?_)
      refine si_aload_n 0 dX9_paper_125 rfl rfl ?_
      refine si_gI 10 34 fl_X9_261 dX9_paper_126 (by decide) rfl (fun x4 => ?_)
      refine si_iconst (v := 1) dX9_paper_129 (by decide) ?_
      refine si_isub dX9_paper_130 ?_
      exact si_iret dX9_paper_131 rfl (Nat.le_of_ble_eq_true rfl) (Nat.le_of_ble_eq_true rfl)
    · refine si_aload_n 0 dX9_paper_93 rfl rfl ?_
      refine si_gR 10 38 fl_X9_117 dX9_paper_94 (by decide) rfl (fun x5 => ?_)
      refine si_bipush (v := 51) dX9_paper_97 (by decide) ?_
      refine si_aload_n 0 dX9_paper_99 rfl rfl ?_
      refine si_gI 10 34 fl_X9_261 dX9_paper_100 (by decide) rfl (fun x6 => ?_)
      refine si_imul dX9_paper_103 ?_
      refine si_iload 4 dX9_paper_104 rfl ?_
      refine si_iadd dX9_paper_106 ?_
      refine si_iload_n 3 dX9_paper_107 rfl rfl ?_
      refine si_is dX9_paper_108 (fun h7 => ?_)
      refine si_iinc 4 (1) dX9_paper_109 rfl (by decide) (by decide) ?_
      refine si_goto 82 dX9_paper_112 (by decide) ?_
      refine si_widen 0 0 (Nat.le_of_ble_eq_true rfl) (Nat.le_of_ble_eq_true rfl) ?_
      refine si_lo [(0, lvR (some th)), (3, lvI (l3)), (4, lvI (l4 + (1)))] ⟨rfl, rfl, rfl, trivial⟩ ?_
      exact ih l3 (l4 + (1)) _
set_option maxHeartbeats 4000000 in
set_option maxRecDepth 100000 in
theorem s_X9_paper {E : EV} (th : Nat) (a1 : Int32) (a2 : Int32) (a3 : Int32) (h : HS) : Sim E mi_X9_paper (fin oI) 0 0 0 (largs 0 [lvR (some th), lvI a1, lvI a2, lvI a3]) [] h (m_X9_paper th a1 a2 a3 h) := by
  unfold m_X9_paper
  refine si_aload_n 0 dX9_paper_0 rfl rfl ?_
  refine si_iconst (v := 0) dX9_paper_1 (by decide) ?_
  refine si_pI 10 0 fl_X9_1 dX9_paper_2 (by decide) rfl rfl rfl (fw_X9_1 _) (fun h1 => ?_)
  refine si_iload_n 1 dX9_paper_5 rfl rfl ?_
  refine si_iconst (v := 0) dX9_paper_6 (by decide) ?_
  refine si_sipush (v := 999) dX9_paper_7 (by decide) ?_
  refine si_csI [lvI (a1), lvI ((0 : Int32)), lvI ((999 : Int32))] dX9_paper_10 rfl mc_X9_within ml_X9_253 st_X9_within rfl ⟨Nat.le_of_ble_eq_true rfl, Nat.le_of_ble_eq_true rfl, Nat.le_of_ble_eq_true rfl, Nat.le_of_ble_eq_true rfl⟩ (Nat.le_of_ble_eq_true rfl) (fun _ hq => ct_X9_within _ _ hq) (fun q2 => ?_)
  refine si_if_eq 47 dX9_paper_13 (by decide) ?_ ?_
  · refine si_iconst (v := -1) dX9_paper_47 (by decide) ?_
    exact si_iret dX9_paper_48 rfl (Nat.le_of_ble_eq_true rfl) (Nat.le_of_ble_eq_true rfl)
  · refine si_iload_n 2 dX9_paper_16 rfl rfl ?_
    refine si_iconst (v := 0) dX9_paper_17 (by decide) ?_
    refine si_sipush (v := 999) dX9_paper_18 (by decide) ?_
    refine si_csI [lvI (a2), lvI ((0 : Int32)), lvI ((999 : Int32))] dX9_paper_21 rfl mc_X9_within ml_X9_253 st_X9_within rfl ⟨Nat.le_of_ble_eq_true rfl, Nat.le_of_ble_eq_true rfl, Nat.le_of_ble_eq_true rfl, Nat.le_of_ble_eq_true rfl⟩ (Nat.le_of_ble_eq_true rfl) (fun _ hq => ct_X9_within _ _ hq) (fun q3 => ?_)
    refine si_if_eq 47 dX9_paper_24 (by decide) ?_ ?_
    · refine si_iconst (v := -1) dX9_paper_47 (by decide) ?_
      exact si_iret dX9_paper_48 rfl (Nat.le_of_ble_eq_true rfl) (Nat.le_of_ble_eq_true rfl)
    · refine si_iload_n 3 dX9_paper_27 rfl rfl ?_
      refine si_iconst (v := 1) dX9_paper_28 (by decide) ?_
      refine si_ldcw dX9_paper_29 kc_X9_260 ?_
      refine si_csI [lvI (a3), lvI ((1 : Int32)), lvI ((100000 : Int32))] dX9_paper_32 rfl mc_X9_within ml_X9_253 st_X9_within rfl ⟨Nat.le_of_ble_eq_true rfl, Nat.le_of_ble_eq_true rfl, Nat.le_of_ble_eq_true rfl, Nat.le_of_ble_eq_true rfl⟩ (Nat.le_of_ble_eq_true rfl) (fun _ hq => ct_X9_within _ _ hq) (fun q4 => ?_)
      refine si_if_eq 47 dX9_paper_35 (by decide) ?_ ?_
      · refine si_iconst (v := -1) dX9_paper_47 (by decide) ?_
        exact si_iret dX9_paper_48 rfl (Nat.le_of_ble_eq_true rfl) (Nat.le_of_ble_eq_true rfl)
      · refine si_aload_n 0 dX9_paper_38 rfl rfl ?_
        refine si_gI 10 34 fl_X9_261 dX9_paper_39 (by decide) rfl (fun x5 => ?_)
        refine si_bipush (v := 20) dX9_paper_42 (by decide) ?_
        refine si_icmp_ne 49 dX9_paper_44 (by decide) ?_ ?_
        · refine si_iconst (v := -1) dX9_paper_47 (by decide) ?_
          exact si_iret dX9_paper_48 rfl (Nat.le_of_ble_eq_true rfl) (Nat.le_of_ble_eq_true rfl)
        · refine si_aload_n 0 dX9_paper_49 rfl rfl ?_
          refine si_gR 10 35 fl_X9_108 dX9_paper_50 (by decide) rfl (fun x6 => ?_)
          refine si_aload_n 0 dX9_paper_53 rfl rfl ?_
          refine si_gI 10 34 fl_X9_261 dX9_paper_54 (by decide) rfl (fun x7 => ?_)
          refine si_iload_n 1 dX9_paper_57 rfl rfl ?_
          refine si_is dX9_paper_58 (fun h8 => ?_)
          refine si_aload_n 0 dX9_paper_59 rfl rfl ?_
          refine si_gR 10 36 fl_X9_111 dX9_paper_60 (by decide) rfl (fun x9 => ?_)
          refine si_aload_n 0 dX9_paper_63 rfl rfl ?_
          refine si_gI 10 34 fl_X9_261 dX9_paper_64 (by decide) rfl (fun x10 => ?_)
          refine si_iload_n 2 dX9_paper_67 rfl rfl ?_
          refine si_is dX9_paper_68 (fun h11 => ?_)
          refine si_aload_n 0 dX9_paper_69 rfl rfl ?_
          refine si_gR 10 37 fl_X9_114 dX9_paper_70 (by decide) rfl (fun x12 => ?_)
          refine si_aload_n 0 dX9_paper_73 rfl rfl ?_
          refine si_gI 10 34 fl_X9_261 dX9_paper_74 (by decide) rfl (fun x13 => ?_)
          refine si_iload_n 3 dX9_paper_77 rfl rfl ?_
          refine si_is dX9_paper_78 (fun h14 => ?_)
          refine si_iconst (v := 0) dX9_paper_79 (by decide) ?_
          refine si_istore 4 dX9_paper_80 (by decide) ?_
          refine si_widen 0 0 (Nat.le_of_ble_eq_true rfl) (Nat.le_of_ble_eq_true rfl) ?_
          refine si_lo [(0, lvR (some th)), (3, lvI (a3)), (4, lvI ((0 : Int32)))] ⟨rfl, rfl, rfl, trivial⟩ ?_
          exact X9_paper_L82_s th FU a3 ((0 : Int32)) _
theorem ct_X9_paper (l : Launch) (G : GG) {th : Nat} {a1 : Int32} {a2 : Int32} {a3 : Int32} {h : HS} {q : Int32 × HS} (hq : m_X9_paper th a1 a2 a3 h = some q) : Ct l yX9_paper mi_X9_paper G [lvR (some th), lvI a1, lvI a2, lvI a3] h (oI q) := Ct.of (out := oI) (by decide +kernel) rfl rfl (Nat.le_of_ble_eq_true rfl) hq (fun _ _ _ _ _ _ _ _ => s_X9_paper th a1 a2 a3 h)
set_option maxHeartbeats 4000000 in
set_option maxRecDepth 100000 in
theorem s_X9_isFeature {E : EV} (th : Nat) (a1 : Int32) (h : HS) : Sim E mi_X9_isFeature (fin oI) 0 0 0 (largs 0 [lvR (some th), lvI a1]) [] h (m_X9_isFeature th a1 h) := by
  unfold m_X9_isFeature
  refine si_iload_n 1 dX9_isFeature_0 rfl rfl ?_
  refine si_if_lt 16 dX9_isFeature_1 (by decide) ?_ ?_
  · refine si_iconst (v := 0) dX9_isFeature_16 (by decide) ?_
    exact si_zret dX9_isFeature_17 rfl rfl (Nat.le_of_ble_eq_true rfl) (Nat.le_of_ble_eq_true rfl)
  · refine si_iload_n 1 dX9_isFeature_4 rfl rfl ?_
    refine si_aload_n 0 dX9_isFeature_5 rfl rfl ?_
    refine si_gI 10 25 fl_X9_257 dX9_isFeature_6 (by decide) rfl (fun x1 => ?_)
    refine si_icmp_ge 16 dX9_isFeature_9 (by decide) ?_ ?_
    · refine si_iconst (v := 0) dX9_isFeature_16 (by decide) ?_
      exact si_zret dX9_isFeature_17 rfl rfl (Nat.le_of_ble_eq_true rfl) (Nat.le_of_ble_eq_true rfl)
    · refine si_iconst (v := 1) dX9_isFeature_12 (by decide) ?_
      refine si_goto 17 dX9_isFeature_13 (by decide) ?_
      exact si_zret dX9_isFeature_17 rfl rfl (Nat.le_of_ble_eq_true rfl) (Nat.le_of_ble_eq_true rfl)
theorem ct_X9_isFeature (l : Launch) (G : GG) {th : Nat} {a1 : Int32} {h : HS} {q : Int32 × HS} (hq : m_X9_isFeature th a1 h = some q) : Ct l yX9_isFeature mi_X9_isFeature G [lvR (some th), lvI a1] h (oI q) := Ct.of (out := oI) (by decide +kernel) rfl rfl (Nat.le_of_ble_eq_true rfl) hq (fun _ _ _ _ _ _ _ _ => s_X9_isFeature th a1 h)
set_option maxHeartbeats 4000000 in
set_option maxRecDepth 100000 in
theorem s_X9_isPaper {E : EV} (th : Nat) (a1 : Int32) (h : HS) : Sim E mi_X9_isPaper (fin oI) 0 0 0 (largs 0 [lvR (some th), lvI a1]) [] h (m_X9_isPaper th a1 h) := by
  unfold m_X9_isPaper
  refine si_iload_n 1 dX9_isPaper_0 rfl rfl ?_
  refine si_if_lt 16 dX9_isPaper_1 (by decide) ?_ ?_
  · refine si_iconst (v := 0) dX9_isPaper_16 (by decide) ?_
    exact si_zret dX9_isPaper_17 rfl rfl (Nat.le_of_ble_eq_true rfl) (Nat.le_of_ble_eq_true rfl)
  · refine si_iload_n 1 dX9_isPaper_4 rfl rfl ?_
    refine si_aload_n 0 dX9_isPaper_5 rfl rfl ?_
    refine si_gI 10 34 fl_X9_261 dX9_isPaper_6 (by decide) rfl (fun x1 => ?_)
    refine si_icmp_ge 16 dX9_isPaper_9 (by decide) ?_ ?_
    · refine si_iconst (v := 0) dX9_isPaper_16 (by decide) ?_
      exact si_zret dX9_isPaper_17 rfl rfl (Nat.le_of_ble_eq_true rfl) (Nat.le_of_ble_eq_true rfl)
    · refine si_iconst (v := 1) dX9_isPaper_12 (by decide) ?_
      refine si_goto 17 dX9_isPaper_13 (by decide) ?_
      exact si_zret dX9_isPaper_17 rfl rfl (Nat.le_of_ble_eq_true rfl) (Nat.le_of_ble_eq_true rfl)
theorem ct_X9_isPaper (l : Launch) (G : GG) {th : Nat} {a1 : Int32} {h : HS} {q : Int32 × HS} (hq : m_X9_isPaper th a1 h = some q) : Ct l yX9_isPaper mi_X9_isPaper G [lvR (some th), lvI a1] h (oI q) := Ct.of (out := oI) (by decide +kernel) rfl rfl (Nat.le_of_ble_eq_true rfl) hq (fun _ _ _ _ _ _ _ _ => s_X9_isPaper th a1 h)
set_option maxHeartbeats 4000000 in
set_option maxRecDepth 100000 in
theorem s_X9_circulation {E : EV} (th : Nat) (a1 : Int32) (a2 : Int32) (h : HS) : Sim E mi_X9_circulation (fin oI) 0 0 0 (largs 0 [lvR (some th), lvI a1, lvI a2]) [] h (m_X9_circulation th a1 a2 h) := by
  unfold m_X9_circulation
  refine si_aload_n 0 dX9_circulation_0 rfl rfl ?_
  refine si_iconst (v := 0) dX9_circulation_1 (by decide) ?_
  refine si_pI 10 0 fl_X9_1 dX9_circulation_2 (by decide) rfl rfl rfl (fw_X9_1 _) (fun h1 => ?_)
  refine si_aload_n 0 dX9_circulation_5 rfl rfl ?_
  refine si_iload_n 1 dX9_circulation_6 rfl rfl ?_
  refine si_cvI 10 [lvI (a1)] dX9_circulation_7 rfl mc_X9_isPaper ml_X9_267 im_X9_isPaper rfl se_X9_isPaper (by decide) rfl ⟨Nat.le_of_ble_eq_true rfl, Nat.le_of_ble_eq_true rfl, Nat.le_of_ble_eq_true rfl, Nat.le_of_ble_eq_true rfl⟩ (Nat.le_of_ble_eq_true rfl) (fun _ _ hq => ct_X9_isPaper _ _ hq) (fun q2 => ?_)
  refine si_if_eq 24 dX9_circulation_10 (by decide) ?_ ?_
  · refine si_iconst (v := 0) dX9_circulation_24 (by decide) ?_
    exact si_zret dX9_circulation_25 rfl rfl (Nat.le_of_ble_eq_true rfl) (Nat.le_of_ble_eq_true rfl)
  · refine si_iload_n 2 dX9_circulation_13 rfl rfl ?_
    refine si_iconst (v := 1) dX9_circulation_14 (by decide) ?_
    refine si_ldcw dX9_circulation_15 kc_X9_260 ?_
    refine si_csI [lvI (a2), lvI ((1 : Int32)), lvI ((100000 : Int32))] dX9_circulation_18 rfl mc_X9_within ml_X9_253 st_X9_within rfl ⟨Nat.le_of_ble_eq_true rfl, Nat.le_of_ble_eq_true rfl, Nat.le_of_ble_eq_true rfl, Nat.le_of_ble_eq_true rfl⟩ (Nat.le_of_ble_eq_true rfl) (fun _ hq => ct_X9_within _ _ hq) (fun q4 => ?_)
    refine si_if_ne 26 dX9_circulation_21 (by decide) ?_ ?_
    · refine si_iconst (v := 0) dX9_circulation_24 (by decide) ?_
      exact si_zret dX9_circulation_25 rfl rfl (Nat.le_of_ble_eq_true rfl) (Nat.le_of_ble_eq_true rfl)
    · refine si_aload_n 0 dX9_circulation_26 rfl rfl ?_
      refine si_gR 10 37 fl_X9_114 dX9_circulation_27 (by decide) rfl (fun x5 => ?_)
      refine si_iload_n 1 dX9_circulation_30 rfl rfl ?_
      refine si_iload_n 2 dX9_circulation_31 rfl rfl ?_
      refine si_is dX9_circulation_32 (fun h6 => ?_)
      refine si_iconst (v := 1) dX9_circulation_33 (by decide) ?_
      exact si_zret dX9_circulation_34 rfl rfl (Nat.le_of_ble_eq_true rfl) (Nat.le_of_ble_eq_true rfl)
theorem ct_X9_circulation (l : Launch) (G : GG) {th : Nat} {a1 : Int32} {a2 : Int32} {h : HS} {q : Int32 × HS} (hq : m_X9_circulation th a1 a2 h = some q) : Ct l yX9_circulation mi_X9_circulation G [lvR (some th), lvI a1, lvI a2] h (oI q) := Ct.of (out := oI) (by decide +kernel) rfl rfl (Nat.le_of_ble_eq_true rfl) hq (fun _ _ _ _ _ _ _ _ => s_X9_circulation th a1 a2 h)
set_option maxHeartbeats 4000000 in
set_option maxRecDepth 100000 in
theorem s_X9_sells {E : EV} (th : Nat) (a1 : Int32) (a2 : Int32) (h : HS) : Sim E mi_X9_sells (fin oI) 0 0 0 (largs 0 [lvR (some th), lvI a1, lvI a2]) [] h (m_X9_sells th a1 a2 h) := by
  unfold m_X9_sells
  refine si_aload_n 0 dX9_sells_0 rfl rfl ?_
  refine si_iconst (v := 0) dX9_sells_1 (by decide) ?_
  refine si_pI 10 0 fl_X9_1 dX9_sells_2 (by decide) rfl rfl rfl (fw_X9_1 _) (fun h1 => ?_)
  refine si_aload_n 0 dX9_sells_5 rfl rfl ?_
  refine si_iload_n 1 dX9_sells_6 rfl rfl ?_
  refine si_cvI 10 [lvI (a1)] dX9_sells_7 rfl mc_X9_isPaper ml_X9_267 im_X9_isPaper rfl se_X9_isPaper (by decide) rfl ⟨Nat.le_of_ble_eq_true rfl, Nat.le_of_ble_eq_true rfl, Nat.le_of_ble_eq_true rfl, Nat.le_of_ble_eq_true rfl⟩ (Nat.le_of_ble_eq_true rfl) (fun _ _ hq => ct_X9_isPaper _ _ hq) (fun q2 => ?_)
  refine si_if_eq 27 dX9_sells_10 (by decide) ?_ ?_
  · refine si_iconst (v := -1) dX9_sells_27 (by decide) ?_
    refine si_goto 61 dX9_sells_28 (by decide) ?_
    exact si_iret dX9_sells_61 rfl (Nat.le_of_ble_eq_true rfl) (Nat.le_of_ble_eq_true rfl)
  · refine si_iload_n 2 dX9_sells_13 rfl rfl ?_
    refine si_if_lt 27 dX9_sells_14 (by decide) ?_ ?_
    · refine si_iconst (v := -1) dX9_sells_27 (by decide) ?_
      refine si_goto 61 dX9_sells_28 (by decide) ?_
      exact si_iret dX9_sells_61 rfl (Nat.le_of_ble_eq_true rfl) (Nat.le_of_ble_eq_true rfl)
    · refine si_iload_n 2 dX9_sells_17 rfl rfl ?_
      refine si_aload_n 0 dX9_sells_18 rfl rfl ?_
      refine si_gI 10 24 fl_X9_264 dX9_sells_19 (by decide) rfl (fun x4 => ?_)
      refine si_iconst (v := 4) dX9_sells_22 (by decide) ?_
      refine si_idiv dX9_sells_23 (by decide) ?_
      refine si_icmp_le 31 dX9_sells_24 (by decide) ?_ ?_
      · refine si_iload_n 2 dX9_sells_31 rfl rfl ?_
        refine si_aload_n 0 dX9_sells_32 rfl rfl ?_
        refine si_gI 10 24 fl_X9_264 dX9_sells_33 (by decide) rfl (fun x5 => ?_)
        refine si_iconst (v := 4) dX9_sells_36 (by decide) ?_
        refine si_idiv dX9_sells_37 (by decide) ?_
        refine si_icmp_ne 50 dX9_sells_38 (by decide) ?_ ?_
        · refine si_aload_n 0 dX9_sells_41 rfl rfl ?_
          refine si_gR 10 37 fl_X9_114 dX9_sells_42 (by decide) rfl (fun x8 => ?_)
          refine si_iload_n 1 dX9_sells_45 rfl rfl ?_
          refine si_ia dX9_sells_46 (fun x9 => ?_)
          refine si_goto 61 dX9_sells_47 (by decide) ?_
          exact si_iret dX9_sells_61 rfl (Nat.le_of_ble_eq_true rfl) (Nat.le_of_ble_eq_true rfl)
        · refine si_aload_n 0 dX9_sells_50 rfl rfl ?_
          refine si_gR 10 38 fl_X9_117 dX9_sells_51 (by decide) rfl (fun x6 => ?_)
          refine si_bipush (v := 51) dX9_sells_54 (by decide) ?_
          refine si_iload_n 1 dX9_sells_56 rfl rfl ?_
          refine si_imul dX9_sells_57 ?_
          refine si_iload_n 2 dX9_sells_58 rfl rfl ?_
          refine si_iadd dX9_sells_59 ?_
          refine si_ia dX9_sells_60 (fun x7 => ?_)
          exact si_iret dX9_sells_61 rfl (Nat.le_of_ble_eq_true rfl) (Nat.le_of_ble_eq_true rfl)
      · refine si_iconst (v := -1) dX9_sells_27 (by decide) ?_
        refine si_goto 61 dX9_sells_28 (by decide) ?_
        exact si_iret dX9_sells_61 rfl (Nat.le_of_ble_eq_true rfl) (Nat.le_of_ble_eq_true rfl)
theorem ct_X9_sells (l : Launch) (G : GG) {th : Nat} {a1 : Int32} {a2 : Int32} {h : HS} {q : Int32 × HS} (hq : m_X9_sells th a1 a2 h = some q) : Ct l yX9_sells mi_X9_sells G [lvR (some th), lvI a1, lvI a2] h (oI q) := Ct.of (out := oI) (by decide +kernel) rfl rfl (Nat.le_of_ble_eq_true rfl) hq (fun _ _ _ _ _ _ _ _ => s_X9_sells th a1 a2 h)
set_option maxHeartbeats 4000000 in
set_option maxRecDepth 100000 in
theorem s_X9_ill {E : EV} (th : Nat) (a1 : Int32) (a2 : Int32) (h : HS) : Sim E mi_X9_ill (fin oI) 0 0 0 (largs 0 [lvR (some th), lvI a1, lvI a2]) [] h (m_X9_ill th a1 a2 h) := by
  unfold m_X9_ill
  refine si_aload_n 0 dX9_ill_0 rfl rfl ?_
  refine si_iconst (v := 0) dX9_ill_1 (by decide) ?_
  refine si_pI 10 0 fl_X9_1 dX9_ill_2 (by decide) rfl rfl rfl (fw_X9_1 _) (fun h1 => ?_)
  refine si_aload_n 0 dX9_ill_5 rfl rfl ?_
  refine si_iload_n 1 dX9_ill_6 rfl rfl ?_
  refine si_cvI 10 [lvI (a1)] dX9_ill_7 rfl mc_X9_isFeature ml_X9_270 im_X9_isFeature rfl se_X9_isFeature (by decide) rfl ⟨Nat.le_of_ble_eq_true rfl, Nat.le_of_ble_eq_true rfl, Nat.le_of_ble_eq_true rfl, Nat.le_of_ble_eq_true rfl⟩ (Nat.le_of_ble_eq_true rfl) (fun _ _ hq => ct_X9_isFeature _ _ hq) (fun q2 => ?_)
  refine si_if_eq 23 dX9_ill_10 (by decide) ?_ ?_
  · refine si_iconst (v := 0) dX9_ill_23 (by decide) ?_
    exact si_zret dX9_ill_24 rfl rfl (Nat.le_of_ble_eq_true rfl) (Nat.le_of_ble_eq_true rfl)
  · refine si_iload_n 2 dX9_ill_13 rfl rfl ?_
    refine si_iconst (v := 1) dX9_ill_14 (by decide) ?_
    refine si_bipush (v := 50) dX9_ill_15 (by decide) ?_
    refine si_csI [lvI (a2), lvI ((1 : Int32)), lvI ((50 : Int32))] dX9_ill_17 rfl mc_X9_within ml_X9_253 st_X9_within rfl ⟨Nat.le_of_ble_eq_true rfl, Nat.le_of_ble_eq_true rfl, Nat.le_of_ble_eq_true rfl, Nat.le_of_ble_eq_true rfl⟩ (Nat.le_of_ble_eq_true rfl) (fun _ hq => ct_X9_within _ _ hq) (fun q4 => ?_)
    refine si_if_ne 25 dX9_ill_20 (by decide) ?_ ?_
    · refine si_iconst (v := 0) dX9_ill_23 (by decide) ?_
      exact si_zret dX9_ill_24 rfl rfl (Nat.le_of_ble_eq_true rfl) (Nat.le_of_ble_eq_true rfl)
    · refine si_aload_n 0 dX9_ill_25 rfl rfl ?_
      refine si_gR 10 30 fl_X9_96 dX9_ill_26 (by decide) rfl (fun x5 => ?_)
      refine si_iload_n 1 dX9_ill_29 rfl rfl ?_
      refine si_aload_n 0 dX9_ill_30 rfl rfl ?_
      refine si_gI 10 24 fl_X9_264 dX9_ill_31 (by decide) rfl (fun x6 => ?_)
      refine si_iload_n 2 dX9_ill_34 rfl rfl ?_
      refine si_iadd dX9_ill_35 ?_
      refine si_is dX9_ill_36 (fun h7 => ?_)
      refine si_iconst (v := 1) dX9_ill_37 (by decide) ?_
      exact si_zret dX9_ill_38 rfl rfl (Nat.le_of_ble_eq_true rfl) (Nat.le_of_ble_eq_true rfl)
theorem ct_X9_ill (l : Launch) (G : GG) {th : Nat} {a1 : Int32} {a2 : Int32} {h : HS} {q : Int32 × HS} (hq : m_X9_ill th a1 a2 h = some q) : Ct l yX9_ill mi_X9_ill G [lvR (some th), lvI a1, lvI a2] h (oI q) := Ct.of (out := oI) (by decide +kernel) rfl rfl (Nat.le_of_ble_eq_true rfl) hq (fun _ _ _ _ _ _ _ _ => s_X9_ill th a1 a2 h)
set_option maxHeartbeats 4000000 in
set_option maxRecDepth 100000 in
theorem s_X9_stop {E : EV} (th : Nat) (a1 : Int32) (a2 : Int32) (h : HS) : Sim E mi_X9_stop (fin oI) 0 0 0 (largs 0 [lvR (some th), lvI a1, lvI a2]) [] h (m_X9_stop th a1 a2 h) := by
  unfold m_X9_stop
  refine si_aload_n 0 dX9_stop_0 rfl rfl ?_
  refine si_iconst (v := 0) dX9_stop_1 (by decide) ?_
  refine si_pI 10 0 fl_X9_1 dX9_stop_2 (by decide) rfl rfl rfl (fw_X9_1 _) (fun h1 => ?_)
  refine si_aload_n 0 dX9_stop_5 rfl rfl ?_
  refine si_iload_n 1 dX9_stop_6 rfl rfl ?_
  refine si_cvI 10 [lvI (a1)] dX9_stop_7 rfl mc_X9_isFeature ml_X9_270 im_X9_isFeature rfl se_X9_isFeature (by decide) rfl ⟨Nat.le_of_ble_eq_true rfl, Nat.le_of_ble_eq_true rfl, Nat.le_of_ble_eq_true rfl, Nat.le_of_ble_eq_true rfl⟩ (Nat.le_of_ble_eq_true rfl) (fun _ _ hq => ct_X9_isFeature _ _ hq) (fun q2 => ?_)
  refine si_if_eq 23 dX9_stop_10 (by decide) ?_ ?_
  · refine si_iconst (v := 0) dX9_stop_23 (by decide) ?_
    exact si_zret dX9_stop_24 rfl rfl (Nat.le_of_ble_eq_true rfl) (Nat.le_of_ble_eq_true rfl)
  · refine si_aload_n 0 dX9_stop_13 rfl rfl ?_
    refine si_gR 10 29 fl_X9_92 dX9_stop_14 (by decide) rfl (fun x4 => ?_)
    refine si_iload_n 1 dX9_stop_17 rfl rfl ?_
    refine si_za dX9_stop_18 (fun x5 => ?_)
    refine si_iload_n 2 dX9_stop_19 rfl rfl ?_
    refine si_icmp_ne 25 dX9_stop_20 (by decide) ?_ ?_
    · refine si_iconst (v := 0) dX9_stop_23 (by decide) ?_
      exact si_zret dX9_stop_24 rfl rfl (Nat.le_of_ble_eq_true rfl) (Nat.le_of_ble_eq_true rfl)
    · refine si_aload_n 0 dX9_stop_25 rfl rfl ?_
      refine si_gR 10 29 fl_X9_92 dX9_stop_26 (by decide) rfl (fun x6 => ?_)
      refine si_iload_n 1 dX9_stop_29 rfl rfl ?_
      refine si_iload_n 2 dX9_stop_30 rfl rfl ?_
      refine si_zs dX9_stop_31 (fun h7 => ?_)
      refine si_iconst (v := 1) dX9_stop_32 (by decide) ?_
      exact si_zret dX9_stop_33 rfl rfl (Nat.le_of_ble_eq_true rfl) (Nat.le_of_ble_eq_true rfl)
theorem ct_X9_stop (l : Launch) (G : GG) {th : Nat} {a1 : Int32} {a2 : Int32} {h : HS} {q : Int32 × HS} (hq : m_X9_stop th a1 a2 h = some q) : Ct l yX9_stop mi_X9_stop G [lvR (some th), lvI a1, lvI a2] h (oI q) := Ct.of (out := oI) (by decide +kernel) rfl rfl (Nat.le_of_ble_eq_true rfl) hq (fun _ _ _ _ _ _ _ _ => s_X9_stop th a1 a2 h)
set_option maxHeartbeats 4000000 in
set_option maxRecDepth 100000 in
theorem s_X9_panel {E : EV} (th : Nat) (a1 : Int32) (h : HS) : Sim E mi_X9_panel (fin oI) 0 0 0 (largs 0 [lvR (some th), lvI a1]) [] h (m_X9_panel th a1 h) := by
  unfold m_X9_panel
  refine si_aload_n 0 dX9_panel_0 rfl rfl ?_
  refine si_iconst (v := 0) dX9_panel_1 (by decide) ?_
  refine si_pI 10 0 fl_X9_1 dX9_panel_2 (by decide) rfl rfl rfl (fw_X9_1 _) (fun h1 => ?_)
  refine si_aload_n 0 dX9_panel_5 rfl rfl ?_
  refine si_iload_n 1 dX9_panel_6 rfl rfl ?_
  refine si_cvI 10 [lvI (a1)] dX9_panel_7 rfl mc_X9_isFeature ml_X9_270 im_X9_isFeature rfl se_X9_isFeature (by decide) rfl ⟨Nat.le_of_ble_eq_true rfl, Nat.le_of_ble_eq_true rfl, Nat.le_of_ble_eq_true rfl, Nat.le_of_ble_eq_true rfl⟩ (Nat.le_of_ble_eq_true rfl) (fun _ _ hq => ct_X9_isFeature _ _ hq) (fun q2 => ?_)
  refine si_if_eq 22 dX9_panel_10 (by decide) ?_ ?_
  · refine si_iconst (v := -1) dX9_panel_22 (by decide) ?_
    exact si_iret dX9_panel_23 rfl (Nat.le_of_ble_eq_true rfl) (Nat.le_of_ble_eq_true rfl)
  · refine si_aload_n 0 dX9_panel_13 rfl rfl ?_
    refine si_gR 10 31 fl_X9_99 dX9_panel_14 (by decide) rfl (fun x4 => ?_)
    refine si_iload_n 1 dX9_panel_17 rfl rfl ?_
    refine si_ia dX9_panel_18 (fun x5 => ?_)
    refine si_goto 23 dX9_panel_19 (by decide) ?_
    exact si_iret dX9_panel_23 rfl (Nat.le_of_ble_eq_true rfl) (Nat.le_of_ble_eq_true rfl)
theorem ct_X9_panel (l : Launch) (G : GG) {th : Nat} {a1 : Int32} {h : HS} {q : Int32 × HS} (hq : m_X9_panel th a1 h = some q) : Ct l yX9_panel mi_X9_panel G [lvR (some th), lvI a1] h (oI q) := Ct.of (out := oI) (by decide +kernel) rfl rfl (Nat.le_of_ble_eq_true rfl) hq (fun _ _ _ _ _ _ _ _ => s_X9_panel th a1 h)
set_option maxHeartbeats 4000000 in
set_option maxRecDepth 100000 in
theorem s_X9_isContract {E : EV} (th : Nat) (a1 : Int32) (h : HS) : Sim E mi_X9_isContract (fin oI) 0 0 0 (largs 0 [lvR (some th), lvI a1]) [] h (m_X9_isContract th a1 h) := by
  unfold m_X9_isContract
  refine si_iload_n 1 dX9_isContract_0 rfl rfl ?_
  refine si_if_lt 16 dX9_isContract_1 (by decide) ?_ ?_
  · refine si_iconst (v := 0) dX9_isContract_16 (by decide) ?_
    exact si_zret dX9_isContract_17 rfl rfl (Nat.le_of_ble_eq_true rfl) (Nat.le_of_ble_eq_true rfl)
  · refine si_iload_n 1 dX9_isContract_4 rfl rfl ?_
    refine si_aload_n 0 dX9_isContract_5 rfl rfl ?_
    refine si_gI 10 39 fl_X9_273 dX9_isContract_6 (by decide) rfl (fun x1 => ?_)
    refine si_icmp_ge 16 dX9_isContract_9 (by decide) ?_ ?_
    · refine si_iconst (v := 0) dX9_isContract_16 (by decide) ?_
      exact si_zret dX9_isContract_17 rfl rfl (Nat.le_of_ble_eq_true rfl) (Nat.le_of_ble_eq_true rfl)
    · refine si_iconst (v := 1) dX9_isContract_12 (by decide) ?_
      refine si_goto 17 dX9_isContract_13 (by decide) ?_
      exact si_zret dX9_isContract_17 rfl rfl (Nat.le_of_ble_eq_true rfl) (Nat.le_of_ble_eq_true rfl)
theorem ct_X9_isContract (l : Launch) (G : GG) {th : Nat} {a1 : Int32} {h : HS} {q : Int32 × HS} (hq : m_X9_isContract th a1 h = some q) : Ct l yX9_isContract mi_X9_isContract G [lvR (some th), lvI a1] h (oI q) := Ct.of (out := oI) (by decide +kernel) rfl rfl (Nat.le_of_ble_eq_true rfl) hq (fun _ _ _ _ _ _ _ _ => s_X9_isContract th a1 h)
set_option maxHeartbeats 4000000 in
set_option maxRecDepth 100000 in
theorem s_X9_runsIn {E : EV} (th : Nat) (a1 : Int32) (a2 : Int32) (h : HS) : Sim E mi_X9_runsIn (fin oI) 0 0 0 (largs 0 [lvR (some th), lvI a1, lvI a2]) [] h (m_X9_runsIn th a1 a2 h) := by
  unfold m_X9_runsIn
  refine si_aload_n 0 dX9_runsIn_0 rfl rfl ?_
  refine si_gR 10 42 fl_X9_126 dX9_runsIn_1 (by decide) rfl (fun x1 => ?_)
  refine si_iload_n 1 dX9_runsIn_4 rfl rfl ?_
  refine si_ia dX9_runsIn_5 (fun x2 => ?_)
  refine si_iload_n 2 dX9_runsIn_6 rfl rfl ?_
  refine si_icmp_gt 34 dX9_runsIn_7 (by decide) ?_ ?_
  · refine si_iconst (v := 0) dX9_runsIn_34 (by decide) ?_
    exact si_zret dX9_runsIn_35 rfl rfl (Nat.le_of_ble_eq_true rfl) (Nat.le_of_ble_eq_true rfl)
  · refine si_aload_n 0 dX9_runsIn_10 rfl rfl ?_
    refine si_gR 10 43 fl_X9_129 dX9_runsIn_11 (by decide) rfl (fun x3 => ?_)
    refine si_iload_n 1 dX9_runsIn_14 rfl rfl ?_
    refine si_ia dX9_runsIn_15 (fun x4 => ?_)
    refine si_iconst (v := -1) dX9_runsIn_16 (by decide) ?_
    refine si_icmp_eq 30 dX9_runsIn_17 (by decide) ?_ ?_
    · refine si_iconst (v := 1) dX9_runsIn_30 (by decide) ?_
      refine si_goto 35 dX9_runsIn_31 (by decide) ?_
      exact si_zret dX9_runsIn_35 rfl rfl (Nat.le_of_ble_eq_true rfl) (Nat.le_of_ble_eq_true rfl)
    · refine si_iload_n 2 dX9_runsIn_20 rfl rfl ?_
      refine si_aload_n 0 dX9_runsIn_21 rfl rfl ?_
      refine si_gR 10 43 fl_X9_129 dX9_runsIn_22 (by decide) rfl (fun x5 => ?_)
      refine si_iload_n 1 dX9_runsIn_25 rfl rfl ?_
      refine si_ia dX9_runsIn_26 (fun x6 => ?_)
      refine si_icmp_gt 34 dX9_runsIn_27 (by decide) ?_ ?_
      · refine si_iconst (v := 0) dX9_runsIn_34 (by decide) ?_
        exact si_zret dX9_runsIn_35 rfl rfl (Nat.le_of_ble_eq_true rfl) (Nat.le_of_ble_eq_true rfl)
      · refine si_iconst (v := 1) dX9_runsIn_30 (by decide) ?_
        refine si_goto 35 dX9_runsIn_31 (by decide) ?_
        exact si_zret dX9_runsIn_35 rfl rfl (Nat.le_of_ble_eq_true rfl) (Nat.le_of_ble_eq_true rfl)
theorem ct_X9_runsIn (l : Launch) (G : GG) {th : Nat} {a1 : Int32} {a2 : Int32} {h : HS} {q : Int32 × HS} (hq : m_X9_runsIn th a1 a2 h = some q) : Ct l yX9_runsIn mi_X9_runsIn G [lvR (some th), lvI a1, lvI a2] h (oI q) := Ct.of (out := oI) (by decide +kernel) rfl rfl (Nat.le_of_ble_eq_true rfl) hq (fun _ _ _ _ _ _ _ _ => s_X9_runsIn th a1 a2 h)
set_option maxHeartbeats 4000000 in
set_option maxRecDepth 100000 in
theorem X9_why_b183_s {E : EV} (th : Nat) (go35 : Int32 → Int32 → Int32 → Int32 → Int32 → HS → Option (Int32 × HS)) (hg35 : ∀ (l1 : Int32) (l2 : Int32) (l3 : Int32) (l4 : Int32) (l5 : Int32) (h : HS), Sim E mi_X9_why (fin oI) 0 0 35 [(0, lvR (some th)), (1, lvI (l1)), (2, lvI (l2)), (3, lvI (l3)), (4, lvI (l4)), (5, lvI (l5))] [] h (go35 l1 l2 l3 l4 l5 h)) (l1 : Int32) (l2 : Int32) (l3 : Int32) (l4 : Int32) (l5 : Int32) (h : HS) : Sim E mi_X9_why (fin oI) 0 0 183 [(0, lvR (some th)), (1, lvI (l1)), (2, lvI (l2)), (3, lvI (l3)), (4, lvI (l4)), (5, lvI (l5))] [] h (X9_why_b183 th go35 l1 l2 l3 l4 l5 h) := by
  unfold X9_why_b183
  refine si_iinc 5 (1) dX9_why_183 rfl (by decide) (by decide) ?_
  refine si_goto 35 dX9_why_186 (by decide) ?_
  refine si_widen 0 0 (Nat.le_of_ble_eq_true rfl) (Nat.le_of_ble_eq_true rfl) ?_
  refine si_lo [(0, lvR (some th)), (1, lvI (l1)), (2, lvI (l2)), (3, lvI (l3)), (4, lvI (l4)), (5, lvI (l5 + (1)))] ⟨rfl, rfl, rfl, rfl, rfl, rfl, trivial⟩ ?_
  exact hg35 l1 l2 l3 l4 (l5 + (1)) _
set_option maxHeartbeats 4000000 in
set_option maxRecDepth 100000 in
theorem X9_why_b181_s {E : EV} (th : Nat) (go35 : Int32 → Int32 → Int32 → Int32 → Int32 → HS → Option (Int32 × HS)) (hg35 : ∀ (l1 : Int32) (l2 : Int32) (l3 : Int32) (l4 : Int32) (l5 : Int32) (h : HS), Sim E mi_X9_why (fin oI) 0 0 35 [(0, lvR (some th)), (1, lvI (l1)), (2, lvI (l2)), (3, lvI (l3)), (4, lvI (l4)), (5, lvI (l5))] [] h (go35 l1 l2 l3 l4 l5 h)) (l1 : Int32) (l2 : Int32) (l3 : Int32) (l5 : Int32) (s0 : Int32) (h : HS) : Sim E mi_X9_why (fin oI) 0 0 181 [(0, lvR (some th)), (1, lvI (l1)), (2, lvI (l2)), (3, lvI (l3)), (5, lvI (l5))] [.int (s0)] h (X9_why_b181 th go35 l1 l2 l3 l5 s0 h) := by
  unfold X9_why_b181
  refine si_istore 4 dX9_why_181 (by decide) ?_
  refine si_widen 0 0 (Nat.le_of_ble_eq_true rfl) (Nat.le_of_ble_eq_true rfl) ?_
  refine si_lo [(0, lvR (some th)), (1, lvI (l1)), (2, lvI (l2)), (3, lvI (l3)), (4, lvI (s0)), (5, lvI (l5))] ⟨rfl, rfl, rfl, rfl, rfl, rfl, trivial⟩ ?_
  exact X9_why_b183_s th go35 hg35 l1 l2 l3 s0 l5 _
set_option maxHeartbeats 4000000 in
set_option maxRecDepth 100000 in
theorem X9_why_b176_s {E : EV} (th : Nat) (go35 : Int32 → Int32 → Int32 → Int32 → Int32 → HS → Option (Int32 × HS)) (hg35 : ∀ (l1 : Int32) (l2 : Int32) (l3 : Int32) (l4 : Int32) (l5 : Int32) (h : HS), Sim E mi_X9_why (fin oI) 0 0 35 [(0, lvR (some th)), (1, lvI (l1)), (2, lvI (l2)), (3, lvI (l3)), (4, lvI (l4)), (5, lvI (l5))] [] h (go35 l1 l2 l3 l4 l5 h)) (l1 : Int32) (l2 : Int32) (l3 : Int32) (l5 : Int32) (h : HS) : Sim E mi_X9_why (fin oI) 0 0 176 [(0, lvR (some th)), (1, lvI (l1)), (2, lvI (l2)), (3, lvI (l3)), (5, lvI (l5))] [] h (X9_why_b176 th go35 l1 l2 l3 l5 h) := by
  unfold X9_why_b176
  refine si_iconst (v := 1) dX9_why_176 (by decide) ?_
  refine si_goto 181 dX9_why_177 (by decide) ?_
  refine si_widen 0 0 (Nat.le_of_ble_eq_true rfl) (Nat.le_of_ble_eq_true rfl) ?_
  refine si_lo [(0, lvR (some th)), (1, lvI (l1)), (2, lvI (l2)), (3, lvI (l3)), (5, lvI (l5))] ⟨rfl, rfl, rfl, rfl, rfl, trivial⟩ ?_
  exact X9_why_b181_s th go35 hg35 l1 l2 l3 l5 ((1 : Int32)) _
set_option maxHeartbeats 4000000 in
set_option maxRecDepth 100000 in
theorem X9_why_b180_s {E : EV} (th : Nat) (go35 : Int32 → Int32 → Int32 → Int32 → Int32 → HS → Option (Int32 × HS)) (hg35 : ∀ (l1 : Int32) (l2 : Int32) (l3 : Int32) (l4 : Int32) (l5 : Int32) (h : HS), Sim E mi_X9_why (fin oI) 0 0 35 [(0, lvR (some th)), (1, lvI (l1)), (2, lvI (l2)), (3, lvI (l3)), (4, lvI (l4)), (5, lvI (l5))] [] h (go35 l1 l2 l3 l4 l5 h)) (l1 : Int32) (l2 : Int32) (l3 : Int32) (l5 : Int32) (h : HS) : Sim E mi_X9_why (fin oI) 0 0 180 [(0, lvR (some th)), (1, lvI (l1)), (2, lvI (l2)), (3, lvI (l3)), (5, lvI (l5))] [] h (X9_why_b180 th go35 l1 l2 l3 l5 h) := by
  unfold X9_why_b180
  refine si_iconst (v := 0) dX9_why_180 (by decide) ?_
  refine si_widen 0 0 (Nat.le_of_ble_eq_true rfl) (Nat.le_of_ble_eq_true rfl) ?_
  refine si_lo [(0, lvR (some th)), (1, lvI (l1)), (2, lvI (l2)), (3, lvI (l3)), (5, lvI (l5))] ⟨rfl, rfl, rfl, rfl, rfl, trivial⟩ ?_
  exact X9_why_b181_s th go35 hg35 l1 l2 l3 l5 ((0 : Int32)) _
set_option maxHeartbeats 4000000 in
set_option maxRecDepth 100000 in
theorem X9_why_b132_s {E : EV} (th : Nat) (go35 : Int32 → Int32 → Int32 → Int32 → Int32 → HS → Option (Int32 × HS)) (hg35 : ∀ (l1 : Int32) (l2 : Int32) (l3 : Int32) (l4 : Int32) (l5 : Int32) (h : HS), Sim E mi_X9_why (fin oI) 0 0 35 [(0, lvR (some th)), (1, lvI (l1)), (2, lvI (l2)), (3, lvI (l3)), (4, lvI (l4)), (5, lvI (l5))] [] h (go35 l1 l2 l3 l4 l5 h)) (l1 : Int32) (l2 : Int32) (l4 : Int32) (l5 : Int32) (l6 : Int32) (l7 : Int32) (s0 : Int32) (h : HS) : Sim E mi_X9_why (fin oI) 0 0 132 [(0, lvR (some th)), (1, lvI (l1)), (2, lvI (l2)), (4, lvI (l4)), (5, lvI (l5)), (6, lvI (l6)), (7, lvI (l7))] [.int (s0)] h (X9_why_b132 th go35 l1 l2 l4 l5 l6 l7 s0 h) := by
  unfold X9_why_b132
  refine si_istore_n 3 dX9_why_132 rfl (by decide) ?_
  refine si_iload 4 dX9_why_133 rfl ?_
  refine si_if_ne 176 dX9_why_135 (by decide) ?_ ?_
  · refine si_aload_n 0 dX9_why_138 rfl rfl ?_
    refine si_gR 10 40 fl_X9_120 dX9_why_139 (by decide) rfl (fun x1 => ?_)
    refine si_iload 5 dX9_why_142 rfl ?_
    refine si_ia dX9_why_144 (fun x2 => ?_)
    refine si_iload_n 1 dX9_why_145 rfl rfl ?_
    refine si_icmp_eq 180 dX9_why_146 (by decide) ?_ ?_
    · refine si_widen 0 0 (Nat.le_of_ble_eq_true rfl) (Nat.le_of_ble_eq_true rfl) ?_
      refine si_lo [(0, lvR (some th)), (1, lvI (l1)), (2, lvI (l2)), (3, lvI (s0)), (5, lvI (l5))] ⟨rfl, rfl, rfl, rfl, rfl, trivial⟩ ?_
      exact X9_why_b180_s th go35 hg35 l1 l2 s0 l5 _
    · refine si_iload 6 dX9_why_149 rfl ?_
      refine si_iload 6 dX9_why_151 rfl ?_
      refine si_imul dX9_why_153 ?_
      refine si_iload 7 dX9_why_154 rfl ?_
      refine si_iload 7 dX9_why_156 rfl ?_
      refine si_imul dX9_why_158 ?_
      refine si_iadd dX9_why_159 ?_
      refine si_aload_n 0 dX9_why_160 rfl rfl ?_
      refine si_gR 10 27 fl_X9_86 dX9_why_161 (by decide) rfl (fun x3 => ?_)
      refine si_iload_n 2 dX9_why_164 rfl rfl ?_
      refine si_ia dX9_why_165 (fun x4 => ?_)
      refine si_aload_n 0 dX9_why_166 rfl rfl ?_
      refine si_gR 10 27 fl_X9_86 dX9_why_167 (by decide) rfl (fun x5 => ?_)
      refine si_iload_n 2 dX9_why_170 rfl rfl ?_
      refine si_ia dX9_why_171 (fun x6 => ?_)
      refine si_imul dX9_why_172 ?_
      refine si_icmp_ge 180 dX9_why_173 (by decide) ?_ ?_
      · refine si_widen 0 0 (Nat.le_of_ble_eq_true rfl) (Nat.le_of_ble_eq_true rfl) ?_
        refine si_lo [(0, lvR (some th)), (1, lvI (l1)), (2, lvI (l2)), (3, lvI (s0)), (5, lvI (l5))] ⟨rfl, rfl, rfl, rfl, rfl, trivial⟩ ?_
        exact X9_why_b180_s th go35 hg35 l1 l2 s0 l5 _
      · refine si_widen 0 0 (Nat.le_of_ble_eq_true rfl) (Nat.le_of_ble_eq_true rfl) ?_
        refine si_lo [(0, lvR (some th)), (1, lvI (l1)), (2, lvI (l2)), (3, lvI (s0)), (5, lvI (l5))] ⟨rfl, rfl, rfl, rfl, rfl, trivial⟩ ?_
        exact X9_why_b176_s th go35 hg35 l1 l2 s0 l5 _
  · refine si_widen 0 0 (Nat.le_of_ble_eq_true rfl) (Nat.le_of_ble_eq_true rfl) ?_
    refine si_lo [(0, lvR (some th)), (1, lvI (l1)), (2, lvI (l2)), (3, lvI (s0)), (5, lvI (l5))] ⟨rfl, rfl, rfl, rfl, rfl, trivial⟩ ?_
    exact X9_why_b176_s th go35 hg35 l1 l2 s0 l5 _
set_option maxHeartbeats 4000000 in
set_option maxRecDepth 100000 in
theorem X9_why_b127_s {E : EV} (th : Nat) (go35 : Int32 → Int32 → Int32 → Int32 → Int32 → HS → Option (Int32 × HS)) (hg35 : ∀ (l1 : Int32) (l2 : Int32) (l3 : Int32) (l4 : Int32) (l5 : Int32) (h : HS), Sim E mi_X9_why (fin oI) 0 0 35 [(0, lvR (some th)), (1, lvI (l1)), (2, lvI (l2)), (3, lvI (l3)), (4, lvI (l4)), (5, lvI (l5))] [] h (go35 l1 l2 l3 l4 l5 h)) (l1 : Int32) (l2 : Int32) (l4 : Int32) (l5 : Int32) (l6 : Int32) (l7 : Int32) (h : HS) : Sim E mi_X9_why (fin oI) 0 0 127 [(0, lvR (some th)), (1, lvI (l1)), (2, lvI (l2)), (4, lvI (l4)), (5, lvI (l5)), (6, lvI (l6)), (7, lvI (l7))] [] h (X9_why_b127 th go35 l1 l2 l4 l5 l6 l7 h) := by
  unfold X9_why_b127
  refine si_iconst (v := 1) dX9_why_127 (by decide) ?_
  refine si_goto 132 dX9_why_128 (by decide) ?_
  refine si_widen 0 0 (Nat.le_of_ble_eq_true rfl) (Nat.le_of_ble_eq_true rfl) ?_
  refine si_lo [(0, lvR (some th)), (1, lvI (l1)), (2, lvI (l2)), (4, lvI (l4)), (5, lvI (l5)), (6, lvI (l6)), (7, lvI (l7))] ⟨rfl, rfl, rfl, rfl, rfl, rfl, rfl, trivial⟩ ?_
  exact X9_why_b132_s th go35 hg35 l1 l2 l4 l5 l6 l7 ((1 : Int32)) _
set_option maxHeartbeats 4000000 in
set_option maxRecDepth 100000 in
theorem X9_why_L35_s {E : EV} (th : Nat) (n : Nat) : ∀ (l1 : Int32) (l2 : Int32) (l3 : Int32) (l4 : Int32) (l5 : Int32) (h : HS), Sim E mi_X9_why (fin oI) 0 0 35 [(0, lvR (some th)), (1, lvI (l1)), (2, lvI (l2)), (3, lvI (l3)), (4, lvI (l4)), (5, lvI (l5))] [] h (X9_why_L35 th n l1 l2 l3 l4 l5 h) := by
  induction n with
  | zero => intro l1 l2 l3 l4 l5 h; exact si_none
  | succ n ih =>
    intro l1 l2 l3 l4 l5 h
    unfold X9_why_L35
    refine si_iload 5 dX9_why_35 rfl ?_
    refine si_aload_n 0 dX9_why_37 rfl rfl ?_
    refine si_gI 10 39 fl_X9_273 dX9_why_38 (by decide) rfl (fun x1 => ?_)
    refine si_icmp_ge 189 dX9_why_41 (by decide) ?_ ?_
    · refine si_iload_n 3 dX9_why_189 rfl rfl ?_
      refine si_if_eq 197 dX9_why_190 (by decide) ?_ ?_
      · refine si_iload 4 dX9_why_197 rfl ?_
        refine si_if_eq 206 dX9_why_199 (by decide) ?_ ?_
        · refine si_aload_n 0 dX9_why_206 rfl rfl ?_
          refine si_gR 10 29 fl_X9_92 dX9_why_207 (by decide) rfl (fun x2 => ?_)
          refine si_iload_n 2 dX9_why_210 rfl rfl ?_
          refine si_za dX9_why_211 (fun x3 => ?_)
          refine si_if_eq 219 dX9_why_212 (by decide) ?_ ?_
          · refine si_iconst (v := 0) dX9_why_219 (by decide) ?_
            exact si_iret dX9_why_220 rfl (Nat.le_of_ble_eq_true rfl) (Nat.le_of_ble_eq_true rfl)
          · refine si_iconst (v := 4) dX9_why_215 (by decide) ?_
            refine si_goto 220 dX9_why_216 (by decide) ?_
            exact si_iret dX9_why_220 rfl (Nat.le_of_ble_eq_true rfl) (Nat.le_of_ble_eq_true rfl)
        · refine si_iconst (v := 3) dX9_why_202 (by decide) ?_
          refine si_goto 220 dX9_why_203 (by decide) ?_
          exact si_iret dX9_why_220 rfl (Nat.le_of_ble_eq_true rfl) (Nat.le_of_ble_eq_true rfl)
      · refine si_iconst (v := 2) dX9_why_193 (by decide) ?_
        refine si_goto 220 dX9_why_194 (by decide) ?_
        exact si_iret dX9_why_220 rfl (Nat.le_of_ble_eq_true rfl) (Nat.le_of_ble_eq_true rfl)
    · refine si_aload_n 0 dX9_why_44 rfl rfl ?_
      refine si_gR 10 41 fl_X9_123 dX9_why_45 (by decide) rfl (fun x4 => ?_)
      refine si_iload 5 dX9_why_48 rfl ?_
      refine si_ia dX9_why_50 (fun x5 => ?_)
      refine si_iload_n 2 dX9_why_51 rfl rfl ?_
      refine si_icmp_ne 183 dX9_why_52 (by decide) ?_ ?_
      · refine si_aload_n 0 dX9_why_55 rfl rfl ?_
        refine si_iload 5 dX9_why_56 rfl ?_
        refine si_aload_n 0 dX9_why_58 rfl rfl ?_
        refine si_gI 10 24 fl_X9_264 dX9_why_59 (by decide) rfl (fun x6 => ?_)
        refine si_iconst (v := 1) dX9_why_62 (by decide) ?_
        refine si_iadd dX9_why_63 ?_
        refine si_cvI 10 [lvI (l5), lvI (x6 + (1 : Int32))] dX9_why_64 rfl mc_X9_runsIn ml_X9_276 im_X9_runsIn rfl se_X9_runsIn (by decide) rfl ⟨Nat.le_of_ble_eq_true rfl, Nat.le_of_ble_eq_true rfl, Nat.le_of_ble_eq_true rfl, Nat.le_of_ble_eq_true rfl⟩ (Nat.le_of_ble_eq_true rfl) (fun _ _ hq => ct_X9_runsIn _ _ hq) (fun q7 => ?_)
        refine si_if_eq 183 dX9_why_67 (by decide) ?_ ?_
        · refine si_widen 0 0 (Nat.le_of_ble_eq_true rfl) (Nat.le_of_ble_eq_true rfl) ?_
          refine si_lo [(0, lvR (some th)), (1, lvI (l1)), (2, lvI (l2)), (3, lvI (l3)), (4, lvI (l4)), (5, lvI (l5))] ⟨rfl, rfl, rfl, rfl, rfl, rfl, trivial⟩ ?_
          exact X9_why_b183_s th (X9_why_L35 th n) ih l1 l2 l3 l4 l5 _
        · refine si_aload_n 0 dX9_why_70 rfl rfl ?_
          refine si_gR 10 35 fl_X9_108 dX9_why_71 (by decide) rfl (fun x9 => ?_)
          refine si_aload_n 0 dX9_why_74 rfl rfl ?_
          refine si_gR 10 40 fl_X9_120 dX9_why_75 (by decide) rfl (fun x10 => ?_)
          refine si_iload 5 dX9_why_78 rfl ?_
          refine si_ia dX9_why_80 (fun x11 => ?_)
          refine si_ia dX9_why_81 (fun x12 => ?_)
          refine si_aload_n 0 dX9_why_82 rfl rfl ?_
          refine si_gR 10 35 fl_X9_108 dX9_why_83 (by decide) rfl (fun x13 => ?_)
          refine si_iload_n 1 dX9_why_86 rfl rfl ?_
          refine si_ia dX9_why_87 (fun x14 => ?_)
          refine si_isub dX9_why_88 ?_
          refine si_istore 6 dX9_why_89 (by decide) ?_
          refine si_aload_n 0 dX9_why_91 rfl rfl ?_
          refine si_gR 10 36 fl_X9_111 dX9_why_92 (by decide) rfl (fun x15 => ?_)
          refine si_aload_n 0 dX9_why_95 rfl rfl ?_
          refine si_gR 10 40 fl_X9_120 dX9_why_96 (by decide) rfl (fun x16 => ?_)
          refine si_iload 5 dX9_why_99 rfl ?_
          refine si_ia dX9_why_101 (fun x17 => ?_)
          refine si_ia dX9_why_102 (fun x18 => ?_)
          refine si_aload_n 0 dX9_why_103 rfl rfl ?_
          refine si_gR 10 36 fl_X9_111 dX9_why_104 (by decide) rfl (fun x19 => ?_)
          refine si_iload_n 1 dX9_why_107 rfl rfl ?_
          refine si_ia dX9_why_108 (fun x20 => ?_)
          refine si_isub dX9_why_109 ?_
          refine si_istore 7 dX9_why_110 (by decide) ?_
          refine si_iload_n 3 dX9_why_112 rfl rfl ?_
          refine si_if_ne 127 dX9_why_113 (by decide) ?_ ?_
          · refine si_aload_n 0 dX9_why_116 rfl rfl ?_
            refine si_gR 10 40 fl_X9_120 dX9_why_117 (by decide) rfl (fun x21 => ?_)
            refine si_iload 5 dX9_why_120 rfl ?_
            refine si_ia dX9_why_122 (fun x22 => ?_)
            refine si_iload_n 1 dX9_why_123 rfl rfl ?_
            refine si_icmp_ne 131 dX9_why_124 (by decide) ?_ ?_
            · refine si_widen 0 0 (Nat.le_of_ble_eq_true rfl) (Nat.le_of_ble_eq_true rfl) ?_
              refine si_lo [(0, lvR (some th)), (1, lvI (l1)), (2, lvI (l2)), (4, lvI (l4)), (5, lvI (l5)), (6, lvI (x12 - x14)), (7, lvI (x18 - x20))] ⟨rfl, rfl, rfl, rfl, rfl, rfl, rfl, trivial⟩ ?_
              exact X9_why_b127_s th (X9_why_L35 th n) ih l1 l2 l4 l5 (x12 - x14) (x18 - x20) _
            · refine si_iconst (v := 0) dX9_why_131 (by decide) ?_
              refine si_widen 0 0 (Nat.le_of_ble_eq_true rfl) (Nat.le_of_ble_eq_true rfl) ?_
              refine si_lo [(0, lvR (some th)), (1, lvI (l1)), (2, lvI (l2)), (4, lvI (l4)), (5, lvI (l5)), (6, lvI (x12 - x14)), (7, lvI (x18 - x20))] ⟨rfl, rfl, rfl, rfl, rfl, rfl, rfl, trivial⟩ ?_
              exact X9_why_b132_s th (X9_why_L35 th n) ih l1 l2 l4 l5 (x12 - x14) (x18 - x20) ((0 : Int32)) _
          · refine si_widen 0 0 (Nat.le_of_ble_eq_true rfl) (Nat.le_of_ble_eq_true rfl) ?_
            refine si_lo [(0, lvR (some th)), (1, lvI (l1)), (2, lvI (l2)), (4, lvI (l4)), (5, lvI (l5)), (6, lvI (x12 - x14)), (7, lvI (x18 - x20))] ⟨rfl, rfl, rfl, rfl, rfl, rfl, rfl, trivial⟩ ?_
            exact X9_why_b127_s th (X9_why_L35 th n) ih l1 l2 l4 l5 (x12 - x14) (x18 - x20) _
      · refine si_widen 0 0 (Nat.le_of_ble_eq_true rfl) (Nat.le_of_ble_eq_true rfl) ?_
        refine si_lo [(0, lvR (some th)), (1, lvI (l1)), (2, lvI (l2)), (3, lvI (l3)), (4, lvI (l4)), (5, lvI (l5))] ⟨rfl, rfl, rfl, rfl, rfl, rfl, trivial⟩ ?_
        exact X9_why_b183_s th (X9_why_L35 th n) ih l1 l2 l3 l4 l5 _
set_option maxHeartbeats 4000000 in
set_option maxRecDepth 100000 in
theorem s_X9_why {E : EV} (th : Nat) (a1 : Int32) (a2 : Int32) (h : HS) : Sim E mi_X9_why (fin oI) 0 0 0 (largs 0 [lvR (some th), lvI a1, lvI a2]) [] h (m_X9_why th a1 a2 h) := by
  unfold m_X9_why
  refine si_aload_n 0 dX9_why_0 rfl rfl ?_
  refine si_iload_n 1 dX9_why_1 rfl rfl ?_
  refine si_cvI 10 [lvI (a1)] dX9_why_2 rfl mc_X9_isPaper ml_X9_267 im_X9_isPaper rfl se_X9_isPaper (by decide) rfl ⟨Nat.le_of_ble_eq_true rfl, Nat.le_of_ble_eq_true rfl, Nat.le_of_ble_eq_true rfl, Nat.le_of_ble_eq_true rfl⟩ (Nat.le_of_ble_eq_true rfl) (fun _ _ hq => ct_X9_isPaper _ _ hq) (fun q1 => ?_)
  refine si_if_eq 25 dX9_why_5 (by decide) ?_ ?_
  · refine si_iconst (v := 1) dX9_why_25 (by decide) ?_
    exact si_iret dX9_why_26 rfl (Nat.le_of_ble_eq_true rfl) (Nat.le_of_ble_eq_true rfl)
  · refine si_aload_n 0 dX9_why_8 rfl rfl ?_
    refine si_iload_n 2 dX9_why_9 rfl rfl ?_
    refine si_cvI 10 [lvI (a2)] dX9_why_10 rfl mc_X9_isFeature ml_X9_270 im_X9_isFeature rfl se_X9_isFeature (by decide) rfl ⟨Nat.le_of_ble_eq_true rfl, Nat.le_of_ble_eq_true rfl, Nat.le_of_ble_eq_true rfl, Nat.le_of_ble_eq_true rfl⟩ (Nat.le_of_ble_eq_true rfl) (fun _ _ hq => ct_X9_isFeature _ _ hq) (fun q3 => ?_)
    refine si_if_eq 25 dX9_why_13 (by decide) ?_ ?_
    · refine si_iconst (v := 1) dX9_why_25 (by decide) ?_
      exact si_iret dX9_why_26 rfl (Nat.le_of_ble_eq_true rfl) (Nat.le_of_ble_eq_true rfl)
    · refine si_aload_n 0 dX9_why_16 rfl rfl ?_
      refine si_gI 10 39 fl_X9_273 dX9_why_17 (by decide) rfl (fun x5 => ?_)
      refine si_bipush (v := 60) dX9_why_20 (by decide) ?_
      refine si_icmp_ne 27 dX9_why_22 (by decide) ?_ ?_
      · refine si_iconst (v := 1) dX9_why_25 (by decide) ?_
        exact si_iret dX9_why_26 rfl (Nat.le_of_ble_eq_true rfl) (Nat.le_of_ble_eq_true rfl)
      · refine si_iconst (v := 0) dX9_why_27 (by decide) ?_
        refine si_istore_n 3 dX9_why_28 rfl (by decide) ?_
        refine si_iconst (v := 0) dX9_why_29 (by decide) ?_
        refine si_istore 4 dX9_why_30 (by decide) ?_
        refine si_iconst (v := 0) dX9_why_32 (by decide) ?_
        refine si_istore 5 dX9_why_33 (by decide) ?_
        refine si_widen 0 0 (Nat.le_of_ble_eq_true rfl) (Nat.le_of_ble_eq_true rfl) ?_
        refine si_lo [(0, lvR (some th)), (1, lvI (a1)), (2, lvI (a2)), (3, lvI ((0 : Int32))), (4, lvI ((0 : Int32))), (5, lvI ((0 : Int32)))] ⟨rfl, rfl, rfl, rfl, rfl, rfl, trivial⟩ ?_
        exact X9_why_L35_s th FU a1 a2 ((0 : Int32)) ((0 : Int32)) ((0 : Int32)) _
theorem ct_X9_why (l : Launch) (G : GG) {th : Nat} {a1 : Int32} {a2 : Int32} {h : HS} {q : Int32 × HS} (hq : m_X9_why th a1 a2 h = some q) : Ct l yX9_why mi_X9_why G [lvR (some th), lvI a1, lvI a2] h (oI q) := Ct.of (out := oI) (by decide +kernel) rfl rfl (Nat.le_of_ble_eq_true rfl) hq (fun _ _ _ _ _ _ _ _ => s_X9_why th a1 a2 h)
set_option maxHeartbeats 4000000 in
set_option maxRecDepth 100000 in
theorem s_X9_sign {E : EV} (th : Nat) (a1 : Int32) (a2 : Int32) (h : HS) : Sim E mi_X9_sign (fin oI) 0 0 0 (largs 0 [lvR (some th), lvI a1, lvI a2]) [] h (m_X9_sign th a1 a2 h) := by
  unfold m_X9_sign
  refine si_aload_n 0 dX9_sign_0 rfl rfl ?_
  refine si_iconst (v := 0) dX9_sign_1 (by decide) ?_
  refine si_pI 10 0 fl_X9_1 dX9_sign_2 (by decide) rfl rfl rfl (fw_X9_1 _) (fun h1 => ?_)
  refine si_aload_n 0 dX9_sign_5 rfl rfl ?_
  refine si_iload_n 1 dX9_sign_6 rfl rfl ?_
  refine si_iload_n 2 dX9_sign_7 rfl rfl ?_
  refine si_cvI 10 [lvI (a1), lvI (a2)] dX9_sign_8 rfl mc_X9_why ml_X9_280 im_X9_why rfl se_X9_why (by decide) rfl ⟨Nat.le_of_ble_eq_true rfl, Nat.le_of_ble_eq_true rfl, Nat.le_of_ble_eq_true rfl, Nat.le_of_ble_eq_true rfl⟩ (Nat.le_of_ble_eq_true rfl) (fun _ _ hq => ct_X9_why _ _ hq) (fun q2 => ?_)
  refine si_istore_n 3 dX9_sign_11 rfl (by decide) ?_
  refine si_iload_n 3 dX9_sign_12 rfl rfl ?_
  refine si_if_le 18 dX9_sign_13 (by decide) ?_ ?_
  · refine si_aload_n 0 dX9_sign_18 rfl rfl ?_
    refine si_gR 10 40 fl_X9_120 dX9_sign_19 (by decide) rfl (fun x4 => ?_)
    refine si_aload_n 0 dX9_sign_22 rfl rfl ?_
    refine si_gI 10 39 fl_X9_273 dX9_sign_23 (by decide) rfl (fun x5 => ?_)
    refine si_iload_n 1 dX9_sign_26 rfl rfl ?_
    refine si_is dX9_sign_27 (fun h6 => ?_)
    refine si_aload_n 0 dX9_sign_28 rfl rfl ?_
    refine si_gR 10 41 fl_X9_123 dX9_sign_29 (by decide) rfl (fun x7 => ?_)
    refine si_aload_n 0 dX9_sign_32 rfl rfl ?_
    refine si_gI 10 39 fl_X9_273 dX9_sign_33 (by decide) rfl (fun x8 => ?_)
    refine si_iload_n 2 dX9_sign_36 rfl rfl ?_
    refine si_is dX9_sign_37 (fun h9 => ?_)
    refine si_aload_n 0 dX9_sign_38 rfl rfl ?_
    refine si_gR 10 42 fl_X9_126 dX9_sign_39 (by decide) rfl (fun x10 => ?_)
    refine si_aload_n 0 dX9_sign_42 rfl rfl ?_
    refine si_gI 10 39 fl_X9_273 dX9_sign_43 (by decide) rfl (fun x11 => ?_)
    refine si_aload_n 0 dX9_sign_46 rfl rfl ?_
    refine si_gI 10 24 fl_X9_264 dX9_sign_47 (by decide) rfl (fun x12 => ?_)
    refine si_iconst (v := 1) dX9_sign_50 (by decide) ?_
    refine si_iadd dX9_sign_51 ?_
    refine si_is dX9_sign_52 (fun h13 => ?_)
    refine si_aload_n 0 dX9_sign_53 rfl rfl ?_
    refine si_gR 10 43 fl_X9_129 dX9_sign_54 (by decide) rfl (fun x14 => ?_)
    refine si_aload_n 0 dX9_sign_57 rfl rfl ?_
    refine si_gI 10 39 fl_X9_273 dX9_sign_58 (by decide) rfl (fun x15 => ?_)
    refine si_iconst (v := -1) dX9_sign_61 (by decide) ?_
    refine si_is dX9_sign_62 (fun h16 => ?_)
    refine si_aload_n 0 dX9_sign_63 rfl rfl ?_
    refine si_gR 10 44 fl_X9_132 dX9_sign_64 (by decide) rfl (fun x17 => ?_)
    refine si_aload_n 0 dX9_sign_67 rfl rfl ?_
    refine si_gI 10 39 fl_X9_273 dX9_sign_68 (by decide) rfl (fun x18 => ?_)
    refine si_iconst (v := -1) dX9_sign_71 (by decide) ?_
    refine si_is dX9_sign_72 (fun h19 => ?_)
    refine si_aload_n 0 dX9_sign_73 rfl rfl ?_
    refine si_dup dX9_sign_74 (cat_rf _) ?_
    refine si_gI 10 39 fl_X9_273 dX9_sign_75 (by decide) rfl (fun x20 => ?_)
    refine si_iconst (v := 1) dX9_sign_78 (by decide) ?_
    refine si_iadd dX9_sign_79 ?_
    refine si_pI 10 39 fl_X9_273 dX9_sign_80 (by decide) rfl rfl rfl (fw_X9_273 _) (fun h21 => ?_)
    refine si_bipush (v := 99) dX9_sign_83 (by decide) ?_
    refine si_aload_n 0 dX9_sign_85 rfl rfl ?_
    refine si_gI 10 39 fl_X9_273 dX9_sign_86 (by decide) rfl (fun x22 => ?_)
    refine si_iadd dX9_sign_89 ?_
    exact si_iret dX9_sign_90 rfl (Nat.le_of_ble_eq_true rfl) (Nat.le_of_ble_eq_true rfl)
  · refine si_iload_n 3 dX9_sign_16 rfl rfl ?_
    exact si_iret dX9_sign_17 rfl (Nat.le_of_ble_eq_true rfl) (Nat.le_of_ble_eq_true rfl)
theorem ct_X9_sign (l : Launch) (G : GG) {th : Nat} {a1 : Int32} {a2 : Int32} {h : HS} {q : Int32 × HS} (hq : m_X9_sign th a1 a2 h = some q) : Ct l yX9_sign mi_X9_sign G [lvR (some th), lvI a1, lvI a2] h (oI q) := Ct.of (out := oI) (by decide +kernel) rfl rfl (Nat.le_of_ble_eq_true rfl) hq (fun _ _ _ _ _ _ _ _ => s_X9_sign th a1 a2 h)
set_option maxHeartbeats 4000000 in
set_option maxRecDepth 100000 in
theorem s_X9_cancel {E : EV} (th : Nat) (a1 : Int32) (h : HS) : Sim E mi_X9_cancel (fin oI) 0 0 0 (largs 0 [lvR (some th), lvI a1]) [] h (m_X9_cancel th a1 h) := by
  unfold m_X9_cancel
  refine si_aload_n 0 dX9_cancel_0 rfl rfl ?_
  refine si_iconst (v := 0) dX9_cancel_1 (by decide) ?_
  refine si_pI 10 0 fl_X9_1 dX9_cancel_2 (by decide) rfl rfl rfl (fw_X9_1 _) (fun h1 => ?_)
  refine si_aload_n 0 dX9_cancel_5 rfl rfl ?_
  refine si_iload_n 1 dX9_cancel_6 rfl rfl ?_
  refine si_cvI 10 [lvI (a1)] dX9_cancel_7 rfl mc_X9_isContract ml_X9_284 im_X9_isContract rfl se_X9_isContract (by decide) rfl ⟨Nat.le_of_ble_eq_true rfl, Nat.le_of_ble_eq_true rfl, Nat.le_of_ble_eq_true rfl, Nat.le_of_ble_eq_true rfl⟩ (Nat.le_of_ble_eq_true rfl) (fun _ _ hq => ct_X9_isContract _ _ hq) (fun q2 => ?_)
  refine si_if_eq 23 dX9_cancel_10 (by decide) ?_ ?_
  · refine si_iconst (v := -1) dX9_cancel_23 (by decide) ?_
    exact si_iret dX9_cancel_24 rfl (Nat.le_of_ble_eq_true rfl) (Nat.le_of_ble_eq_true rfl)
  · refine si_aload_n 0 dX9_cancel_13 rfl rfl ?_
    refine si_gR 10 43 fl_X9_129 dX9_cancel_14 (by decide) rfl (fun x4 => ?_)
    refine si_iload_n 1 dX9_cancel_17 rfl rfl ?_
    refine si_ia dX9_cancel_18 (fun x5 => ?_)
    refine si_iconst (v := -1) dX9_cancel_19 (by decide) ?_
    refine si_icmp_eq 25 dX9_cancel_20 (by decide) ?_ ?_
    · refine si_aload_n 0 dX9_cancel_25 rfl rfl ?_
      refine si_gR 10 43 fl_X9_129 dX9_cancel_26 (by decide) rfl (fun x6 => ?_)
      refine si_iload_n 1 dX9_cancel_29 rfl rfl ?_
      refine si_aload_n 0 dX9_cancel_30 rfl rfl ?_
      refine si_gI 10 24 fl_X9_264 dX9_cancel_31 (by decide) rfl (fun x7 => ?_)
      refine si_iconst (v := 4) dX9_cancel_34 (by decide) ?_
      refine si_iadd dX9_cancel_35 ?_
      refine si_is dX9_cancel_36 (fun h8 => ?_)
      refine si_aload_n 0 dX9_cancel_37 rfl rfl ?_
      refine si_gR 10 43 fl_X9_129 dX9_cancel_38 (by decide) rfl (fun x9 => ?_)
      refine si_iload_n 1 dX9_cancel_41 rfl rfl ?_
      refine si_ia dX9_cancel_42 (fun x10 => ?_)
      exact si_iret dX9_cancel_43 rfl (Nat.le_of_ble_eq_true rfl) (Nat.le_of_ble_eq_true rfl)
    · refine si_iconst (v := -1) dX9_cancel_23 (by decide) ?_
      exact si_iret dX9_cancel_24 rfl (Nat.le_of_ble_eq_true rfl) (Nat.le_of_ble_eq_true rfl)
theorem ct_X9_cancel (l : Launch) (G : GG) {th : Nat} {a1 : Int32} {h : HS} {q : Int32 × HS} (hq : m_X9_cancel th a1 h = some q) : Ct l yX9_cancel mi_X9_cancel G [lvR (some th), lvI a1] h (oI q) := Ct.of (out := oI) (by decide +kernel) rfl rfl (Nat.le_of_ble_eq_true rfl) hq (fun _ _ _ _ _ _ _ _ => s_X9_cancel th a1 h)
set_option maxHeartbeats 4000000 in
set_option maxRecDepth 100000 in
theorem s_X9_miss {E : EV} (th : Nat) (a1 : Int32) (h : HS) : Sim E mi_X9_miss (fin oI) 0 0 0 (largs 0 [lvR (some th), lvI a1]) [] h (m_X9_miss th a1 h) := by
  unfold m_X9_miss
  refine si_aload_n 0 dX9_miss_0 rfl rfl ?_
  refine si_iconst (v := 0) dX9_miss_1 (by decide) ?_
  refine si_pI 10 0 fl_X9_1 dX9_miss_2 (by decide) rfl rfl rfl (fw_X9_1 _) (fun h1 => ?_)
  refine si_aload_n 0 dX9_miss_5 rfl rfl ?_
  refine si_iload_n 1 dX9_miss_6 rfl rfl ?_
  refine si_cvI 10 [lvI (a1)] dX9_miss_7 rfl mc_X9_isContract ml_X9_284 im_X9_isContract rfl se_X9_isContract (by decide) rfl ⟨Nat.le_of_ble_eq_true rfl, Nat.le_of_ble_eq_true rfl, Nat.le_of_ble_eq_true rfl, Nat.le_of_ble_eq_true rfl⟩ (Nat.le_of_ble_eq_true rfl) (fun _ _ hq => ct_X9_isContract _ _ hq) (fun q2 => ?_)
  refine si_if_eq 22 dX9_miss_10 (by decide) ?_ ?_
  · refine si_iconst (v := 0) dX9_miss_22 (by decide) ?_
    exact si_zret dX9_miss_23 rfl rfl (Nat.le_of_ble_eq_true rfl) (Nat.le_of_ble_eq_true rfl)
  · refine si_aload_n 0 dX9_miss_13 rfl rfl ?_
    refine si_gR 10 46 fl_X9_138 dX9_miss_14 (by decide) rfl (fun x4 => ?_)
    refine si_iload_n 1 dX9_miss_17 rfl rfl ?_
    refine si_za dX9_miss_18 (fun x5 => ?_)
    refine si_if_eq 24 dX9_miss_19 (by decide) ?_ ?_
    · refine si_aload_n 0 dX9_miss_24 rfl rfl ?_
      refine si_gR 10 46 fl_X9_138 dX9_miss_25 (by decide) rfl (fun x6 => ?_)
      refine si_iload_n 1 dX9_miss_28 rfl rfl ?_
      refine si_iconst (v := 1) dX9_miss_29 (by decide) ?_
      refine si_zs dX9_miss_30 (fun h7 => ?_)
      refine si_iconst (v := 1) dX9_miss_31 (by decide) ?_
      exact si_zret dX9_miss_32 rfl rfl (Nat.le_of_ble_eq_true rfl) (Nat.le_of_ble_eq_true rfl)
    · refine si_iconst (v := 0) dX9_miss_22 (by decide) ?_
      exact si_zret dX9_miss_23 rfl rfl (Nat.le_of_ble_eq_true rfl) (Nat.le_of_ble_eq_true rfl)
theorem ct_X9_miss (l : Launch) (G : GG) {th : Nat} {a1 : Int32} {h : HS} {q : Int32 × HS} (hq : m_X9_miss th a1 h = some q) : Ct l yX9_miss mi_X9_miss G [lvR (some th), lvI a1] h (oI q) := Ct.of (out := oI) (by decide +kernel) rfl rfl (Nat.le_of_ble_eq_true rfl) hq (fun _ _ _ _ _ _ _ _ => s_X9_miss th a1 h)
set_option maxHeartbeats 4000000 in
set_option maxRecDepth 100000 in
theorem s_X9_isOfRun {E : EV} (th : Nat) (a1 : Int32) (a2 : Int32) (h : HS) : Sim E mi_X9_isOfRun (fin oI) 0 0 0 (largs 0 [lvR (some th), lvI a1, lvI a2]) [] h (m_X9_isOfRun th a1 a2 h) := by
  unfold m_X9_isOfRun
  refine si_aload_n 0 dX9_isOfRun_0 rfl rfl ?_
  refine si_iload_n 1 dX9_isOfRun_1 rfl rfl ?_
  refine si_aload_n 0 dX9_isOfRun_2 rfl rfl ?_
  refine si_gR 10 32 fl_X9_102 dX9_isOfRun_3 (by decide) rfl (fun x1 => ?_)
  refine si_sipush (v := 202) dX9_isOfRun_6 (by decide) ?_
  refine si_aload_n 0 dX9_isOfRun_9 rfl rfl ?_
  refine si_gR 10 41 fl_X9_123 dX9_isOfRun_10 (by decide) rfl (fun x2 => ?_)
  refine si_iload_n 1 dX9_isOfRun_13 rfl rfl ?_
  refine si_ia dX9_isOfRun_14 (fun x3 => ?_)
  refine si_imul dX9_isOfRun_15 ?_
  refine si_iload_n 2 dX9_isOfRun_16 rfl rfl ?_
  refine si_iadd dX9_isOfRun_17 ?_
  refine si_ia dX9_isOfRun_18 (fun x4 => ?_)
  refine si_cvI 10 [lvI (a1), lvI (x4)] dX9_isOfRun_19 rfl mc_X9_runsIn ml_X9_276 im_X9_runsIn rfl se_X9_runsIn (by decide) rfl ⟨Nat.le_of_ble_eq_true rfl, Nat.le_of_ble_eq_true rfl, Nat.le_of_ble_eq_true rfl, Nat.le_of_ble_eq_true rfl⟩ (Nat.le_of_ble_eq_true rfl) (fun _ _ hq => ct_X9_runsIn _ _ hq) (fun q5 => ?_)
  exact si_bret dX9_isOfRun_22 rfl (Nat.le_of_ble_eq_true rfl) (Nat.le_of_ble_eq_true rfl)
theorem ct_X9_isOfRun (l : Launch) (G : GG) {th : Nat} {a1 : Int32} {a2 : Int32} {h : HS} {q : Int32 × HS} (hq : m_X9_isOfRun th a1 a2 h = some q) : Ct l yX9_isOfRun mi_X9_isOfRun G [lvR (some th), lvI a1, lvI a2] h (oI q) := Ct.of (out := oI) (by decide +kernel) rfl rfl (Nat.le_of_ble_eq_true rfl) hq (fun _ _ _ _ _ _ _ _ => s_X9_isOfRun th a1 a2 h)
set_option maxHeartbeats 4000000 in
set_option maxRecDepth 100000 in
theorem X9_missing_b43_s {E : EV} (th : Nat) (go2 : Int32 → Int32 → HS → Option (Int32 × HS)) (hg2 : ∀ (l1 : Int32) (l2 : Int32) (h : HS), Sim E mi_X9_missing (fin oI) 0 0 2 [(0, lvR (some th)), (1, lvI (l1)), (2, lvI (l2))] [] h (go2 l1 l2 h)) (l1 : Int32) (l2 : Int32) (h : HS) : Sim E mi_X9_missing (fin oI) 0 0 43 [(0, lvR (some th)), (1, lvI (l1)), (2, lvI (l2))] [] h (X9_missing_b43 th go2 l1 l2 h) := by
  unfold X9_missing_b43
  refine si_iinc 2 (1) dX9_missing_43 rfl (by decide) (by decide) ?_
  refine si_goto 2 dX9_missing_46 (by decide) ?_
  refine si_widen 0 0 (Nat.le_of_ble_eq_true rfl) (Nat.le_of_ble_eq_true rfl) ?_
  refine si_lo [(0, lvR (some th)), (1, lvI (l1)), (2, lvI (l2 + (1)))] ⟨rfl, rfl, rfl, trivial⟩ ?_
  exact hg2 l1 (l2 + (1)) _
set_option maxHeartbeats 4000000 in
set_option maxRecDepth 100000 in
theorem X9_missing_L2_s {E : EV} (th : Nat) (n : Nat) : ∀ (l1 : Int32) (l2 : Int32) (h : HS), Sim E mi_X9_missing (fin oI) 0 0 2 [(0, lvR (some th)), (1, lvI (l1)), (2, lvI (l2))] [] h (X9_missing_L2 th n l1 l2 h) := by
  induction n with
  | zero => intro l1 l2 h; exact si_none
  | succ n ih =>
    intro l1 l2 h
    unfold X9_missing_L2
    refine si_iload_n 2 dX9_missing_2 rfl rfl ?_
    refine si_aload_n 0 dX9_missing_3 rfl rfl ?_
    refine si_gR 10 31 fl_X9_99 dX9_missing_4 (by decide) rfl (fun x1 => ?_)
    refine si_aload_n 0 dX9_missing_7 rfl rfl ?_
    refine si_gR 10 41 fl_X9_123 dX9_missing_8 (by decide) rfl (fun x2 => ?_)
    refine si_iload_n 1 dX9_missing_11 rfl rfl ?_
    refine si_ia dX9_missing_12 (fun x3 => ?_)
    refine si_ia dX9_missing_13 (fun x4 => ?_)
    refine si_icmp_gt 49 dX9_missing_14 (by decide) ?_ ?_
    · refine si_iconst (v := -1) dX9_missing_49 (by decide) ?_
      exact si_iret dX9_missing_50 rfl (Nat.le_of_ble_eq_true rfl) (Nat.le_of_ble_eq_true rfl)
    · refine si_aload_n 0 dX9_missing_17 rfl rfl ?_
      refine si_iload_n 1 dX9_missing_18 rfl rfl ?_
      refine si_iload_n 2 dX9_missing_19 rfl rfl ?_
      refine si_cvI 10 [lvI (l1), lvI (l2)] dX9_missing_20 rfl mc_X9_isOfRun ml_X9_287 im_X9_isOfRun rfl se_X9_isOfRun (by decide) rfl ⟨Nat.le_of_ble_eq_true rfl, Nat.le_of_ble_eq_true rfl, Nat.le_of_ble_eq_true rfl, Nat.le_of_ble_eq_true rfl⟩ (Nat.le_of_ble_eq_true rfl) (fun _ _ hq => ct_X9_isOfRun _ _ hq) (fun q5 => ?_)
      refine si_if_eq 43 dX9_missing_23 (by decide) ?_ ?_
      · refine si_widen 0 0 (Nat.le_of_ble_eq_true rfl) (Nat.le_of_ble_eq_true rfl) ?_
        refine si_lo [(0, lvR (some th)), (1, lvI (l1)), (2, lvI (l2))] ⟨rfl, rfl, rfl, trivial⟩ ?_
        exact X9_missing_b43_s th (X9_missing_L2 th n) ih l1 l2 _
      · refine si_aload_n 0 dX9_missing_26 rfl rfl ?_
        refine si_gR 10 47 fl_X9_141 dX9_missing_27 (by decide) rfl (fun x7 => ?_)
        refine si_sipush (v := 202) dX9_missing_30 (by decide) ?_
        refine si_iload_n 1 dX9_missing_33 rfl rfl ?_
        refine si_imul dX9_missing_34 ?_
        refine si_iload_n 2 dX9_missing_35 rfl rfl ?_
        refine si_iadd dX9_missing_36 ?_
        refine si_za dX9_missing_37 (fun x8 => ?_)
        refine si_if_ne 43 dX9_missing_38 (by decide) ?_ ?_
        · refine si_iload_n 2 dX9_missing_41 rfl rfl ?_
          exact si_iret dX9_missing_42 rfl (Nat.le_of_ble_eq_true rfl) (Nat.le_of_ble_eq_true rfl)
        · refine si_widen 0 0 (Nat.le_of_ble_eq_true rfl) (Nat.le_of_ble_eq_true rfl) ?_
          refine si_lo [(0, lvR (some th)), (1, lvI (l1)), (2, lvI (l2))] ⟨rfl, rfl, rfl, trivial⟩ ?_
          exact X9_missing_b43_s th (X9_missing_L2 th n) ih l1 l2 _
set_option maxHeartbeats 4000000 in
set_option maxRecDepth 100000 in
theorem s_X9_missing {E : EV} (th : Nat) (a1 : Int32) (h : HS) : Sim E mi_X9_missing (fin oI) 0 0 0 (largs 0 [lvR (some th), lvI a1]) [] h (m_X9_missing th a1 h) := by
  unfold m_X9_missing
  refine si_iconst (v := 1) dX9_missing_0 (by decide) ?_
  refine si_istore_n 2 dX9_missing_1 rfl (by decide) ?_
  refine si_widen 0 0 (Nat.le_of_ble_eq_true rfl) (Nat.le_of_ble_eq_true rfl) ?_
  refine si_lo [(0, lvR (some th)), (1, lvI (a1)), (2, lvI ((1 : Int32)))] ⟨rfl, rfl, rfl, trivial⟩ ?_
  exact X9_missing_L2_s th FU a1 ((1 : Int32)) _
theorem ct_X9_missing (l : Launch) (G : GG) {th : Nat} {a1 : Int32} {h : HS} {q : Int32 × HS} (hq : m_X9_missing th a1 h = some q) : Ct l yX9_missing mi_X9_missing G [lvR (some th), lvI a1] h (oI q) := Ct.of (out := oI) (by decide +kernel) rfl rfl (Nat.le_of_ble_eq_true rfl) hq (fun _ _ _ _ _ _ _ _ => s_X9_missing th a1 h)
set_option maxHeartbeats 4000000 in
set_option maxRecDepth 100000 in
theorem X9_send_b22_s {E : EV} (th : Nat) (l1 : Int32) (s0 : Int32) (h : HS) : Sim E mi_X9_send (fin oI) 0 0 22 [(0, lvR (some th)), (1, lvI (l1))] [.int (s0)] h (X9_send_b22 th l1 s0 h) := by
  unfold X9_send_b22
  refine si_istore_n 2 dX9_send_22 rfl (by decide) ?_
  refine si_iload_n 2 dX9_send_23 rfl rfl ?_
  refine si_if_lt 40 dX9_send_24 (by decide) ?_ ?_
  · refine si_iload_n 2 dX9_send_40 rfl rfl ?_
    exact si_iret dX9_send_41 rfl (Nat.le_of_ble_eq_true rfl) (Nat.le_of_ble_eq_true rfl)
  · refine si_aload_n 0 dX9_send_27 rfl rfl ?_
    refine si_gR 10 47 fl_X9_141 dX9_send_28 (by decide) rfl (fun x1 => ?_)
    refine si_sipush (v := 202) dX9_send_31 (by decide) ?_
    refine si_iload_n 1 dX9_send_34 rfl rfl ?_
    refine si_imul dX9_send_35 ?_
    refine si_iload_n 2 dX9_send_36 rfl rfl ?_
    refine si_iadd dX9_send_37 ?_
    refine si_iconst (v := 1) dX9_send_38 (by decide) ?_
    refine si_zs dX9_send_39 (fun h2 => ?_)
    refine si_iload_n 2 dX9_send_40 rfl rfl ?_
    exact si_iret dX9_send_41 rfl (Nat.le_of_ble_eq_true rfl) (Nat.le_of_ble_eq_true rfl)
set_option maxHeartbeats 4000000 in
set_option maxRecDepth 100000 in
theorem s_X9_send {E : EV} (th : Nat) (a1 : Int32) (h : HS) : Sim E mi_X9_send (fin oI) 0 0 0 (largs 0 [lvR (some th), lvI a1]) [] h (m_X9_send th a1 h) := by
  unfold m_X9_send
  refine si_aload_n 0 dX9_send_0 rfl rfl ?_
  refine si_iconst (v := 0) dX9_send_1 (by decide) ?_
  refine si_pI 10 0 fl_X9_1 dX9_send_2 (by decide) rfl rfl rfl (fw_X9_1 _) (fun h1 => ?_)
  refine si_aload_n 0 dX9_send_5 rfl rfl ?_
  refine si_iload_n 1 dX9_send_6 rfl rfl ?_
  refine si_cvI 10 [lvI (a1)] dX9_send_7 rfl mc_X9_isContract ml_X9_284 im_X9_isContract rfl se_X9_isContract (by decide) rfl ⟨Nat.le_of_ble_eq_true rfl, Nat.le_of_ble_eq_true rfl, Nat.le_of_ble_eq_true rfl, Nat.le_of_ble_eq_true rfl⟩ (Nat.le_of_ble_eq_true rfl) (fun _ _ hq => ct_X9_isContract _ _ hq) (fun q2 => ?_)
  refine si_if_eq 21 dX9_send_10 (by decide) ?_ ?_
  · refine si_iconst (v := -1) dX9_send_21 (by decide) ?_
    refine si_widen 0 0 (Nat.le_of_ble_eq_true rfl) (Nat.le_of_ble_eq_true rfl) ?_
    refine si_lo [(0, lvR (some th)), (1, lvI (a1))] ⟨rfl, rfl, trivial⟩ ?_
    exact X9_send_b22_s th a1 ((-1 : Int32)) _
  · refine si_aload_n 0 dX9_send_13 rfl rfl ?_
    refine si_iload_n 1 dX9_send_14 rfl rfl ?_
    refine si_cvI 10 [lvI (a1)] dX9_send_15 rfl mc_X9_missing ml_X9_290 im_X9_missing rfl se_X9_missing (by decide) rfl ⟨Nat.le_of_ble_eq_true rfl, Nat.le_of_ble_eq_true rfl, Nat.le_of_ble_eq_true rfl, Nat.le_of_ble_eq_true rfl⟩ (Nat.le_of_ble_eq_true rfl) (fun _ _ hq => ct_X9_missing _ _ hq) (fun q4 => ?_)
    refine si_goto 22 dX9_send_18 (by decide) ?_
    refine si_widen 0 0 (Nat.le_of_ble_eq_true rfl) (Nat.le_of_ble_eq_true rfl) ?_
    refine si_lo [(0, lvR (some th)), (1, lvI (a1))] ⟨rfl, rfl, trivial⟩ ?_
    exact X9_send_b22_s th a1 q4.1 _
theorem ct_X9_send (l : Launch) (G : GG) {th : Nat} {a1 : Int32} {h : HS} {q : Int32 × HS} (hq : m_X9_send th a1 h = some q) : Ct l yX9_send mi_X9_send G [lvR (some th), lvI a1] h (oI q) := Ct.of (out := oI) (by decide +kernel) rfl rfl (Nat.le_of_ble_eq_true rfl) hq (fun _ _ _ _ _ _ _ _ => s_X9_send th a1 h)
set_option maxHeartbeats 4000000 in
set_option maxRecDepth 100000 in
theorem X9_prints_b81_s {E : EV} (th : Nat) (l1 : Int32) (h : HS) : Sim E mi_X9_prints (fin oV) 0 0 81 [(0, lvR (some th)), (1, lvI (l1))] [] h (X9_prints_b81 th l1 h) := by
  unfold X9_prints_b81
  refine si_aload_n 0 dX9_prints_81 rfl rfl ?_
  refine si_gR 10 44 fl_X9_132 dX9_prints_82 (by decide) rfl (fun x1 => ?_)
  refine si_iload_n 1 dX9_prints_85 rfl rfl ?_
  refine si_dup2 dX9_prints_86 rfl (cat_rf _) ?_
  refine si_ia dX9_prints_87 (fun x2 => ?_)
  refine si_iconst (v := 1) dX9_prints_88 (by decide) ?_
  refine si_iadd dX9_prints_89 ?_
  refine si_is dX9_prints_90 (fun h3 => ?_)
  refine si_aload_n 0 dX9_prints_91 rfl rfl ?_
  refine si_gR 10 45 fl_X9_135 dX9_prints_92 (by decide) rfl (fun x4 => ?_)
  refine si_iload_n 1 dX9_prints_95 rfl rfl ?_
  refine si_dup2 dX9_prints_96 rfl (cat_rf _) ?_
  refine si_ia dX9_prints_97 (fun x5 => ?_)
  refine si_iconst (v := 1) dX9_prints_98 (by decide) ?_
  refine si_iadd dX9_prints_99 ?_
  refine si_is dX9_prints_100 (fun h6 => ?_)
  refine si_aload_n 0 dX9_prints_101 rfl rfl ?_
  refine si_gR 10 48 fl_X9_144 dX9_prints_102 (by decide) rfl (fun x7 => ?_)
  refine si_bipush (v := 51) dX9_prints_105 (by decide) ?_
  refine si_iload_n 1 dX9_prints_107 rfl rfl ?_
  refine si_imul dX9_prints_108 ?_
  refine si_aload_n 0 dX9_prints_109 rfl rfl ?_
  refine si_gI 10 24 fl_X9_264 dX9_prints_110 (by decide) rfl (fun x8 => ?_)
  refine si_iconst (v := 1) dX9_prints_113 (by decide) ?_
  refine si_isub dX9_prints_114 ?_
  refine si_iconst (v := 4) dX9_prints_115 (by decide) ?_
  refine si_idiv dX9_prints_116 (by decide) ?_
  refine si_iadd dX9_prints_117 ?_
  refine si_dup2 dX9_prints_118 rfl (cat_rf _) ?_
  refine si_ia dX9_prints_119 (fun x9 => ?_)
  refine si_iconst (v := 1) dX9_prints_120 (by decide) ?_
  refine si_iadd dX9_prints_121 ?_
  refine si_is dX9_prints_122 (fun h10 => ?_)
  exact si_vret dX9_prints_123 rfl (Nat.le_of_ble_eq_true rfl) (Nat.le_of_ble_eq_true rfl)
set_option maxHeartbeats 4000000 in
set_option maxRecDepth 100000 in
theorem X9_prints_b46_s {E : EV} (th : Nat) (l1 : Int32) (l2 : Int32) (l3 : Int32) (s0 : Int32) (h : HS) : Sim E mi_X9_prints (fin oV) 0 0 46 [(0, lvR (some th)), (1, lvI (l1)), (2, lvI (l2)), (3, lvI (l3))] [.int (s0)] h (X9_prints_b46 th l1 l2 l3 s0 h) := by
  unfold X9_prints_b46
  refine si_istore 4 dX9_prints_46 (by decide) ?_
  refine si_iload 4 dX9_prints_48 rfl ?_
  refine si_if_eq 123 dX9_prints_50 (by decide) ?_ ?_
  · exact si_vret dX9_prints_123 rfl (Nat.le_of_ble_eq_true rfl) (Nat.le_of_ble_eq_true rfl)
  · refine si_iload_n 2 dX9_prints_53 rfl rfl ?_
    refine si_if_eq 81 dX9_prints_54 (by decide) ?_ ?_
    · refine si_widen 0 0 (Nat.le_of_ble_eq_true rfl) (Nat.le_of_ble_eq_true rfl) ?_
      refine si_lo [(0, lvR (some th)), (1, lvI (l1))] ⟨rfl, rfl, trivial⟩ ?_
      exact X9_prints_b81_s th l1 _
    · refine si_aload_n 0 dX9_prints_57 rfl rfl ?_
      refine si_gR 10 32 fl_X9_102 dX9_prints_58 (by decide) rfl (fun x1 => ?_)
      refine si_sipush (v := 202) dX9_prints_61 (by decide) ?_
      refine si_aload_n 0 dX9_prints_64 rfl rfl ?_
      refine si_gR 10 41 fl_X9_123 dX9_prints_65 (by decide) rfl (fun x2 => ?_)
      refine si_iload_n 1 dX9_prints_68 rfl rfl ?_
      refine si_ia dX9_prints_69 (fun x3 => ?_)
      refine si_imul dX9_prints_70 ?_
      refine si_iload_n 3 dX9_prints_71 rfl rfl ?_
      refine si_iadd dX9_prints_72 ?_
      refine si_ia dX9_prints_73 (fun x4 => ?_)
      refine si_aload_n 0 dX9_prints_74 rfl rfl ?_
      refine si_gI 10 24 fl_X9_264 dX9_prints_75 (by decide) rfl (fun x5 => ?_)
      refine si_icmp_ge 123 dX9_prints_78 (by decide) ?_ ?_
      · exact si_vret dX9_prints_123 rfl (Nat.le_of_ble_eq_true rfl) (Nat.le_of_ble_eq_true rfl)
      · refine si_widen 0 0 (Nat.le_of_ble_eq_true rfl) (Nat.le_of_ble_eq_true rfl) ?_
        refine si_lo [(0, lvR (some th)), (1, lvI (l1))] ⟨rfl, rfl, trivial⟩ ?_
        exact X9_prints_b81_s th l1 _
set_option maxHeartbeats 4000000 in
set_option maxRecDepth 100000 in
theorem X9_prints_b45_s {E : EV} (th : Nat) (l1 : Int32) (l2 : Int32) (l3 : Int32) (h : HS) : Sim E mi_X9_prints (fin oV) 0 0 45 [(0, lvR (some th)), (1, lvI (l1)), (2, lvI (l2)), (3, lvI (l3))] [] h (X9_prints_b45 th l1 l2 l3 h) := by
  unfold X9_prints_b45
  refine si_iconst (v := 0) dX9_prints_45 (by decide) ?_
  refine si_widen 0 0 (Nat.le_of_ble_eq_true rfl) (Nat.le_of_ble_eq_true rfl) ?_
  refine si_lo [(0, lvR (some th)), (1, lvI (l1)), (2, lvI (l2)), (3, lvI (l3))] ⟨rfl, rfl, rfl, rfl, trivial⟩ ?_
  exact X9_prints_b46_s th l1 l2 l3 ((0 : Int32)) _
set_option maxHeartbeats 4000000 in
set_option maxRecDepth 100000 in
theorem s_X9_prints {E : EV} (th : Nat) (a1 : Int32) (a2 : Int32) (h : HS) : Sim E mi_X9_prints (fin oV) 0 0 0 (largs 0 [lvR (some th), lvI a1, lvI a2]) [] h (m_X9_prints th a1 a2 h) := by
  unfold m_X9_prints
  refine si_aload_n 0 dX9_prints_0 rfl rfl ?_
  refine si_gR 10 44 fl_X9_132 dX9_prints_1 (by decide) rfl (fun x1 => ?_)
  refine si_iload_n 1 dX9_prints_4 rfl rfl ?_
  refine si_ia dX9_prints_5 (fun x2 => ?_)
  refine si_istore_n 3 dX9_prints_6 rfl (by decide) ?_
  refine si_iload_n 3 dX9_prints_7 rfl rfl ?_
  refine si_if_lt 45 dX9_prints_8 (by decide) ?_ ?_
  · refine si_widen 0 0 (Nat.le_of_ble_eq_true rfl) (Nat.le_of_ble_eq_true rfl) ?_
    refine si_lo [(0, lvR (some th)), (1, lvI (a1)), (2, lvI (a2)), (3, lvI (x2))] ⟨rfl, rfl, rfl, rfl, trivial⟩ ?_
    exact X9_prints_b45_s th a1 a2 x2 _
  · refine si_iload_n 3 dX9_prints_11 rfl rfl ?_
    refine si_aload_n 0 dX9_prints_12 rfl rfl ?_
    refine si_gR 10 31 fl_X9_99 dX9_prints_13 (by decide) rfl (fun x3 => ?_)
    refine si_aload_n 0 dX9_prints_16 rfl rfl ?_
    refine si_gR 10 41 fl_X9_123 dX9_prints_17 (by decide) rfl (fun x4 => ?_)
    refine si_iload_n 1 dX9_prints_20 rfl rfl ?_
    refine si_ia dX9_prints_21 (fun x5 => ?_)
    refine si_ia dX9_prints_22 (fun x6 => ?_)
    refine si_icmp_gt 45 dX9_prints_23 (by decide) ?_ ?_
    · refine si_widen 0 0 (Nat.le_of_ble_eq_true rfl) (Nat.le_of_ble_eq_true rfl) ?_
      refine si_lo [(0, lvR (some th)), (1, lvI (a1)), (2, lvI (a2)), (3, lvI (x2))] ⟨rfl, rfl, rfl, rfl, trivial⟩ ?_
      exact X9_prints_b45_s th a1 a2 x2 _
    · refine si_aload_n 0 dX9_prints_26 rfl rfl ?_
      refine si_gR 10 47 fl_X9_141 dX9_prints_27 (by decide) rfl (fun x7 => ?_)
      refine si_sipush (v := 202) dX9_prints_30 (by decide) ?_
      refine si_iload_n 1 dX9_prints_33 rfl rfl ?_
      refine si_imul dX9_prints_34 ?_
      refine si_iload_n 3 dX9_prints_35 rfl rfl ?_
      refine si_iadd dX9_prints_36 ?_
      refine si_za dX9_prints_37 (fun x8 => ?_)
      refine si_if_eq 45 dX9_prints_38 (by decide) ?_ ?_
      · refine si_widen 0 0 (Nat.le_of_ble_eq_true rfl) (Nat.le_of_ble_eq_true rfl) ?_
        refine si_lo [(0, lvR (some th)), (1, lvI (a1)), (2, lvI (a2)), (3, lvI (x2))] ⟨rfl, rfl, rfl, rfl, trivial⟩ ?_
        exact X9_prints_b45_s th a1 a2 x2 _
      · refine si_iconst (v := 1) dX9_prints_41 (by decide) ?_
        refine si_goto 46 dX9_prints_42 (by decide) ?_
        refine si_widen 0 0 (Nat.le_of_ble_eq_true rfl) (Nat.le_of_ble_eq_true rfl) ?_
        refine si_lo [(0, lvR (some th)), (1, lvI (a1)), (2, lvI (a2)), (3, lvI (x2))] ⟨rfl, rfl, rfl, rfl, trivial⟩ ?_
        exact X9_prints_b46_s th a1 a2 x2 ((1 : Int32)) _
theorem ct_X9_prints (l : Launch) (G : GG) {th : Nat} {a1 : Int32} {a2 : Int32} {h : HS} {q : HS} (hq : m_X9_prints th a1 a2 h = some q) : Ct l yX9_prints mi_X9_prints G [lvR (some th), lvI a1, lvI a2] h (oV q) := Ct.of (out := oV) (by decide +kernel) rfl rfl (Nat.le_of_ble_eq_true rfl) hq (fun _ _ _ _ _ _ _ _ => s_X9_prints th a1 a2 h)
set_option maxHeartbeats 4000000 in
set_option maxRecDepth 100000 in
theorem X9_runs_b100_s {E : EV} (th : Nat) (l1 : Int32) (h : HS) : Sim E mi_X9_runs (fin oV) 0 0 100 [(0, lvR (some th)), (1, lvI (l1))] [] h (X9_runs_b100 th l1 h) := by
  unfold X9_runs_b100
  refine si_aload_n 0 dX9_runs_100 rfl rfl ?_
  refine si_gR 10 45 fl_X9_135 dX9_runs_101 (by decide) rfl (fun x1 => ?_)
  refine si_iload_n 1 dX9_runs_104 rfl rfl ?_
  refine si_ia dX9_runs_105 (fun x2 => ?_)
  refine si_istore 5 dX9_runs_106 (by decide) ?_
  refine si_aload_n 0 dX9_runs_108 rfl rfl ?_
  refine si_iload_n 1 dX9_runs_109 rfl rfl ?_
  refine si_iconst (v := 0) dX9_runs_110 (by decide) ?_
  refine si_cvV 10 [lvI (l1), lvI ((0 : Int32))] dX9_runs_111 rfl mc_X9_prints ml_X9_293 im_X9_prints rfl se_X9_prints (by decide) rfl ⟨Nat.le_of_ble_eq_true rfl, Nat.le_of_ble_eq_true rfl, Nat.le_of_ble_eq_true rfl, Nat.le_of_ble_eq_true rfl⟩ (Nat.le_of_ble_eq_true rfl) (fun _ _ hq => ct_X9_prints _ _ hq) (fun h3 => ?_)
  refine si_aload_n 0 dX9_runs_114 rfl rfl ?_
  refine si_gR 10 45 fl_X9_135 dX9_runs_115 (by decide) rfl (fun x5 => ?_)
  refine si_iload_n 1 dX9_runs_118 rfl rfl ?_
  refine si_ia dX9_runs_119 (fun x6 => ?_)
  refine si_iload 5 dX9_runs_120 rfl ?_
  refine si_icmp_le 131 dX9_runs_122 (by decide) ?_ ?_
  · exact si_vret dX9_runs_131 rfl (Nat.le_of_ble_eq_true rfl) (Nat.le_of_ble_eq_true rfl)
  · refine si_aload_n 0 dX9_runs_125 rfl rfl ?_
    refine si_iload_n 1 dX9_runs_126 rfl rfl ?_
    refine si_iconst (v := 1) dX9_runs_127 (by decide) ?_
    refine si_cvV 10 [lvI (l1), lvI ((1 : Int32))] dX9_runs_128 rfl mc_X9_prints ml_X9_293 im_X9_prints rfl se_X9_prints (by decide) rfl ⟨Nat.le_of_ble_eq_true rfl, Nat.le_of_ble_eq_true rfl, Nat.le_of_ble_eq_true rfl, Nat.le_of_ble_eq_true rfl⟩ (Nat.le_of_ble_eq_true rfl) (fun _ _ hq => ct_X9_prints _ _ hq) (fun h7 => ?_)
    exact si_vret dX9_runs_131 rfl (Nat.le_of_ble_eq_true rfl) (Nat.le_of_ble_eq_true rfl)
set_option maxHeartbeats 4000000 in
set_option maxRecDepth 100000 in
theorem X9_runs_b99_s {E : EV} (th : Nat) (l1 : Int32) (s2 : Int32) (s1 : Int32) (s0 : Option Nat) (h : HS) : Sim E mi_X9_runs (fin oV) 0 0 99 [(0, lvR (some th)), (1, lvI (l1))] [.int (s2), .int (s1), va_rf (s0)] h (X9_runs_b99 th l1 s2 s1 s0 h) := by
  unfold X9_runs_b99
  refine si_is dX9_runs_99 (fun h1 => ?_)
  refine si_widen 0 0 (Nat.le_of_ble_eq_true rfl) (Nat.le_of_ble_eq_true rfl) ?_
  refine si_lo [(0, lvR (some th)), (1, lvI (l1))] ⟨rfl, rfl, trivial⟩ ?_
  exact X9_runs_b100_s th l1 _
set_option maxHeartbeats 4000000 in
set_option maxRecDepth 100000 in
theorem X9_runs_b74_s {E : EV} (th : Nat) (l1 : Int32) (l3 : Int32) (s2 : Int32) (s1 : Int32) (s0 : Option Nat) (h : HS) : Sim E mi_X9_runs (fin oV) 0 0 74 [(0, lvR (some th)), (1, lvI (l1)), (3, lvI (l3))] [.int (s2), .int (s1), va_rf (s0)] h (X9_runs_b74 th l1 l3 s2 s1 s0 h) := by
  unfold X9_runs_b74
  refine si_zs dX9_runs_74 (fun h1 => ?_)
  refine si_aload_n 0 dX9_runs_75 rfl rfl ?_
  refine si_gR 10 44 fl_X9_132 dX9_runs_76 (by decide) rfl (fun x2 => ?_)
  refine si_iload_n 1 dX9_runs_79 rfl rfl ?_
  refine si_aload_n 0 dX9_runs_80 rfl rfl ?_
  refine si_gR 10 44 fl_X9_132 dX9_runs_81 (by decide) rfl (fun x3 => ?_)
  refine si_iload_n 1 dX9_runs_84 rfl rfl ?_
  refine si_ia dX9_runs_85 (fun x4 => ?_)
  refine si_if_ge 93 dX9_runs_86 (by decide) ?_ ?_
  · refine si_aload_n 0 dX9_runs_93 rfl rfl ?_
    refine si_gR 10 44 fl_X9_132 dX9_runs_94 (by decide) rfl (fun x5 => ?_)
    refine si_iload_n 1 dX9_runs_97 rfl rfl ?_
    refine si_ia dX9_runs_98 (fun x6 => ?_)
    refine si_widen 0 0 (Nat.le_of_ble_eq_true rfl) (Nat.le_of_ble_eq_true rfl) ?_
    refine si_lo [(0, lvR (some th)), (1, lvI (l1))] ⟨rfl, rfl, trivial⟩ ?_
    exact X9_runs_b99_s th l1 x6 l1 x2 _
  · refine si_iload_n 3 dX9_runs_89 rfl rfl ?_
    refine si_goto 99 dX9_runs_90 (by decide) ?_
    refine si_widen 0 0 (Nat.le_of_ble_eq_true rfl) (Nat.le_of_ble_eq_true rfl) ?_
    refine si_lo [(0, lvR (some th)), (1, lvI (l1))] ⟨rfl, rfl, trivial⟩ ?_
    exact X9_runs_b99_s th l1 l3 l1 x2 _
set_option maxHeartbeats 4000000 in
set_option maxRecDepth 100000 in
theorem X9_runs_b42_s {E : EV} (th : Nat) (l1 : Int32) (l3 : Int32) (s0 : Int32) (h : HS) : Sim E mi_X9_runs (fin oV) 0 0 42 [(0, lvR (some th)), (1, lvI (l1)), (3, lvI (l3))] [.int (s0)] h (X9_runs_b42 th l1 l3 s0 h) := by
  unfold X9_runs_b42
  refine si_istore 4 dX9_runs_42 (by decide) ?_
  refine si_iload 4 dX9_runs_44 rfl ?_
  refine si_if_eq 100 dX9_runs_46 (by decide) ?_ ?_
  · refine si_widen 0 0 (Nat.le_of_ble_eq_true rfl) (Nat.le_of_ble_eq_true rfl) ?_
    refine si_lo [(0, lvR (some th)), (1, lvI (l1))] ⟨rfl, rfl, trivial⟩ ?_
    exact X9_runs_b100_s th l1 _
  · refine si_aload_n 0 dX9_runs_49 rfl rfl ?_
    refine si_gR 10 47 fl_X9_141 dX9_runs_50 (by decide) rfl (fun x1 => ?_)
    refine si_sipush (v := 202) dX9_runs_53 (by decide) ?_
    refine si_iload_n 1 dX9_runs_56 rfl rfl ?_
    refine si_imul dX9_runs_57 ?_
    refine si_iload_n 3 dX9_runs_58 rfl rfl ?_
    refine si_iadd dX9_runs_59 ?_
    refine si_aload_n 0 dX9_runs_60 rfl rfl ?_
    refine si_gR 10 46 fl_X9_138 dX9_runs_61 (by decide) rfl (fun x2 => ?_)
    refine si_iload_n 1 dX9_runs_64 rfl rfl ?_
    refine si_za dX9_runs_65 (fun x3 => ?_)
    refine si_if_ne 73 dX9_runs_66 (by decide) ?_ ?_
    · refine si_iconst (v := 1) dX9_runs_69 (by decide) ?_
      refine si_goto 74 dX9_runs_70 (by decide) ?_
      refine si_widen 0 0 (Nat.le_of_ble_eq_true rfl) (Nat.le_of_ble_eq_true rfl) ?_
      refine si_lo [(0, lvR (some th)), (1, lvI (l1)), (3, lvI (l3))] ⟨rfl, rfl, rfl, trivial⟩ ?_
      exact X9_runs_b74_s th l1 l3 ((1 : Int32)) (((202 : Int32) * l1) + l3) x1 _
    · refine si_iconst (v := 0) dX9_runs_73 (by decide) ?_
      refine si_widen 0 0 (Nat.le_of_ble_eq_true rfl) (Nat.le_of_ble_eq_true rfl) ?_
      refine si_lo [(0, lvR (some th)), (1, lvI (l1)), (3, lvI (l3))] ⟨rfl, rfl, rfl, trivial⟩ ?_
      exact X9_runs_b74_s th l1 l3 ((0 : Int32)) (((202 : Int32) * l1) + l3) x1 _
set_option maxHeartbeats 4000000 in
set_option maxRecDepth 100000 in
theorem X9_runs_b41_s {E : EV} (th : Nat) (l1 : Int32) (l3 : Int32) (h : HS) : Sim E mi_X9_runs (fin oV) 0 0 41 [(0, lvR (some th)), (1, lvI (l1)), (3, lvI (l3))] [] h (X9_runs_b41 th l1 l3 h) := by
  unfold X9_runs_b41
  refine si_iconst (v := 0) dX9_runs_41 (by decide) ?_
  refine si_widen 0 0 (Nat.le_of_ble_eq_true rfl) (Nat.le_of_ble_eq_true rfl) ?_
  refine si_lo [(0, lvR (some th)), (1, lvI (l1)), (3, lvI (l3))] ⟨rfl, rfl, rfl, trivial⟩ ?_
  exact X9_runs_b42_s th l1 l3 ((0 : Int32)) _
set_option maxHeartbeats 4000000 in
set_option maxRecDepth 100000 in
theorem s_X9_runs {E : EV} (th : Nat) (a1 : Int32) (h : HS) : Sim E mi_X9_runs (fin oV) 0 0 0 (largs 0 [lvR (some th), lvI a1]) [] h (m_X9_runs th a1 h) := by
  unfold m_X9_runs
  refine si_aload_n 0 dX9_runs_0 rfl rfl ?_
  refine si_gR 10 41 fl_X9_123 dX9_runs_1 (by decide) rfl (fun x1 => ?_)
  refine si_iload_n 1 dX9_runs_4 rfl rfl ?_
  refine si_ia dX9_runs_5 (fun x2 => ?_)
  refine si_istore_n 2 dX9_runs_6 rfl (by decide) ?_
  refine si_aload_n 0 dX9_runs_7 rfl rfl ?_
  refine si_gR 10 31 fl_X9_99 dX9_runs_8 (by decide) rfl (fun x3 => ?_)
  refine si_iload_n 2 dX9_runs_11 rfl rfl ?_
  refine si_ia dX9_runs_12 (fun x4 => ?_)
  refine si_istore_n 3 dX9_runs_13 rfl (by decide) ?_
  refine si_iload_n 3 dX9_runs_14 rfl rfl ?_
  refine si_if_le 41 dX9_runs_15 (by decide) ?_ ?_
  · refine si_widen 0 0 (Nat.le_of_ble_eq_true rfl) (Nat.le_of_ble_eq_true rfl) ?_
    refine si_lo [(0, lvR (some th)), (1, lvI (a1)), (3, lvI (x4))] ⟨rfl, rfl, rfl, trivial⟩ ?_
    exact X9_runs_b41_s th a1 x4 _
  · refine si_aload_n 0 dX9_runs_18 rfl rfl ?_
    refine si_gR 10 32 fl_X9_102 dX9_runs_19 (by decide) rfl (fun x5 => ?_)
    refine si_sipush (v := 202) dX9_runs_22 (by decide) ?_
    refine si_iload_n 2 dX9_runs_25 rfl rfl ?_
    refine si_imul dX9_runs_26 ?_
    refine si_iload_n 3 dX9_runs_27 rfl rfl ?_
    refine si_iadd dX9_runs_28 ?_
    refine si_ia dX9_runs_29 (fun x6 => ?_)
    refine si_aload_n 0 dX9_runs_30 rfl rfl ?_
    refine si_gI 10 24 fl_X9_264 dX9_runs_31 (by decide) rfl (fun x7 => ?_)
    refine si_icmp_ne 41 dX9_runs_34 (by decide) ?_ ?_
    · refine si_iconst (v := 1) dX9_runs_37 (by decide) ?_
      refine si_goto 42 dX9_runs_38 (by decide) ?_
      refine si_widen 0 0 (Nat.le_of_ble_eq_true rfl) (Nat.le_of_ble_eq_true rfl) ?_
      refine si_lo [(0, lvR (some th)), (1, lvI (a1)), (3, lvI (x4))] ⟨rfl, rfl, rfl, trivial⟩ ?_
      exact X9_runs_b42_s th a1 x4 ((1 : Int32)) _
    · refine si_widen 0 0 (Nat.le_of_ble_eq_true rfl) (Nat.le_of_ble_eq_true rfl) ?_
      refine si_lo [(0, lvR (some th)), (1, lvI (a1)), (3, lvI (x4))] ⟨rfl, rfl, rfl, trivial⟩ ?_
      exact X9_runs_b41_s th a1 x4 _
theorem ct_X9_runs (l : Launch) (G : GG) {th : Nat} {a1 : Int32} {h : HS} {q : HS} (hq : m_X9_runs th a1 h = some q) : Ct l yX9_runs mi_X9_runs G [lvR (some th), lvI a1] h (oV q) := Ct.of (out := oV) (by decide +kernel) rfl rfl (Nat.le_of_ble_eq_true rfl) hq (fun _ _ _ _ _ _ _ _ => s_X9_runs th a1 h)
set_option maxHeartbeats 4000000 in
set_option maxRecDepth 100000 in
theorem X9_weeksIn_b35_s {E : EV} (th : Nat) (go9 : Int32 → Int32 → Int32 → Int32 → HS → Option (Int32 × HS)) (hg9 : ∀ (l1 : Int32) (l2 : Int32) (l3 : Int32) (l4 : Int32) (h : HS), Sim E mi_X9_weeksIn (fin oI) 0 0 9 [(0, lvR (some th)), (1, lvI (l1)), (2, lvI (l2)), (3, lvI (l3)), (4, lvI (l4))] [] h (go9 l1 l2 l3 l4 h)) (l1 : Int32) (l2 : Int32) (l4 : Int32) (s1 : Int32) (s0 : Int32) (h : HS) : Sim E mi_X9_weeksIn (fin oI) 0 0 35 [(0, lvR (some th)), (1, lvI (l1)), (2, lvI (l2)), (4, lvI (l4))] [.int (s1), .int (s0)] h (X9_weeksIn_b35 th go9 l1 l2 l4 s1 s0 h) := by
  unfold X9_weeksIn_b35
  refine si_iadd dX9_weeksIn_35 ?_
  refine si_istore_n 3 dX9_weeksIn_36 rfl (by decide) ?_
  refine si_iinc 4 (1) dX9_weeksIn_37 rfl (by decide) (by decide) ?_
  refine si_goto 9 dX9_weeksIn_40 (by decide) ?_
  refine si_widen 0 0 (Nat.le_of_ble_eq_true rfl) (Nat.le_of_ble_eq_true rfl) ?_
  refine si_lo [(0, lvR (some th)), (1, lvI (l1)), (2, lvI (l2)), (3, lvI (s0 + s1)), (4, lvI (l4 + (1)))] ⟨rfl, rfl, rfl, rfl, rfl, trivial⟩ ?_
  exact hg9 l1 l2 (s0 + s1) (l4 + (1)) _
set_option maxHeartbeats 4000000 in
set_option maxRecDepth 100000 in
theorem X9_weeksIn_L9_s {E : EV} (th : Nat) (n : Nat) : ∀ (l1 : Int32) (l2 : Int32) (l3 : Int32) (l4 : Int32) (h : HS), Sim E mi_X9_weeksIn (fin oI) 0 0 9 [(0, lvR (some th)), (1, lvI (l1)), (2, lvI (l2)), (3, lvI (l3)), (4, lvI (l4))] [] h (X9_weeksIn_L9 th n l1 l2 l3 l4 h) := by
  induction n with
  | zero => intro l1 l2 l3 l4 h; exact si_none
  | succ n ih =>
    intro l1 l2 l3 l4 h
    unfold X9_weeksIn_L9
    refine si_iload 4 dX9_weeksIn_9 rfl ?_
    refine si_iconst (v := 4) dX9_weeksIn_11 (by decide) ?_
    refine si_iload_n 2 dX9_weeksIn_12 rfl rfl ?_
    refine si_imul dX9_weeksIn_13 ?_
    refine si_iconst (v := 4) dX9_weeksIn_14 (by decide) ?_
    refine si_iadd dX9_weeksIn_15 ?_
    refine si_icmp_gt 43 dX9_weeksIn_16 (by decide) ?_ ?_
    · refine si_iload_n 3 dX9_weeksIn_43 rfl rfl ?_
      exact si_iret dX9_weeksIn_44 rfl (Nat.le_of_ble_eq_true rfl) (Nat.le_of_ble_eq_true rfl)
    · refine si_iload_n 3 dX9_weeksIn_19 rfl rfl ?_
      refine si_aload_n 0 dX9_weeksIn_20 rfl rfl ?_
      refine si_iload_n 1 dX9_weeksIn_21 rfl rfl ?_
      refine si_iload 4 dX9_weeksIn_22 rfl ?_
      refine si_cvI 10 [lvI (l1), lvI (l4)] dX9_weeksIn_24 rfl mc_X9_runsIn ml_X9_276 im_X9_runsIn rfl se_X9_runsIn (by decide) rfl ⟨Nat.le_of_ble_eq_true rfl, Nat.le_of_ble_eq_true rfl, Nat.le_of_ble_eq_true rfl, Nat.le_of_ble_eq_true rfl⟩ (Nat.le_of_ble_eq_true rfl) (fun _ _ hq => ct_X9_runsIn _ _ hq) (fun q1 => ?_)
      refine si_if_eq 34 dX9_weeksIn_27 (by decide) ?_ ?_
      · refine si_iconst (v := 0) dX9_weeksIn_34 (by decide) ?_
        refine si_widen 0 0 (Nat.le_of_ble_eq_true rfl) (Nat.le_of_ble_eq_true rfl) ?_
        refine si_lo [(0, lvR (some th)), (1, lvI (l1)), (2, lvI (l2)), (4, lvI (l4))] ⟨rfl, rfl, rfl, rfl, trivial⟩ ?_
        exact X9_weeksIn_b35_s th (X9_weeksIn_L9 th n) ih l1 l2 l4 ((0 : Int32)) l3 _
      · refine si_iconst (v := 1) dX9_weeksIn_30 (by decide) ?_
        refine si_goto 35 dX9_weeksIn_31 (by decide) ?_
        refine si_widen 0 0 (Nat.le_of_ble_eq_true rfl) (Nat.le_of_ble_eq_true rfl) ?_
        refine si_lo [(0, lvR (some th)), (1, lvI (l1)), (2, lvI (l2)), (4, lvI (l4))] ⟨rfl, rfl, rfl, rfl, trivial⟩ ?_
        exact X9_weeksIn_b35_s th (X9_weeksIn_L9 th n) ih l1 l2 l4 ((1 : Int32)) l3 _
set_option maxHeartbeats 4000000 in
set_option maxRecDepth 100000 in
theorem s_X9_weeksIn {E : EV} (th : Nat) (a1 : Int32) (a2 : Int32) (h : HS) : Sim E mi_X9_weeksIn (fin oI) 0 0 0 (largs 0 [lvR (some th), lvI a1, lvI a2]) [] h (m_X9_weeksIn th a1 a2 h) := by
  unfold m_X9_weeksIn
  refine si_iconst (v := 0) dX9_weeksIn_0 (by decide) ?_
  refine si_istore_n 3 dX9_weeksIn_1 rfl (by decide) ?_
  refine si_iconst (v := 4) dX9_weeksIn_2 (by decide) ?_
  refine si_iload_n 2 dX9_weeksIn_3 rfl rfl ?_
  refine si_imul dX9_weeksIn_4 ?_
  refine si_iconst (v := 1) dX9_weeksIn_5 (by decide) ?_
  refine si_iadd dX9_weeksIn_6 ?_
  refine si_istore 4 dX9_weeksIn_7 (by decide) ?_
  refine si_widen 0 0 (Nat.le_of_ble_eq_true rfl) (Nat.le_of_ble_eq_true rfl) ?_
  refine si_lo [(0, lvR (some th)), (1, lvI (a1)), (2, lvI (a2)), (3, lvI ((0 : Int32))), (4, lvI (((4 : Int32) * a2) + (1 : Int32)))] ⟨rfl, rfl, rfl, rfl, rfl, trivial⟩ ?_
  exact X9_weeksIn_L9_s th FU a1 a2 ((0 : Int32)) (((4 : Int32) * a2) + (1 : Int32)) _
theorem ct_X9_weeksIn (l : Launch) (G : GG) {th : Nat} {a1 : Int32} {a2 : Int32} {h : HS} {q : Int32 × HS} (hq : m_X9_weeksIn th a1 a2 h = some q) : Ct l yX9_weeksIn mi_X9_weeksIn G [lvR (some th), lvI a1, lvI a2] h (oI q) := Ct.of (out := oI) (by decide +kernel) rfl rfl (Nat.le_of_ble_eq_true rfl) hq (fun _ _ _ _ _ _ _ _ => s_X9_weeksIn th a1 a2 h)
set_option maxHeartbeats 4000000 in
set_option maxRecDepth 100000 in
theorem X9_billOf_L97_s {E : EV} (th : Nat) (n : Nat) : ∀ (l3 : Int32) (l4 : Int32) (l5 : Int32) (l6 : Int32) (h : HS), Sim E mi_X9_billOf (fin oI) 0 0 97 [(0, lvR (some th)), (3, lvI (l3)), (4, lvI (l4)), (5, lvI (l5)), (6, lvI (l6))] [] h (X9_billOf_L97 th n l3 l4 l5 l6 h) := by
  induction n with
  | zero => intro l3 l4 l5 l6 h; exact si_none
  | succ n ih =>
    intro l3 l4 l5 l6 h
    unfold X9_billOf_L97
    refine si_iload_n 3 dX9_billOf_97 rfl rfl ?_
    refine si_if_lt 179 dX9_billOf_98 (by decide) ?_ ?_
    · refine si_iconst (v := 0) dX9_billOf_179 (by decide) ?_
      exact si_iret dX9_billOf_180 rfl (Nat.le_of_ble_eq_true rfl) (Nat.le_of_ble_eq_true rfl)
    · refine si_iload 6 dX9_billOf_101 rfl ?_
      refine si_aload_n 0 dX9_billOf_103 rfl rfl ?_
      refine si_gR 10 12 fl_X9_53 dX9_billOf_104 (by decide) rfl (fun x1 => ?_)
      refine si_iload_n 3 dX9_billOf_107 rfl rfl ?_
      refine si_ia dX9_billOf_108 (fun x2 => ?_)
      refine si_icmp_ge 179 dX9_billOf_109 (by decide) ?_ ?_
      · refine si_iconst (v := 0) dX9_billOf_179 (by decide) ?_
        exact si_iret dX9_billOf_180 rfl (Nat.le_of_ble_eq_true rfl) (Nat.le_of_ble_eq_true rfl)
      · refine si_aload_n 0 dX9_billOf_112 rfl rfl ?_
        refine si_gR 10 22 fl_X9_77 dX9_billOf_113 (by decide) rfl (fun x3 => ?_)
        refine si_iconst (v := 4) dX9_billOf_116 (by decide) ?_
        refine si_ia dX9_billOf_117 (fun x4 => ?_)
        refine si_if_le 179 dX9_billOf_118 (by decide) ?_ ?_
        · refine si_iconst (v := 0) dX9_billOf_179 (by decide) ?_
          exact si_iret dX9_billOf_180 rfl (Nat.le_of_ble_eq_true rfl) (Nat.le_of_ble_eq_true rfl)
        · refine si_aload_n 0 dX9_billOf_121 rfl rfl ?_
          refine si_sipush (v := 660) dX9_billOf_122 (by decide) ?_
          refine si_iload_n 3 dX9_billOf_125 rfl rfl ?_
          refine si_imul dX9_billOf_126 ?_
          refine si_aload_n 0 dX9_billOf_127 rfl rfl ?_
          refine si_gR 10 14 fl_X9_59 dX9_billOf_128 (by decide) rfl (fun x5 => ?_)
          refine si_bipush (v := 16) dX9_billOf_131 (by decide) ?_
          refine si_iload_n 3 dX9_billOf_133 rfl rfl ?_
          refine si_imul dX9_billOf_134 ?_
          refine si_iload 6 dX9_billOf_135 rfl ?_
          refine si_iadd dX9_billOf_137 ?_
          refine si_ia dX9_billOf_138 (fun x6 => ?_)
          refine si_iadd dX9_billOf_139 ?_
          refine si_cvI 10 [lvI (((660 : Int32) * l3) + x6)] dX9_billOf_140 rfl mc_X9_worth ml_X9_309 im_X9_worth rfl se_X9_worth (by decide) rfl ⟨Nat.le_of_ble_eq_true rfl, Nat.le_of_ble_eq_true rfl, Nat.le_of_ble_eq_true rfl, Nat.le_of_ble_eq_true rfl⟩ (Nat.le_of_ble_eq_true rfl) (fun _ _ hq => ct_X9_worth _ _ hq) (fun q7 => ?_)
          refine si_if_eq 173 dX9_billOf_143 (by decide) ?_ ?_
          · refine si_iinc 6 (1) dX9_billOf_173 rfl (by decide) (by decide) ?_
            refine si_goto 97 dX9_billOf_176 (by decide) ?_
            refine si_widen 0 0 (Nat.le_of_ble_eq_true rfl) (Nat.le_of_ble_eq_true rfl) ?_
            refine si_lo [(0, lvR (some th)), (3, lvI (l3)), (4, lvI (l4)), (5, lvI (l5)), (6, lvI (l6 + (1)))] ⟨rfl, rfl, rfl, rfl, rfl, trivial⟩ ?_
            exact ih l3 l4 l5 (l6 + (1)) _
          · refine si_aload_n 0 dX9_billOf_146 rfl rfl ?_
            refine si_gR 10 13 fl_X9_56 dX9_billOf_147 (by decide) rfl (fun x9 => ?_)
            refine si_bipush (v := 16) dX9_billOf_150 (by decide) ?_
            refine si_iload_n 3 dX9_billOf_152 rfl rfl ?_
            refine si_imul dX9_billOf_153 ?_
            refine si_iload 6 dX9_billOf_154 rfl ?_
            refine si_iadd dX9_billOf_156 ?_
            refine si_ia dX9_billOf_157 (fun x10 => ?_)
            refine si_i2l dX9_billOf_158 ?_
            refine si_iload 5 dX9_billOf_159 rfl ?_
            refine si_i2l dX9_billOf_161 ?_
            refine si_lmul dX9_billOf_162 ?_
            refine si_iload 4 dX9_billOf_163 rfl ?_
            refine si_i2l dX9_billOf_165 ?_
            refine si_lmul dX9_billOf_166 ?_
            refine si_ldc2 dX9_billOf_167 kc_X9_312 ?_
            refine si_ldiv dX9_billOf_170 (by decide) ?_
            refine si_l2i dX9_billOf_171 ?_
            exact si_iret dX9_billOf_172 rfl (Nat.le_of_ble_eq_true rfl) (Nat.le_of_ble_eq_true rfl)
set_option maxHeartbeats 4000000 in
set_option maxRecDepth 100000 in
theorem s_X9_billOf {E : EV} (th : Nat) (a1 : Int32) (a2 : Int32) (h : HS) : Sim E mi_X9_billOf (fin oI) 0 0 0 (largs 0 [lvR (some th), lvI a1, lvI a2]) [] h (m_X9_billOf th a1 a2 h) := by
  unfold m_X9_billOf
  refine si_aload_n 0 dX9_billOf_0 rfl rfl ?_
  refine si_gR 10 51 fl_X9_153 dX9_billOf_1 (by decide) rfl (fun x1 => ?_)
  refine si_iload_n 2 dX9_billOf_4 rfl rfl ?_
  refine si_ia dX9_billOf_5 (fun x2 => ?_)
  refine si_istore_n 3 dX9_billOf_6 rfl (by decide) ?_
  refine si_aload_n 0 dX9_billOf_7 rfl rfl ?_
  refine si_gR 10 38 fl_X9_117 dX9_billOf_8 (by decide) rfl (fun x3 => ?_)
  refine si_bipush (v := 51) dX9_billOf_11 (by decide) ?_
  refine si_aload_n 0 dX9_billOf_13 rfl rfl ?_
  refine si_gR 10 40 fl_X9_120 dX9_billOf_14 (by decide) rfl (fun x4 => ?_)
  refine si_iload_n 1 dX9_billOf_17 rfl rfl ?_
  refine si_ia dX9_billOf_18 (fun x5 => ?_)
  refine si_imul dX9_billOf_19 ?_
  refine si_iload_n 2 dX9_billOf_20 rfl rfl ?_
  refine si_iadd dX9_billOf_21 ?_
  refine si_ia dX9_billOf_22 (fun x6 => ?_)
  refine si_istore 4 dX9_billOf_23 (by decide) ?_
  refine si_aload_n 0 dX9_billOf_25 rfl rfl ?_
  refine si_gR 10 48 fl_X9_144 dX9_billOf_26 (by decide) rfl (fun x7 => ?_)
  refine si_bipush (v := 51) dX9_billOf_29 (by decide) ?_
  refine si_iload_n 1 dX9_billOf_31 rfl rfl ?_
  refine si_imul dX9_billOf_32 ?_
  refine si_iload_n 2 dX9_billOf_33 rfl rfl ?_
  refine si_iadd dX9_billOf_34 ?_
  refine si_ia dX9_billOf_35 (fun x8 => ?_)
  refine si_istore 5 dX9_billOf_36 (by decide) ?_
  refine si_aload_n 0 dX9_billOf_38 rfl rfl ?_
  refine si_gR 10 22 fl_X9_77 dX9_billOf_39 (by decide) rfl (fun x9 => ?_)
  refine si_iconst (v := 0) dX9_billOf_42 (by decide) ?_
  refine si_aload_n 0 dX9_billOf_43 rfl rfl ?_
  refine si_gR 10 26 fl_X9_83 dX9_billOf_44 (by decide) rfl (fun x10 => ?_)
  refine si_aload_n 0 dX9_billOf_47 rfl rfl ?_
  refine si_gR 10 41 fl_X9_123 dX9_billOf_48 (by decide) rfl (fun x11 => ?_)
  refine si_iload_n 1 dX9_billOf_51 rfl rfl ?_
  refine si_ia dX9_billOf_52 (fun x12 => ?_)
  refine si_ia dX9_billOf_53 (fun x13 => ?_)
  refine si_is dX9_billOf_54 (fun h14 => ?_)
  refine si_aload_n 0 dX9_billOf_55 rfl rfl ?_
  refine si_gR 10 22 fl_X9_77 dX9_billOf_56 (by decide) rfl (fun x15 => ?_)
  refine si_iconst (v := 1) dX9_billOf_59 (by decide) ?_
  refine si_iload 4 dX9_billOf_60 rfl ?_
  refine si_sipush (v := 1000) dX9_billOf_62 (by decide) ?_
  refine si_idiv dX9_billOf_65 (by decide) ?_
  refine si_is dX9_billOf_66 (fun h16 => ?_)
  refine si_aload_n 0 dX9_billOf_67 rfl rfl ?_
  refine si_gR 10 22 fl_X9_77 dX9_billOf_68 (by decide) rfl (fun x17 => ?_)
  refine si_iconst (v := 2) dX9_billOf_71 (by decide) ?_
  refine si_iload 5 dX9_billOf_72 rfl ?_
  refine si_is dX9_billOf_74 (fun h18 => ?_)
  refine si_aload_n 0 dX9_billOf_75 rfl rfl ?_
  refine si_gR 10 22 fl_X9_77 dX9_billOf_76 (by decide) rfl (fun x19 => ?_)
  refine si_iconst (v := 3) dX9_billOf_79 (by decide) ?_
  refine si_iload_n 2 dX9_billOf_80 rfl rfl ?_
  refine si_is dX9_billOf_81 (fun h20 => ?_)
  refine si_aload_n 0 dX9_billOf_82 rfl rfl ?_
  refine si_gR 10 22 fl_X9_77 dX9_billOf_83 (by decide) rfl (fun x21 => ?_)
  refine si_iconst (v := 4) dX9_billOf_86 (by decide) ?_
  refine si_aload_n 0 dX9_billOf_87 rfl rfl ?_
  refine si_iload_n 1 dX9_billOf_88 rfl rfl ?_
  refine si_iload_n 2 dX9_billOf_89 rfl rfl ?_
  refine si_cvI 10 [lvI (a1), lvI (a2)] dX9_billOf_90 rfl mc_X9_weeksIn ml_X9_306 im_X9_weeksIn rfl se_X9_weeksIn (by decide) rfl ⟨Nat.le_of_ble_eq_true rfl, Nat.le_of_ble_eq_true rfl, Nat.le_of_ble_eq_true rfl, Nat.le_of_ble_eq_true rfl⟩ (Nat.le_of_ble_eq_true rfl) (fun _ _ hq => ct_X9_weeksIn _ _ hq) (fun q22 => ?_)
  refine si_is dX9_billOf_93 (fun h24 => ?_)
  refine si_iconst (v := 0) dX9_billOf_94 (by decide) ?_
  refine si_istore 6 dX9_billOf_95 (by decide) ?_
  refine si_widen 0 0 (Nat.le_of_ble_eq_true rfl) (Nat.le_of_ble_eq_true rfl) ?_
  refine si_lo [(0, lvR (some th)), (3, lvI (x2)), (4, lvI (x6)), (5, lvI (x8)), (6, lvI ((0 : Int32)))] ⟨rfl, rfl, rfl, rfl, rfl, trivial⟩ ?_
  exact X9_billOf_L97_s th FU x2 x6 x8 ((0 : Int32)) _
theorem ct_X9_billOf (l : Launch) (G : GG) {th : Nat} {a1 : Int32} {a2 : Int32} {h : HS} {q : Int32 × HS} (hq : m_X9_billOf th a1 a2 h = some q) : Ct l yX9_billOf mi_X9_billOf G [lvR (some th), lvI a1, lvI a2] h (oI q) := Ct.of (out := oI) (by decide +kernel) rfl rfl (Nat.le_of_ble_eq_true rfl) hq (fun _ _ _ _ _ _ _ _ => s_X9_billOf th a1 a2 h)
set_option maxHeartbeats 4000000 in
set_option maxRecDepth 100000 in
theorem s_X9_bill {E : EV} (th : Nat) (a1 : Int32) (a2 : Int32) (h : HS) : Sim E mi_X9_bill (fin oI) 0 0 0 (largs 0 [lvR (some th), lvI a1, lvI a2]) [] h (m_X9_bill th a1 a2 h) := by
  unfold m_X9_bill
  refine si_aload_n 0 dX9_bill_0 rfl rfl ?_
  refine si_iload_n 1 dX9_bill_1 rfl rfl ?_
  refine si_iload_n 2 dX9_bill_2 rfl rfl ?_
  refine si_cvI 10 [lvI (a1), lvI (a2)] dX9_bill_3 rfl mc_X9_billOf ml_X9_314 im_X9_billOf rfl se_X9_billOf (by decide) rfl ⟨Nat.le_of_ble_eq_true rfl, Nat.le_of_ble_eq_true rfl, Nat.le_of_ble_eq_true rfl, Nat.le_of_ble_eq_true rfl⟩ (Nat.le_of_ble_eq_true rfl) (fun _ _ hq => ct_X9_billOf _ _ hq) (fun q1 => ?_)
  refine si_aload_n 0 dX9_bill_6 rfl rfl ?_
  refine si_gR 10 49 fl_X9_147 dX9_bill_7 (by decide) rfl (fun x3 => ?_)
  refine si_bipush (v := 51) dX9_bill_10 (by decide) ?_
  refine si_iload_n 1 dX9_bill_12 rfl rfl ?_
  refine si_imul dX9_bill_13 ?_
  refine si_iload_n 2 dX9_bill_14 rfl rfl ?_
  refine si_iadd dX9_bill_15 ?_
  refine si_ia dX9_bill_16 (fun x4 => ?_)
  refine si_isub dX9_bill_17 ?_
  refine si_istore_n 3 dX9_bill_18 rfl (by decide) ?_
  refine si_aload_n 0 dX9_bill_19 rfl rfl ?_
  refine si_gR 10 49 fl_X9_147 dX9_bill_20 (by decide) rfl (fun x5 => ?_)
  refine si_bipush (v := 51) dX9_bill_23 (by decide) ?_
  refine si_iload_n 1 dX9_bill_25 rfl rfl ?_
  refine si_imul dX9_bill_26 ?_
  refine si_iload_n 2 dX9_bill_27 rfl rfl ?_
  refine si_iadd dX9_bill_28 ?_
  refine si_dup2 dX9_bill_29 rfl (cat_rf _) ?_
  refine si_ia dX9_bill_30 (fun x6 => ?_)
  refine si_iload_n 3 dX9_bill_31 rfl rfl ?_
  refine si_iadd dX9_bill_32 ?_
  refine si_is dX9_bill_33 (fun h7 => ?_)
  refine si_aload_n 0 dX9_bill_34 rfl rfl ?_
  refine si_gR 10 50 fl_X9_150 dX9_bill_35 (by decide) rfl (fun x8 => ?_)
  refine si_iload_n 1 dX9_bill_38 rfl rfl ?_
  refine si_dup2 dX9_bill_39 rfl (cat_rf _) ?_
  refine si_ia dX9_bill_40 (fun x9 => ?_)
  refine si_iload_n 3 dX9_bill_41 rfl rfl ?_
  refine si_iadd dX9_bill_42 ?_
  refine si_is dX9_bill_43 (fun h10 => ?_)
  refine si_aload_n 0 dX9_bill_44 rfl rfl ?_
  refine si_gR 10 33 fl_X9_105 dX9_bill_45 (by decide) rfl (fun x11 => ?_)
  refine si_aload_n 0 dX9_bill_48 rfl rfl ?_
  refine si_gR 10 41 fl_X9_123 dX9_bill_49 (by decide) rfl (fun x12 => ?_)
  refine si_iload_n 1 dX9_bill_52 rfl rfl ?_
  refine si_ia dX9_bill_53 (fun x13 => ?_)
  refine si_dup2 dX9_bill_54 rfl (cat_rf _) ?_
  refine si_ia dX9_bill_55 (fun x14 => ?_)
  refine si_iload_n 3 dX9_bill_56 rfl rfl ?_
  refine si_iadd dX9_bill_57 ?_
  refine si_is dX9_bill_58 (fun h15 => ?_)
  refine si_iload_n 3 dX9_bill_59 rfl rfl ?_
  exact si_iret dX9_bill_60 rfl (Nat.le_of_ble_eq_true rfl) (Nat.le_of_ble_eq_true rfl)
theorem ct_X9_bill (l : Launch) (G : GG) {th : Nat} {a1 : Int32} {a2 : Int32} {h : HS} {q : Int32 × HS} (hq : m_X9_bill th a1 a2 h = some q) : Ct l yX9_bill mi_X9_bill G [lvR (some th), lvI a1, lvI a2] h (oI q) := Ct.of (out := oI) (by decide +kernel) rfl rfl (Nat.le_of_ble_eq_true rfl) hq (fun _ _ _ _ _ _ _ _ => s_X9_bill th a1 a2 h)
set_option maxHeartbeats 4000000 in
set_option maxRecDepth 100000 in
theorem X9_bills_L45_s {E : EV} (th : Nat) (n : Nat) : ∀ (l1 : Int32) (l2 : Int32) (h : HS), Sim E mi_X9_bills (fin oV) 0 0 45 [(0, lvR (some th)), (1, lvI (l1)), (2, lvI (l2))] [] h (X9_bills_L45 th n l1 l2 h) := by
  induction n with
  | zero => intro l1 l2 h; exact si_none
  | succ n ih =>
    intro l1 l2 h
    unfold X9_bills_L45
    refine si_iload_n 2 dX9_bills_45 rfl rfl ?_
    refine si_aload_n 0 dX9_bills_46 rfl rfl ?_
    refine si_gI 10 39 fl_X9_273 dX9_bills_47 (by decide) rfl (fun x1 => ?_)
    refine si_icmp_ge 66 dX9_bills_50 (by decide) ?_ ?_
    · exact si_vret dX9_bills_66 rfl (Nat.le_of_ble_eq_true rfl) (Nat.le_of_ble_eq_true rfl)
    · refine si_aload_n 0 dX9_bills_53 rfl rfl ?_
      refine si_iload_n 2 dX9_bills_54 rfl rfl ?_
      refine si_iload_n 1 dX9_bills_55 rfl rfl ?_
      refine si_cvI 10 [lvI (l2), lvI (l1)] dX9_bills_56 rfl mc_X9_bill ml_X9_317 im_X9_bill rfl se_X9_bill (by decide) rfl ⟨Nat.le_of_ble_eq_true rfl, Nat.le_of_ble_eq_true rfl, Nat.le_of_ble_eq_true rfl, Nat.le_of_ble_eq_true rfl⟩ (Nat.le_of_ble_eq_true rfl) (fun _ _ hq => ct_X9_bill _ _ hq) (fun q2 => ?_)
      refine si_istore_n 3 dX9_bills_59 rfl (by decide) ?_
      refine si_iinc 2 (1) dX9_bills_60 rfl (by decide) (by decide) ?_
      refine si_goto 45 dX9_bills_63 (by decide) ?_
      refine si_widen 0 0 (Nat.le_of_ble_eq_true rfl) (Nat.le_of_ble_eq_true rfl) ?_
      refine si_lo [(0, lvR (some th)), (1, lvI (l1)), (2, lvI (l2 + (1)))] ⟨rfl, rfl, rfl, trivial⟩ ?_
      exact ih l1 (l2 + (1)) _
set_option maxHeartbeats 4000000 in
set_option maxRecDepth 100000 in
theorem X9_bills_L12_s {E : EV} (th : Nat) (n : Nat) : ∀ (l1 : Int32) (l2 : Int32) (h : HS), Sim E mi_X9_bills (fin oV) 0 0 12 [(0, lvR (some th)), (1, lvI (l1)), (2, lvI (l2))] [] h (X9_bills_L12 th n l1 l2 h) := by
  induction n with
  | zero => intro l1 l2 h; exact si_none
  | succ n ih =>
    intro l1 l2 h
    unfold X9_bills_L12
    refine si_iload_n 2 dX9_bills_12 rfl rfl ?_
    refine si_aload_n 0 dX9_bills_13 rfl rfl ?_
    refine si_gI 10 34 fl_X9_261 dX9_bills_14 (by decide) rfl (fun x1 => ?_)
    refine si_icmp_ge 43 dX9_bills_17 (by decide) ?_ ?_
    · refine si_iconst (v := 0) dX9_bills_43 (by decide) ?_
      refine si_istore_n 2 dX9_bills_44 rfl (by decide) ?_
      refine si_widen 0 0 (Nat.le_of_ble_eq_true rfl) (Nat.le_of_ble_eq_true rfl) ?_
      refine si_lo [(0, lvR (some th)), (1, lvI (l1)), (2, lvI ((0 : Int32)))] ⟨rfl, rfl, rfl, trivial⟩ ?_
      exact X9_bills_L45_s th FU l1 ((0 : Int32)) _
    · refine si_aload_n 0 dX9_bills_20 rfl rfl ?_
      refine si_gR 10 38 fl_X9_117 dX9_bills_21 (by decide) rfl (fun x2 => ?_)
      refine si_bipush (v := 51) dX9_bills_24 (by decide) ?_
      refine si_iload_n 2 dX9_bills_26 rfl rfl ?_
      refine si_imul dX9_bills_27 ?_
      refine si_iload_n 1 dX9_bills_28 rfl rfl ?_
      refine si_iadd dX9_bills_29 ?_
      refine si_aload_n 0 dX9_bills_30 rfl rfl ?_
      refine si_gR 10 37 fl_X9_114 dX9_bills_31 (by decide) rfl (fun x3 => ?_)
      refine si_iload_n 2 dX9_bills_34 rfl rfl ?_
      refine si_ia dX9_bills_35 (fun x4 => ?_)
      refine si_is dX9_bills_36 (fun h5 => ?_)
      refine si_iinc 2 (1) dX9_bills_37 rfl (by decide) (by decide) ?_
      refine si_goto 12 dX9_bills_40 (by decide) ?_
      refine si_widen 0 0 (Nat.le_of_ble_eq_true rfl) (Nat.le_of_ble_eq_true rfl) ?_
      refine si_lo [(0, lvR (some th)), (1, lvI (l1)), (2, lvI (l2 + (1)))] ⟨rfl, rfl, rfl, trivial⟩ ?_
      exact ih l1 (l2 + (1)) _
set_option maxHeartbeats 4000000 in
set_option maxRecDepth 100000 in
theorem s_X9_bills {E : EV} (th : Nat) (a1 : Int32) (h : HS) : Sim E mi_X9_bills (fin oV) 0 0 0 (largs 0 [lvR (some th), lvI a1]) [] h (m_X9_bills th a1 h) := by
  unfold m_X9_bills
  refine si_aload_n 0 dX9_bills_0 rfl rfl ?_
  refine si_gR 10 51 fl_X9_153 dX9_bills_1 (by decide) rfl (fun x1 => ?_)
  refine si_iload_n 1 dX9_bills_4 rfl rfl ?_
  refine si_aload_n 0 dX9_bills_5 rfl rfl ?_
  refine si_gI 10 11 fl_X9_162 dX9_bills_6 (by decide) rfl (fun x2 => ?_)
  refine si_is dX9_bills_9 (fun h3 => ?_)
  refine si_iconst (v := 0) dX9_bills_10 (by decide) ?_
  refine si_istore_n 2 dX9_bills_11 rfl (by decide) ?_
  refine si_widen 0 0 (Nat.le_of_ble_eq_true rfl) (Nat.le_of_ble_eq_true rfl) ?_
  refine si_lo [(0, lvR (some th)), (1, lvI (a1)), (2, lvI ((0 : Int32)))] ⟨rfl, rfl, rfl, trivial⟩ ?_
  exact X9_bills_L12_s th FU a1 ((0 : Int32)) _
theorem ct_X9_bills (l : Launch) (G : GG) {th : Nat} {a1 : Int32} {h : HS} {q : HS} (hq : m_X9_bills th a1 h = some q) : Ct l yX9_bills mi_X9_bills G [lvR (some th), lvI a1] h (oV q) := Ct.of (out := oV) (by decide +kernel) rfl rfl (Nat.le_of_ble_eq_true rfl) hq (fun _ _ _ _ _ _ _ _ => s_X9_bills th a1 h)
set_option maxHeartbeats 4000000 in
set_option maxRecDepth 100000 in
theorem X9_week_b73_s {E : EV} (th : Nat) (go12 : Int32 → HS → Option (HS)) (hg12 : ∀ (l1 : Int32) (h : HS), Sim E mi_X9_week (fin oV) 0 0 12 [(0, lvR (some th)), (1, lvI (l1))] [] h (go12 l1 h)) (l1 : Int32) (h : HS) : Sim E mi_X9_week (fin oV) 0 0 73 [(0, lvR (some th)), (1, lvI (l1))] [] h (X9_week_b73 th go12 l1 h) := by
  unfold X9_week_b73
  refine si_iinc 1 (1) dX9_week_73 rfl (by decide) (by decide) ?_
  refine si_goto 12 dX9_week_76 (by decide) ?_
  refine si_widen 0 0 (Nat.le_of_ble_eq_true rfl) (Nat.le_of_ble_eq_true rfl) ?_
  refine si_lo [(0, lvR (some th)), (1, lvI (l1 + (1)))] ⟨rfl, rfl, trivial⟩ ?_
  exact hg12 (l1 + (1)) _
set_option maxHeartbeats 4000000 in
set_option maxRecDepth 100000 in
theorem X9_week_b106_s {E : EV} (th : Nat) (go81 : Int32 → HS → Option (HS)) (hg81 : ∀ (l1 : Int32) (h : HS), Sim E mi_X9_week (fin oV) 0 0 81 [(0, lvR (some th)), (1, lvI (l1))] [] h (go81 l1 h)) (l1 : Int32) (h : HS) : Sim E mi_X9_week (fin oV) 0 0 106 [(0, lvR (some th)), (1, lvI (l1))] [] h (X9_week_b106 th go81 l1 h) := by
  unfold X9_week_b106
  refine si_aload_n 0 dX9_week_106 rfl rfl ?_
  refine si_gR 10 46 fl_X9_138 dX9_week_107 (by decide) rfl (fun x1 => ?_)
  refine si_iload_n 1 dX9_week_110 rfl rfl ?_
  refine si_iconst (v := 0) dX9_week_111 (by decide) ?_
  refine si_zs dX9_week_112 (fun h2 => ?_)
  refine si_iinc 1 (1) dX9_week_113 rfl (by decide) (by decide) ?_
  refine si_goto 81 dX9_week_116 (by decide) ?_
  refine si_widen 0 0 (Nat.le_of_ble_eq_true rfl) (Nat.le_of_ble_eq_true rfl) ?_
  refine si_lo [(0, lvR (some th)), (1, lvI (l1 + (1)))] ⟨rfl, rfl, trivial⟩ ?_
  exact hg81 (l1 + (1)) _
set_option maxHeartbeats 4000000 in
set_option maxRecDepth 100000 in
theorem X9_week_L81_s {E : EV} (th : Nat) (n : Nat) : ∀ (l1 : Int32) (h : HS), Sim E mi_X9_week (fin oV) 0 0 81 [(0, lvR (some th)), (1, lvI (l1))] [] h (X9_week_L81 th n l1 h) := by
  induction n with
  | zero => intro l1 h; exact si_none
  | succ n ih =>
    intro l1 h
    unfold X9_week_L81
    refine si_iload_n 1 dX9_week_81 rfl rfl ?_
    refine si_aload_n 0 dX9_week_82 rfl rfl ?_
    refine si_gI 10 39 fl_X9_273 dX9_week_83 (by decide) rfl (fun x1 => ?_)
    refine si_icmp_ge 119 dX9_week_86 (by decide) ?_ ?_
    · refine si_aload_n 0 dX9_week_119 rfl rfl ?_
      refine si_gI 10 24 fl_X9_264 dX9_week_120 (by decide) rfl (fun x2 => ?_)
      refine si_iconst (v := 4) dX9_week_123 (by decide) ?_
      refine si_irem dX9_week_124 (by decide) ?_
      refine si_if_ne 140 dX9_week_125 (by decide) ?_ ?_
      · refine si_aload_n 0 dX9_week_128 rfl rfl ?_
        refine si_aload_n 0 dX9_week_129 rfl rfl ?_
        refine si_gI 10 24 fl_X9_264 dX9_week_130 (by decide) rfl (fun x3 => ?_)
        refine si_iconst (v := 4) dX9_week_133 (by decide) ?_
        refine si_idiv dX9_week_134 (by decide) ?_
        refine si_iconst (v := 1) dX9_week_135 (by decide) ?_
        refine si_isub dX9_week_136 ?_
        refine si_cvV 10 [lvI ((x3 / (4 : Int32)) - (1 : Int32))] dX9_week_137 rfl mc_X9_bills ml_X9_300 im_X9_bills rfl se_X9_bills (by decide) rfl ⟨Nat.le_of_ble_eq_true rfl, Nat.le_of_ble_eq_true rfl, Nat.le_of_ble_eq_true rfl, Nat.le_of_ble_eq_true rfl⟩ (Nat.le_of_ble_eq_true rfl) (fun _ _ hq => ct_X9_bills _ _ hq) (fun h4 => ?_)
        exact si_vret dX9_week_140 rfl (Nat.le_of_ble_eq_true rfl) (Nat.le_of_ble_eq_true rfl)
      · exact si_vret dX9_week_140 rfl (Nat.le_of_ble_eq_true rfl) (Nat.le_of_ble_eq_true rfl)
    · refine si_aload_n 0 dX9_week_89 rfl rfl ?_
      refine si_iload_n 1 dX9_week_90 rfl rfl ?_
      refine si_aload_n 0 dX9_week_91 rfl rfl ?_
      refine si_gI 10 24 fl_X9_264 dX9_week_92 (by decide) rfl (fun x6 => ?_)
      refine si_cvI 10 [lvI (l1), lvI (x6)] dX9_week_95 rfl mc_X9_runsIn ml_X9_276 im_X9_runsIn rfl se_X9_runsIn (by decide) rfl ⟨Nat.le_of_ble_eq_true rfl, Nat.le_of_ble_eq_true rfl, Nat.le_of_ble_eq_true rfl, Nat.le_of_ble_eq_true rfl⟩ (Nat.le_of_ble_eq_true rfl) (fun _ _ hq => ct_X9_runsIn _ _ hq) (fun q7 => ?_)
      refine si_if_eq 106 dX9_week_98 (by decide) ?_ ?_
      · refine si_widen 0 0 (Nat.le_of_ble_eq_true rfl) (Nat.le_of_ble_eq_true rfl) ?_
        refine si_lo [(0, lvR (some th)), (1, lvI (l1))] ⟨rfl, rfl, trivial⟩ ?_
        exact X9_week_b106_s th (X9_week_L81 th n) ih l1 _
      · refine si_aload_n 0 dX9_week_101 rfl rfl ?_
        refine si_iload_n 1 dX9_week_102 rfl rfl ?_
        refine si_cvV 10 [lvI (l1)] dX9_week_103 rfl mc_X9_runs ml_X9_297 im_X9_runs rfl se_X9_runs (by decide) rfl ⟨Nat.le_of_ble_eq_true rfl, Nat.le_of_ble_eq_true rfl, Nat.le_of_ble_eq_true rfl, Nat.le_of_ble_eq_true rfl⟩ (Nat.le_of_ble_eq_true rfl) (fun _ _ hq => ct_X9_runs _ _ hq) (fun h9 => ?_)
        refine si_widen 0 0 (Nat.le_of_ble_eq_true rfl) (Nat.le_of_ble_eq_true rfl) ?_
        refine si_lo [(0, lvR (some th)), (1, lvI (l1))] ⟨rfl, rfl, trivial⟩ ?_
        exact X9_week_b106_s th (X9_week_L81 th n) ih l1 _
set_option maxHeartbeats 4000000 in
set_option maxRecDepth 100000 in
theorem X9_week_L12_s {E : EV} (th : Nat) (n : Nat) : ∀ (l1 : Int32) (h : HS), Sim E mi_X9_week (fin oV) 0 0 12 [(0, lvR (some th)), (1, lvI (l1))] [] h (X9_week_L12 th n l1 h) := by
  induction n with
  | zero => intro l1 h; exact si_none
  | succ n ih =>
    intro l1 h
    unfold X9_week_L12
    refine si_iload_n 1 dX9_week_12 rfl rfl ?_
    refine si_aload_n 0 dX9_week_13 rfl rfl ?_
    refine si_gI 10 25 fl_X9_257 dX9_week_14 (by decide) rfl (fun x1 => ?_)
    refine si_icmp_ge 79 dX9_week_17 (by decide) ?_ ?_
    · refine si_iconst (v := 0) dX9_week_79 (by decide) ?_
      refine si_istore_n 1 dX9_week_80 rfl (by decide) ?_
      refine si_widen 0 0 (Nat.le_of_ble_eq_true rfl) (Nat.le_of_ble_eq_true rfl) ?_
      refine si_lo [(0, lvR (some th)), (1, lvI ((0 : Int32)))] ⟨rfl, rfl, trivial⟩ ?_
      exact X9_week_L81_s th FU ((0 : Int32)) _
    · refine si_aload_n 0 dX9_week_20 rfl rfl ?_
      refine si_gR 10 29 fl_X9_92 dX9_week_21 (by decide) rfl (fun x2 => ?_)
      refine si_iload_n 1 dX9_week_24 rfl rfl ?_
      refine si_za dX9_week_25 (fun x3 => ?_)
      refine si_if_ne 73 dX9_week_26 (by decide) ?_ ?_
      · refine si_aload_n 0 dX9_week_29 rfl rfl ?_
        refine si_gI 10 24 fl_X9_264 dX9_week_30 (by decide) rfl (fun x4 => ?_)
        refine si_aload_n 0 dX9_week_33 rfl rfl ?_
        refine si_gR 10 30 fl_X9_96 dX9_week_34 (by decide) rfl (fun x5 => ?_)
        refine si_iload_n 1 dX9_week_37 rfl rfl ?_
        refine si_ia dX9_week_38 (fun x6 => ?_)
        refine si_icmp_le 73 dX9_week_39 (by decide) ?_ ?_
        · refine si_widen 0 0 (Nat.le_of_ble_eq_true rfl) (Nat.le_of_ble_eq_true rfl) ?_
          refine si_lo [(0, lvR (some th)), (1, lvI (l1))] ⟨rfl, rfl, trivial⟩ ?_
          exact X9_week_b73_s th (X9_week_L12 th n) ih l1 _
        · refine si_aload_n 0 dX9_week_42 rfl rfl ?_
          refine si_gR 10 31 fl_X9_99 dX9_week_43 (by decide) rfl (fun x7 => ?_)
          refine si_iload_n 1 dX9_week_46 rfl rfl ?_
          refine si_dup2 dX9_week_47 rfl (cat_rf _) ?_
          refine si_ia dX9_week_48 (fun x8 => ?_)
          refine si_iconst (v := 1) dX9_week_49 (by decide) ?_
          refine si_iadd dX9_week_50 ?_
          refine si_is dX9_week_51 (fun h9 => ?_)
          refine si_aload_n 0 dX9_week_52 rfl rfl ?_
          refine si_gR 10 32 fl_X9_102 dX9_week_53 (by decide) rfl (fun x10 => ?_)
          refine si_sipush (v := 202) dX9_week_56 (by decide) ?_
          refine si_iload_n 1 dX9_week_59 rfl rfl ?_
          refine si_imul dX9_week_60 ?_
          refine si_aload_n 0 dX9_week_61 rfl rfl ?_
          refine si_gR 10 31 fl_X9_99 dX9_week_62 (by decide) rfl (fun x11 => ?_)
          refine si_iload_n 1 dX9_week_65 rfl rfl ?_
          refine si_ia dX9_week_66 (fun x12 => ?_)
          refine si_iadd dX9_week_67 ?_
          refine si_aload_n 0 dX9_week_68 rfl rfl ?_
          refine si_gI 10 24 fl_X9_264 dX9_week_69 (by decide) rfl (fun x13 => ?_)
          refine si_is dX9_week_72 (fun h14 => ?_)
          refine si_widen 0 0 (Nat.le_of_ble_eq_true rfl) (Nat.le_of_ble_eq_true rfl) ?_
          refine si_lo [(0, lvR (some th)), (1, lvI (l1))] ⟨rfl, rfl, trivial⟩ ?_
          exact X9_week_b73_s th (X9_week_L12 th n) ih l1 _
      · refine si_widen 0 0 (Nat.le_of_ble_eq_true rfl) (Nat.le_of_ble_eq_true rfl) ?_
        refine si_lo [(0, lvR (some th)), (1, lvI (l1))] ⟨rfl, rfl, trivial⟩ ?_
        exact X9_week_b73_s th (X9_week_L12 th n) ih l1 _
set_option maxHeartbeats 4000000 in
set_option maxRecDepth 100000 in
theorem s_X9_week {E : EV} (th : Nat) (h : HS) : Sim E mi_X9_week (fin oV) 0 0 0 (largs 0 [lvR (some th)]) [] h (m_X9_week th h) := by
  unfold m_X9_week
  refine si_aload_n 0 dX9_week_0 rfl rfl ?_
  refine si_dup dX9_week_1 (cat_rf _) ?_
  refine si_gI 10 24 fl_X9_264 dX9_week_2 (by decide) rfl (fun x1 => ?_)
  refine si_iconst (v := 1) dX9_week_5 (by decide) ?_
  refine si_iadd dX9_week_6 ?_
  refine si_pI 10 24 fl_X9_264 dX9_week_7 (by decide) rfl rfl rfl (fw_X9_264 _) (fun h2 => ?_)
  refine si_iconst (v := 0) dX9_week_10 (by decide) ?_
  refine si_istore_n 1 dX9_week_11 rfl (by decide) ?_
  refine si_widen 0 0 (Nat.le_of_ble_eq_true rfl) (Nat.le_of_ble_eq_true rfl) ?_
  refine si_lo [(0, lvR (some th)), (1, lvI ((0 : Int32)))] ⟨rfl, rfl, trivial⟩ ?_
  exact X9_week_L12_s th FU ((0 : Int32)) _
theorem ct_X9_week (l : Launch) (G : GG) {th : Nat} {h : HS} {q : HS} (hq : m_X9_week th h = some q) : Ct l yX9_week mi_X9_week G [lvR (some th)] h (oV q) := Ct.of (out := oV) (by decide +kernel) rfl rfl (Nat.le_of_ble_eq_true rfl) hq (fun _ _ _ _ _ _ _ _ => s_X9_week th h)
set_option maxHeartbeats 4000000 in
set_option maxRecDepth 100000 in
theorem X9_weeks_L31_s {E : EV} (th : Nat) (n : Nat) : ∀ (l1 : Int32) (l2 : Int32) (h : HS), Sim E mi_X9_weeks (fin oI) 0 0 31 [(0, lvR (some th)), (1, lvI (l1)), (2, lvI (l2))] [] h (X9_weeks_L31 th n l1 l2 h) := by
  induction n with
  | zero => intro l1 l2 h; exact si_none
  | succ n ih =>
    intro l1 l2 h
    unfold X9_weeks_L31
    refine si_iload_n 2 dX9_weeks_31 rfl rfl ?_
    refine si_iload_n 1 dX9_weeks_32 rfl rfl ?_
    refine si_icmp_ge 46 dX9_weeks_33 (by decide) ?_ ?_
    · refine si_aload_n 0 dX9_weeks_46 rfl rfl ?_
      refine si_gI 10 24 fl_X9_264 dX9_weeks_47 (by decide) rfl (fun x1 => ?_)
      exact si_iret dX9_weeks_50 rfl (Nat.le_of_ble_eq_true rfl) (Nat.le_of_ble_eq_true rfl)
    · refine si_aload_n 0 dX9_weeks_36 rfl rfl ?_
      refine si_cvV 10 [] dX9_weeks_37 rfl mc_X9_week ml_X9_303 im_X9_week rfl se_X9_week (by decide) rfl ⟨Nat.le_of_ble_eq_true rfl, Nat.le_of_ble_eq_true rfl, Nat.le_of_ble_eq_true rfl, Nat.le_of_ble_eq_true rfl⟩ (Nat.le_of_ble_eq_true rfl) (fun _ _ hq => ct_X9_week _ _ hq) (fun h2 => ?_)
      refine si_iinc 2 (1) dX9_weeks_40 rfl (by decide) (by decide) ?_
      refine si_goto 31 dX9_weeks_43 (by decide) ?_
      refine si_widen 0 0 (Nat.le_of_ble_eq_true rfl) (Nat.le_of_ble_eq_true rfl) ?_
      refine si_lo [(0, lvR (some th)), (1, lvI (l1)), (2, lvI (l2 + (1)))] ⟨rfl, rfl, rfl, trivial⟩ ?_
      exact ih l1 (l2 + (1)) _
set_option maxHeartbeats 4000000 in
set_option maxRecDepth 100000 in
theorem s_X9_weeks {E : EV} (th : Nat) (a1 : Int32) (h : HS) : Sim E mi_X9_weeks (fin oI) 0 0 0 (largs 0 [lvR (some th), lvI a1]) [] h (m_X9_weeks th a1 h) := by
  unfold m_X9_weeks
  refine si_aload_n 0 dX9_weeks_0 rfl rfl ?_
  refine si_iconst (v := 0) dX9_weeks_1 (by decide) ?_
  refine si_pI 10 0 fl_X9_1 dX9_weeks_2 (by decide) rfl rfl rfl (fw_X9_1 _) (fun h1 => ?_)
  refine si_iload_n 1 dX9_weeks_5 rfl rfl ?_
  refine si_if_lt 27 dX9_weeks_6 (by decide) ?_ ?_
  · refine si_iconst (v := -1) dX9_weeks_27 (by decide) ?_
    exact si_iret dX9_weeks_28 rfl (Nat.le_of_ble_eq_true rfl) (Nat.le_of_ble_eq_true rfl)
  · refine si_iload_n 1 dX9_weeks_9 rfl rfl ?_
    refine si_bipush (v := 30) dX9_weeks_10 (by decide) ?_
    refine si_icmp_gt 27 dX9_weeks_12 (by decide) ?_ ?_
    · refine si_iconst (v := -1) dX9_weeks_27 (by decide) ?_
      exact si_iret dX9_weeks_28 rfl (Nat.le_of_ble_eq_true rfl) (Nat.le_of_ble_eq_true rfl)
    · refine si_aload_n 0 dX9_weeks_15 rfl rfl ?_
      refine si_gI 10 24 fl_X9_264 dX9_weeks_16 (by decide) rfl (fun x2 => ?_)
      refine si_iload_n 1 dX9_weeks_19 rfl rfl ?_
      refine si_iadd dX9_weeks_20 ?_
      refine si_sipush (v := 200) dX9_weeks_21 (by decide) ?_
      refine si_icmp_le 29 dX9_weeks_24 (by decide) ?_ ?_
      · refine si_iconst (v := 0) dX9_weeks_29 (by decide) ?_
        refine si_istore_n 2 dX9_weeks_30 rfl (by decide) ?_
        refine si_widen 0 0 (Nat.le_of_ble_eq_true rfl) (Nat.le_of_ble_eq_true rfl) ?_
        refine si_lo [(0, lvR (some th)), (1, lvI (a1)), (2, lvI ((0 : Int32)))] ⟨rfl, rfl, rfl, trivial⟩ ?_
        exact X9_weeks_L31_s th FU a1 ((0 : Int32)) _
      · refine si_iconst (v := -1) dX9_weeks_27 (by decide) ?_
        exact si_iret dX9_weeks_28 rfl (Nat.le_of_ble_eq_true rfl) (Nat.le_of_ble_eq_true rfl)
theorem ct_X9_weeks (l : Launch) (G : GG) {th : Nat} {a1 : Int32} {h : HS} {q : Int32 × HS} (hq : m_X9_weeks th a1 h = some q) : Ct l yX9_weeks mi_X9_weeks G [lvR (some th), lvI a1] h (oI q) := Ct.of (out := oI) (by decide +kernel) rfl rfl (Nat.le_of_ble_eq_true rfl) hq (fun _ _ _ _ _ _ _ _ => s_X9_weeks th a1 h)
set_option maxHeartbeats 4000000 in
set_option maxRecDepth 100000 in
theorem X9_right_b102_s {E : EV} (th : Nat) (go69 : Int32 → Int32 → Int32 → Int32 → HS → Option (Int32 × HS)) (hg69 : ∀ (l1 : Int32) (l2 : Int32) (l4 : Int32) (l5 : Int32) (h : HS), Sim E mi_X9_right (fin oI) 0 0 69 [(0, lvR (some th)), (1, lvI (l1)), (2, lvI (l2)), (4, lvI (l4)), (5, lvI (l5))] [] h (go69 l1 l2 l4 l5 h)) (l1 : Int32) (l2 : Int32) (l5 : Int32) (s1 : Int32) (s0 : Int32) (h : HS) : Sim E mi_X9_right (fin oI) 0 0 102 [(0, lvR (some th)), (1, lvI (l1)), (2, lvI (l2)), (5, lvI (l5))] [.int (s1), .int (s0)] h (X9_right_b102 th go69 l1 l2 l5 s1 s0 h) := by
  unfold X9_right_b102
  refine si_iadd dX9_right_102 ?_
  refine si_istore 4 dX9_right_103 (by decide) ?_
  refine si_iinc 5 (1) dX9_right_105 rfl (by decide) (by decide) ?_
  refine si_goto 69 dX9_right_108 (by decide) ?_
  refine si_widen 0 0 (Nat.le_of_ble_eq_true rfl) (Nat.le_of_ble_eq_true rfl) ?_
  refine si_lo [(0, lvR (some th)), (1, lvI (l1)), (2, lvI (l2)), (4, lvI (s0 + s1)), (5, lvI (l5 + (1)))] ⟨rfl, rfl, rfl, rfl, rfl, trivial⟩ ?_
  exact hg69 l1 l2 (s0 + s1) (l5 + (1)) _
set_option maxHeartbeats 4000000 in
set_option maxRecDepth 100000 in
theorem X9_right_L69_s {E : EV} (th : Nat) (n : Nat) : ∀ (l1 : Int32) (l2 : Int32) (l4 : Int32) (l5 : Int32) (h : HS), Sim E mi_X9_right (fin oI) 0 0 69 [(0, lvR (some th)), (1, lvI (l1)), (2, lvI (l2)), (4, lvI (l4)), (5, lvI (l5))] [] h (X9_right_L69 th n l1 l2 l4 l5 h) := by
  induction n with
  | zero => intro l1 l2 l4 l5 h; exact si_none
  | succ n ih =>
    intro l1 l2 l4 l5 h
    unfold X9_right_L69
    refine si_iload 5 dX9_right_69 rfl ?_
    refine si_aload_n 0 dX9_right_71 rfl rfl ?_
    refine si_gI 10 39 fl_X9_273 dX9_right_72 (by decide) rfl (fun x1 => ?_)
    refine si_icmp_ge 111 dX9_right_75 (by decide) ?_ ?_
    · refine si_iload 4 dX9_right_111 rfl ?_
      exact si_iret dX9_right_113 rfl (Nat.le_of_ble_eq_true rfl) (Nat.le_of_ble_eq_true rfl)
    · refine si_iload 4 dX9_right_78 rfl ?_
      refine si_aload_n 0 dX9_right_80 rfl rfl ?_
      refine si_gR 10 40 fl_X9_120 dX9_right_81 (by decide) rfl (fun x2 => ?_)
      refine si_iload 5 dX9_right_84 rfl ?_
      refine si_ia dX9_right_86 (fun x3 => ?_)
      refine si_iload_n 1 dX9_right_87 rfl rfl ?_
      refine si_icmp_ne 101 dX9_right_88 (by decide) ?_ ?_
      · refine si_aload_n 0 dX9_right_91 rfl rfl ?_
        refine si_iload 5 dX9_right_92 rfl ?_
        refine si_iload_n 2 dX9_right_94 rfl rfl ?_
        refine si_cvI 10 [lvI (l5), lvI (l2)] dX9_right_95 rfl mc_X9_bill ml_X9_317 im_X9_bill rfl se_X9_bill (by decide) rfl ⟨Nat.le_of_ble_eq_true rfl, Nat.le_of_ble_eq_true rfl, Nat.le_of_ble_eq_true rfl, Nat.le_of_ble_eq_true rfl⟩ (Nat.le_of_ble_eq_true rfl) (fun _ _ hq => ct_X9_bill _ _ hq) (fun q4 => ?_)
        refine si_goto 102 dX9_right_98 (by decide) ?_
        refine si_widen 0 0 (Nat.le_of_ble_eq_true rfl) (Nat.le_of_ble_eq_true rfl) ?_
        refine si_lo [(0, lvR (some th)), (1, lvI (l1)), (2, lvI (l2)), (5, lvI (l5))] ⟨rfl, rfl, rfl, rfl, trivial⟩ ?_
        exact X9_right_b102_s th (X9_right_L69 th n) ih l1 l2 l5 q4.1 l4 _
      · refine si_iconst (v := 0) dX9_right_101 (by decide) ?_
        refine si_widen 0 0 (Nat.le_of_ble_eq_true rfl) (Nat.le_of_ble_eq_true rfl) ?_
        refine si_lo [(0, lvR (some th)), (1, lvI (l1)), (2, lvI (l2)), (5, lvI (l5))] ⟨rfl, rfl, rfl, rfl, trivial⟩ ?_
        exact X9_right_b102_s th (X9_right_L69 th n) ih l1 l2 l5 ((0 : Int32)) l4 _
set_option maxHeartbeats 4000000 in
set_option maxRecDepth 100000 in
theorem X9_right_b39_s {E : EV} (th : Nat) (l1 : Int32) (l2 : Int32) (l3 : Int32) (s1 : Int32) (s0 : Option Nat) (h : HS) : Sim E mi_X9_right (fin oI) 0 0 39 [(0, lvR (some th)), (1, lvI (l1)), (2, lvI (l2)), (3, lvI (l3))] [.int (s1), va_rf (s0)] h (X9_right_b39 th l1 l2 l3 s1 s0 h) := by
  unfold X9_right_b39
  refine si_pI 10 0 fl_X9_1 dX9_right_39 (by decide) rfl rfl rfl (fw_X9_1 _) (fun h1 => ?_)
  refine si_aload_n 0 dX9_right_42 rfl rfl ?_
  refine si_gI 10 0 fl_X9_1 dX9_right_43 (by decide) rfl (fun x2 => ?_)
  refine si_if_le 51 dX9_right_46 (by decide) ?_ ?_
  · refine si_aload_n 0 dX9_right_51 rfl rfl ?_
    refine si_gR 10 38 fl_X9_117 dX9_right_52 (by decide) rfl (fun x3 => ?_)
    refine si_bipush (v := 51) dX9_right_55 (by decide) ?_
    refine si_iload_n 1 dX9_right_57 rfl rfl ?_
    refine si_imul dX9_right_58 ?_
    refine si_iload_n 2 dX9_right_59 rfl rfl ?_
    refine si_iadd dX9_right_60 ?_
    refine si_iload_n 3 dX9_right_61 rfl rfl ?_
    refine si_is dX9_right_62 (fun h4 => ?_)
    refine si_iconst (v := 0) dX9_right_63 (by decide) ?_
    refine si_istore 4 dX9_right_64 (by decide) ?_
    refine si_iconst (v := 0) dX9_right_66 (by decide) ?_
    refine si_istore 5 dX9_right_67 (by decide) ?_
    refine si_widen 0 0 (Nat.le_of_ble_eq_true rfl) (Nat.le_of_ble_eq_true rfl) ?_
    refine si_lo [(0, lvR (some th)), (1, lvI (l1)), (2, lvI (l2)), (4, lvI ((0 : Int32))), (5, lvI ((0 : Int32)))] ⟨rfl, rfl, rfl, rfl, rfl, trivial⟩ ?_
    exact X9_right_L69_s th FU l1 l2 ((0 : Int32)) ((0 : Int32)) _
  · refine si_iconst (v := 0) dX9_right_49 (by decide) ?_
    exact si_iret dX9_right_50 rfl (Nat.le_of_ble_eq_true rfl) (Nat.le_of_ble_eq_true rfl)
set_option maxHeartbeats 4000000 in
set_option maxRecDepth 100000 in
theorem X9_right_b38_s {E : EV} (th : Nat) (l1 : Int32) (l2 : Int32) (l3 : Int32) (s0 : Option Nat) (h : HS) : Sim E mi_X9_right (fin oI) 0 0 38 [(0, lvR (some th)), (1, lvI (l1)), (2, lvI (l2)), (3, lvI (l3))] [va_rf (s0)] h (X9_right_b38 th l1 l2 l3 s0 h) := by
  unfold X9_right_b38
  refine si_iconst (v := 1) dX9_right_38 (by decide) ?_
  refine si_widen 0 0 (Nat.le_of_ble_eq_true rfl) (Nat.le_of_ble_eq_true rfl) ?_
  refine si_lo [(0, lvR (some th)), (1, lvI (l1)), (2, lvI (l2)), (3, lvI (l3))] ⟨rfl, rfl, rfl, rfl, trivial⟩ ?_
  exact X9_right_b39_s th l1 l2 l3 ((1 : Int32)) s0 _
set_option maxHeartbeats 4000000 in
set_option maxRecDepth 100000 in
theorem s_X9_right {E : EV} (th : Nat) (a1 : Int32) (a2 : Int32) (a3 : Int32) (h : HS) : Sim E mi_X9_right (fin oI) 0 0 0 (largs 0 [lvR (some th), lvI a1, lvI a2, lvI a3]) [] h (m_X9_right th a1 a2 a3 h) := by
  unfold m_X9_right
  refine si_aload_n 0 dX9_right_0 rfl rfl ?_
  refine si_aload_n 0 dX9_right_1 rfl rfl ?_
  refine si_iload_n 1 dX9_right_2 rfl rfl ?_
  refine si_cvI 10 [lvI (a1)] dX9_right_3 rfl mc_X9_isPaper ml_X9_267 im_X9_isPaper rfl se_X9_isPaper (by decide) rfl ⟨Nat.le_of_ble_eq_true rfl, Nat.le_of_ble_eq_true rfl, Nat.le_of_ble_eq_true rfl, Nat.le_of_ble_eq_true rfl⟩ (Nat.le_of_ble_eq_true rfl) (fun _ _ hq => ct_X9_isPaper _ _ hq) (fun q1 => ?_)
  refine si_if_eq 38 dX9_right_6 (by decide) ?_ ?_
  · refine si_widen 0 0 (Nat.le_of_ble_eq_true rfl) (Nat.le_of_ble_eq_true rfl) ?_
    refine si_lo [(0, lvR (some th)), (1, lvI (a1)), (2, lvI (a2)), (3, lvI (a3))] ⟨rfl, rfl, rfl, rfl, trivial⟩ ?_
    exact X9_right_b38_s th a1 a2 a3 (some th) _
  · refine si_iload_n 2 dX9_right_9 rfl rfl ?_
    refine si_if_lt 38 dX9_right_10 (by decide) ?_ ?_
    · refine si_widen 0 0 (Nat.le_of_ble_eq_true rfl) (Nat.le_of_ble_eq_true rfl) ?_
      refine si_lo [(0, lvR (some th)), (1, lvI (a1)), (2, lvI (a2)), (3, lvI (a3))] ⟨rfl, rfl, rfl, rfl, trivial⟩ ?_
      exact X9_right_b38_s th a1 a2 a3 (some th) _
    · refine si_iload_n 2 dX9_right_13 rfl rfl ?_
      refine si_aload_n 0 dX9_right_14 rfl rfl ?_
      refine si_gI 10 24 fl_X9_264 dX9_right_15 (by decide) rfl (fun x3 => ?_)
      refine si_iconst (v := 4) dX9_right_18 (by decide) ?_
      refine si_idiv dX9_right_19 (by decide) ?_
      refine si_icmp_ge 38 dX9_right_20 (by decide) ?_ ?_
      · refine si_widen 0 0 (Nat.le_of_ble_eq_true rfl) (Nat.le_of_ble_eq_true rfl) ?_
        refine si_lo [(0, lvR (some th)), (1, lvI (a1)), (2, lvI (a2)), (3, lvI (a3))] ⟨rfl, rfl, rfl, rfl, trivial⟩ ?_
        exact X9_right_b38_s th a1 a2 a3 (some th) _
      · refine si_iload_n 3 dX9_right_23 rfl rfl ?_
        refine si_iconst (v := 1) dX9_right_24 (by decide) ?_
        refine si_ldcw dX9_right_25 kc_X9_260 ?_
        refine si_csI [lvI (a3), lvI ((1 : Int32)), lvI ((100000 : Int32))] dX9_right_28 rfl mc_X9_within ml_X9_253 st_X9_within rfl ⟨Nat.le_of_ble_eq_true rfl, Nat.le_of_ble_eq_true rfl, Nat.le_of_ble_eq_true rfl, Nat.le_of_ble_eq_true rfl⟩ (Nat.le_of_ble_eq_true rfl) (fun _ hq => ct_X9_within _ _ hq) (fun q4 => ?_)
        refine si_if_eq 38 dX9_right_31 (by decide) ?_ ?_
        · refine si_widen 0 0 (Nat.le_of_ble_eq_true rfl) (Nat.le_of_ble_eq_true rfl) ?_
          refine si_lo [(0, lvR (some th)), (1, lvI (a1)), (2, lvI (a2)), (3, lvI (a3))] ⟨rfl, rfl, rfl, rfl, trivial⟩ ?_
          exact X9_right_b38_s th a1 a2 a3 (some th) _
        · refine si_iconst (v := 0) dX9_right_34 (by decide) ?_
          refine si_goto 39 dX9_right_35 (by decide) ?_
          refine si_widen 0 0 (Nat.le_of_ble_eq_true rfl) (Nat.le_of_ble_eq_true rfl) ?_
          refine si_lo [(0, lvR (some th)), (1, lvI (a1)), (2, lvI (a2)), (3, lvI (a3))] ⟨rfl, rfl, rfl, rfl, trivial⟩ ?_
          exact X9_right_b39_s th a1 a2 a3 ((0 : Int32)) (some th) _
theorem ct_X9_right (l : Launch) (G : GG) {th : Nat} {a1 : Int32} {a2 : Int32} {a3 : Int32} {h : HS} {q : Int32 × HS} (hq : m_X9_right th a1 a2 a3 h = some q) : Ct l yX9_right mi_X9_right G [lvR (some th), lvI a1, lvI a2, lvI a3] h (oI q) := Ct.of (out := oI) (by decide +kernel) rfl rfl (Nat.le_of_ble_eq_true rfl) hq (fun _ _ _ _ _ _ _ _ => s_X9_right th a1 a2 a3 h)
set_option maxHeartbeats 4000000 in
set_option maxRecDepth 100000 in
theorem X9_income_b14_s {E : EV} (th : Nat) (l1 : Int32) (s1 : Int32) (s0 : Option Nat) (h : HS) : Sim E mi_X9_income (fin oI) 0 0 14 [(0, lvR (some th)), (1, lvI (l1))] [.int (s1), va_rf (s0)] h (X9_income_b14 th l1 s1 s0 h) := by
  unfold X9_income_b14
  refine si_pI 10 0 fl_X9_1 dX9_income_14 (by decide) rfl rfl rfl (fw_X9_1 _) (fun h1 => ?_)
  refine si_aload_n 0 dX9_income_17 rfl rfl ?_
  refine si_gI 10 0 fl_X9_1 dX9_income_18 (by decide) rfl (fun x2 => ?_)
  refine si_if_le 28 dX9_income_21 (by decide) ?_ ?_
  · refine si_aload_n 0 dX9_income_28 rfl rfl ?_
    refine si_gR 10 33 fl_X9_105 dX9_income_29 (by decide) rfl (fun x3 => ?_)
    refine si_iload_n 1 dX9_income_32 rfl rfl ?_
    refine si_ia dX9_income_33 (fun x4 => ?_)
    exact si_iret dX9_income_34 rfl (Nat.le_of_ble_eq_true rfl) (Nat.le_of_ble_eq_true rfl)
  · refine si_iconst (v := 0) dX9_income_24 (by decide) ?_
    refine si_goto 34 dX9_income_25 (by decide) ?_
    exact si_iret dX9_income_34 rfl (Nat.le_of_ble_eq_true rfl) (Nat.le_of_ble_eq_true rfl)
set_option maxHeartbeats 4000000 in
set_option maxRecDepth 100000 in
theorem s_X9_income {E : EV} (th : Nat) (a1 : Int32) (h : HS) : Sim E mi_X9_income (fin oI) 0 0 0 (largs 0 [lvR (some th), lvI a1]) [] h (m_X9_income th a1 h) := by
  unfold m_X9_income
  refine si_aload_n 0 dX9_income_0 rfl rfl ?_
  refine si_aload_n 0 dX9_income_1 rfl rfl ?_
  refine si_iload_n 1 dX9_income_2 rfl rfl ?_
  refine si_cvI 10 [lvI (a1)] dX9_income_3 rfl mc_X9_isFeature ml_X9_270 im_X9_isFeature rfl se_X9_isFeature (by decide) rfl ⟨Nat.le_of_ble_eq_true rfl, Nat.le_of_ble_eq_true rfl, Nat.le_of_ble_eq_true rfl, Nat.le_of_ble_eq_true rfl⟩ (Nat.le_of_ble_eq_true rfl) (fun _ _ hq => ct_X9_isFeature _ _ hq) (fun q1 => ?_)
  refine si_if_eq 13 dX9_income_6 (by decide) ?_ ?_
  · refine si_iconst (v := 1) dX9_income_13 (by decide) ?_
    refine si_widen 0 0 (Nat.le_of_ble_eq_true rfl) (Nat.le_of_ble_eq_true rfl) ?_
    refine si_lo [(0, lvR (some th)), (1, lvI (a1))] ⟨rfl, rfl, trivial⟩ ?_
    exact X9_income_b14_s th a1 ((1 : Int32)) (some th) _
  · refine si_iconst (v := 0) dX9_income_9 (by decide) ?_
    refine si_goto 14 dX9_income_10 (by decide) ?_
    refine si_widen 0 0 (Nat.le_of_ble_eq_true rfl) (Nat.le_of_ble_eq_true rfl) ?_
    refine si_lo [(0, lvR (some th)), (1, lvI (a1))] ⟨rfl, rfl, trivial⟩ ?_
    exact X9_income_b14_s th a1 ((0 : Int32)) (some th) _
theorem ct_X9_income (l : Launch) (G : GG) {th : Nat} {a1 : Int32} {h : HS} {q : Int32 × HS} (hq : m_X9_income th a1 h = some q) : Ct l yX9_income mi_X9_income G [lvR (some th), lvI a1] h (oI q) := Ct.of (out := oI) (by decide +kernel) rfl rfl (Nat.le_of_ble_eq_true rfl) hq (fun _ _ _ _ _ _ _ _ => s_X9_income th a1 h)
set_option maxHeartbeats 4000000 in
set_option maxRecDepth 100000 in
theorem X9_share_b201_s {E : EV} (th : Nat) (go160 : Int32 → Int32 → HS → Option (Int32 × HS)) (go171 : Int32 → Int32 → Int32 → Int32 → HS → Option (Int32 × HS)) (hg160 : ∀ (l2 : Int32) (l4 : Int32) (h : HS), Sim E mi_X9_share (fin oI) 0 0 160 [(0, lvR (some th)), (2, lvI (l2)), (4, lvI (l4))] [] h (go160 l2 l4 h)) (hg171 : ∀ (l2 : Int32) (l4 : Int32) (l7 : Int32) (l8 : Int32) (h : HS), Sim E mi_X9_share (fin oI) 0 0 171 [(0, lvR (some th)), (2, lvI (l2)), (4, lvI (l4)), (7, lvI (l7)), (8, lvI (l8))] [] h (go171 l2 l4 l7 l8 h)) (l2 : Int32) (l4 : Int32) (l8 : Int32) (s0 : Int32) (h : HS) : Sim E mi_X9_share (fin oI) 0 0 201 [(0, lvR (some th)), (2, lvI (l2)), (4, lvI (l4)), (8, lvI (l8))] [.int (s0)] h (X9_share_b201 th go160 go171 l2 l4 l8 s0 h) := by
  unfold X9_share_b201
  refine si_istore 7 dX9_share_201 (by decide) ?_
  refine si_iinc 8 (1) dX9_share_203 rfl (by decide) (by decide) ?_
  refine si_goto 171 dX9_share_206 (by decide) ?_
  refine si_widen 0 0 (Nat.le_of_ble_eq_true rfl) (Nat.le_of_ble_eq_true rfl) ?_
  refine si_lo [(0, lvR (some th)), (2, lvI (l2)), (4, lvI (l4)), (7, lvI (s0)), (8, lvI (l8 + (1)))] ⟨rfl, rfl, rfl, rfl, rfl, trivial⟩ ?_
  exact hg171 l2 l4 s0 (l8 + (1)) _
set_option maxHeartbeats 4000000 in
set_option maxRecDepth 100000 in
theorem X9_share_L171_s {E : EV} (th : Nat) (go160 : Int32 → Int32 → HS → Option (Int32 × HS)) (hg160 : ∀ (l2 : Int32) (l4 : Int32) (h : HS), Sim E mi_X9_share (fin oI) 0 0 160 [(0, lvR (some th)), (2, lvI (l2)), (4, lvI (l4))] [] h (go160 l2 l4 h)) (n : Nat) : ∀ (l2 : Int32) (l4 : Int32) (l7 : Int32) (l8 : Int32) (h : HS), Sim E mi_X9_share (fin oI) 0 0 171 [(0, lvR (some th)), (2, lvI (l2)), (4, lvI (l4)), (7, lvI (l7)), (8, lvI (l8))] [] h (X9_share_L171 th go160 n l2 l4 l7 l8 h) := by
  induction n with
  | zero => intro l2 l4 l7 l8 h; exact si_none
  | succ n ih =>
    intro l2 l4 l7 l8 h
    unfold X9_share_L171
    refine si_iload 8 dX9_share_171 rfl ?_
    refine si_iconst (v := 3) dX9_share_173 (by decide) ?_
    refine si_icmp_ge 209 dX9_share_174 (by decide) ?_ ?_
    · refine si_aload_n 0 dX9_share_209 rfl rfl ?_
      refine si_gR 10 53 fl_X9_159 dX9_share_210 (by decide) rfl (fun x1 => ?_)
      refine si_iload 7 dX9_share_213 rfl ?_
      refine si_dup2 dX9_share_215 rfl (cat_rf _) ?_
      refine si_ia dX9_share_216 (fun x2 => ?_)
      refine si_iconst (v := 1) dX9_share_217 (by decide) ?_
      refine si_iadd dX9_share_218 ?_
      refine si_is dX9_share_219 (fun h3 => ?_)
      refine si_aload_n 0 dX9_share_220 rfl rfl ?_
      refine si_gR 10 52 fl_X9_156 dX9_share_221 (by decide) rfl (fun x4 => ?_)
      refine si_iload 7 dX9_share_224 rfl ?_
      refine si_iconst (v := -1) dX9_share_226 (by decide) ?_
      refine si_is dX9_share_227 (fun h5 => ?_)
      refine si_iinc 4 (-1) dX9_share_228 rfl (by decide) (by decide) ?_
      refine si_goto 160 dX9_share_231 (by decide) ?_
      refine si_widen 0 0 (Nat.le_of_ble_eq_true rfl) (Nat.le_of_ble_eq_true rfl) ?_
      refine si_lo [(0, lvR (some th)), (2, lvI (l2)), (4, lvI (l4 + (-1)))] ⟨rfl, rfl, rfl, trivial⟩ ?_
      exact hg160 l2 (l4 + (-1)) _
    · refine si_aload_n 0 dX9_share_177 rfl rfl ?_
      refine si_gR 10 52 fl_X9_156 dX9_share_178 (by decide) rfl (fun x6 => ?_)
      refine si_iload 8 dX9_share_181 rfl ?_
      refine si_ia dX9_share_183 (fun x7 => ?_)
      refine si_aload_n 0 dX9_share_184 rfl rfl ?_
      refine si_gR 10 52 fl_X9_156 dX9_share_185 (by decide) rfl (fun x8 => ?_)
      refine si_iload 7 dX9_share_188 rfl ?_
      refine si_ia dX9_share_190 (fun x9 => ?_)
      refine si_icmp_le 199 dX9_share_191 (by decide) ?_ ?_
      · refine si_iload 7 dX9_share_199 rfl ?_
        refine si_widen 0 0 (Nat.le_of_ble_eq_true rfl) (Nat.le_of_ble_eq_true rfl) ?_
        refine si_lo [(0, lvR (some th)), (2, lvI (l2)), (4, lvI (l4)), (8, lvI (l8))] ⟨rfl, rfl, rfl, rfl, trivial⟩ ?_
        exact X9_share_b201_s th go160 (X9_share_L171 th go160 n) hg160 ih l2 l4 l8 l7 _
      · refine si_iload 8 dX9_share_194 rfl ?_
        refine si_goto 201 dX9_share_196 (by decide) ?_
        refine si_widen 0 0 (Nat.le_of_ble_eq_true rfl) (Nat.le_of_ble_eq_true rfl) ?_
        refine si_lo [(0, lvR (some th)), (2, lvI (l2)), (4, lvI (l4)), (8, lvI (l8))] ⟨rfl, rfl, rfl, rfl, trivial⟩ ?_
        exact X9_share_b201_s th go160 (X9_share_L171 th go160 n) hg160 ih l2 l4 l8 l8 _
set_option maxHeartbeats 4000000 in
set_option maxRecDepth 100000 in
theorem X9_share_L160_s {E : EV} (th : Nat) (n : Nat) : ∀ (l2 : Int32) (l4 : Int32) (h : HS), Sim E mi_X9_share (fin oI) 0 0 160 [(0, lvR (some th)), (2, lvI (l2)), (4, lvI (l4))] [] h (X9_share_L160 th n l2 l4 h) := by
  induction n with
  | zero => intro l2 l4 h; exact si_none
  | succ n ih =>
    intro l2 l4 h
    unfold X9_share_L160
    refine si_iload 4 dX9_share_160 rfl ?_
    refine si_if_le 234 dX9_share_162 (by decide) ?_ ?_
    · refine si_aload_n 0 dX9_share_234 rfl rfl ?_
      refine si_gR 10 53 fl_X9_159 dX9_share_235 (by decide) rfl (fun x1 => ?_)
      refine si_iload_n 2 dX9_share_238 rfl rfl ?_
      refine si_ia dX9_share_239 (fun x2 => ?_)
      exact si_iret dX9_share_240 rfl (Nat.le_of_ble_eq_true rfl) (Nat.le_of_ble_eq_true rfl)
    · refine si_iconst (v := 0) dX9_share_165 (by decide) ?_
      refine si_istore 7 dX9_share_166 (by decide) ?_
      refine si_iconst (v := 1) dX9_share_168 (by decide) ?_
      refine si_istore 8 dX9_share_169 (by decide) ?_
      refine si_widen 0 0 (Nat.le_of_ble_eq_true rfl) (Nat.le_of_ble_eq_true rfl) ?_
      refine si_lo [(0, lvR (some th)), (2, lvI (l2)), (4, lvI (l4)), (7, lvI ((0 : Int32))), (8, lvI ((1 : Int32)))] ⟨rfl, rfl, rfl, rfl, rfl, trivial⟩ ?_
      exact X9_share_L171_s th (X9_share_L160 th n) ih FU l2 l4 ((0 : Int32)) ((1 : Int32)) _
set_option maxHeartbeats 4000000 in
set_option maxRecDepth 100000 in
theorem X9_share_L84_s {E : EV} (th : Nat) (n : Nat) : ∀ (l1 : Int32) (l2 : Int32) (l3 : Int32) (l4 : Int32) (l5 : Int64) (l7 : Int32) (h : HS), Sim E mi_X9_share (fin oI) 0 0 84 [(0, lvR (some th)), (1, lvI (l1)), (2, lvI (l2)), (3, lvI (l3)), (4, lvI (l4)), (5, lvJ (l5)), (7, lvI (l7))] [] h (X9_share_L84 th n l1 l2 l3 l4 l5 l7 h) := by
  induction n with
  | zero => intro l1 l2 l3 l4 l5 l7 h; exact si_none
  | succ n ih =>
    intro l1 l2 l3 l4 l5 l7 h
    unfold X9_share_L84
    refine si_iload 7 dX9_share_84 rfl ?_
    refine si_iconst (v := 3) dX9_share_86 (by decide) ?_
    refine si_icmp_ge 160 dX9_share_87 (by decide) ?_ ?_
    · refine si_widen 0 0 (Nat.le_of_ble_eq_true rfl) (Nat.le_of_ble_eq_true rfl) ?_
      refine si_lo [(0, lvR (some th)), (2, lvI (l2)), (4, lvI (l4))] ⟨rfl, rfl, rfl, trivial⟩ ?_
      exact X9_share_L160_s th FU l2 l4 _
    · refine si_aload_n 0 dX9_share_90 rfl rfl ?_
      refine si_gR 10 53 fl_X9_159 dX9_share_91 (by decide) rfl (fun x1 => ?_)
      refine si_iload 7 dX9_share_94 rfl ?_
      refine si_lload 5 dX9_share_96 rfl ?_
      refine si_aload_n 0 dX9_share_98 rfl rfl ?_
      refine si_gR 10 28 fl_X9_89 dX9_share_99 (by decide) rfl (fun x2 => ?_)
      refine si_iconst (v := 3) dX9_share_102 (by decide) ?_
      refine si_iload_n 1 dX9_share_103 rfl rfl ?_
      refine si_imul dX9_share_104 ?_
      refine si_iload 7 dX9_share_105 rfl ?_
      refine si_iadd dX9_share_107 ?_
      refine si_ia dX9_share_108 (fun x3 => ?_)
      refine si_i2l dX9_share_109 ?_
      refine si_lmul dX9_share_110 ?_
      refine si_iload_n 3 dX9_share_111 rfl rfl ?_
      refine si_i2l dX9_share_112 ?_
      refine si_ite (fun _ => si_none) (fun hz => ?_)
      refine si_ldiv dX9_share_113 hz ?_
      refine si_l2i dX9_share_114 ?_
      refine si_is dX9_share_115 (fun h4 => ?_)
      refine si_aload_n 0 dX9_share_116 rfl rfl ?_
      refine si_gR 10 52 fl_X9_156 dX9_share_117 (by decide) rfl (fun x5 => ?_)
      refine si_iload 7 dX9_share_120 rfl ?_
      refine si_lload 5 dX9_share_122 rfl ?_
      refine si_aload_n 0 dX9_share_124 rfl rfl ?_
      refine si_gR 10 28 fl_X9_89 dX9_share_125 (by decide) rfl (fun x6 => ?_)
      refine si_iconst (v := 3) dX9_share_128 (by decide) ?_
      refine si_iload_n 1 dX9_share_129 rfl rfl ?_
      refine si_imul dX9_share_130 ?_
      refine si_iload 7 dX9_share_131 rfl ?_
      refine si_iadd dX9_share_133 ?_
      refine si_ia dX9_share_134 (fun x7 => ?_)
      refine si_i2l dX9_share_135 ?_
      refine si_lmul dX9_share_136 ?_
      refine si_iload_n 3 dX9_share_137 rfl rfl ?_
      refine si_i2l dX9_share_138 ?_
      refine si_ite (fun _ => si_none) (fun hz => ?_)
      refine si_lrem dX9_share_139 hz ?_
      refine si_l2i dX9_share_140 ?_
      refine si_is dX9_share_141 (fun h8 => ?_)
      refine si_iload 4 dX9_share_142 rfl ?_
      refine si_aload_n 0 dX9_share_144 rfl rfl ?_
      refine si_gR 10 53 fl_X9_159 dX9_share_145 (by decide) rfl (fun x9 => ?_)
      refine si_iload 7 dX9_share_148 rfl ?_
      refine si_ia dX9_share_150 (fun x10 => ?_)
      refine si_isub dX9_share_151 ?_
      refine si_istore 4 dX9_share_152 (by decide) ?_
      refine si_iinc 7 (1) dX9_share_154 rfl (by decide) (by decide) ?_
      refine si_goto 84 dX9_share_157 (by decide) ?_
      refine si_widen 0 0 (Nat.le_of_ble_eq_true rfl) (Nat.le_of_ble_eq_true rfl) ?_
      refine si_lo [(0, lvR (some th)), (1, lvI (l1)), (2, lvI (l2)), (3, lvI (l3)), (4, lvI (l4 - x10)), (5, lvJ (l5)), (7, lvI (l7 + (1)))] ⟨rfl, rfl, rfl, rfl, rfl, rfl, rfl, trivial⟩ ?_
      exact ih l1 l2 l3 (l4 - x10) l5 (l7 + (1)) _
set_option maxHeartbeats 4000000 in
set_option maxRecDepth 100000 in
theorem X9_share_b74_s {E : EV} (th : Nat) (l1 : Int32) (l2 : Int32) (l3 : Int32) (s0 : Int32) (h : HS) : Sim E mi_X9_share (fin oI) 0 0 74 [(0, lvR (some th)), (1, lvI (l1)), (2, lvI (l2)), (3, lvI (l3))] [.int (s0)] h (X9_share_b74 th l1 l2 l3 s0 h) := by
  unfold X9_share_b74
  refine si_istore 4 dX9_share_74 (by decide) ?_
  refine si_iload 4 dX9_share_76 rfl ?_
  refine si_i2l dX9_share_78 ?_
  refine si_lstore 5 dX9_share_79 (by decide) ?_
  refine si_iconst (v := 0) dX9_share_81 (by decide) ?_
  refine si_istore 7 dX9_share_82 (by decide) ?_
  refine si_widen 0 0 (Nat.le_of_ble_eq_true rfl) (Nat.le_of_ble_eq_true rfl) ?_
  refine si_lo [(0, lvR (some th)), (1, lvI (l1)), (2, lvI (l2)), (3, lvI (l3)), (4, lvI (s0)), (5, lvJ (s0.toInt64)), (7, lvI ((0 : Int32)))] ⟨rfl, rfl, rfl, rfl, rfl, rfl, rfl, trivial⟩ ?_
  exact X9_share_L84_s th FU l1 l2 l3 s0 s0.toInt64 ((0 : Int32)) _
set_option maxHeartbeats 4000000 in
set_option maxRecDepth 100000 in
theorem s_X9_share {E : EV} (th : Nat) (a1 : Int32) (a2 : Int32) (h : HS) : Sim E mi_X9_share (fin oI) 0 0 0 (largs 0 [lvR (some th), lvI a1, lvI a2]) [] h (m_X9_share th a1 a2 h) := by
  unfold m_X9_share
  refine si_aload_n 0 dX9_share_0 rfl rfl ?_
  refine si_iconst (v := 0) dX9_share_1 (by decide) ?_
  refine si_pI 10 0 fl_X9_1 dX9_share_2 (by decide) rfl rfl rfl (fw_X9_1 _) (fun h1 => ?_)
  refine si_aload_n 0 dX9_share_5 rfl rfl ?_
  refine si_iload_n 1 dX9_share_6 rfl rfl ?_
  refine si_cvI 10 [lvI (a1)] dX9_share_7 rfl mc_X9_isFeature ml_X9_270 im_X9_isFeature rfl se_X9_isFeature (by decide) rfl ⟨Nat.le_of_ble_eq_true rfl, Nat.le_of_ble_eq_true rfl, Nat.le_of_ble_eq_true rfl, Nat.le_of_ble_eq_true rfl⟩ (Nat.le_of_ble_eq_true rfl) (fun _ _ hq => ct_X9_isFeature _ _ hq) (fun q2 => ?_)
  refine si_if_eq 22 dX9_share_10 (by decide) ?_ ?_
  · refine si_iconst (v := -1) dX9_share_22 (by decide) ?_
    exact si_iret dX9_share_23 rfl (Nat.le_of_ble_eq_true rfl) (Nat.le_of_ble_eq_true rfl)
  · refine si_iload_n 2 dX9_share_13 rfl rfl ?_
    refine si_iconst (v := 0) dX9_share_14 (by decide) ?_
    refine si_iconst (v := 2) dX9_share_15 (by decide) ?_
    refine si_csI [lvI (a2), lvI ((0 : Int32)), lvI ((2 : Int32))] dX9_share_16 rfl mc_X9_within ml_X9_253 st_X9_within rfl ⟨Nat.le_of_ble_eq_true rfl, Nat.le_of_ble_eq_true rfl, Nat.le_of_ble_eq_true rfl, Nat.le_of_ble_eq_true rfl⟩ (Nat.le_of_ble_eq_true rfl) (fun _ hq => ct_X9_within _ _ hq) (fun q4 => ?_)
    refine si_if_ne 24 dX9_share_19 (by decide) ?_ ?_
    · refine si_iconst (v := -1) dX9_share_22 (by decide) ?_
      exact si_iret dX9_share_23 rfl (Nat.le_of_ble_eq_true rfl) (Nat.le_of_ble_eq_true rfl)
    · refine si_aload_n 0 dX9_share_24 rfl rfl ?_
      refine si_gR 10 28 fl_X9_89 dX9_share_25 (by decide) rfl (fun x5 => ?_)
      refine si_iconst (v := 3) dX9_share_28 (by decide) ?_
      refine si_iload_n 1 dX9_share_29 rfl rfl ?_
      refine si_imul dX9_share_30 ?_
      refine si_ia dX9_share_31 (fun x6 => ?_)
      refine si_aload_n 0 dX9_share_32 rfl rfl ?_
      refine si_gR 10 28 fl_X9_89 dX9_share_33 (by decide) rfl (fun x7 => ?_)
      refine si_iconst (v := 3) dX9_share_36 (by decide) ?_
      refine si_iload_n 1 dX9_share_37 rfl rfl ?_
      refine si_imul dX9_share_38 ?_
      refine si_iconst (v := 1) dX9_share_39 (by decide) ?_
      refine si_iadd dX9_share_40 ?_
      refine si_ia dX9_share_41 (fun x8 => ?_)
      refine si_iadd dX9_share_42 ?_
      refine si_aload_n 0 dX9_share_43 rfl rfl ?_
      refine si_gR 10 28 fl_X9_89 dX9_share_44 (by decide) rfl (fun x9 => ?_)
      refine si_iconst (v := 3) dX9_share_47 (by decide) ?_
      refine si_iload_n 1 dX9_share_48 rfl rfl ?_
      refine si_imul dX9_share_49 ?_
      refine si_iconst (v := 2) dX9_share_50 (by decide) ?_
      refine si_iadd dX9_share_51 ?_
      refine si_ia dX9_share_52 (fun x10 => ?_)
      refine si_iadd dX9_share_53 ?_
      refine si_istore_n 3 dX9_share_54 rfl (by decide) ?_
      refine si_aload_n 0 dX9_share_55 rfl rfl ?_
      refine si_gR 10 33 fl_X9_105 dX9_share_56 (by decide) rfl (fun x11 => ?_)
      refine si_iload_n 1 dX9_share_59 rfl rfl ?_
      refine si_ia dX9_share_60 (fun x12 => ?_)
      refine si_if_ge 68 dX9_share_61 (by decide) ?_ ?_
      · refine si_aload_n 0 dX9_share_68 rfl rfl ?_
        refine si_gR 10 33 fl_X9_105 dX9_share_69 (by decide) rfl (fun x13 => ?_)
        refine si_iload_n 1 dX9_share_72 rfl rfl ?_
        refine si_ia dX9_share_73 (fun x14 => ?_)
        refine si_widen 0 0 (Nat.le_of_ble_eq_true rfl) (Nat.le_of_ble_eq_true rfl) ?_
        refine si_lo [(0, lvR (some th)), (1, lvI (a1)), (2, lvI (a2)), (3, lvI ((x6 + x8) + x10))] ⟨rfl, rfl, rfl, rfl, trivial⟩ ?_
        exact X9_share_b74_s th a1 a2 ((x6 + x8) + x10) x14 _
      · refine si_iconst (v := 0) dX9_share_64 (by decide) ?_
        refine si_goto 74 dX9_share_65 (by decide) ?_
        refine si_widen 0 0 (Nat.le_of_ble_eq_true rfl) (Nat.le_of_ble_eq_true rfl) ?_
        refine si_lo [(0, lvR (some th)), (1, lvI (a1)), (2, lvI (a2)), (3, lvI ((x6 + x8) + x10))] ⟨rfl, rfl, rfl, rfl, trivial⟩ ?_
        exact X9_share_b74_s th a1 a2 ((x6 + x8) + x10) ((0 : Int32)) _
theorem ct_X9_share (l : Launch) (G : GG) {th : Nat} {a1 : Int32} {a2 : Int32} {h : HS} {q : Int32 × HS} (hq : m_X9_share th a1 a2 h = some q) : Ct l yX9_share mi_X9_share G [lvR (some th), lvI a1, lvI a2] h (oI q) := Ct.of (out := oI) (by decide +kernel) rfl rfl (Nat.le_of_ble_eq_true rfl) hq (fun _ _ _ _ _ _ _ _ => s_X9_share th a1 a2 h)
set_option maxHeartbeats 4000000 in
set_option maxRecDepth 100000 in
theorem X9_gap_b80_s {E : EV} (th : Nat) (go5 : Int32 → Int32 → Int32 → Int32 → HS → Option (Int32 × HS)) (hg5 : ∀ (l1 : Int32) (l2 : Int32) (l3 : Int32) (l4 : Int32) (h : HS), Sim E mi_X9_gap (fin oI) 0 0 5 [(0, lvR (some th)), (1, lvI (l1)), (2, lvI (l2)), (3, lvI (l3)), (4, lvI (l4))] [] h (go5 l1 l2 l3 l4 h)) (l1 : Int32) (l2 : Int32) (l4 : Int32) (s1 : Int32) (s0 : Int32) (h : HS) : Sim E mi_X9_gap (fin oI) 0 0 80 [(0, lvR (some th)), (1, lvI (l1)), (2, lvI (l2)), (4, lvI (l4))] [.int (s1), .int (s0)] h (X9_gap_b80 th go5 l1 l2 l4 s1 s0 h) := by
  unfold X9_gap_b80
  refine si_iadd dX9_gap_80 ?_
  refine si_istore_n 3 dX9_gap_81 rfl (by decide) ?_
  refine si_iinc 4 (1) dX9_gap_82 rfl (by decide) (by decide) ?_
  refine si_goto 5 dX9_gap_85 (by decide) ?_
  refine si_widen 0 0 (Nat.le_of_ble_eq_true rfl) (Nat.le_of_ble_eq_true rfl) ?_
  refine si_lo [(0, lvR (some th)), (1, lvI (l1)), (2, lvI (l2)), (3, lvI (s0 + s1)), (4, lvI (l4 + (1)))] ⟨rfl, rfl, rfl, rfl, rfl, trivial⟩ ?_
  exact hg5 l1 l2 (s0 + s1) (l4 + (1)) _
set_option maxHeartbeats 4000000 in
set_option maxRecDepth 100000 in
theorem X9_gap_b75_s {E : EV} (th : Nat) (go5 : Int32 → Int32 → Int32 → Int32 → HS → Option (Int32 × HS)) (hg5 : ∀ (l1 : Int32) (l2 : Int32) (l3 : Int32) (l4 : Int32) (h : HS), Sim E mi_X9_gap (fin oI) 0 0 5 [(0, lvR (some th)), (1, lvI (l1)), (2, lvI (l2)), (3, lvI (l3)), (4, lvI (l4))] [] h (go5 l1 l2 l3 l4 h)) (l1 : Int32) (l2 : Int32) (l4 : Int32) (s0 : Int32) (h : HS) : Sim E mi_X9_gap (fin oI) 0 0 75 [(0, lvR (some th)), (1, lvI (l1)), (2, lvI (l2)), (4, lvI (l4))] [.int (s0)] h (X9_gap_b75 th go5 l1 l2 l4 s0 h) := by
  unfold X9_gap_b75
  refine si_iconst (v := 1) dX9_gap_75 (by decide) ?_
  refine si_goto 80 dX9_gap_76 (by decide) ?_
  refine si_widen 0 0 (Nat.le_of_ble_eq_true rfl) (Nat.le_of_ble_eq_true rfl) ?_
  refine si_lo [(0, lvR (some th)), (1, lvI (l1)), (2, lvI (l2)), (4, lvI (l4))] ⟨rfl, rfl, rfl, rfl, trivial⟩ ?_
  exact X9_gap_b80_s th go5 hg5 l1 l2 l4 ((1 : Int32)) s0 _
set_option maxHeartbeats 4000000 in
set_option maxRecDepth 100000 in
theorem X9_gap_b79_s {E : EV} (th : Nat) (go5 : Int32 → Int32 → Int32 → Int32 → HS → Option (Int32 × HS)) (hg5 : ∀ (l1 : Int32) (l2 : Int32) (l3 : Int32) (l4 : Int32) (h : HS), Sim E mi_X9_gap (fin oI) 0 0 5 [(0, lvR (some th)), (1, lvI (l1)), (2, lvI (l2)), (3, lvI (l3)), (4, lvI (l4))] [] h (go5 l1 l2 l3 l4 h)) (l1 : Int32) (l2 : Int32) (l4 : Int32) (s0 : Int32) (h : HS) : Sim E mi_X9_gap (fin oI) 0 0 79 [(0, lvR (some th)), (1, lvI (l1)), (2, lvI (l2)), (4, lvI (l4))] [.int (s0)] h (X9_gap_b79 th go5 l1 l2 l4 s0 h) := by
  unfold X9_gap_b79
  refine si_iconst (v := 0) dX9_gap_79 (by decide) ?_
  refine si_widen 0 0 (Nat.le_of_ble_eq_true rfl) (Nat.le_of_ble_eq_true rfl) ?_
  refine si_lo [(0, lvR (some th)), (1, lvI (l1)), (2, lvI (l2)), (4, lvI (l4))] ⟨rfl, rfl, rfl, rfl, trivial⟩ ?_
  exact X9_gap_b80_s th go5 hg5 l1 l2 l4 ((0 : Int32)) s0 _
set_option maxHeartbeats 4000000 in
set_option maxRecDepth 100000 in
theorem X9_gap_b47_s {E : EV} (th : Nat) (go5 : Int32 → Int32 → Int32 → Int32 → HS → Option (Int32 × HS)) (hg5 : ∀ (l1 : Int32) (l2 : Int32) (l3 : Int32) (l4 : Int32) (h : HS), Sim E mi_X9_gap (fin oI) 0 0 5 [(0, lvR (some th)), (1, lvI (l1)), (2, lvI (l2)), (3, lvI (l3)), (4, lvI (l4))] [] h (go5 l1 l2 l3 l4 h)) (l1 : Int32) (l2 : Int32) (l3 : Int32) (l4 : Int32) (s0 : Int32) (h : HS) : Sim E mi_X9_gap (fin oI) 0 0 47 [(0, lvR (some th)), (1, lvI (l1)), (2, lvI (l2)), (3, lvI (l3)), (4, lvI (l4))] [.int (s0)] h (X9_gap_b47 th go5 l1 l2 l3 l4 s0 h) := by
  unfold X9_gap_b47
  refine si_istore 5 dX9_gap_47 (by decide) ?_
  refine si_iload_n 3 dX9_gap_49 rfl rfl ?_
  refine si_iload 5 dX9_gap_50 rfl ?_
  refine si_if_eq 79 dX9_gap_52 (by decide) ?_ ?_
  · refine si_widen 0 0 (Nat.le_of_ble_eq_true rfl) (Nat.le_of_ble_eq_true rfl) ?_
    refine si_lo [(0, lvR (some th)), (1, lvI (l1)), (2, lvI (l2)), (4, lvI (l4))] ⟨rfl, rfl, rfl, rfl, trivial⟩ ?_
    exact X9_gap_b79_s th go5 hg5 l1 l2 l4 l3 _
  · refine si_iload_n 2 dX9_gap_55 rfl rfl ?_
    refine si_if_eq 75 dX9_gap_56 (by decide) ?_ ?_
    · refine si_widen 0 0 (Nat.le_of_ble_eq_true rfl) (Nat.le_of_ble_eq_true rfl) ?_
      refine si_lo [(0, lvR (some th)), (1, lvI (l1)), (2, lvI (l2)), (4, lvI (l4))] ⟨rfl, rfl, rfl, rfl, trivial⟩ ?_
      exact X9_gap_b75_s th go5 hg5 l1 l2 l4 l3 _
    · refine si_aload_n 0 dX9_gap_59 rfl rfl ?_
      refine si_gR 10 47 fl_X9_141 dX9_gap_60 (by decide) rfl (fun x1 => ?_)
      refine si_sipush (v := 202) dX9_gap_63 (by decide) ?_
      refine si_iload_n 1 dX9_gap_66 rfl rfl ?_
      refine si_imul dX9_gap_67 ?_
      refine si_iload 4 dX9_gap_68 rfl ?_
      refine si_iadd dX9_gap_70 ?_
      refine si_za dX9_gap_71 (fun x2 => ?_)
      refine si_if_ne 79 dX9_gap_72 (by decide) ?_ ?_
      · refine si_widen 0 0 (Nat.le_of_ble_eq_true rfl) (Nat.le_of_ble_eq_true rfl) ?_
        refine si_lo [(0, lvR (some th)), (1, lvI (l1)), (2, lvI (l2)), (4, lvI (l4))] ⟨rfl, rfl, rfl, rfl, trivial⟩ ?_
        exact X9_gap_b75_s th go5 hg5 l1 l2 l4 l3 _
      · refine si_widen 0 0 (Nat.le_of_ble_eq_true rfl) (Nat.le_of_ble_eq_true rfl) ?_
        refine si_lo [(0, lvR (some th)), (1, lvI (l1)), (2, lvI (l2)), (4, lvI (l4))] ⟨rfl, rfl, rfl, rfl, trivial⟩ ?_
        exact X9_gap_b79_s th go5 hg5 l1 l2 l4 l3 _
set_option maxHeartbeats 4000000 in
set_option maxRecDepth 100000 in
theorem X9_gap_b46_s {E : EV} (th : Nat) (go5 : Int32 → Int32 → Int32 → Int32 → HS → Option (Int32 × HS)) (hg5 : ∀ (l1 : Int32) (l2 : Int32) (l3 : Int32) (l4 : Int32) (h : HS), Sim E mi_X9_gap (fin oI) 0 0 5 [(0, lvR (some th)), (1, lvI (l1)), (2, lvI (l2)), (3, lvI (l3)), (4, lvI (l4))] [] h (go5 l1 l2 l3 l4 h)) (l1 : Int32) (l2 : Int32) (l3 : Int32) (l4 : Int32) (h : HS) : Sim E mi_X9_gap (fin oI) 0 0 46 [(0, lvR (some th)), (1, lvI (l1)), (2, lvI (l2)), (3, lvI (l3)), (4, lvI (l4))] [] h (X9_gap_b46 th go5 l1 l2 l3 l4 h) := by
  unfold X9_gap_b46
  refine si_iconst (v := 0) dX9_gap_46 (by decide) ?_
  refine si_widen 0 0 (Nat.le_of_ble_eq_true rfl) (Nat.le_of_ble_eq_true rfl) ?_
  refine si_lo [(0, lvR (some th)), (1, lvI (l1)), (2, lvI (l2)), (3, lvI (l3)), (4, lvI (l4))] ⟨rfl, rfl, rfl, rfl, rfl, trivial⟩ ?_
  exact X9_gap_b47_s th go5 hg5 l1 l2 l3 l4 ((0 : Int32)) _
set_option maxHeartbeats 4000000 in
set_option maxRecDepth 100000 in
theorem X9_gap_L5_s {E : EV} (th : Nat) (n : Nat) : ∀ (l1 : Int32) (l2 : Int32) (l3 : Int32) (l4 : Int32) (h : HS), Sim E mi_X9_gap (fin oI) 0 0 5 [(0, lvR (some th)), (1, lvI (l1)), (2, lvI (l2)), (3, lvI (l3)), (4, lvI (l4))] [] h (X9_gap_L5 th n l1 l2 l3 l4 h) := by
  induction n with
  | zero => intro l1 l2 l3 l4 h; exact si_none
  | succ n ih =>
    intro l1 l2 l3 l4 h
    unfold X9_gap_L5
    refine si_iload 4 dX9_gap_5 rfl ?_
    refine si_aload_n 0 dX9_gap_7 rfl rfl ?_
    refine si_gR 10 31 fl_X9_99 dX9_gap_8 (by decide) rfl (fun x1 => ?_)
    refine si_aload_n 0 dX9_gap_11 rfl rfl ?_
    refine si_gR 10 41 fl_X9_123 dX9_gap_12 (by decide) rfl (fun x2 => ?_)
    refine si_iload_n 1 dX9_gap_15 rfl rfl ?_
    refine si_ia dX9_gap_16 (fun x3 => ?_)
    refine si_ia dX9_gap_17 (fun x4 => ?_)
    refine si_icmp_gt 88 dX9_gap_18 (by decide) ?_ ?_
    · refine si_iload_n 3 dX9_gap_88 rfl rfl ?_
      exact si_iret dX9_gap_89 rfl (Nat.le_of_ble_eq_true rfl) (Nat.le_of_ble_eq_true rfl)
    · refine si_aload_n 0 dX9_gap_21 rfl rfl ?_
      refine si_iload_n 1 dX9_gap_22 rfl rfl ?_
      refine si_iload 4 dX9_gap_23 rfl ?_
      refine si_cvI 10 [lvI (l1), lvI (l4)] dX9_gap_25 rfl mc_X9_isOfRun ml_X9_287 im_X9_isOfRun rfl se_X9_isOfRun (by decide) rfl ⟨Nat.le_of_ble_eq_true rfl, Nat.le_of_ble_eq_true rfl, Nat.le_of_ble_eq_true rfl, Nat.le_of_ble_eq_true rfl⟩ (Nat.le_of_ble_eq_true rfl) (fun _ _ hq => ct_X9_isOfRun _ _ hq) (fun q5 => ?_)
      refine si_if_eq 46 dX9_gap_28 (by decide) ?_ ?_
      · refine si_widen 0 0 (Nat.le_of_ble_eq_true rfl) (Nat.le_of_ble_eq_true rfl) ?_
        refine si_lo [(0, lvR (some th)), (1, lvI (l1)), (2, lvI (l2)), (3, lvI (l3)), (4, lvI (l4))] ⟨rfl, rfl, rfl, rfl, rfl, trivial⟩ ?_
        exact X9_gap_b46_s th (X9_gap_L5 th n) ih l1 l2 l3 l4 _
      · refine si_iload 4 dX9_gap_31 rfl ?_
        refine si_aload_n 0 dX9_gap_33 rfl rfl ?_
        refine si_gR 10 44 fl_X9_132 dX9_gap_34 (by decide) rfl (fun x7 => ?_)
        refine si_iload_n 1 dX9_gap_37 rfl rfl ?_
        refine si_ia dX9_gap_38 (fun x8 => ?_)
        refine si_icmp_lt 46 dX9_gap_39 (by decide) ?_ ?_
        · refine si_widen 0 0 (Nat.le_of_ble_eq_true rfl) (Nat.le_of_ble_eq_true rfl) ?_
          refine si_lo [(0, lvR (some th)), (1, lvI (l1)), (2, lvI (l2)), (3, lvI (l3)), (4, lvI (l4))] ⟨rfl, rfl, rfl, rfl, rfl, trivial⟩ ?_
          exact X9_gap_b46_s th (X9_gap_L5 th n) ih l1 l2 l3 l4 _
        · refine si_iconst (v := 1) dX9_gap_42 (by decide) ?_
          refine si_goto 47 dX9_gap_43 (by decide) ?_
          refine si_widen 0 0 (Nat.le_of_ble_eq_true rfl) (Nat.le_of_ble_eq_true rfl) ?_
          refine si_lo [(0, lvR (some th)), (1, lvI (l1)), (2, lvI (l2)), (3, lvI (l3)), (4, lvI (l4))] ⟨rfl, rfl, rfl, rfl, rfl, trivial⟩ ?_
          exact X9_gap_b47_s th (X9_gap_L5 th n) ih l1 l2 l3 l4 ((1 : Int32)) _
set_option maxHeartbeats 4000000 in
set_option maxRecDepth 100000 in
theorem s_X9_gap {E : EV} (th : Nat) (a1 : Int32) (a2 : Int32) (h : HS) : Sim E mi_X9_gap (fin oI) 0 0 0 (largs 0 [lvR (some th), lvI a1, lvI a2]) [] h (m_X9_gap th a1 a2 h) := by
  unfold m_X9_gap
  refine si_iconst (v := 0) dX9_gap_0 (by decide) ?_
  refine si_istore_n 3 dX9_gap_1 rfl (by decide) ?_
  refine si_iconst (v := 1) dX9_gap_2 (by decide) ?_
  refine si_istore 4 dX9_gap_3 (by decide) ?_
  refine si_widen 0 0 (Nat.le_of_ble_eq_true rfl) (Nat.le_of_ble_eq_true rfl) ?_
  refine si_lo [(0, lvR (some th)), (1, lvI (a1)), (2, lvI (a2)), (3, lvI ((0 : Int32))), (4, lvI ((1 : Int32)))] ⟨rfl, rfl, rfl, rfl, rfl, trivial⟩ ?_
  exact X9_gap_L5_s th FU a1 a2 ((0 : Int32)) ((1 : Int32)) _
theorem ct_X9_gap (l : Launch) (G : GG) {th : Nat} {a1 : Int32} {a2 : Int32} {h : HS} {q : Int32 × HS} (hq : m_X9_gap th a1 a2 h = some q) : Ct l yX9_gap mi_X9_gap G [lvR (some th), lvI a1, lvI a2] h (oI q) := Ct.of (out := oI) (by decide +kernel) rfl rfl (Nat.le_of_ble_eq_true rfl) hq (fun _ _ _ _ _ _ _ _ => s_X9_gap th a1 a2 h)
set_option maxHeartbeats 4000000 in
set_option maxRecDepth 100000 in
theorem X9_look_b24_s {E : EV} (th : Nat) (l1 : Int32) (l2 : Int32) (s1 : Int32) (s0 : Option Nat) (h : HS) : Sim E mi_X9_look (fin oI) 0 0 24 [(0, lvR (some th)), (1, lvI (l1)), (2, lvI (l2))] [.int (s1), va_rf (s0)] h (X9_look_b24 th l1 l2 s1 s0 h) := by
  unfold X9_look_b24
  refine si_pI 10 0 fl_X9_1 dX9_look_24 (by decide) rfl rfl rfl (fw_X9_1 _) (fun h1 => ?_)
  refine si_aload_n 0 dX9_look_27 rfl rfl ?_
  refine si_gI 10 0 fl_X9_1 dX9_look_28 (by decide) rfl (fun x2 => ?_)
  refine si_if_le 36 dX9_look_31 (by decide) ?_ ?_
  · refine si_iload_n 2 dX9_look_36 rfl rfl ?_
    refine si_ite (fun e0 => ?_) (fun n0 => ?_)
    · refine si_tsIn (0) 88 e0 dX9_look_37 (by decide) (by decide) rfl (by decide) ?_
      refine si_aload_n 0 dX9_look_88 rfl rfl ?_
      refine si_gR 10 40 fl_X9_120 dX9_look_89 (by decide) rfl (fun x3 => ?_)
      refine si_iload_n 1 dX9_look_92 rfl rfl ?_
      refine si_ia dX9_look_93 (fun x4 => ?_)
      exact si_iret dX9_look_94 rfl (Nat.le_of_ble_eq_true rfl) (Nat.le_of_ble_eq_true rfl)
    refine si_ite (fun e1 => ?_) (fun n1 => ?_)
    · refine si_tsIn (1) 95 e1 dX9_look_37 (by decide) (by decide) rfl (by decide) ?_
      refine si_aload_n 0 dX9_look_95 rfl rfl ?_
      refine si_gR 10 41 fl_X9_123 dX9_look_96 (by decide) rfl (fun x5 => ?_)
      refine si_iload_n 1 dX9_look_99 rfl rfl ?_
      refine si_ia dX9_look_100 (fun x6 => ?_)
      exact si_iret dX9_look_101 rfl (Nat.le_of_ble_eq_true rfl) (Nat.le_of_ble_eq_true rfl)
    refine si_ite (fun e2 => ?_) (fun n2 => ?_)
    · refine si_tsIn (2) 102 e2 dX9_look_37 (by decide) (by decide) rfl (by decide) ?_
      refine si_aload_n 0 dX9_look_102 rfl rfl ?_
      refine si_gR 10 42 fl_X9_126 dX9_look_103 (by decide) rfl (fun x7 => ?_)
      refine si_iload_n 1 dX9_look_106 rfl rfl ?_
      refine si_ia dX9_look_107 (fun x8 => ?_)
      exact si_iret dX9_look_108 rfl (Nat.le_of_ble_eq_true rfl) (Nat.le_of_ble_eq_true rfl)
    refine si_ite (fun e3 => ?_) (fun n3 => ?_)
    · refine si_tsIn (3) 109 e3 dX9_look_37 (by decide) (by decide) rfl (by decide) ?_
      refine si_aload_n 0 dX9_look_109 rfl rfl ?_
      refine si_gR 10 43 fl_X9_129 dX9_look_110 (by decide) rfl (fun x9 => ?_)
      refine si_iload_n 1 dX9_look_113 rfl rfl ?_
      refine si_ia dX9_look_114 (fun x10 => ?_)
      exact si_iret dX9_look_115 rfl (Nat.le_of_ble_eq_true rfl) (Nat.le_of_ble_eq_true rfl)
    refine si_ite (fun e4 => ?_) (fun n4 => ?_)
    · refine si_tsIn (4) 116 e4 dX9_look_37 (by decide) (by decide) rfl (by decide) ?_
      refine si_aload_n 0 dX9_look_116 rfl rfl ?_
      refine si_iload_n 1 dX9_look_117 rfl rfl ?_
      refine si_aload_n 0 dX9_look_118 rfl rfl ?_
      refine si_gI 10 24 fl_X9_264 dX9_look_119 (by decide) rfl (fun x11 => ?_)
      refine si_iconst (v := 1) dX9_look_122 (by decide) ?_
      refine si_iadd dX9_look_123 ?_
      refine si_cvI 10 [lvI (l1), lvI (x11 + (1 : Int32))] dX9_look_124 rfl mc_X9_runsIn ml_X9_276 im_X9_runsIn rfl se_X9_runsIn (by decide) rfl ⟨Nat.le_of_ble_eq_true rfl, Nat.le_of_ble_eq_true rfl, Nat.le_of_ble_eq_true rfl, Nat.le_of_ble_eq_true rfl⟩ (Nat.le_of_ble_eq_true rfl) (fun _ _ hq => ct_X9_runsIn _ _ hq) (fun q12 => ?_)
      refine si_if_eq 134 dX9_look_127 (by decide) ?_ ?_
      · refine si_iconst (v := 0) dX9_look_134 (by decide) ?_
        exact si_iret dX9_look_135 rfl (Nat.le_of_ble_eq_true rfl) (Nat.le_of_ble_eq_true rfl)
      · refine si_iconst (v := 1) dX9_look_130 (by decide) ?_
        refine si_goto 135 dX9_look_131 (by decide) ?_
        exact si_iret dX9_look_135 rfl (Nat.le_of_ble_eq_true rfl) (Nat.le_of_ble_eq_true rfl)
    refine si_ite (fun e5 => ?_) (fun n5 => ?_)
    · refine si_tsIn (5) 136 e5 dX9_look_37 (by decide) (by decide) rfl (by decide) ?_
      refine si_aload_n 0 dX9_look_136 rfl rfl ?_
      refine si_gR 10 45 fl_X9_135 dX9_look_137 (by decide) rfl (fun x14 => ?_)
      refine si_iload_n 1 dX9_look_140 rfl rfl ?_
      refine si_ia dX9_look_141 (fun x15 => ?_)
      exact si_iret dX9_look_142 rfl (Nat.le_of_ble_eq_true rfl) (Nat.le_of_ble_eq_true rfl)
    refine si_ite (fun e6 => ?_) (fun n6 => ?_)
    · refine si_tsIn (6) 143 e6 dX9_look_37 (by decide) (by decide) rfl (by decide) ?_
      refine si_aload_n 0 dX9_look_143 rfl rfl ?_
      refine si_gR 10 44 fl_X9_132 dX9_look_144 (by decide) rfl (fun x16 => ?_)
      refine si_iload_n 1 dX9_look_147 rfl rfl ?_
      refine si_ia dX9_look_148 (fun x17 => ?_)
      exact si_iret dX9_look_149 rfl (Nat.le_of_ble_eq_true rfl) (Nat.le_of_ble_eq_true rfl)
    refine si_ite (fun e7 => ?_) (fun n7 => ?_)
    · refine si_tsIn (7) 150 e7 dX9_look_37 (by decide) (by decide) rfl (by decide) ?_
      refine si_aload_n 0 dX9_look_150 rfl rfl ?_
      refine si_iload_n 1 dX9_look_151 rfl rfl ?_
      refine si_iconst (v := 0) dX9_look_152 (by decide) ?_
      refine si_cvI 10 [lvI (l1), lvI ((0 : Int32))] dX9_look_153 rfl mc_X9_gap ml_X9_320 im_X9_gap rfl se_X9_gap (by decide) rfl ⟨Nat.le_of_ble_eq_true rfl, Nat.le_of_ble_eq_true rfl, Nat.le_of_ble_eq_true rfl, Nat.le_of_ble_eq_true rfl⟩ (Nat.le_of_ble_eq_true rfl) (fun _ _ hq => ct_X9_gap _ _ hq) (fun q18 => ?_)
      exact si_iret dX9_look_156 rfl (Nat.le_of_ble_eq_true rfl) (Nat.le_of_ble_eq_true rfl)
    refine si_ite (fun e8 => ?_) (fun n8 => ?_)
    · refine si_tsIn (8) 157 e8 dX9_look_37 (by decide) (by decide) rfl (by decide) ?_
      refine si_aload_n 0 dX9_look_157 rfl rfl ?_
      refine si_iload_n 1 dX9_look_158 rfl rfl ?_
      refine si_iconst (v := 1) dX9_look_159 (by decide) ?_
      refine si_cvI 10 [lvI (l1), lvI ((1 : Int32))] dX9_look_160 rfl mc_X9_gap ml_X9_320 im_X9_gap rfl se_X9_gap (by decide) rfl ⟨Nat.le_of_ble_eq_true rfl, Nat.le_of_ble_eq_true rfl, Nat.le_of_ble_eq_true rfl, Nat.le_of_ble_eq_true rfl⟩ (Nat.le_of_ble_eq_true rfl) (fun _ _ hq => ct_X9_gap _ _ hq) (fun q20 => ?_)
      exact si_iret dX9_look_163 rfl (Nat.le_of_ble_eq_true rfl) (Nat.le_of_ble_eq_true rfl)
    refine si_tsOut 164 dX9_look_37 (by have z0 := lv_neT n0 (a := 0) (by decide); have z1 := lv_neT n1 (a := 1) (by decide); have z2 := lv_neT n2 (a := 2) (by decide); have z3 := lv_neT n3 (a := 3) (by decide); have z4 := lv_neT n4 (a := 4) (by decide); have z5 := lv_neT n5 (a := 5) (by decide); have z6 := lv_neT n6 (a := 6) (by decide); have z7 := lv_neT n7 (a := 7) (by decide); have z8 := lv_neT n8 (a := 8) (by decide); omega) (by decide) ?_
    refine si_aload_n 0 dX9_look_164 rfl rfl ?_
    refine si_gR 10 50 fl_X9_150 dX9_look_165 (by decide) rfl (fun x22 => ?_)
    refine si_iload_n 1 dX9_look_168 rfl rfl ?_
    refine si_ia dX9_look_169 (fun x23 => ?_)
    exact si_iret dX9_look_170 rfl (Nat.le_of_ble_eq_true rfl) (Nat.le_of_ble_eq_true rfl)
  · refine si_iconst (v := 0) dX9_look_34 (by decide) ?_
    exact si_iret dX9_look_35 rfl (Nat.le_of_ble_eq_true rfl) (Nat.le_of_ble_eq_true rfl)
set_option maxHeartbeats 4000000 in
set_option maxRecDepth 100000 in
theorem X9_look_b23_s {E : EV} (th : Nat) (l1 : Int32) (l2 : Int32) (s0 : Option Nat) (h : HS) : Sim E mi_X9_look (fin oI) 0 0 23 [(0, lvR (some th)), (1, lvI (l1)), (2, lvI (l2))] [va_rf (s0)] h (X9_look_b23 th l1 l2 s0 h) := by
  unfold X9_look_b23
  refine si_iconst (v := 1) dX9_look_23 (by decide) ?_
  refine si_widen 0 0 (Nat.le_of_ble_eq_true rfl) (Nat.le_of_ble_eq_true rfl) ?_
  refine si_lo [(0, lvR (some th)), (1, lvI (l1)), (2, lvI (l2))] ⟨rfl, rfl, rfl, trivial⟩ ?_
  exact X9_look_b24_s th l1 l2 ((1 : Int32)) s0 _
set_option maxHeartbeats 4000000 in
set_option maxRecDepth 100000 in
theorem s_X9_look {E : EV} (th : Nat) (a1 : Int32) (a2 : Int32) (h : HS) : Sim E mi_X9_look (fin oI) 0 0 0 (largs 0 [lvR (some th), lvI a1, lvI a2]) [] h (m_X9_look th a1 a2 h) := by
  unfold m_X9_look
  refine si_aload_n 0 dX9_look_0 rfl rfl ?_
  refine si_aload_n 0 dX9_look_1 rfl rfl ?_
  refine si_iload_n 1 dX9_look_2 rfl rfl ?_
  refine si_cvI 10 [lvI (a1)] dX9_look_3 rfl mc_X9_isContract ml_X9_284 im_X9_isContract rfl se_X9_isContract (by decide) rfl ⟨Nat.le_of_ble_eq_true rfl, Nat.le_of_ble_eq_true rfl, Nat.le_of_ble_eq_true rfl, Nat.le_of_ble_eq_true rfl⟩ (Nat.le_of_ble_eq_true rfl) (fun _ _ hq => ct_X9_isContract _ _ hq) (fun q1 => ?_)
  refine si_if_eq 23 dX9_look_6 (by decide) ?_ ?_
  · refine si_widen 0 0 (Nat.le_of_ble_eq_true rfl) (Nat.le_of_ble_eq_true rfl) ?_
    refine si_lo [(0, lvR (some th)), (1, lvI (a1)), (2, lvI (a2))] ⟨rfl, rfl, rfl, trivial⟩ ?_
    exact X9_look_b23_s th a1 a2 (some th) _
  · refine si_iload_n 2 dX9_look_9 rfl rfl ?_
    refine si_if_lt 23 dX9_look_10 (by decide) ?_ ?_
    · refine si_widen 0 0 (Nat.le_of_ble_eq_true rfl) (Nat.le_of_ble_eq_true rfl) ?_
      refine si_lo [(0, lvR (some th)), (1, lvI (a1)), (2, lvI (a2))] ⟨rfl, rfl, rfl, trivial⟩ ?_
      exact X9_look_b23_s th a1 a2 (some th) _
    · refine si_iload_n 2 dX9_look_13 rfl rfl ?_
      refine si_bipush (v := 9) dX9_look_14 (by decide) ?_
      refine si_icmp_gt 23 dX9_look_16 (by decide) ?_ ?_
      · refine si_widen 0 0 (Nat.le_of_ble_eq_true rfl) (Nat.le_of_ble_eq_true rfl) ?_
        refine si_lo [(0, lvR (some th)), (1, lvI (a1)), (2, lvI (a2))] ⟨rfl, rfl, rfl, trivial⟩ ?_
        exact X9_look_b23_s th a1 a2 (some th) _
      · refine si_iconst (v := 0) dX9_look_19 (by decide) ?_
        refine si_goto 24 dX9_look_20 (by decide) ?_
        refine si_widen 0 0 (Nat.le_of_ble_eq_true rfl) (Nat.le_of_ble_eq_true rfl) ?_
        refine si_lo [(0, lvR (some th)), (1, lvI (a1)), (2, lvI (a2))] ⟨rfl, rfl, rfl, trivial⟩ ?_
        exact X9_look_b24_s th a1 a2 ((0 : Int32)) (some th) _
theorem ct_X9_look (l : Launch) (G : GG) {th : Nat} {a1 : Int32} {a2 : Int32} {h : HS} {q : Int32 × HS} (hq : m_X9_look th a1 a2 h = some q) : Ct l yX9_look mi_X9_look G [lvR (some th), lvI a1, lvI a2] h (oI q) := Ct.of (out := oI) (by decide +kernel) rfl rfl (Nat.le_of_ble_eq_true rfl) hq (fun _ _ _ _ _ _ _ _ => s_X9_look th a1 a2 h)
set_option maxHeartbeats 4000000 in
set_option maxRecDepth 100000 in
theorem X9_count_b37_s {E : EV} (th : Nat) (go9 : Int32 → Int32 → Int32 → HS → Option (Int32 × HS)) (hg9 : ∀ (l1 : Int32) (l2 : Int32) (l3 : Int32) (h : HS), Sim E mi_X9_count (fin oI) 0 0 9 [(0, lvR (some th)), (1, lvI (l1)), (2, lvI (l2)), (3, lvI (l3))] [] h (go9 l1 l2 l3 h)) (l1 : Int32) (l3 : Int32) (s1 : Int32) (s0 : Int32) (h : HS) : Sim E mi_X9_count (fin oI) 0 0 37 [(0, lvR (some th)), (1, lvI (l1)), (3, lvI (l3))] [.int (s1), .int (s0)] h (X9_count_b37 th go9 l1 l3 s1 s0 h) := by
  unfold X9_count_b37
  refine si_iadd dX9_count_37 ?_
  refine si_istore_n 2 dX9_count_38 rfl (by decide) ?_
  refine si_iinc 3 (1) dX9_count_39 rfl (by decide) (by decide) ?_
  refine si_goto 9 dX9_count_42 (by decide) ?_
  refine si_widen 0 0 (Nat.le_of_ble_eq_true rfl) (Nat.le_of_ble_eq_true rfl) ?_
  refine si_lo [(0, lvR (some th)), (1, lvI (l1)), (2, lvI (s0 + s1)), (3, lvI (l3 + (1)))] ⟨rfl, rfl, rfl, rfl, trivial⟩ ?_
  exact hg9 l1 (s0 + s1) (l3 + (1)) _
set_option maxHeartbeats 4000000 in
set_option maxRecDepth 100000 in
theorem X9_count_L9_s {E : EV} (th : Nat) (n : Nat) : ∀ (l1 : Int32) (l2 : Int32) (l3 : Int32) (h : HS), Sim E mi_X9_count (fin oI) 0 0 9 [(0, lvR (some th)), (1, lvI (l1)), (2, lvI (l2)), (3, lvI (l3))] [] h (X9_count_L9 th n l1 l2 l3 h) := by
  induction n with
  | zero => intro l1 l2 l3 h; exact si_none
  | succ n ih =>
    intro l1 l2 l3 h
    unfold X9_count_L9
    refine si_iload_n 3 dX9_count_9 rfl rfl ?_
    refine si_aload_n 0 dX9_count_10 rfl rfl ?_
    refine si_gI 10 39 fl_X9_273 dX9_count_11 (by decide) rfl (fun x1 => ?_)
    refine si_icmp_ge 45 dX9_count_14 (by decide) ?_ ?_
    · refine si_iload_n 1 dX9_count_45 rfl rfl ?_
      refine si_ite (fun e0 => ?_) (fun n0 => ?_)
      · refine si_tsIn (0) 92 e0 dX9_count_46 (by decide) (by decide) rfl (by decide) ?_
        refine si_aload_n 0 dX9_count_92 rfl rfl ?_
        refine si_gI 10 25 fl_X9_257 dX9_count_93 (by decide) rfl (fun x2 => ?_)
        exact si_iret dX9_count_96 rfl (Nat.le_of_ble_eq_true rfl) (Nat.le_of_ble_eq_true rfl)
      refine si_ite (fun e1 => ?_) (fun n1 => ?_)
      · refine si_tsIn (1) 97 e1 dX9_count_46 (by decide) (by decide) rfl (by decide) ?_
        refine si_aload_n 0 dX9_count_97 rfl rfl ?_
        refine si_gI 10 34 fl_X9_261 dX9_count_98 (by decide) rfl (fun x3 => ?_)
        exact si_iret dX9_count_101 rfl (Nat.le_of_ble_eq_true rfl) (Nat.le_of_ble_eq_true rfl)
      refine si_ite (fun e2 => ?_) (fun n2 => ?_)
      · refine si_tsIn (2) 102 e2 dX9_count_46 (by decide) (by decide) rfl (by decide) ?_
        refine si_aload_n 0 dX9_count_102 rfl rfl ?_
        refine si_gI 10 39 fl_X9_273 dX9_count_103 (by decide) rfl (fun x4 => ?_)
        exact si_iret dX9_count_106 rfl (Nat.le_of_ble_eq_true rfl) (Nat.le_of_ble_eq_true rfl)
      refine si_ite (fun e3 => ?_) (fun n3 => ?_)
      · refine si_tsIn (3) 107 e3 dX9_count_46 (by decide) (by decide) rfl (by decide) ?_
        refine si_aload_n 0 dX9_count_107 rfl rfl ?_
        refine si_gI 10 24 fl_X9_264 dX9_count_108 (by decide) rfl (fun x5 => ?_)
        exact si_iret dX9_count_111 rfl (Nat.le_of_ble_eq_true rfl) (Nat.le_of_ble_eq_true rfl)
      refine si_ite (fun e4 => ?_) (fun n4 => ?_)
      · refine si_tsIn (4) 112 e4 dX9_count_46 (by decide) (by decide) rfl (by decide) ?_
        refine si_iload_n 2 dX9_count_112 rfl rfl ?_
        exact si_iret dX9_count_113 rfl (Nat.le_of_ble_eq_true rfl) (Nat.le_of_ble_eq_true rfl)
      refine si_ite (fun e5 => ?_) (fun n5 => ?_)
      · refine si_tsIn (5) 114 e5 dX9_count_46 (by decide) (by decide) rfl (by decide) ?_
        refine si_aload_n 0 dX9_count_114 rfl rfl ?_
        refine si_gI 10 11 fl_X9_162 dX9_count_115 (by decide) rfl (fun x6 => ?_)
        refine si_if_ge 125 dX9_count_118 (by decide) ?_ ?_
        · refine si_aload_n 0 dX9_count_125 rfl rfl ?_
          refine si_gR 10 12 fl_X9_53 dX9_count_126 (by decide) rfl (fun x7 => ?_)
          refine si_aload_n 0 dX9_count_129 rfl rfl ?_
          refine si_gI 10 11 fl_X9_162 dX9_count_130 (by decide) rfl (fun x8 => ?_)
          refine si_ia dX9_count_133 (fun x9 => ?_)
          exact si_iret dX9_count_134 rfl (Nat.le_of_ble_eq_true rfl) (Nat.le_of_ble_eq_true rfl)
        · refine si_iconst (v := 0) dX9_count_121 (by decide) ?_
          refine si_goto 134 dX9_count_122 (by decide) ?_
          exact si_iret dX9_count_134 rfl (Nat.le_of_ble_eq_true rfl) (Nat.le_of_ble_eq_true rfl)
      refine si_ite (fun e6 => ?_) (fun n6 => ?_)
      · refine si_tsIn (6) 135 e6 dX9_count_46 (by decide) (by decide) rfl (by decide) ?_
        refine si_aload_n 0 dX9_count_135 rfl rfl ?_
        refine si_gI 10 2 fl_X9_11 dX9_count_136 (by decide) rfl (fun x10 => ?_)
        exact si_iret dX9_count_139 rfl (Nat.le_of_ble_eq_true rfl) (Nat.le_of_ble_eq_true rfl)
      refine si_ite (fun e7 => ?_) (fun n7 => ?_)
      · refine si_tsIn (7) 140 e7 dX9_count_46 (by decide) (by decide) rfl (by decide) ?_
        refine si_aload_n 0 dX9_count_140 rfl rfl ?_
        refine si_gI 10 10 fl_X9_210 dX9_count_141 (by decide) rfl (fun x11 => ?_)
        exact si_iret dX9_count_144 rfl (Nat.le_of_ble_eq_true rfl) (Nat.le_of_ble_eq_true rfl)
      refine si_tsOut 145 dX9_count_46 (by have z0 := lv_neT n0 (a := 0) (by decide); have z1 := lv_neT n1 (a := 1) (by decide); have z2 := lv_neT n2 (a := 2) (by decide); have z3 := lv_neT n3 (a := 3) (by decide); have z4 := lv_neT n4 (a := 4) (by decide); have z5 := lv_neT n5 (a := 5) (by decide); have z6 := lv_neT n6 (a := 6) (by decide); have z7 := lv_neT n7 (a := 7) (by decide); omega) (by decide) ?_
      refine si_iconst (v := -1) dX9_count_145 (by decide) ?_
      exact si_iret dX9_count_146 rfl (Nat.le_of_ble_eq_true rfl) (Nat.le_of_ble_eq_true rfl)
    · refine si_iload_n 2 dX9_count_17 rfl rfl ?_
      refine si_aload_n 0 dX9_count_18 rfl rfl ?_
      refine si_iload_n 3 dX9_count_19 rfl rfl ?_
      refine si_aload_n 0 dX9_count_20 rfl rfl ?_
      refine si_gI 10 24 fl_X9_264 dX9_count_21 (by decide) rfl (fun x12 => ?_)
      refine si_iconst (v := 1) dX9_count_24 (by decide) ?_
      refine si_iadd dX9_count_25 ?_
      refine si_cvI 10 [lvI (l3), lvI (x12 + (1 : Int32))] dX9_count_26 rfl mc_X9_runsIn ml_X9_276 im_X9_runsIn rfl se_X9_runsIn (by decide) rfl ⟨Nat.le_of_ble_eq_true rfl, Nat.le_of_ble_eq_true rfl, Nat.le_of_ble_eq_true rfl, Nat.le_of_ble_eq_true rfl⟩ (Nat.le_of_ble_eq_true rfl) (fun _ _ hq => ct_X9_runsIn _ _ hq) (fun q13 => ?_)
      refine si_if_eq 36 dX9_count_29 (by decide) ?_ ?_
      · refine si_iconst (v := 0) dX9_count_36 (by decide) ?_
        refine si_widen 0 0 (Nat.le_of_ble_eq_true rfl) (Nat.le_of_ble_eq_true rfl) ?_
        refine si_lo [(0, lvR (some th)), (1, lvI (l1)), (3, lvI (l3))] ⟨rfl, rfl, rfl, trivial⟩ ?_
        exact X9_count_b37_s th (X9_count_L9 th n) ih l1 l3 ((0 : Int32)) l2 _
      · refine si_iconst (v := 1) dX9_count_32 (by decide) ?_
        refine si_goto 37 dX9_count_33 (by decide) ?_
        refine si_widen 0 0 (Nat.le_of_ble_eq_true rfl) (Nat.le_of_ble_eq_true rfl) ?_
        refine si_lo [(0, lvR (some th)), (1, lvI (l1)), (3, lvI (l3))] ⟨rfl, rfl, rfl, trivial⟩ ?_
        exact X9_count_b37_s th (X9_count_L9 th n) ih l1 l3 ((1 : Int32)) l2 _
set_option maxHeartbeats 4000000 in
set_option maxRecDepth 100000 in
theorem s_X9_count {E : EV} (th : Nat) (a1 : Int32) (h : HS) : Sim E mi_X9_count (fin oI) 0 0 0 (largs 0 [lvR (some th), lvI a1]) [] h (m_X9_count th a1 h) := by
  unfold m_X9_count
  refine si_aload_n 0 dX9_count_0 rfl rfl ?_
  refine si_iconst (v := 0) dX9_count_1 (by decide) ?_
  refine si_pI 10 0 fl_X9_1 dX9_count_2 (by decide) rfl rfl rfl (fw_X9_1 _) (fun h1 => ?_)
  refine si_iconst (v := 0) dX9_count_5 (by decide) ?_
  refine si_istore_n 2 dX9_count_6 rfl (by decide) ?_
  refine si_iconst (v := 0) dX9_count_7 (by decide) ?_
  refine si_istore_n 3 dX9_count_8 rfl (by decide) ?_
  refine si_widen 0 0 (Nat.le_of_ble_eq_true rfl) (Nat.le_of_ble_eq_true rfl) ?_
  refine si_lo [(0, lvR (some th)), (1, lvI (a1)), (2, lvI ((0 : Int32))), (3, lvI ((0 : Int32)))] ⟨rfl, rfl, rfl, rfl, trivial⟩ ?_
  exact X9_count_L9_s th FU a1 ((0 : Int32)) ((0 : Int32)) _
theorem ct_X9_count (l : Launch) (G : GG) {th : Nat} {a1 : Int32} {h : HS} {q : Int32 × HS} (hq : m_X9_count th a1 h = some q) : Ct l yX9_count mi_X9_count G [lvR (some th), lvI a1] h (oI q) := Ct.of (out := oI) (by decide +kernel) rfl rfl (Nat.le_of_ble_eq_true rfl) hq (fun _ _ _ _ _ _ _ _ => s_X9_count th a1 h)
