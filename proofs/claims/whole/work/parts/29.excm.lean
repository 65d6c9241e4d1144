-- X8_income: PanelHouse.income(I)I
def m_X8_income (th : Nat) (a1 : Int32) (h : HS) : Option (Option Int32 × HS) := (vc h (some th) 9 (fun b2 => m_X8_featureAt b2 a1 h)).bind fun q1 => if q1.1 = none then (some (none, q1.2)) else ((gI q1.2 q1.1 2 8).bind fun x3 => some (some x3, q1.2))
-- X8_look: PanelHouse.look(II)I
def m_X8_look (th : Nat) (a1 : Int32) (a2 : Int32) (h : HS) : Option (Option Int32 × HS) := (vc h (some th) 9 (fun b2 => m_X8_contractAt b2 a1 h)).bind fun q1 => if q1.1 = none then (some (none, q1.2)) else (if a2 = 0 then ((gR q1.2 q1.1 1 0).bind fun x3 => (gI q1.2 x3 3 0).bind fun x4 => some (some x4, q1.2)) else (if a2 = 1 then ((gR q1.2 q1.1 1 1).bind fun x5 => (gI q1.2 x5 2 0).bind fun x6 => some (some x6, q1.2)) else (if a2 = 2 then ((gI q1.2 q1.1 1 2).bind fun x7 => some (some x7, q1.2)) else (if a2 = 3 then ((gI q1.2 q1.1 1 3).bind fun x8 => some (some x8, q1.2)) else (if a2 = 4 then ((gI q1.2 (some th) 9 9).bind fun x9 => (vc q1.2 q1.1 1 (fun b11 => m_X0_runsIn b11 (x9 + (1 : Int32)) q1.2)).bind fun q10 => if q10.1 = 0 then (some (some (0 : Int32), q10.2)) else (some (some (1 : Int32), q10.2))) else (if a2 = 5 then ((gI q1.2 q1.1 1 7).bind fun x12 => some (some x12, q1.2)) else (if a2 = 6 then ((vc q1.2 q1.1 1 (fun b14 => m_X0_nextPanel b14 q1.2)).bind fun q13 => some (some q13.1, q13.2)) else (if a2 = 7 then ((vc q1.2 q1.1 1 (fun b16 => m_X0_gap b16 q1.2)).bind fun q15 => some (some q15.1, q15.2)) else (if a2 = 8 then ((vc q1.2 q1.1 1 (fun b18 => m_X0_missing b18 q1.2)).bind fun q17 => some (some q17.1, q17.2)) else (if a2 = 9 then ((gI q1.2 q1.1 1 8).bind fun x19 => some (some x19, q1.2)) else (some (none, q1.2))))))))))))
-- X8_right: PanelHouse.right(III)I
def X8_right_b31 (th : Nat)  (h : HS) : Option (Option Int32 × HS) := some (none, h)
def X8_right_b130 (th : Nat) (go60 : Int32 → Int32 → Option Nat → Int32 → Int32 → Int32 → HS → Option (Option Int32 × HS)) (l2 : Int32) (l3 : Int32) (l4 : Option Nat) (l5 : Int32) (l6 : Int32) (l7 : Int32) (h : HS) : Option (Option Int32 × HS) := go60 l2 l3 l4 l5 l6 (l7 + (1)) h
def X8_right_L60 (th : Nat) : Nat → Int32 → Int32 → Option Nat → Int32 → Int32 → Int32 → HS → Option (Option Int32 × HS)
  | 0 => fun _ _ _ _ _ _ _ => none
  | n + 1 => fun l2 l3 l4 l5 l6 l7 h => (gR h (some th) 9 2).bind fun x1 => (vc h x1 0 (fun b3 => m_Jx4a65c_size_8abf5 b3 h)).bind fun q2 => if q2.1 ≤ l7 then (some (some l6, q2.2)) else ((gR q2.2 (some th) 9 2).bind fun x4 => (vc q2.2 x4 0 (fun b6 => m_Jx4a65c_get_915e3 b6 l7 q2.2)).bind fun q5 => cst q5.2 q5.1 1 ((gR q5.2 q5.1 1 0).bind fun x7 => if x7 = l4 then ((vc q5.2 (some th) 9 (fun b9 => m_X8_reckon b9 q5.1 l2 l3 q5.2)).bind fun q8 => (vc q8.2 (some th) 9 (fun b11 => m_X8_reckon b11 q5.1 l2 l5 q8.2)).bind fun q10 => (vc q10.2 q5.1 1 (fun b13 => m_X0_addBill b13 (q8.1 - q10.1) q10.2)).bind fun h12 => X8_right_b130 th (X8_right_L60 th n) l2 l3 l4 l5 (l6 + (q8.1 - q10.1)) l7 h12) else (X8_right_b130 th (X8_right_L60 th n) l2 l3 l4 l5 l6 l7 q5.2)))
def m_X8_right (th : Nat) (a1 : Int32) (a2 : Int32) (a3 : Int32) (h : HS) : Option (Option Int32 × HS) := (vc h (some th) 9 (fun b2 => m_X8_paperAt b2 a1 h)).bind fun q1 => if q1.1 = none then (X8_right_b31 th  q1.2) else (if a2 < 0 then (X8_right_b31 th  q1.2) else ((vc q1.2 (some th) 9 (fun b4 => m_X8_runningMonth b4 q1.2)).bind fun q3 => if q3.1 ≤ a2 then (X8_right_b31 th  q3.2) else ((m_X8_isCirculation a3 q3.2).bind fun q5 => if q5.1 = 0 then (X8_right_b31 th  q5.2) else ((vc q5.2 q1.1 3 (fun b7 => m_X2_soldIn b7 a2 q5.2)).bind fun q6 => (vc q6.2 q1.1 3 (fun b9 => m_X2_putRight b9 a2 a3 q6.2)).bind fun h8 => X8_right_L60 th FU a2 a3 q1.1 q6.1 ((0 : Int32)) ((0 : Int32)) h8))))
abbrev mi_X8_income : MI := (cX8_income, 3, RX8, some .int, 6, 1, 6, "income")
abbrev mi_X8_look : MI := (cX8_look, 4, RX8, some .int, 6, 1, 6, "look")
abbrev mi_X8_right : MI := (cX8_right, 10, RX8, some .int, 6, 1, 6, "right")
theorem fl_X8_215 : LF RX8 215 2 8 := ⟨_, "PanelHouse$Feature", rfl, by decide, Or.inl rfl, Or.inr ⟨"PanelHouse", (nst_in 223 (by decide +kernel) (by decide +kernel))⟩⟩
theorem fl_X8_191 : LF RX8 191 1 2 := ⟨_, "PanelHouse$Contract", rfl, by decide, Or.inl rfl, Or.inr ⟨"PanelHouse", (nst_in 399 (by decide +kernel) (by decide +kernel))⟩⟩
theorem fl_X8_197 : LF RX8 197 1 7 := ⟨_, "PanelHouse$Contract", rfl, by decide, Or.inl rfl, Or.inr ⟨"PanelHouse", (nst_in 407 (by decide +kernel) (by decide +kernel))⟩⟩
theorem mc_X0_nextPanel : MC yX0_nextPanel mi_X0_nextPanel 0 := ⟨(tbl_in 843 (by decide +kernel) (by decide +kernel)), (tbl_in 23 (by decide +kernel) (by decide +kernel)), ⟨by decide +kernel, by decide +kernel⟩, by decide +kernel⟩
theorem im_X0_nextPanel : Cond.instanceMethod yX0_nextPanel ∈ TBL := (tbl_in 842 (by decide +kernel) (by decide +kernel))
theorem se_X0_nextPanel : Cond.selects RX0 yX0_nextPanel yX0_nextPanel ∈ TBL := sel_in (q := (yX0_nextPanel, 11)) 58 (by decide +kernel) (by decide +kernel)
theorem ml_X8_200 : ML RX8 200 yX0_nextPanel := Or.inr ⟨"PanelHouse", (nst_in 840 (by decide +kernel) (by decide +kernel))⟩
theorem mc_X0_gap : MC yX0_gap mi_X0_gap 0 := ⟨(tbl_in 847 (by decide +kernel) (by decide +kernel)), (tbl_in 23 (by decide +kernel) (by decide +kernel)), ⟨by decide +kernel, by decide +kernel⟩, by decide +kernel⟩
theorem im_X0_gap : Cond.instanceMethod yX0_gap ∈ TBL := (tbl_in 846 (by decide +kernel) (by decide +kernel))
theorem se_X0_gap : Cond.selects RX0 yX0_gap yX0_gap ∈ TBL := sel_in (q := (yX0_gap, 11)) 59 (by decide +kernel) (by decide +kernel)
theorem ml_X8_203 : ML RX8 203 yX0_gap := Or.inr ⟨"PanelHouse", (nst_in 844 (by decide +kernel) (by decide +kernel))⟩
theorem mc_X0_missing : MC yX0_missing mi_X0_missing 0 := ⟨(tbl_in 851 (by decide +kernel) (by decide +kernel)), (tbl_in 23 (by decide +kernel) (by decide +kernel)), ⟨by decide +kernel, by decide +kernel⟩, by decide +kernel⟩
theorem im_X0_missing : Cond.instanceMethod yX0_missing ∈ TBL := (tbl_in 850 (by decide +kernel) (by decide +kernel))
theorem se_X0_missing : Cond.selects RX0 yX0_missing yX0_missing ∈ TBL := sel_in (q := (yX0_missing, 11)) 60 (by decide +kernel) (by decide +kernel)
theorem ml_X8_206 : ML RX8 206 yX0_missing := Or.inr ⟨"PanelHouse", (nst_in 848 (by decide +kernel) (by decide +kernel))⟩
theorem fl_X8_209 : LF RX8 209 1 8 := ⟨_, "PanelHouse$Contract", rfl, by decide, Or.inl rfl, Or.inr ⟨"PanelHouse", (nst_in 409 (by decide +kernel) (by decide +kernel))⟩⟩
theorem mc_X2_putRight : MC yX2_putRight mi_X2_putRight 2 := ⟨(tbl_in 832 (by decide +kernel) (by decide +kernel)), (tbl_in 16 (by decide +kernel) (by decide +kernel)), ⟨by decide +kernel, by decide +kernel⟩, by decide +kernel⟩
theorem im_X2_putRight : Cond.instanceMethod yX2_putRight ∈ TBL := (tbl_in 831 (by decide +kernel) (by decide +kernel))
theorem se_X2_putRight : Cond.selects RX2 yX2_putRight yX2_putRight ∈ TBL := sel_in (q := (yX2_putRight, 4)) 57 (by decide +kernel) (by decide +kernel)
theorem ml_X8_111 : ML RX8 111 yX2_putRight := Or.inr ⟨"PanelHouse", (nst_in 829 (by decide +kernel) (by decide +kernel))⟩
theorem mc_X8_income : MC yX8_income mi_X8_income 1 := ⟨(tbl_in 858 (by decide +kernel) (by decide +kernel)), (tbl_in 1 (by decide +kernel) (by decide +kernel)), ⟨by decide +kernel, by decide +kernel⟩, by decide +kernel⟩
theorem im_X8_income : Cond.instanceMethod yX8_income ∈ TBL := (tbl_in 856 (by decide +kernel) (by decide +kernel))
theorem se_X8_income : Cond.selects RX8 yX8_income yX8_income ∈ TBL := (tbl_in 857 (by decide +kernel) (by decide +kernel))
theorem mc_X8_right : MC yX8_right mi_X8_right 3 := ⟨(tbl_in 767 (by decide +kernel) (by decide +kernel)), (tbl_in 1 (by decide +kernel) (by decide +kernel)), ⟨by decide +kernel, by decide +kernel⟩, by decide +kernel⟩
theorem im_X8_right : Cond.instanceMethod yX8_right ∈ TBL := (tbl_in 765 (by decide +kernel) (by decide +kernel))
theorem se_X8_right : Cond.selects RX8 yX8_right yX8_right ∈ TBL := (tbl_in 766 (by decide +kernel) (by decide +kernel))
theorem mc_X8_look : MC yX8_look mi_X8_look 2 := ⟨(tbl_in 839 (by decide +kernel) (by decide +kernel)), (tbl_in 1 (by decide +kernel) (by decide +kernel)), ⟨by decide +kernel, by decide +kernel⟩, by decide +kernel⟩
theorem im_X8_look : Cond.instanceMethod yX8_look ∈ TBL := (tbl_in 837 (by decide +kernel) (by decide +kernel))
theorem se_X8_look : Cond.selects RX8 yX8_look yX8_look ∈ TBL := (tbl_in 838 (by decide +kernel) (by decide +kernel))
set_option maxHeartbeats 4000000 in
set_option maxRecDepth 100000 in
theorem s_X8_income {E : EV} (hz : EZ E) (th : Nat) (a1 : Int32) (h : HS) : Sim E mi_X8_income finX 0 0 0 (largs 0 [lvR (some th), lvI a1]) [] h (m_X8_income th a1 h) := by
  unfold m_X8_income
  refine si_aload_n 0 dX8_income_0 rfl rfl ?_
  refine si_iload_n 1 dX8_income_1 rfl rfl ?_
  refine si_cvR 9 [lvI (a1)] dX8_income_2 rfl mc_X8_featureAt ml_X8_132 im_X8_featureAt rfl se_X8_featureAt (by decide) rfl ⟨Nat.le_of_ble_eq_true rfl, Nat.le_of_ble_eq_true rfl, Nat.le_of_ble_eq_true rfl, Nat.le_of_ble_eq_true rfl⟩ (Nat.le_of_ble_eq_true rfl) (fun _ _ hq => ct_X8_featureAt _ _ hq) (fun q1 => ?_)
  refine si_astore_n 2 dX8_income_5 rfl (by decide) ?_
  refine si_aload_n 2 dX8_income_6 rfl rfl ?_
  refine si_ifnonnull 18 dX8_income_7 (by decide) ?_ ?_
  · exact sx_throw hz rfl dX8_income_10 dX8_income_13 dX8_income_14 dX8_income_17 (Nat.le_of_ble_eq_true rfl) (Nat.le_of_ble_eq_true rfl) (Nat.le_of_ble_eq_true rfl) (Nat.le_of_ble_eq_true rfl)
  · refine si_aload_n 2 dX8_income_18 rfl rfl ?_
    refine si_gI 2 8 fl_X8_215 dX8_income_19 (by decide) rfl (fun x3 => ?_)
    exact sx_iret dX8_income_22 rfl (Nat.le_of_ble_eq_true rfl) (Nat.le_of_ble_eq_true rfl)
theorem ct_X8_income (l : Launch) (G : GG) (hl0 : l.stackTraces = false) {th : Nat} {a1 : Int32} {h : HS} {q : Option Int32 × HS} (hq : m_X8_income th a1 h = some q) : CtX l yX8_income mi_X8_income G [lvR (some th), lvI a1] h q := CtX.of hl0 (by decide +kernel) rfl rfl (Nat.le_of_ble_eq_true rfl) hq (fun _ _ _ _ _ _ _ _ hz => s_X8_income hz th a1 h)
set_option maxHeartbeats 4000000 in
set_option maxRecDepth 100000 in
theorem s_X8_look {E : EV} (hz : EZ E) (th : Nat) (a1 : Int32) (a2 : Int32) (h : HS) : Sim E mi_X8_look finX 0 0 0 (largs 0 [lvR (some th), lvI a1, lvI a2]) [] h (m_X8_look th a1 a2 h) := by
  unfold m_X8_look
  refine si_aload_n 0 dX8_look_0 rfl rfl ?_
  refine si_iload_n 1 dX8_look_1 rfl rfl ?_
  refine si_cvR 9 [lvI (a1)] dX8_look_2 rfl mc_X8_contractAt ml_X8_150 im_X8_contractAt rfl se_X8_contractAt (by decide) rfl ⟨Nat.le_of_ble_eq_true rfl, Nat.le_of_ble_eq_true rfl, Nat.le_of_ble_eq_true rfl, Nat.le_of_ble_eq_true rfl⟩ (Nat.le_of_ble_eq_true rfl) (fun _ _ hq => ct_X8_contractAt _ _ hq) (fun q1 => ?_)
  refine si_astore_n 3 dX8_look_5 rfl (by decide) ?_
  refine si_aload_n 3 dX8_look_6 rfl rfl ?_
  refine si_ifnonnull 18 dX8_look_7 (by decide) ?_ ?_
  · exact sx_throw hz rfl dX8_look_10 dX8_look_13 dX8_look_14 dX8_look_17 (Nat.le_of_ble_eq_true rfl) (Nat.le_of_ble_eq_true rfl) (Nat.le_of_ble_eq_true rfl) (Nat.le_of_ble_eq_true rfl)
  · refine si_iload_n 2 dX8_look_18 rfl rfl ?_
    refine si_ite (fun e0 => ?_) (fun n0 => ?_)
    · refine si_tsIn (0) 72 e0 dX8_look_19 (by decide) (by decide) rfl (by decide) ?_
      refine si_aload_n 3 dX8_look_72 rfl rfl ?_
      refine si_gR 1 0 fl_X8_120 dX8_look_73 (by decide) rfl (fun x3 => ?_)
      refine si_gI 3 0 fl_X8_92 dX8_look_76 (by decide) rfl (fun x4 => ?_)
      exact sx_iret dX8_look_79 rfl (Nat.le_of_ble_eq_true rfl) (Nat.le_of_ble_eq_true rfl)
    refine si_ite (fun e1 => ?_) (fun n1 => ?_)
    · refine si_tsIn (1) 80 e1 dX8_look_19 (by decide) (by decide) rfl (by decide) ?_
      refine si_aload_n 3 dX8_look_80 rfl rfl ?_
      refine si_gR 1 1 fl_X8_187 dX8_look_81 (by decide) rfl (fun x5 => ?_)
      refine si_gI 2 0 fl_X8_80 dX8_look_84 (by decide) rfl (fun x6 => ?_)
      exact sx_iret dX8_look_87 rfl (Nat.le_of_ble_eq_true rfl) (Nat.le_of_ble_eq_true rfl)
    refine si_ite (fun e2 => ?_) (fun n2 => ?_)
    · refine si_tsIn (2) 88 e2 dX8_look_19 (by decide) (by decide) rfl (by decide) ?_
      refine si_aload_n 3 dX8_look_88 rfl rfl ?_
      refine si_gI 1 2 fl_X8_191 dX8_look_89 (by decide) rfl (fun x7 => ?_)
      exact sx_iret dX8_look_92 rfl (Nat.le_of_ble_eq_true rfl) (Nat.le_of_ble_eq_true rfl)
    refine si_ite (fun e3 => ?_) (fun n3 => ?_)
    · refine si_tsIn (3) 93 e3 dX8_look_19 (by decide) (by decide) rfl (by decide) ?_
      refine si_aload_n 3 dX8_look_93 rfl rfl ?_
      refine si_gI 1 3 fl_X8_154 dX8_look_94 (by decide) rfl (fun x8 => ?_)
      exact sx_iret dX8_look_97 rfl (Nat.le_of_ble_eq_true rfl) (Nat.le_of_ble_eq_true rfl)
    refine si_ite (fun e4 => ?_) (fun n4 => ?_)
    · refine si_tsIn (4) 98 e4 dX8_look_19 (by decide) (by decide) rfl (by decide) ?_
      refine si_aload_n 3 dX8_look_98 rfl rfl ?_
      refine si_aload_n 0 dX8_look_99 rfl rfl ?_
      refine si_gI 9 9 fl_X8_60 dX8_look_100 (by decide) rfl (fun x9 => ?_)
      refine si_iconst (v := 1) dX8_look_103 (by decide) ?_
      refine si_iadd dX8_look_104 ?_
      refine si_cvI 1 [lvI (x9 + (1 : Int32))] dX8_look_105 rfl mc_X0_runsIn ml_X8_194 im_X0_runsIn rfl se_X0_runsIn (by decide) rfl ⟨Nat.le_of_ble_eq_true rfl, Nat.le_of_ble_eq_true rfl, Nat.le_of_ble_eq_true rfl, Nat.le_of_ble_eq_true rfl⟩ (Nat.le_of_ble_eq_true rfl) (fun _ _ hq => ct_X0_runsIn _ _ hq) (fun q10 => ?_)
      refine si_if_eq 115 dX8_look_108 (by decide) ?_ ?_
      · refine si_iconst (v := 0) dX8_look_115 (by decide) ?_
        exact sx_iret dX8_look_116 rfl (Nat.le_of_ble_eq_true rfl) (Nat.le_of_ble_eq_true rfl)
      · refine si_iconst (v := 1) dX8_look_111 (by decide) ?_
        refine si_goto 116 dX8_look_112 (by decide) ?_
        exact sx_iret dX8_look_116 rfl (Nat.le_of_ble_eq_true rfl) (Nat.le_of_ble_eq_true rfl)
    refine si_ite (fun e5 => ?_) (fun n5 => ?_)
    · refine si_tsIn (5) 117 e5 dX8_look_19 (by decide) (by decide) rfl (by decide) ?_
      refine si_aload_n 3 dX8_look_117 rfl rfl ?_
      refine si_gI 1 7 fl_X8_197 dX8_look_118 (by decide) rfl (fun x12 => ?_)
      exact sx_iret dX8_look_121 rfl (Nat.le_of_ble_eq_true rfl) (Nat.le_of_ble_eq_true rfl)
    refine si_ite (fun e6 => ?_) (fun n6 => ?_)
    · refine si_tsIn (6) 122 e6 dX8_look_19 (by decide) (by decide) rfl (by decide) ?_
      refine si_aload_n 3 dX8_look_122 rfl rfl ?_
      refine si_cvI 1 [] dX8_look_123 rfl mc_X0_nextPanel ml_X8_200 im_X0_nextPanel rfl se_X0_nextPanel (by decide) rfl ⟨Nat.le_of_ble_eq_true rfl, Nat.le_of_ble_eq_true rfl, Nat.le_of_ble_eq_true rfl, Nat.le_of_ble_eq_true rfl⟩ (Nat.le_of_ble_eq_true rfl) (fun _ _ hq => ct_X0_nextPanel _ _ hq) (fun q13 => ?_)
      exact sx_iret dX8_look_126 rfl (Nat.le_of_ble_eq_true rfl) (Nat.le_of_ble_eq_true rfl)
    refine si_ite (fun e7 => ?_) (fun n7 => ?_)
    · refine si_tsIn (7) 127 e7 dX8_look_19 (by decide) (by decide) rfl (by decide) ?_
      refine si_aload_n 3 dX8_look_127 rfl rfl ?_
      refine si_cvI 1 [] dX8_look_128 rfl mc_X0_gap ml_X8_203 im_X0_gap rfl se_X0_gap (by decide) rfl ⟨Nat.le_of_ble_eq_true rfl, Nat.le_of_ble_eq_true rfl, Nat.le_of_ble_eq_true rfl, Nat.le_of_ble_eq_true rfl⟩ (Nat.le_of_ble_eq_true rfl) (fun _ _ hq => ct_X0_gap _ _ hq) (fun q15 => ?_)
      exact sx_iret dX8_look_131 rfl (Nat.le_of_ble_eq_true rfl) (Nat.le_of_ble_eq_true rfl)
    refine si_ite (fun e8 => ?_) (fun n8 => ?_)
    · refine si_tsIn (8) 132 e8 dX8_look_19 (by decide) (by decide) rfl (by decide) ?_
      refine si_aload_n 3 dX8_look_132 rfl rfl ?_
      refine si_cvI 1 [] dX8_look_133 rfl mc_X0_missing ml_X8_206 im_X0_missing rfl se_X0_missing (by decide) rfl ⟨Nat.le_of_ble_eq_true rfl, Nat.le_of_ble_eq_true rfl, Nat.le_of_ble_eq_true rfl, Nat.le_of_ble_eq_true rfl⟩ (Nat.le_of_ble_eq_true rfl) (fun _ _ hq => ct_X0_missing _ _ hq) (fun q17 => ?_)
      exact sx_iret dX8_look_136 rfl (Nat.le_of_ble_eq_true rfl) (Nat.le_of_ble_eq_true rfl)
    refine si_ite (fun e9 => ?_) (fun n9 => ?_)
    · refine si_tsIn (9) 137 e9 dX8_look_19 (by decide) (by decide) rfl (by decide) ?_
      refine si_aload_n 3 dX8_look_137 rfl rfl ?_
      refine si_gI 1 8 fl_X8_209 dX8_look_138 (by decide) rfl (fun x19 => ?_)
      exact sx_iret dX8_look_141 rfl (Nat.le_of_ble_eq_true rfl) (Nat.le_of_ble_eq_true rfl)
    refine si_tsOut 142 dX8_look_19 (by have z0 := lv_neT n0 (a := 0) (by decide); have z1 := lv_neT n1 (a := 1) (by decide); have z2 := lv_neT n2 (a := 2) (by decide); have z3 := lv_neT n3 (a := 3) (by decide); have z4 := lv_neT n4 (a := 4) (by decide); have z5 := lv_neT n5 (a := 5) (by decide); have z6 := lv_neT n6 (a := 6) (by decide); have z7 := lv_neT n7 (a := 7) (by decide); have z8 := lv_neT n8 (a := 8) (by decide); have z9 := lv_neT n9 (a := 9) (by decide); omega) (by decide) ?_
    exact sx_throw hz rfl dX8_look_142 dX8_look_145 dX8_look_146 dX8_look_149 (Nat.le_of_ble_eq_true rfl) (Nat.le_of_ble_eq_true rfl) (Nat.le_of_ble_eq_true rfl) (Nat.le_of_ble_eq_true rfl)
theorem ct_X8_look (l : Launch) (G : GG) (hl0 : l.stackTraces = false) {th : Nat} {a1 : Int32} {a2 : Int32} {h : HS} {q : Option Int32 × HS} (hq : m_X8_look th a1 a2 h = some q) : CtX l yX8_look mi_X8_look G [lvR (some th), lvI a1, lvI a2] h q := CtX.of hl0 (by decide +kernel) rfl rfl (Nat.le_of_ble_eq_true rfl) hq (fun _ _ _ _ _ _ _ _ hz => s_X8_look hz th a1 a2 h)
set_option maxHeartbeats 4000000 in
set_option maxRecDepth 100000 in
theorem X8_right_b31_s {E : EV} (hz : EZ E) (th : Nat)  (h : HS) : Sim E mi_X8_right finX 0 0 31 [] [] h (X8_right_b31 th  h) := by
  unfold X8_right_b31
  exact sx_throw hz rfl dX8_right_31 dX8_right_34 dX8_right_35 dX8_right_38 (Nat.le_of_ble_eq_true rfl) (Nat.le_of_ble_eq_true rfl) (Nat.le_of_ble_eq_true rfl) (Nat.le_of_ble_eq_true rfl)
set_option maxHeartbeats 4000000 in
set_option maxRecDepth 100000 in
theorem X8_right_b130_s {E : EV} (hz : EZ E) (th : Nat) (go60 : Int32 → Int32 → Option Nat → Int32 → Int32 → Int32 → HS → Option (Option Int32 × HS)) (hg60 : ∀ (l2 : Int32) (l3 : Int32) (l4 : Option Nat) (l5 : Int32) (l6 : Int32) (l7 : Int32) (h : HS), Sim E mi_X8_right finX 0 0 60 [(0, lvR (some th)), (2, lvI (l2)), (3, lvI (l3)), (4, lvR (l4)), (5, lvI (l5)), (6, lvI (l6)), (7, lvI (l7))] [] h (go60 l2 l3 l4 l5 l6 l7 h)) (l2 : Int32) (l3 : Int32) (l4 : Option Nat) (l5 : Int32) (l6 : Int32) (l7 : Int32) (h : HS) : Sim E mi_X8_right finX 0 0 130 [(0, lvR (some th)), (2, lvI (l2)), (3, lvI (l3)), (4, lvR (l4)), (5, lvI (l5)), (6, lvI (l6)), (7, lvI (l7))] [] h (X8_right_b130 th go60 l2 l3 l4 l5 l6 l7 h) := by
  unfold X8_right_b130
  refine si_iinc 7 (1) dX8_right_130 rfl (by decide) (by decide) ?_
  refine si_goto 60 dX8_right_133 (by decide) ?_
  refine si_widen 0 0 (Nat.le_of_ble_eq_true rfl) (Nat.le_of_ble_eq_true rfl) ?_
  refine si_lo [(0, lvR (some th)), (2, lvI (l2)), (3, lvI (l3)), (4, lvR (l4)), (5, lvI (l5)), (6, lvI (l6)), (7, lvI (l7 + (1)))] ⟨rfl, rfl, rfl, rfl, rfl, rfl, rfl, trivial⟩ ?_
  exact hg60 l2 l3 l4 l5 l6 (l7 + (1)) _
set_option maxHeartbeats 4000000 in
set_option maxRecDepth 100000 in
theorem X8_right_L60_s {E : EV} (hz : EZ E) (th : Nat) (n : Nat) : ∀ (l2 : Int32) (l3 : Int32) (l4 : Option Nat) (l5 : Int32) (l6 : Int32) (l7 : Int32) (h : HS), Sim E mi_X8_right finX 0 0 60 [(0, lvR (some th)), (2, lvI (l2)), (3, lvI (l3)), (4, lvR (l4)), (5, lvI (l5)), (6, lvI (l6)), (7, lvI (l7))] [] h (X8_right_L60 th n l2 l3 l4 l5 l6 l7 h) := by
  induction n with
  | zero => intro l2 l3 l4 l5 l6 l7 h; exact si_none
  | succ n ih =>
    intro l2 l3 l4 l5 l6 l7 h
    unfold X8_right_L60
    refine si_iload 7 dX8_right_60 rfl ?_
    refine si_aload_n 0 dX8_right_62 rfl rfl ?_
    refine si_gR 9 2 fl_X8_19 dX8_right_63 (by decide) rfl (fun x1 => ?_)
    refine si_cvI 0 [] dX8_right_66 rfl mc_Jx4a65c_size_8abf5 ml_X8_67 im_Jx4a65c_size_8abf5 rfl se_Jx4a65c_size_8abf5 (by decide) rfl ⟨Nat.le_of_ble_eq_true rfl, Nat.le_of_ble_eq_true rfl, Nat.le_of_ble_eq_true rfl, Nat.le_of_ble_eq_true rfl⟩ (Nat.le_of_ble_eq_true rfl) (fun _ _ hq => ct_Jx4a65c_size_8abf5 _ _ hq) (fun q2 => ?_)
    refine si_icmp_ge 136 dX8_right_69 (by decide) ?_ ?_
    · refine si_iload 6 dX8_right_136 rfl ?_
      exact sx_iret dX8_right_138 rfl (Nat.le_of_ble_eq_true rfl) (Nat.le_of_ble_eq_true rfl)
    · refine si_aload_n 0 dX8_right_72 rfl rfl ?_
      refine si_gR 9 2 fl_X8_19 dX8_right_73 (by decide) rfl (fun x4 => ?_)
      refine si_iload 7 dX8_right_76 rfl ?_
      refine si_cvR 0 [lvI (l7)] dX8_right_78 rfl mc_Jx4a65c_get_915e3 ml_X8_114 im_Jx4a65c_get_915e3 rfl se_Jx4a65c_get_915e3 (by decide) rfl ⟨Nat.le_of_ble_eq_true rfl, Nat.le_of_ble_eq_true rfl, Nat.le_of_ble_eq_true rfl, Nat.le_of_ble_eq_true rfl⟩ (Nat.le_of_ble_eq_true rfl) (fun _ _ hq => ct_Jx4a65c_get_915e3 _ _ hq) (fun q5 => ?_)
      refine si_cast 1 rfl cl_X8_118 dX8_right_81 (by decide) ?_
      refine si_astore 8 dX8_right_84 (by decide) ?_
      refine si_aload 8 dX8_right_86 rfl ?_
      refine si_gR 1 0 fl_X8_120 dX8_right_88 (by decide) rfl (fun x7 => ?_)
      refine si_aload 4 dX8_right_91 rfl ?_
      refine si_acmp_ne 130 dX8_right_93 (by decide) ?_ ?_
      · refine si_aload_n 0 dX8_right_96 rfl rfl ?_
        refine si_aload 8 dX8_right_97 rfl ?_
        refine si_iload_n 2 dX8_right_99 rfl rfl ?_
        refine si_iload_n 3 dX8_right_100 rfl rfl ?_
        refine si_cvI 9 [lvR (q5.1), lvI (l2), lvI (l3)] dX8_right_101 rfl mc_X8_reckon ml_X8_124 im_X8_reckon rfl se_X8_reckon (by decide) rfl ⟨Nat.le_of_ble_eq_true rfl, Nat.le_of_ble_eq_true rfl, Nat.le_of_ble_eq_true rfl, Nat.le_of_ble_eq_true rfl⟩ (Nat.le_of_ble_eq_true rfl) (fun _ _ hq => ct_X8_reckon _ _ hq) (fun q8 => ?_)
        refine si_aload_n 0 dX8_right_104 rfl rfl ?_
        refine si_aload 8 dX8_right_105 rfl ?_
        refine si_iload_n 2 dX8_right_107 rfl rfl ?_
        refine si_iload 5 dX8_right_108 rfl ?_
        refine si_cvI 9 [lvR (q5.1), lvI (l2), lvI (l5)] dX8_right_110 rfl mc_X8_reckon ml_X8_124 im_X8_reckon rfl se_X8_reckon (by decide) rfl ⟨Nat.le_of_ble_eq_true rfl, Nat.le_of_ble_eq_true rfl, Nat.le_of_ble_eq_true rfl, Nat.le_of_ble_eq_true rfl⟩ (Nat.le_of_ble_eq_true rfl) (fun _ _ hq => ct_X8_reckon _ _ hq) (fun q10 => ?_)
        refine si_isub dX8_right_113 ?_
        refine si_istore 9 dX8_right_114 (by decide) ?_
        refine si_aload 8 dX8_right_116 rfl ?_
        refine si_iload 9 dX8_right_118 rfl ?_
        refine si_cvV 1 [lvI (q8.1 - q10.1)] dX8_right_120 rfl mc_X0_addBill ml_X8_128 im_X0_addBill rfl se_X0_addBill (by decide) rfl ⟨Nat.le_of_ble_eq_true rfl, Nat.le_of_ble_eq_true rfl, Nat.le_of_ble_eq_true rfl, Nat.le_of_ble_eq_true rfl⟩ (Nat.le_of_ble_eq_true rfl) (fun _ _ hq => ct_X0_addBill _ _ hq) (fun h12 => ?_)
        refine si_iload 6 dX8_right_123 rfl ?_
        refine si_iload 9 dX8_right_125 rfl ?_
        refine si_iadd dX8_right_127 ?_
        refine si_istore 6 dX8_right_128 (by decide) ?_
        refine si_widen 0 0 (Nat.le_of_ble_eq_true rfl) (Nat.le_of_ble_eq_true rfl) ?_
        refine si_lo [(0, lvR (some th)), (2, lvI (l2)), (3, lvI (l3)), (4, lvR (l4)), (5, lvI (l5)), (6, lvI (l6 + (q8.1 - q10.1))), (7, lvI (l7))] ⟨rfl, rfl, rfl, rfl, rfl, rfl, rfl, trivial⟩ ?_
        exact X8_right_b130_s hz th (X8_right_L60 th n) ih l2 l3 l4 l5 (l6 + (q8.1 - q10.1)) l7 _
      · refine si_widen 0 0 (Nat.le_of_ble_eq_true rfl) (Nat.le_of_ble_eq_true rfl) ?_
        refine si_lo [(0, lvR (some th)), (2, lvI (l2)), (3, lvI (l3)), (4, lvR (l4)), (5, lvI (l5)), (6, lvI (l6)), (7, lvI (l7))] ⟨rfl, rfl, rfl, rfl, rfl, rfl, rfl, trivial⟩ ?_
        exact X8_right_b130_s hz th (X8_right_L60 th n) ih l2 l3 l4 l5 l6 l7 _
set_option maxHeartbeats 4000000 in
set_option maxRecDepth 100000 in
theorem s_X8_right {E : EV} (hz : EZ E) (th : Nat) (a1 : Int32) (a2 : Int32) (a3 : Int32) (h : HS) : Sim E mi_X8_right finX 0 0 0 (largs 0 [lvR (some th), lvI a1, lvI a2, lvI a3]) [] h (m_X8_right th a1 a2 a3 h) := by
  unfold m_X8_right
  refine si_aload_n 0 dX8_right_0 rfl rfl ?_
  refine si_iload_n 1 dX8_right_1 rfl rfl ?_
  refine si_cvR 9 [lvI (a1)] dX8_right_2 rfl mc_X8_paperAt ml_X8_93 im_X8_paperAt rfl se_X8_paperAt (by decide) rfl ⟨Nat.le_of_ble_eq_true rfl, Nat.le_of_ble_eq_true rfl, Nat.le_of_ble_eq_true rfl, Nat.le_of_ble_eq_true rfl⟩ (Nat.le_of_ble_eq_true rfl) (fun _ _ hq => ct_X8_paperAt _ _ hq) (fun q1 => ?_)
  refine si_astore 4 dX8_right_5 (by decide) ?_
  refine si_aload 4 dX8_right_7 rfl ?_
  refine si_ifnull 31 dX8_right_9 (by decide) ?_ ?_
  · refine si_widen 0 0 (Nat.le_of_ble_eq_true rfl) (Nat.le_of_ble_eq_true rfl) ?_
    refine si_lo [] trivial ?_
    exact X8_right_b31_s hz th  _
  · refine si_iload_n 2 dX8_right_12 rfl rfl ?_
    refine si_if_lt 31 dX8_right_13 (by decide) ?_ ?_
    · refine si_widen 0 0 (Nat.le_of_ble_eq_true rfl) (Nat.le_of_ble_eq_true rfl) ?_
      refine si_lo [] trivial ?_
      exact X8_right_b31_s hz th  _
    · refine si_iload_n 2 dX8_right_16 rfl rfl ?_
      refine si_aload_n 0 dX8_right_17 rfl rfl ?_
      refine si_cvI 9 [] dX8_right_18 rfl mc_X8_runningMonth ml_X8_97 im_X8_runningMonth rfl se_X8_runningMonth (by decide) rfl ⟨Nat.le_of_ble_eq_true rfl, Nat.le_of_ble_eq_true rfl, Nat.le_of_ble_eq_true rfl, Nat.le_of_ble_eq_true rfl⟩ (Nat.le_of_ble_eq_true rfl) (fun _ _ hq => ct_X8_runningMonth _ _ hq) (fun q3 => ?_)
      refine si_icmp_ge 31 dX8_right_21 (by decide) ?_ ?_
      · refine si_widen 0 0 (Nat.le_of_ble_eq_true rfl) (Nat.le_of_ble_eq_true rfl) ?_
        refine si_lo [] trivial ?_
        exact X8_right_b31_s hz th  _
      · refine si_iload_n 3 dX8_right_24 rfl rfl ?_
        refine si_csI [lvI (a3)] dX8_right_25 rfl mc_X8_isCirculation ml_X8_83 st_X8_isCirculation rfl ⟨Nat.le_of_ble_eq_true rfl, Nat.le_of_ble_eq_true rfl, Nat.le_of_ble_eq_true rfl, Nat.le_of_ble_eq_true rfl⟩ (Nat.le_of_ble_eq_true rfl) (fun _ hq => ct_X8_isCirculation _ _ hq) (fun q5 => ?_)
        refine si_if_ne 39 dX8_right_28 (by decide) ?_ ?_
        · refine si_widen 0 0 (Nat.le_of_ble_eq_true rfl) (Nat.le_of_ble_eq_true rfl) ?_
          refine si_lo [] trivial ?_
          exact X8_right_b31_s hz th  _
        · refine si_aload 4 dX8_right_39 rfl ?_
          refine si_iload_n 2 dX8_right_41 rfl rfl ?_
          refine si_cvI 3 [lvI (a2)] dX8_right_42 rfl mc_X2_soldIn ml_X8_107 im_X2_soldIn rfl se_X2_soldIn (by decide) rfl ⟨Nat.le_of_ble_eq_true rfl, Nat.le_of_ble_eq_true rfl, Nat.le_of_ble_eq_true rfl, Nat.le_of_ble_eq_true rfl⟩ (Nat.le_of_ble_eq_true rfl) (fun _ _ hq => ct_X2_soldIn _ _ hq) (fun q6 => ?_)
          refine si_istore 5 dX8_right_45 (by decide) ?_
          refine si_aload 4 dX8_right_47 rfl ?_
          refine si_iload_n 2 dX8_right_49 rfl rfl ?_
          refine si_iload_n 3 dX8_right_50 rfl rfl ?_
          refine si_cvV 3 [lvI (a2), lvI (a3)] dX8_right_51 rfl mc_X2_putRight ml_X8_111 im_X2_putRight rfl se_X2_putRight (by decide) rfl ⟨Nat.le_of_ble_eq_true rfl, Nat.le_of_ble_eq_true rfl, Nat.le_of_ble_eq_true rfl, Nat.le_of_ble_eq_true rfl⟩ (Nat.le_of_ble_eq_true rfl) (fun _ _ hq => ct_X2_putRight _ _ hq) (fun h8 => ?_)
          refine si_iconst (v := 0) dX8_right_54 (by decide) ?_
          refine si_istore 6 dX8_right_55 (by decide) ?_
          refine si_iconst (v := 0) dX8_right_57 (by decide) ?_
          refine si_istore 7 dX8_right_58 (by decide) ?_
          refine si_widen 0 0 (Nat.le_of_ble_eq_true rfl) (Nat.le_of_ble_eq_true rfl) ?_
          refine si_lo [(0, lvR (some th)), (2, lvI (a2)), (3, lvI (a3)), (4, lvR (q1.1)), (5, lvI (q6.1)), (6, lvI ((0 : Int32))), (7, lvI ((0 : Int32)))] ⟨rfl, rfl, rfl, rfl, rfl, rfl, rfl, trivial⟩ ?_
          exact X8_right_L60_s hz th FU a2 a3 q1.1 q6.1 ((0 : Int32)) ((0 : Int32)) _
theorem ct_X8_right (l : Launch) (G : GG) (hl0 : l.stackTraces = false) {th : Nat} {a1 : Int32} {a2 : Int32} {a3 : Int32} {h : HS} {q : Option Int32 × HS} (hq : m_X8_right th a1 a2 a3 h = some q) : CtX l yX8_right mi_X8_right G [lvR (some th), lvI a1, lvI a2, lvI a3] h q := CtX.of hl0 (by decide +kernel) rfl rfl (Nat.le_of_ble_eq_true rfl) hq (fun _ _ _ _ _ _ _ _ hz => s_X8_right hz th a1 a2 a3 h)
